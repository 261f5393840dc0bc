def cnt (p : Nat → Bool) : Nat → Nat
  | 0 => 0
  | n + 1 => cnt p n + (if p n = true then 1 else 0)
def sumN (f : Nat → Nat) : Nat → Nat
  | 0 => 0
  | n + 1 => sumN f n + f n
theorem cnt_t {p : Nat → Bool} {n : Nat} (h : p n = true) : cnt p (n + 1) = cnt p n + 1 := by
  show cnt p n + (if p n = true then 1 else 0) = _
  rw [if_pos h]
theorem cnt_f {p : Nat → Bool} {n : Nat} (h : ¬ p n = true) : cnt p (n + 1) = cnt p n := by
  show cnt p n + (if p n = true then 1 else 0) = _
  rw [if_neg h]
  rfl
theorem cnt_le (p : Nat → Bool) (n : Nat) : cnt p n ≤ n := by
  induction n with
  | zero => exact Nat.le_refl _
  | succ n ih =>
    unfold cnt
    split <;> omega
/-- what the latest below n has, or none -/
def lastP (p : Nat → Bool) (f : Nat → Nat) : Nat → Int32
  | 0 => -9
  | n + 1 => if p n = true then nI (f n) else lastP p f n
theorem lastK_cases (p : Nat → Bool) (f : Nat → Nat) (n : Nat) : (lastK p n = -9 ∧ lastP p f n = -9 ∧ ∀ k, k < n → p k = false) ∨ ∃ k, k < n ∧ lastK p n = nI k ∧ lastP p f n = nI (f k) ∧ p k = true ∧ ∀ j, k < j → j < n → p j = false := by
  induction n with
  | zero => exact Or.inl ⟨rfl, rfl, fun k h => by omega⟩
  | succ n ih =>
    unfold lastK lastP
    cases hp : p n with
    | true => exact Or.inr ⟨n, by omega, by simp, by simp, hp, fun j h1 h2 => by omega⟩
    | false =>
      simp only [Bool.false_eq_true, if_false]
      rcases ih with ⟨h1, h2, h3⟩ | ⟨k, h1, h2, h3, h4, h5⟩
      · refine Or.inl ⟨h1, h2, fun k hk => ?_⟩
        rcases Nat.lt_or_ge k n with c | c
        · exact h3 k c
        · rw [show k = n by omega]; exact hp
      · refine Or.inr ⟨k, by omega, h2, h3, h4, fun j c1 c2 => ?_⟩
        rcases Nat.lt_or_ge j n with c | c
        · exact h5 j c1 c
        · rw [show j = n by omega]; exact hp
/-- the pen that shows -/
def penK (T C φ : Nat → Nat) (line pt : Nat) : Int32 := lastP (tipL T C φ line pt) (fun k => cF φ k 4) (φ 1)
theorem mB_ua {s : Nat → Int32} {a : Nat → Nat → Int32} {R W P : Nat} {T C : Nat → Nat} {k : Nat} {f : Nat → Int32} (h : mB s a R W P T C) (hk : 3 ≤ k) : mB s (ua a k f) R W P T C := by
  unfold mB
  rw [ua_n (by omega), ua_n (by omega)]
  exact h
theorem mN_ua {s : Nat → Int32} {a : Nat → Nat → Int32} {P : Nat} {φ : Nat → Nat} {k : Nat} {f : Nat → Int32} (h : mN s a P φ) (hk : 5 ≤ k) : mN s (ua a k f) P φ := by
  unfold mN
  rw [ua_n (by omega), ua_n (by omega)]
  exact h
section MC
variable {g : Hp} {m : Nat} {s : Nat → Int32} {t : Int64} {a : Nat → Nat → Int32} {N R W P : Nat} {T C φ : Nat → Nat}
theorem m_penAt (hN : 2000 ≤ N) (B : okB R W P T C) (H : mB s a R W P T C) (O : okN R W P T C φ) (J : mN s a P φ) {pt line : Nat} (hp : pt < 360) (hl : line < 10) : fX6_penAt N (mH g m s t a) (some m) (nI pt) (nI line) = some (penK T C φ line pt) := by
  have e := m_shownAt (g := g) (m := m) (t := t) hN B H O J hp hl
  have hφ := O.2.1
  simp only [fX6_penAt, mh_O, mh_gJ, mh_pJ, mh_gI0, mh_gI1, mh_gI2, mh_gI5, mh_gI6, mh_gI9, mh_gI14, mh_gI15, mh_gI16, mh_gI17, mh_gI18, mh_gI19, mh_gI24, mh_pI0, mh_pI1, mh_pI2, mh_pI5, mh_pI6, mh_pI9, mh_pI14, mh_pI15, mh_pI16, mh_pI17, mh_pI18, mh_pI19, mh_pI24, mh_gA3, mh_gA4, mh_gA7, mh_gA8, mh_gA10, mh_gA11, mh_gA13, mh_gA20, mh_gA21, mh_gA22, mh_gA23, mh_gA25, mh_gA26, mh_gA27, mh_gA28, mh_gA29, Option.bind_some, Option.bind_none, ↓reduceIte, if_true, if_false, e]
  rcases lastK_cases (tipL T C φ line pt) (fun k => cF φ k 4) (φ 1) with ⟨h1, h2, -⟩ | ⟨k, h1, h2, h3, -, -⟩
  · rw [h1, if_pos rfl, penK, h2]
  · have e4 : a 4 (6 * k + 4) = nI (cF φ k 4) := J.2.2.2 _ (by omega)
    rw [h2, if_neg (nI_neg9 (by omega)), penK, h3]
    simp (disch := omega) only [i_6, i_4, pk_mul, nI_add, mh_rd4, e4, Option.bind_some, Option.bind_none, ↓reduceIte, if_true, if_false]
theorem m_penL (hN : 2000 ≤ N) (B : okB R W P T C) (H : mB s a R W P T C) (O : okN R W P T C φ) (J : mN s a P φ) {p pt A : Nat} (hp : pt < 360) {α : Type} {K : Option Nat → Int32 → Int32 → Int32 → Option α} : ∀ (n d j : Nat), j + d = 9 → d < n → fX6_penShown_L14 N (mH g m s t a) K n (some m) (nI p) (nI (A + cnt (fun i => penK T C φ (i + 1) pt == nI p) j)) (nI pt) (nI (j + 1)) = K (some m) (nI p) (nI (A + cnt (fun i => penK T C φ (i + 1) pt == nI p) 9)) (nI pt) := by
  intro n
  induction n with
  | zero => intro d j _ h; omega
  | succ n ih =>
    intro d j hj hd
    rw [fX6_penShown_L14]
    cases d with
    | zero =>
      have : j = 9 := by omega
      subst this
      rw [i_9, if_pos (nI_lt (by omega) (by omega))]
    | succ d =>
      have e := m_penAt (g := g) (m := m) (t := t) hN B H O J (line := j + 1) hp (by omega)
      rw [i_9, if_neg (nI_nlt (by omega) (by omega))]
      simp only [mh_O, mh_gJ, mh_pJ, mh_gI0, mh_gI1, mh_gI2, mh_gI5, mh_gI6, mh_gI9, mh_gI14, mh_gI15, mh_gI16, mh_gI17, mh_gI18, mh_gI19, mh_gI24, mh_pI0, mh_pI1, mh_pI2, mh_pI5, mh_pI6, mh_pI9, mh_pI14, mh_pI15, mh_pI16, mh_pI17, mh_pI18, mh_pI19, mh_pI24, mh_gA3, mh_gA4, mh_gA7, mh_gA8, mh_gA10, mh_gA11, mh_gA13, mh_gA20, mh_gA21, mh_gA22, mh_gA23, mh_gA25, mh_gA26, mh_gA27, mh_gA28, mh_gA29, Option.bind_some, Option.bind_none, ↓reduceIte, if_true, if_false, e, i_0, i_1, nI_add, Nat.add_zero]
      have ih' := ih d (j + 1) (by omega) (by omega)
      by_cases c : penK T C φ (j + 1) pt = nI p
      · rw [cnt_t (n := j) (by simpa using c)] at ih'
        rw [if_pos c]
        exact ih'
      · rw [cnt_f (n := j) (by simpa using c)] at ih'
        rw [if_neg c]
        exact ih'
theorem m_penLL (hN : 2000 ≤ N) (B : okB R W P T C) (H : mB s a R W P T C) (O : okN R W P T C φ) (J : mN s a P φ) {p : Nat} {α : Type} {K : Int32 → Option α} : ∀ (n d j : Nat), j + d = 360 → d < n → fX6_penShown_L4 N (mH g m s t a) K n (some m) (nI p) (nI (sumN (fun pt => cnt (fun i => penK T C φ (i + 1) pt == nI p) 9) j)) (nI j) = K (nI (sumN (fun pt => cnt (fun i => penK T C φ (i + 1) pt == nI p) 9) 360)) := by
  intro n
  induction n with
  | zero => intro d j _ h; omega
  | succ n ih =>
    intro d j hj hd
    rw [fX6_penShown_L4]
    cases d with
    | zero =>
      have : j = 360 := by omega
      subst this
      rw [i_360, if_pos (nI_le (by omega) (by omega))]
    | succ d =>
      rw [i_360, if_neg (nI_ge (by omega) (by omega))]
      have e := m_penL (g := g) (m := m) (t := t) (p := p) (pt := j) (A := sumN (fun pt => cnt (fun i => penK T C φ (i + 1) pt == nI p) 9) j) hN B H O J (by omega) (K := fun l0 l1 l2 l3 => fX6_penShown_L4 N (mH g m s t a) K n l0 l1 l2 (l3 + 1)) N 9 0 (by omega) (by omega)
      refine e.trans ?_
      simp only [i_1, nI_add]
      exact ih d (j + 1) (by omega) (by omega)
theorem m_penShown (hN : 2000 ≤ N) (B : okB R W P T C) (H : mB s a R W P T C) (O : okN R W P T C φ) (J : mN s a P φ) {p : Nat} : fX6_penShown N (mH g m s t a) (some m) (nI p) = some (nI (sumN (fun pt => cnt (fun i => penK T C φ (i + 1) pt == nI p) 9) 360)) := by
  simp only [fX6_penShown]
  exact m_penLL (g := g) (m := m) (t := t) (p := p) hN B H O J (K := fun l2 => some l2) N 360 0 (by omega) (by omega)
theorem m_curveL (hN : 2000 ≤ N) (B : okB R W P T C) (H : mB s a R W P T C) (O : okN R W P T C φ) (J : mN s a P φ) {k : Nat} (hk : k < φ 1) {α : Type} {K : Int32 → Option α} : ∀ (n d j : Nat), j + d = 360 → d < n → fX6_curveShown_L4 N (mH g m s t a) K n (some m) (nI k) (nI (cnt (fun pt => lastK (tipL T C φ (cF φ k 2) pt) (φ 1) == nI k) j)) (nI j) = K (nI (cnt (fun pt => lastK (tipL T C φ (cF φ k 2) pt) (φ 1) == nI k) 360)) := by
  have hφ := O.2.1
  have hc := O.2.2.2 k hk
  have e2 : a 4 (6 * k + 2) = nI (cF φ k 2) := J.2.2.2 _ (by omega)
  intro n
  induction n with
  | zero => intro d j _ h; omega
  | succ n ih =>
    intro d j hj hd
    rw [fX6_curveShown_L4]
    cases d with
    | zero =>
      have : j = 360 := by omega
      subst this
      rw [i_360, if_pos (nI_le (by omega) (by omega))]
    | succ d =>
      have h9 : cF φ k 2 ≤ 9 := hc.2.2.2.2.1
      have e := m_shownAt (g := g) (m := m) (t := t) hN B H O J (pt := j) (line := cF φ k 2) (by omega) (by omega)
      rw [i_360, if_neg (nI_ge (by omega) (by omega))]
      simp (disch := omega) only [mh_O, mh_gJ, mh_pJ, mh_gI0, mh_gI1, mh_gI2, mh_gI5, mh_gI6, mh_gI9, mh_gI14, mh_gI15, mh_gI16, mh_gI17, mh_gI18, mh_gI19, mh_gI24, mh_pI0, mh_pI1, mh_pI2, mh_pI5, mh_pI6, mh_pI9, mh_pI14, mh_pI15, mh_pI16, mh_pI17, mh_pI18, mh_pI19, mh_pI24, mh_gA3, mh_gA4, mh_gA7, mh_gA8, mh_gA10, mh_gA11, mh_gA13, mh_gA20, mh_gA21, mh_gA22, mh_gA23, mh_gA25, mh_gA26, mh_gA27, mh_gA28, mh_gA29, Option.bind_some, Option.bind_none, ↓reduceIte, if_true, if_false, i_0, i_1, i_6, i_2, pk_mul, nI_add, Nat.add_zero, mh_rd4, e2, e]
      have ih' := ih d (j + 1) (by omega) (by omega)
      by_cases c : lastK (tipL T C φ (cF φ k 2) j) (φ 1) = nI k
      · rw [cnt_t (n := j) (by simpa using c)] at ih'
        rw [if_pos c]
        exact ih'
      · rw [cnt_f (n := j) (by simpa using c)] at ih'
        rw [if_neg c]
        exact ih'
theorem m_curveShown (hN : 2000 ≤ N) (B : okB R W P T C) (H : mB s a R W P T C) (O : okN R W P T C φ) (J : mN s a P φ) {k : Nat} (hk : k < φ 1) : fX6_curveShown N (mH g m s t a) (some m) (nI k) = some (nI (cnt (fun pt => lastK (tipL T C φ (cF φ k 2) pt) (φ 1) == nI k) 360)) := by
  simp only [fX6_curveShown]
  exact m_curveL (g := g) (m := m) (t := t) hN B H O J hk (K := fun l2 => some l2) N 360 0 (by omega) (by omega)
theorem m_shML (hN : 2000 ≤ N) (B : okB R W P T C) (H : mB s a R W P T C) (O : okN R W P T C φ) (J : mN s a P φ) {pt A : Nat} (hp : pt < 360) {α : Type} {K : Option Nat → Int32 → Int32 → Option α} : ∀ (n d j : Nat), j + d = 9 → d < n → fX6_shownMany_L13 N (mH g m s t a) K n (some m) (nI (A + cnt (fun i => !(lastK (tipL T C φ (i + 1) pt) (φ 1) == -9)) j)) (nI pt) (nI (j + 1)) = K (some m) (nI (A + cnt (fun i => !(lastK (tipL T C φ (i + 1) pt) (φ 1) == -9)) 9)) (nI pt) := by
  intro n
  induction n with
  | zero => intro d j _ h; omega
  | succ n ih =>
    intro d j hj hd
    rw [fX6_shownMany_L13]
    cases d with
    | zero =>
      have : j = 9 := by omega
      subst this
      rw [i_9, if_pos (nI_lt (by omega) (by omega))]
    | succ d =>
      have e := m_shownAt (g := g) (m := m) (t := t) hN B H O J (line := j + 1) hp (by omega)
      rw [if_neg (show ¬ (9 : Int32) < nI (j + 1) from nI_nlt (a := 9) (b := j + 1) (by omega) (by omega))]
      simp only [mh_O, mh_gJ, mh_pJ, mh_gI0, mh_gI1, mh_gI2, mh_gI5, mh_gI6, mh_gI9, mh_gI14, mh_gI15, mh_gI16, mh_gI17, mh_gI18, mh_gI19, mh_gI24, mh_pI0, mh_pI1, mh_pI2, mh_pI5, mh_pI6, mh_pI9, mh_pI14, mh_pI15, mh_pI16, mh_pI17, mh_pI18, mh_pI19, mh_pI24, mh_gA3, mh_gA4, mh_gA7, mh_gA8, mh_gA10, mh_gA11, mh_gA13, mh_gA20, mh_gA21, mh_gA22, mh_gA23, mh_gA25, mh_gA26, mh_gA27, mh_gA28, mh_gA29, Option.bind_some, Option.bind_none, ↓reduceIte, if_true, if_false, e]
      have ih' := ih d (j + 1) (by omega) (by omega)
      by_cases c : lastK (tipL T C φ (j + 1) pt) (φ 1) = -9
      · rw [cnt_f (n := j) (by simpa using c)] at ih'
        rw [if_pos c]
        simp only [show (0 : Int32) = nI 0 from rfl, show (1 : Int32) = nI 1 from rfl, nI_add, Nat.add_zero]
        exact ih'
      · rw [cnt_t (n := j) (by simpa using c)] at ih'
        rw [if_neg c]
        simp only [show (1 : Int32) = nI 1 from rfl, nI_add]
        exact ih'
theorem m_shMLL (hN : 2000 ≤ N) (B : okB R W P T C) (H : mB s a R W P T C) (O : okN R W P T C φ) (J : mN s a P φ) {α : Type} {K : Int32 → Option α} : ∀ (n d j : Nat), j + d = 360 → d < n → fX6_shownMany_L4 N (mH g m s t a) K n (some m) (nI (sumN (fun pt => cnt (fun i => !(lastK (tipL T C φ (i + 1) pt) (φ 1) == -9)) 9) j)) (nI j) = K (nI (sumN (fun pt => cnt (fun i => !(lastK (tipL T C φ (i + 1) pt) (φ 1) == -9)) 9) 360)) := by
  intro n
  induction n with
  | zero => intro d j _ h; omega
  | succ n ih =>
    intro d j hj hd
    rw [fX6_shownMany_L4]
    cases d with
    | zero =>
      have : j = 360 := by omega
      subst this
      rw [i_360, if_pos (nI_le (by omega) (by omega))]
    | succ d =>
      rw [i_360, if_neg (nI_ge (by omega) (by omega))]
      have e := m_shML (g := g) (m := m) (t := t) (pt := j) (A := sumN (fun pt => cnt (fun i => !(lastK (tipL T C φ (i + 1) pt) (φ 1) == -9)) 9) j) hN B H O J (by omega) (K := fun l0 l1 l2 => fX6_shownMany_L4 N (mH g m s t a) K n l0 l1 (l2 + 1)) N 9 0 (by omega) (by omega)
      refine e.trans ?_
      simp only [show (1 : Int32) = nI 1 from rfl, nI_add]
      exact ih d (j + 1) (by omega) (by omega)
theorem m_shownMany (hN : 2000 ≤ N) (B : okB R W P T C) (H : mB s a R W P T C) (O : okN R W P T C φ) (J : mN s a P φ) : fX6_shownMany N (mH g m s t a) (some m) = some (nI (sumN (fun pt => cnt (fun i => !(lastK (tipL T C φ (i + 1) pt) (φ 1) == -9)) 9) 360)) := by
  simp only [fX6_shownMany]
  exact m_shMLL (g := g) (m := m) (t := t) hN B H O J (K := fun l2 => some l2) N 360 0 (by omega) (by omega)
end MC
