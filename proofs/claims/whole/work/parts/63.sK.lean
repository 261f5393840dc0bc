section SK
variable {x : Nat} {N : Nat}
/-- the curves but one, into a new row -/
theorem x_rubL {E : (Nat → Option Nat) → Hp} {sz sz1 p ca k n m : Nat} {fc : Nat → Option Nat} (hn : n ≤ 12) (hm : m = n + 1) (hk : k < m) (h1 : ∀ u, E u sz = some (oA 2 n u)) (h2 : ∀ u u', up (E u) sz (oA 2 n u') = E u') (h3 : ∀ u, gA (E u) (some p) 2 2 = some (some ca)) (h4 : ∀ u, E u ca = some (oA 2 m fc)) (h5 : ∀ u j, j < m → isO (E u) (fc j) 1 = true) {α : Type} {K : Hp → Nat → Option Nat → Option Nat → Option α} : ∀ (fu d j : Nat) (u : Nat → Option Nat), j + d = n → d < fu → (∀ i, i < j → u i = fc (if k ≤ i then i + 1 else i)) → ∃ u', fX2_rubbed_L17 N K fu (E u) sz1 (some p) (nI k) (some sz) (nI j) = K (E u') sz1 (some p) (some sz) ∧ ∀ i, i < n → u' i = fc (if k ≤ i then i + 1 else i) := by
  intro fu
  induction fu with
  | zero => intro d j u _ h; omega
  | succ fu ih =>
    intro d j u hj hd hu
    have ql : aL (E u) (some sz) = some (nI n) := aL_A (h1 u) (Or.inl rfl)
    rw [fX2_rubbed_L17]
    simp only [ql, Option.bind_some, Option.bind_none, ↓reduceIte, if_true, if_false]
    cases d with
    | zero =>
      have : j = n := by omega
      subst this
      exact ⟨u, if_pos (nI_le (by omega) (by omega)), hu⟩
    | succ d =>
      rw [if_neg (nI_ge (by omega) (by omega))]
      simp only [h3, Option.bind_some, Option.bind_none, ↓reduceIte, if_true, if_false, nI_1]
      have step (z : Nat) (hz : z < m) (ez : z = if k ≤ j then j + 1 else j) : ∃ u', (rA (E u) (some ca) 2 (nI z)).bind (fun v41 => (wA (E u) (some sz) 2 (nI j) v41).bind fun h42 => fX2_rubbed_L17 N K fu h42 sz1 (some p) (nI k) (some sz) (nI (j + 1))) = K (E u') sz1 (some p) (some sz) ∧ ∀ i, i < n → u' i = fc (if k ≤ i then i + 1 else i) := by
        rw [rA_eq (h4 u) hz (by omega)]
        simp only [Option.bind_some, Option.bind_none, ↓reduceIte, if_true, if_false]
        rw [wA_eq (h1 u) (by omega) (by omega) (Or.inr (h5 u z hz))]
        simp only [Option.bind_some, Option.bind_none, ↓reduceIte, if_true, if_false, h2]
        refine ih d (j + 1) _ (by omega) (by omega) (fun i hi => ?_)
        by_cases c : i = j
        · subst c
          unfold va_up
          rw [← ez]
          simp
        · have : va_up u j (fc z) i = u i := by unfold va_up; simp [c]
          rw [this]
          exact hu i (by omega)
      by_cases c : k ≤ j
      · rw [if_pos (nI_le c (by omega))]
        exact step (j + 1) (by omega) (by rw [if_pos c])
      · rw [if_neg (nI_ge (by omega) (by omega))]
        exact step j (by omega) (by rw [if_neg c])
theorem m_rubL {g : Hp} {m : Nat} {s : Nat → Int32} {t : Int64} {a : Nat → Nat → Int32} {n k : Nat} (hn : n ≤ 11) (h6 : s 6 = nI n) {α : Type} {K : Hp → Option Nat → Option α} : ∀ (fu d j : Nat) (f : Nat → Int32), j + d = 6 * n → d < fu → 6 * k ≤ j → (∀ i, f i = if 6 * k ≤ i ∧ i < j then a 4 (i + 6) else a 4 i) → ∃ f', fX6_rubs_L29 N K fu (mH g m s t (ua a 4 f)) (some m) (nI j) = K (mH g m s t (ua a 4 f')) (some m) ∧ ∀ i, f' i = if 6 * k ≤ i ∧ i < 6 * n then a 4 (i + 6) else a 4 i := by
  intro fu
  induction fu with
  | zero => intro d j f _ h; omega
  | succ fu ih =>
    intro d j f hj hd hk hf
    rw [fX6_rubs_L29]
    simp only [mh_O, mh_gJ, mh_pJ, mh_gI0, mh_gI1, mh_gI2, mh_gI5, mh_gI6, mh_gI9, mh_gI14, mh_gI15, mh_gI16, mh_gI17, mh_gI18, mh_gI19, mh_gI24, mh_pI0, mh_pI1, mh_pI2, mh_pI5, mh_pI6, mh_pI9, mh_pI14, mh_pI15, mh_pI16, mh_pI17, mh_pI18, mh_pI19, mh_pI24, mh_gA3, mh_gA4, mh_gA7, mh_gA8, mh_gA10, mh_gA11, mh_gA13, mh_gA20, mh_gA21, mh_gA22, mh_gA23, mh_gA25, mh_gA26, mh_gA27, mh_gA28, mh_gA29, Option.bind_some, Option.bind_none, ↓reduceIte, if_true, if_false, h6]
    rw [show (6 : Int32) * nI n = nI (6 * n) from pk_mul 6 n]
    cases d with
    | zero =>
      have : j = 6 * n := by omega
      subst this
      exact ⟨f, if_pos (nI_le (by omega) (by omega)), hf⟩
    | succ d =>
      rw [if_neg (nI_ge (by omega) (by omega)), show nI j + 6 = nI (j + 6) from nI_add j 6, nI_1]
      simp (disch := omega) only [mh_O, mh_gJ, mh_pJ, mh_gI0, mh_gI1, mh_gI2, mh_gI5, mh_gI6, mh_gI9, mh_gI14, mh_gI15, mh_gI16, mh_gI17, mh_gI18, mh_gI19, mh_gI24, mh_pI0, mh_pI1, mh_pI2, mh_pI5, mh_pI6, mh_pI9, mh_pI14, mh_pI15, mh_pI16, mh_pI17, mh_pI18, mh_pI19, mh_pI24, mh_gA3, mh_gA4, mh_gA7, mh_gA8, mh_gA10, mh_gA11, mh_gA13, mh_gA20, mh_gA21, mh_gA22, mh_gA23, mh_gA25, mh_gA26, mh_gA27, mh_gA28, mh_gA29, mh_rd1, mh_rd2, mh_rd3, mh_rd4, mh_rd5, mh_rd6, mh_rd7, mh_rd8, mh_rd9, mh_rd10, mh_rd11, mh_rd12, mh_rd13, mh_rd14, mh_rd15, mh_rd16, mh_wr1, mh_wr2, mh_wr3, mh_wr4, mh_wr5, mh_wr6, mh_wr7, mh_wr8, mh_wr9, mh_wr10, mh_wr11, mh_wr12, mh_wr13, mh_wr14, mh_wr15, mh_wr16, Option.bind_some, Option.bind_none, ↓reduceIte, if_true, if_false, ua_s, ua_ua]
      refine ih d (j + 1) _ (by omega) (by omega) (by omega) (fun i => ?_)
      by_cases c : i = j
      · subst c
        rw [pk_us, hf, if_neg (by omega), if_pos (by omega)]
      · rw [pk_un c, hf]
        by_cases c2 : 6 * k ≤ i ∧ i < j
        · rw [if_pos c2, if_pos (by omega)]
        · rw [if_neg c2, if_neg (by omega)]
end SK
