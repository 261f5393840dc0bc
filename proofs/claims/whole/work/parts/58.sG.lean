section SG
variable {x : Nat} {N : Nat}
theorem curF_ua {s : Nat → Int32} {a : Nat → Nat → Int32} {k : Nat} {f : Nat → Int32} (hk : 5 ≤ k) (i : Nat) : curF s (ua a k f) i = curF s a i := by
  unfold curF
  rw [ua_n (by omega), ua_n (by omega)]
theorem IMG.congr {g : Hp} {R W P : Nat} {T C : Nat → Nat} {ik : Option Nat} {f f' : Nat → Int32} (hP : P ≤ 4) (h : IMG x g R W P T C ik f) (e : ∀ i, i < 860 → f' i = f i) : IMG x g R W P T C ik f' := by
  rcases h with ⟨h1, h2⟩ | ⟨i, ps, pa, q, φ, U, pp, ψ, h1, h2, h4, h5, h6, h7, h8, h9, h10⟩
  · exact Or.inl ⟨h1, by rw [e 0 (by omega)]; exact h2⟩
  · refine Or.inr ⟨i, ps, pa, q, φ, U, pp, ψ, h1, by rw [e 0 (by omega)]; exact h2, by rw [e 1 (by omega)]; exact h4, h5, h6, h7, nF_congr hP h6.2.1 h8 (fun i hi => e _ (by omega)), h9, fun j hj => nF_congr hP (CH.ok h9 j hj).2.1 (h10 j hj) (fun i hi => e _ (by omega))⟩
theorem m_kpL {g : Hp} {m : Nat} {s : Nat → Int32} {t : Int64} {a : Nat → Nat → Int32} {o : Nat} (ho : o + 860 ≤ 1720) {α : Type} {K : Hp → Option Nat → Option α} : ∀ (n d j : Nat) (f : Nat → Int32), j + d = 780 → d < n → (∀ i, f i = if o + 80 ≤ i ∧ i < o + 80 + j then a 11 (i - (o + 80)) else a 16 i) → ∃ f', fX6_keep_L49 N K n (mH g m s t (ua a 16 f)) (some m) (nI o) (nI j) = K (mH g m s t (ua a 16 f')) (some m) ∧ ∀ i, f' i = if o + 80 ≤ i ∧ i < o + 860 then a 11 (i - (o + 80)) else a 16 i := by
  intro n
  induction n with
  | zero => intro d j f _ h; omega
  | succ n ih =>
    intro d j f hj hd hf
    rw [fX6_keep_L49]
    cases d with
    | zero =>
      have : j = 780 := by omega
      subst this
      exact ⟨f, if_pos (nI_le (a := 780) (by omega) (by omega)), hf⟩
    | succ d =>
      rw [if_neg (show ¬ (780 : Int32) ≤ nI j from nI_ge (a := j) (b := 780) (by omega) (by omega)), show nI o + 80 = nI (o + 80) from nI_add o 80, nI_add, nI_1]
      simp (disch := omega) only [mh_O, mh_gJ, mh_pJ, mh_gI0, mh_gI1, mh_gI2, mh_gI5, mh_gI6, mh_gI9, mh_gI14, mh_gI15, mh_gI16, mh_gI17, mh_gI18, mh_gI19, mh_gI24, mh_pI0, mh_pI1, mh_pI2, mh_pI5, mh_pI6, mh_pI9, mh_pI14, mh_pI15, mh_pI16, mh_pI17, mh_pI18, mh_pI19, mh_pI24, mh_gA3, mh_gA4, mh_gA7, mh_gA8, mh_gA10, mh_gA11, mh_gA13, mh_gA20, mh_gA21, mh_gA22, mh_gA23, mh_gA25, mh_gA26, mh_gA27, mh_gA28, mh_gA29, mh_rd1, mh_rd2, mh_rd3, mh_rd4, mh_rd5, mh_rd6, mh_rd7, mh_rd8, mh_rd9, mh_rd10, mh_rd11, mh_rd12, mh_rd13, mh_rd14, mh_rd15, mh_rd16, mh_wr1, mh_wr2, mh_wr3, mh_wr4, mh_wr5, mh_wr6, mh_wr7, mh_wr8, mh_wr9, mh_wr10, mh_wr11, mh_wr12, mh_wr13, mh_wr14, mh_wr15, mh_wr16, Option.bind_some, Option.bind_none, ↓reduceIte, if_true, if_false, ua_n, ua_s, ua_ua]
      refine ih d (j + 1) _ (by omega) (by omega) (fun i => ?_)
      by_cases c : i = o + 80 + j
      · subst c
        rw [pk_us, if_pos (by omega), show o + 80 + j - (o + 80) = j by omega]
      · rw [pk_un c, hf i]
        by_cases c2 : o + 80 ≤ i ∧ i < o + 80 + j
        · rw [if_pos c2, if_pos (by omega)]
        · rw [if_neg c2, if_neg (by omega)]
theorem m_bkL {g : Hp} {m : Nat} {s : Nat → Int32} {t : Int64} {a : Nat → Nat → Int32} {o : Nat} (ho : o + 860 ≤ 1720) {α : Type} {K : Hp → Option Nat → Option α} : ∀ (n d j : Nat) (f : Nat → Int32), j + d = 780 → d < n → (∀ i, i < j → f i = a 16 (o + 80 + i)) → ∃ f', fX6_back_L54 N K n (mH g m s t (ua a 11 f)) (some m) (nI o) (nI j) = K (mH g m s t (ua a 11 f')) (some m) ∧ ∀ i, i < 780 → f' i = a 16 (o + 80 + i) := by
  intro n
  induction n with
  | zero => intro d j f _ h; omega
  | succ n ih =>
    intro d j f hj hd hf
    rw [fX6_back_L54]
    cases d with
    | zero =>
      have : j = 780 := by omega
      subst this
      exact ⟨f, if_pos (nI_le (a := 780) (by omega) (by omega)), hf⟩
    | succ d =>
      rw [if_neg (show ¬ (780 : Int32) ≤ nI j from nI_ge (a := j) (b := 780) (by omega) (by omega)), show nI o + 80 = nI (o + 80) from nI_add o 80, nI_add, nI_1]
      simp (disch := omega) only [mh_O, mh_gJ, mh_pJ, mh_gI0, mh_gI1, mh_gI2, mh_gI5, mh_gI6, mh_gI9, mh_gI14, mh_gI15, mh_gI16, mh_gI17, mh_gI18, mh_gI19, mh_gI24, mh_pI0, mh_pI1, mh_pI2, mh_pI5, mh_pI6, mh_pI9, mh_pI14, mh_pI15, mh_pI16, mh_pI17, mh_pI18, mh_pI19, mh_pI24, mh_gA3, mh_gA4, mh_gA7, mh_gA8, mh_gA10, mh_gA11, mh_gA13, mh_gA20, mh_gA21, mh_gA22, mh_gA23, mh_gA25, mh_gA26, mh_gA27, mh_gA28, mh_gA29, mh_rd1, mh_rd2, mh_rd3, mh_rd4, mh_rd5, mh_rd6, mh_rd7, mh_rd8, mh_rd9, mh_rd10, mh_rd11, mh_rd12, mh_rd13, mh_rd14, mh_rd15, mh_rd16, mh_wr1, mh_wr2, mh_wr3, mh_wr4, mh_wr5, mh_wr6, mh_wr7, mh_wr8, mh_wr9, mh_wr10, mh_wr11, mh_wr12, mh_wr13, mh_wr14, mh_wr15, mh_wr16, Option.bind_some, Option.bind_none, ↓reduceIte, if_true, if_false, ua_n, ua_s, ua_ua]
      refine ih d (j + 1) _ (by omega) (by omega) (fun i hi => ?_)
      by_cases c : i = j
      · subst c
        rw [pk_us]
      · rw [pk_un c]
        exact hf i (by omega)
end SG
