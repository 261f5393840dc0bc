section SM
variable {x : Nat} {N : Nat}
/-- the curves, copied into a longer row -/
theorem x_drwL {E : (Nat → Option Nat) → Hp} {sz sz1 p ca n m : Nat} {fc : Nat → Option Nat} {l1 : Option Nat} {l2 : Int32} (hn : n ≤ 12) (hm : m = n + 1) (h1 : ∀ u, E u sz = some (oA 2 m u)) (h2 : ∀ u u', up (E u) sz (oA 2 m u') = E u') (h3 : ∀ u, gA (E u) (some p) 2 2 = some (some ca)) (h4 : ∀ u, E u ca = some (oA 2 n fc)) (h5 : ∀ u j, j < n → isO (E u) (fc j) 1 = true) {α : Type} {K : Hp → Nat → Option Nat → Option Nat → Int32 → Option Nat → Option α} : ∀ (fu d j : Nat) (u : Nat → Option Nat), j + d = n → d < fu → (∀ i, i < j → u i = fc i) → ∃ u', fX2_drawn_L14 N K fu (E u) sz1 (some p) l1 l2 (some sz) (nI j) = K (E u') sz1 (some p) l1 l2 (some sz) ∧ ∀ i, i < n → u' i = fc i := by
  intro fu
  induction fu with
  | zero => intro d j u _ h; omega
  | succ fu ih =>
    intro d j u hj hd hu
    have ql : aL (E u) (some ca) = some (nI n) := aL_A (h4 u) (Or.inl rfl)
    rw [fX2_drawn_L14]
    simp only [h3, ql, Option.bind_some, Option.bind_none, ↓reduceIte, if_true, if_false]
    cases d with
    | zero =>
      have : j = n := by omega
      subst this
      exact ⟨u, if_pos (nI_le (by omega) (by omega)), hu⟩
    | succ d =>
      rw [if_neg (nI_ge (by omega) (by omega)), rA_eq (h4 u) (by omega) (by omega)]
      simp only [Option.bind_some, Option.bind_none, ↓reduceIte, if_true, if_false, nI_1]
      rw [wA_eq (h1 u) (by omega) (by omega) (Or.inr (h5 u j (by omega)))]
      simp only [Option.bind_some, Option.bind_none, ↓reduceIte, if_true, if_false, h2]
      refine ih d (j + 1) _ (by omega) (by omega) (fun i hi => ?_)
      by_cases c : i = j
      · subst c
        unfold va_up
        simp
      · have : va_up u j (fc j) i = u i := by unfold va_up; simp [c]
        rw [this]
        exact hu i (by omega)
/-- the note with a curve more -/
def drwF (φ : Nat → Nat) (i w l st pn n k : Nat) : Nat → Nat := fun q => if q = 1 then φ 1 + 1 else if q = 2 + pn then n else if q < 6 + 6 * k then φ q else if q = 6 + 6 * k then i else if q = 6 + 6 * k + 1 then w else if q = 6 + 6 * k + 2 then l else if q = 6 + 6 * k + 3 then st else if q = 6 + 6 * k + 4 then pn else φ 0
/-- a curve laid behind all -/
theorem x_curve0 {E : Hp} {q b R W P i w l st pn lay : Nat} {T C : Nat → Nat} (hN : 2000 ≤ N) (B : okB R W P T C) (hi : i < R) (hw : w < W) (hst : st < 120) (e : E q = some (oO 1 [.int 0, .int 0, .int 0, .int 0, .int 0, .int 0, .int 0, .int 0, .int 0, .int 0])) (X : ∀ y, BX (up E q y) b R W P T C) : fX1_init N E (some q) (some b) (nI i) (nI w) (nI l) (nI st) (nI pn) (nI lay) = some (up E q (oO 1 [.int (nI i), .int (nI w), .int (nI l), .int (nI st), .int (nI pn), .int (nI lay), .int (nI (T i / Nat.gcd (T i) (C w))), .int (nI (C w / Nat.gcd (T i) (C w))), .int (nI (360 / (T i / Nat.gcd (T i) (C w)))), .int (nI (360 / T i * st + lay))])) := by
  have hT := B.2.2.2.1 i hi
  have hg : 0 < Nat.gcd (T i) (C w) := Nat.gcd_pos_of_pos_left _ (by omega)
  have hg2 : Nat.gcd (T i) (C w) ≤ T i := Nat.gcd_le_left _ (by omega)
  have hp : 0 < T i / Nat.gcd (T i) (C w) := Nat.div_pos hg2 hg
  have hp2 : T i / Nat.gcd (T i) (C w) ≤ T i := Nat.div_le_self _ _
  unfold fX1_init
  rw [if_neg (by simp), pV_eq e (by simp)]
  simp only [Option.bind_some, Option.bind_none, ↓reduceIte, if_true, if_false]
  rw [pV_eq (up_s _ _ _) (by simp)]
  simp only [Option.bind_some, Option.bind_none, ↓reduceIte, if_true, if_false, up_up]
  rw [pV_eq (up_s _ _ _) (by simp)]
  simp only [Option.bind_some, Option.bind_none, ↓reduceIte, if_true, if_false, up_up]
  rw [pV_eq (up_s _ _ _) (by simp)]
  simp only [Option.bind_some, Option.bind_none, ↓reduceIte, if_true, if_false, up_up]
  rw [pV_eq (up_s _ _ _) (by simp)]
  simp only [Option.bind_some, Option.bind_none, ↓reduceIte, if_true, if_false, up_up]
  rw [pV_eq (up_s _ _ _) (by simp)]
  simp only [Option.bind_some, Option.bind_none, ↓reduceIte, if_true, if_false, up_up]
  rw [isO_eq (X _).1]
  simp only [Option.bind_some, Option.bind_none, ↓reduceIte, if_true, if_false, x_petalsOf hN (X _) B hi hw]
  rw [pV_eq (up_s _ _ _) (by simp)]
  simp only [Option.bind_some, Option.bind_none, ↓reduceIte, if_true, if_false, up_up]
  rw [isO_eq (X _).1]
  simp only [Option.bind_some, Option.bind_none, ↓reduceIte, if_true, if_false, x_roundsOf hN (X _) B hi hw]
  rw [pV_eq (up_s _ _ _) (by simp)]
  simp only [Option.bind_some, Option.bind_none, ↓reduceIte, if_true, if_false, up_up]
  rw [gI_eq (v := nI (T i / Nat.gcd (T i) (C w))) (up_s _ _ _) rfl]
  simp only [Option.bind_some, Option.bind_none, ↓reduceIte, if_true, if_false]
  rw [i_360, x_part (by omega) hp (by omega)]
  simp only [Option.bind_some, Option.bind_none, ↓reduceIte, if_true, if_false]
  rw [pV_eq (up_s _ _ _) (by simp)]
  simp only [Option.bind_some, Option.bind_none, ↓reduceIte, if_true, if_false, up_up]
  rw [isO_eq (X _).1]
  simp only [Option.bind_some, Option.bind_none, ↓reduceIte, if_true, if_false, x_stepOf (X _) B hi, pk_mul, nI_add]
  rw [pV_eq (up_s _ _ _) (by simp)]
  simp only [Option.bind_some, Option.bind_none, ↓reduceIte, if_true, if_false, up_up]
  rfl
theorem drw_old {φ : Nat → Nat} {i w l st pn n k j f : Nat} (hpn : pn < 4) (hj : j < k) (hf : f < 6) : cF (drwF φ i w l st pn n k) j f = cF φ j f := by
  unfold cF drwF
  rw [if_neg (by omega), if_neg (by omega), if_pos (by omega)]
theorem drw_new {φ : Nat → Nat} {i w l st pn n k : Nat} (hpn : pn < 4) : cF (drwF φ i w l st pn n k) k 0 = i ∧ cF (drwF φ i w l st pn n k) k 1 = w ∧ cF (drwF φ i w l st pn n k) k 2 = l ∧ cF (drwF φ i w l st pn n k) k 3 = st ∧ cF (drwF φ i w l st pn n k) k 4 = pn ∧ cF (drwF φ i w l st pn n k) k 5 = φ 0 := by
  unfold cF drwF
  refine ⟨?_, ?_, ?_, ?_, ?_, ?_⟩ <;> (repeat (first | rw [if_neg (by omega)] | rw [if_pos (by omega)]))
theorem drw_ok {R W P i w l st pn n : Nat} {T C φ : Nat → Nat} (O : okN R W P T C φ) (hP : P ≤ 4) (hk : φ 1 < 12) (hi : i < R) (hw : w < W) (hf : C w < T i) (hl1 : 1 ≤ l) (hl : l ≤ 9) (hst : st < T i) (hpn : pn < P) (hn : n ≤ 999) : okN R W P T C (drwF φ i w l st pn n (φ 1)) := by
  obtain ⟨h1, h2, h3, h4⟩ := O
  have e1 : drwF φ i w l st pn n (φ 1) 1 = φ 1 + 1 := if_pos rfl
  refine ⟨?_, by rw [e1]; omega, fun p hp => ?_, fun j hj => ?_⟩
  · unfold drwF; rw [if_neg (by omega), if_neg (by omega), if_pos (by omega)]; exact h1
  · unfold drwF
    rw [if_neg (by omega)]
    by_cases c : p = pn
    · rw [if_pos (by omega)]; exact hn
    · rw [if_neg (by omega), if_pos (by omega)]; exact h3 p hp
  · rw [e1] at hj
    unfold okC
    by_cases c : j < φ 1
    · rw [drw_old (by omega) c (by omega), drw_old (by omega) c (by omega), drw_old (by omega) c (by omega), drw_old (by omega) c (by omega), drw_old (by omega) c (by omega), drw_old (by omega) c (by omega)]
      exact h4 j c
    · have ej : j = φ 1 := by omega
      subst ej
      obtain ⟨c0, c1, c2, c3, c4, c5⟩ := drw_new (φ := φ) (i := i) (w := w) (l := l) (st := st) (pn := pn) (n := n) (k := φ 1) (show pn < 4 by omega)
      rw [c0, c1, c2, c3, c4, c5]
      exact ⟨hi, hw, hf, hl1, hl, hst, hpn, h1⟩
end SM
