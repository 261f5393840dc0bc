theorem cnt_mono {p q : Nat → Bool} (h : ∀ i, p i = true → q i = true) (n : Nat) : cnt p n ≤ cnt q n := by
  induction n with
  | zero => exact Nat.le_refl _
  | succ n ih =>
    by_cases c : p n = true
    · rw [cnt_t c, cnt_t (h n c)]; omega
    · rw [cnt_f c]
      by_cases d : q n = true
      · rw [cnt_t d]; omega
      · rw [cnt_f d]; exact ih
theorem sumN_mono {f h : Nat → Nat} (e : ∀ i, f i ≤ h i) (n : Nat) : sumN f n ≤ sumN h n := by
  induction n with
  | zero => exact Nat.le_refl _
  | succ n ih =>
    show sumN f n + f n ≤ sumN h n + h n
    have := e n
    omega
theorem sumN_le {f : Nat → Nat} {M : Nat} (e : ∀ i, f i ≤ M) (n : Nat) : sumN f n ≤ M * n := by
  induction n with
  | zero => exact Nat.zero_le _
  | succ n ih =>
    show sumN f n + f n ≤ M * (n + 1)
    have := e n
    rw [Nat.mul_add]
    omega
/-- a guess that has a tip at tooth i -/
def lkB (T C : Nat → Nat) (r : Nat) (tt tp : Nat → Nat) (sn w i st : Nat) : Bool := gsB T C r tt tp sn w st && (i % Nat.gcd (T r) (C w) == st % Nat.gcd (T r) (C w))
def lkV (T C : Nat → Nat) (r W : Nat) (tt tp : Nat → Nat) (sn i : Nat) : Nat := sumN (fun w => cnt (lkB T C r tt tp sn w i) (T r)) W
def lkA (T C : Nat → Nat) (r W : Nat) (tt tp : Nat → Nat) (sn : Nat) : Nat := sumN (fun w => cnt (gsB T C r tt tp sn w) (T r)) W
theorem lkV_le {T C : Nat → Nat} {r W : Nat} {tt tp : Nat → Nat} {sn i : Nat} : lkV T C r W tt tp sn i ≤ lkA T C r W tt tp sn := sumN_mono (fun w => cnt_mono (fun st h => by simp only [lkB, Bool.and_eq_true] at h; exact h.1) _) _
def selL (all : Nat) (V : Nat → Nat) : Nat → Int32 × Nat
  | 0 => (-9, all)
  | t + 1 => if max (V t) (all - V t) < (selL all V t).2 then (nI t, max (V t) (all - V t)) else selL all V t
theorem selL_le (all : Nat) (V : Nat → Nat) (t : Nat) : (selL all V t).2 ≤ all := by
  induction t with
  | zero => exact Nat.le_refl _
  | succ t ih =>
    unfold selL
    split
    · rename_i h; exact Nat.le_trans (Nat.le_of_lt h) ih
    · exact ih
section MHH
variable {g : Hp} {m : Nat} {s : Nat → Int32} {t : Int64} {a : Nat → Nat → Int32} {N R W P sn : Nat} {T C φ tt tp : Nat → Nat}
theorem m_lk0 (B : okB R W P T C) (H : mB s a R W P T C) {r : Nat} {A : Int32} (hr : r < R) {α : Type} {K : Hp → Option Nat → Int32 → Int32 → Option α} : ∀ (n d j : Nat) (f : Nat → Int32), j + d = T r → d < n → (∀ i, i < j → f i = nI 0) → ∃ f', fX6_look_L14 N K n (mH g m s t (ua a 15 f)) (some m) (nI r) A (nI j) = K (mH g m s t (ua a 15 f')) (some m) (nI r) A ∧ ∀ i, i < T r → f' i = nI 0 := by
  have hR := B.1
  have hT := B.2.2.2.1 r hr
  intro n
  induction n with
  | zero => intro d j f _ h; omega
  | succ n ih =>
    intro d j f hj hd hf
    have H' := mB_ua (k := 15) (f := f) H (by omega)
    rw [fX6_look_L14]
    simp (disch := omega) only [mh_O, mh_gJ, mh_pJ, mh_gI0, mh_gI1, mh_gI2, mh_gI5, mh_gI6, mh_gI9, mh_gI14, mh_gI15, mh_gI16, mh_gI17, mh_gI18, mh_gI19, mh_gI24, mh_pI0, mh_pI1, mh_pI2, mh_pI5, mh_pI6, mh_pI9, mh_pI14, mh_pI15, mh_pI16, mh_pI17, mh_pI18, mh_pI19, mh_pI24, mh_gA3, mh_gA4, mh_gA7, mh_gA8, mh_gA10, mh_gA11, mh_gA13, mh_gA20, mh_gA21, mh_gA22, mh_gA23, mh_gA25, mh_gA26, mh_gA27, mh_gA28, mh_gA29, mh_rd1, mh_rd2, mh_rd3, mh_rd4, mh_rd5, mh_rd6, mh_rd7, mh_rd8, mh_rd9, mh_rd10, mh_rd11, mh_rd12, mh_rd13, mh_rd14, mh_rd15, mh_rd16, mh_wr1, mh_wr2, mh_wr3, mh_wr4, mh_wr5, mh_wr6, mh_wr7, mh_wr8, mh_wr9, mh_wr10, mh_wr11, mh_wr12, mh_wr13, mh_wr14, mh_wr15, mh_wr16, Option.bind_some, Option.bind_none, ↓reduceIte, if_true, if_false, H'.2.2.2.1 r hr]
    cases d with
    | zero => exact ⟨f, if_pos (nI_le (by omega) (by omega)), fun i hi => hf i (by omega)⟩
    | succ d =>
      rw [if_neg (nI_ge (by omega) (by omega))]
      simp (disch := omega) only [mh_O, mh_gJ, mh_pJ, mh_gI0, mh_gI1, mh_gI2, mh_gI5, mh_gI6, mh_gI9, mh_gI14, mh_gI15, mh_gI16, mh_gI17, mh_gI18, mh_gI19, mh_gI24, mh_pI0, mh_pI1, mh_pI2, mh_pI5, mh_pI6, mh_pI9, mh_pI14, mh_pI15, mh_pI16, mh_pI17, mh_pI18, mh_pI19, mh_pI24, mh_gA3, mh_gA4, mh_gA7, mh_gA8, mh_gA10, mh_gA11, mh_gA13, mh_gA20, mh_gA21, mh_gA22, mh_gA23, mh_gA25, mh_gA26, mh_gA27, mh_gA28, mh_gA29, mh_rd1, mh_rd2, mh_rd3, mh_rd4, mh_rd5, mh_rd6, mh_rd7, mh_rd8, mh_rd9, mh_rd10, mh_rd11, mh_rd12, mh_rd13, mh_rd14, mh_rd15, mh_rd16, mh_wr1, mh_wr2, mh_wr3, mh_wr4, mh_wr5, mh_wr6, mh_wr7, mh_wr8, mh_wr9, mh_wr10, mh_wr11, mh_wr12, mh_wr13, mh_wr14, mh_wr15, mh_wr16, Option.bind_some, Option.bind_none, ↓reduceIte, if_true, if_false, ua_s, ua_ua, nI_1]
      refine ih d (j + 1) _ (by omega) (by omega) (fun i hi => ?_)
      by_cases c : i = j
      · subst c; rw [pk_us]; rfl
      · rw [pk_un c]; exact hf i (by omega)
theorem m_lk1 (hN : 2000 ≤ N) (B : okB R W P T C) (H : mB s a R W P T C) {r w q : Nat} {V : Nat → Nat} {A L4 : Int32} (hr : r < R) (hw : w < W) (hq : q < Nat.gcd (T r) (C w)) {α : Type} {K : Hp → Option Nat → Int32 → Int32 → Int32 → Int32 → Option α} : ∀ (n x : Nat) (f : Nat → Int32), T r - x < n → x ≤ 240 → x % Nat.gcd (T r) (C w) = q → (∀ i, i < T r → f i = nI (V i + if i < x ∧ i % Nat.gcd (T r) (C w) = q then 1 else 0)) → ∃ f', fX6_look_L95 N K n (mH g m s t (ua a 15 f)) (some m) (nI r) A (nI w) L4 (nI x) = K (mH g m s t (ua a 15 f')) (some m) (nI r) A (nI w) L4 ∧ ∀ i, i < T r → f' i = nI (V i + if i % Nat.gcd (T r) (C w) = q then 1 else 0) := by
  have hR := B.1
  have hT := B.2.2.2.1 r hr
  have hg := gcd_in (x := T r) (y := C w) (by omega)
  intro n
  induction n with
  | zero => intro x f h; omega
  | succ n ih =>
    intro x f hd hx hxq hf
    have H' := mB_ua (k := 15) (f := f) H (by omega)
    rw [fX6_look_L95]
    simp (disch := omega) only [mh_O, mh_gJ, mh_pJ, mh_gI0, mh_gI1, mh_gI2, mh_gI5, mh_gI6, mh_gI9, mh_gI14, mh_gI15, mh_gI16, mh_gI17, mh_gI18, mh_gI19, mh_gI24, mh_pI0, mh_pI1, mh_pI2, mh_pI5, mh_pI6, mh_pI9, mh_pI14, mh_pI15, mh_pI16, mh_pI17, mh_pI18, mh_pI19, mh_pI24, mh_gA3, mh_gA4, mh_gA7, mh_gA8, mh_gA10, mh_gA11, mh_gA13, mh_gA20, mh_gA21, mh_gA22, mh_gA23, mh_gA25, mh_gA26, mh_gA27, mh_gA28, mh_gA29, mh_rd1, mh_rd2, mh_rd3, mh_rd4, mh_rd5, mh_rd6, mh_rd7, mh_rd8, mh_rd9, mh_rd10, mh_rd11, mh_rd12, mh_rd13, mh_rd14, mh_rd15, mh_rd16, mh_wr1, mh_wr2, mh_wr3, mh_wr4, mh_wr5, mh_wr6, mh_wr7, mh_wr8, mh_wr9, mh_wr10, mh_wr11, mh_wr12, mh_wr13, mh_wr14, mh_wr15, mh_wr16, Option.bind_some, Option.bind_none, ↓reduceIte, if_true, if_false, H'.2.2.2.1 r hr]
    by_cases c : T r ≤ x
    · refine ⟨f, if_pos (nI_le c (by omega)), fun i hi => ?_⟩
      rw [hf i hi]
      by_cases c2 : i % Nat.gcd (T r) (C w) = q
      · rw [if_pos ⟨by omega, c2⟩, if_pos c2]
      · rw [if_neg (fun z => c2 z.2), if_neg c2]
    · rw [if_neg (nI_ge (by omega) (by omega))]
      have e1 : f x = nI (V x) := by rw [hf x (by omega), if_neg (by omega)]; rfl
      have H2 := mB_ua (k := 15) (f := upd f x (nI (V x + 1))) H (by omega)
      simp (disch := omega) only [mh_O, mh_gJ, mh_pJ, mh_gI0, mh_gI1, mh_gI2, mh_gI5, mh_gI6, mh_gI9, mh_gI14, mh_gI15, mh_gI16, mh_gI17, mh_gI18, mh_gI19, mh_gI24, mh_pI0, mh_pI1, mh_pI2, mh_pI5, mh_pI6, mh_pI9, mh_pI14, mh_pI15, mh_pI16, mh_pI17, mh_pI18, mh_pI19, mh_pI24, mh_gA3, mh_gA4, mh_gA7, mh_gA8, mh_gA10, mh_gA11, mh_gA13, mh_gA20, mh_gA21, mh_gA22, mh_gA23, mh_gA25, mh_gA26, mh_gA27, mh_gA28, mh_gA29, mh_rd1, mh_rd2, mh_rd3, mh_rd4, mh_rd5, mh_rd6, mh_rd7, mh_rd8, mh_rd9, mh_rd10, mh_rd11, mh_rd12, mh_rd13, mh_rd14, mh_rd15, mh_rd16, mh_wr1, mh_wr2, mh_wr3, mh_wr4, mh_wr5, mh_wr6, mh_wr7, mh_wr8, mh_wr9, mh_wr10, mh_wr11, mh_wr12, mh_wr13, mh_wr14, mh_wr15, mh_wr16, Option.bind_some, Option.bind_none, ↓reduceIte, if_true, if_false, ua_s, ua_ua, e1, nI_1, m_commonOf hN B H2 hr hw, nI_add]
      refine ih (x + Nat.gcd (T r) (C w)) _ (by omega) (by omega) (by rw [Nat.add_mod_right]; exact hxq) (fun i hi => ?_)
      by_cases c2 : i = x
      · subst c2
        rw [pk_us, if_pos ⟨by omega, hxq⟩]
      · rw [pk_un c2, hf i hi]
        by_cases c3 : i < x ∧ i % Nat.gcd (T r) (C w) = q
        · rw [if_pos c3, if_pos ⟨by omega, c3.2⟩]
        · rw [if_neg c3]
          by_cases c4 : i < x + Nat.gcd (T r) (C w) ∧ i % Nat.gcd (T r) (C w) = q
          · exfalso
            have h1 : x < i := by omega
            have h2 : (i - x) % Nat.gcd (T r) (C w) = 0 := by
              have := Nat.sub_mod_eq_zero_of_mod_eq (m := i) (n := x) (k := Nat.gcd (T r) (C w)) (by rw [c4.2, hxq])
              exact this
            have h3 : i - x < Nat.gcd (T r) (C w) := by omega
            rw [Nat.mod_eq_of_lt h3] at h2
            omega
          · rw [if_neg c4]
theorem m_lk2 (hN : 2000 ≤ N) (B : okB R W P T C) (H : mB s a R W P T C) (S : mS s a sn tt tp) {r w : Nat} {V : Nat → Nat} (hr : r < R) (hw : w < W) {α : Type} {K : Hp → Option Nat → Int32 → Int32 → Int32 → Option α} : ∀ (n d j A : Nat) (f : Nat → Int32), j + d = T r → d < n → (∀ i, i < T r → f i = nI (V i + cnt (lkB T C r tt tp sn w i) j)) → ∃ f', fX6_look_L50 N K n (mH g m s t (ua a 15 f)) (some m) (nI r) (nI (A + cnt (gsB T C r tt tp sn w) j)) (nI w) (nI j) = K (mH g m s t (ua a 15 f')) (some m) (nI r) (nI (A + cnt (gsB T C r tt tp sn w) (T r))) (nI w) ∧ ∀ i, i < T r → f' i = nI (V i + cnt (lkB T C r tt tp sn w i) (T r)) := by
  have hR := B.1
  have hW := B.2.1
  have hT := B.2.2.2.1 r hr
  have hg := gcd_in (x := T r) (y := C w) (by omega)
  intro n
  induction n with
  | zero => intro d j A f _ h; omega
  | succ n ih =>
    intro d j A f hj hd hf
    have H' := mB_ua (k := 15) (f := f) H (by omega)
    have S' := mS_ua (k := 15) (f := f) S (by omega)
    rw [fX6_look_L50]
    simp (disch := omega) only [mh_O, mh_gJ, mh_pJ, mh_gI0, mh_gI1, mh_gI2, mh_gI5, mh_gI6, mh_gI9, mh_gI14, mh_gI15, mh_gI16, mh_gI17, mh_gI18, mh_gI19, mh_gI24, mh_pI0, mh_pI1, mh_pI2, mh_pI5, mh_pI6, mh_pI9, mh_pI14, mh_pI15, mh_pI16, mh_pI17, mh_pI18, mh_pI19, mh_pI24, mh_gA3, mh_gA4, mh_gA7, mh_gA8, mh_gA10, mh_gA11, mh_gA13, mh_gA20, mh_gA21, mh_gA22, mh_gA23, mh_gA25, mh_gA26, mh_gA27, mh_gA28, mh_gA29, mh_rd1, mh_rd2, mh_rd3, mh_rd4, mh_rd5, mh_rd6, mh_rd7, mh_rd8, mh_rd9, mh_rd10, mh_rd11, mh_rd12, mh_rd13, mh_rd14, mh_rd15, mh_rd16, mh_wr1, mh_wr2, mh_wr3, mh_wr4, mh_wr5, mh_wr6, mh_wr7, mh_wr8, mh_wr9, mh_wr10, mh_wr11, mh_wr12, mh_wr13, mh_wr14, mh_wr15, mh_wr16, Option.bind_some, Option.bind_none, ↓reduceIte, if_true, if_false, H'.2.2.2.1 r hr]
    cases d with
    | zero =>
      have ej : j = T r := by omega
      subst ej
      exact ⟨f, if_pos (nI_le (by omega) (by omega)), hf⟩
    | succ d =>
      rw [if_neg (nI_ge (by omega) (by omega)), m_fits B H' hr hw]
      have e0 : ¬ nI (Nat.gcd (T r) (C w)) = 0 := nI_ne0 (by omega) (by omega)
      simp (disch := omega) only [mh_O, mh_gJ, mh_pJ, mh_gI0, mh_gI1, mh_gI2, mh_gI5, mh_gI6, mh_gI9, mh_gI14, mh_gI15, mh_gI16, mh_gI17, mh_gI18, mh_gI19, mh_gI24, mh_pI0, mh_pI1, mh_pI2, mh_pI5, mh_pI6, mh_pI9, mh_pI14, mh_pI15, mh_pI16, mh_pI17, mh_pI18, mh_pI19, mh_pI24, mh_gA3, mh_gA4, mh_gA7, mh_gA8, mh_gA10, mh_gA11, mh_gA13, mh_gA20, mh_gA21, mh_gA22, mh_gA23, mh_gA25, mh_gA26, mh_gA27, mh_gA28, mh_gA29, Option.bind_some, Option.bind_none, ↓reduceIte, if_true, if_false, m_isSo hN B H' S' hr hw (show j < 120 by omega), m_commonOf hN B H' hr hw, bI_0, e0, jrem_nI]
      by_cases c : C w < T r
      · have c1 : fitB T C r w = true := by simpa [fitB] using c
        rw [if_pos c, if_neg (by decide)]
        by_cases c2 : soB (Nat.gcd (T r) (C w)) (T r) tt tp sn j = true
        · have cg : gsB T C r tt tp sn w j = true := by simp [gsB, c1, c2]
          have hm : j % Nat.gcd (T r) (C w) < Nat.gcd (T r) (C w) := Nat.mod_lt _ (by omega)
          rw [if_neg (by simp [c2]), nI_1]
          obtain ⟨f1, e1, h1⟩ := m_lk1 (g := g) (m := m) (s := s) (t := t) (a := a) (N := N) (A := nI (A + cnt (gsB T C r tt tp sn w) j + 1)) (L4 := nI j) (V := fun i => V i + cnt (lkB T C r tt tp sn w i) j) hN B H hr hw hm (K := fun h l0 l1 l2 l3 l4 => fX6_look_L50 N K n h l0 l1 l2 l3 (l4 + 1)) N (j % Nat.gcd (T r) (C w)) f (by omega) (by omega) (Nat.mod_mod _ _) (fun i hi => by
            rw [hf i hi, if_neg]
            · rfl
            · intro z
              have : i % Nat.gcd (T r) (C w) = i := Nat.mod_eq_of_lt (by omega)
              omega)
          obtain ⟨f2, e2, h2⟩ := ih d (j + 1) A f1 (by omega) (by omega) (fun i hi => by
            rw [h1 i hi]
            by_cases c3 : i % Nat.gcd (T r) (C w) = j % Nat.gcd (T r) (C w)
            · rw [if_pos c3, cnt_t (by simp [lkB, cg, c3])]; rfl
            · rw [if_neg c3, cnt_f (by simp [lkB, c3])]; rfl)
          refine ⟨f2, ?_, h2⟩
          refine e1.trans ?_
          rw [nI_1]
          rw [cnt_t cg] at e2
          exact e2
        · have cg : ¬ gsB T C r tt tp sn w j = true := by simp [gsB, c2]
          rw [if_pos c2, nI_1]
          obtain ⟨f2, e2, h2⟩ := ih d (j + 1) A f (by omega) (by omega) (fun i hi => by
            rw [hf i hi, cnt_f (by simp [lkB, cg])])
          rw [cnt_f cg] at e2
          exact ⟨f2, e2, h2⟩
      · have c1 : fitB T C r w = false := by simpa [fitB] using c
        have cg : ¬ gsB T C r tt tp sn w j = true := by simp [gsB, c1]
        rw [if_neg c, if_pos rfl, nI_1]
        obtain ⟨f2, e2, h2⟩ := ih d (j + 1) A f (by omega) (by omega) (fun i hi => by
          rw [hf i hi, cnt_f (by simp [lkB, cg])])
        rw [cnt_f cg] at e2
        exact ⟨f2, e2, h2⟩
theorem m_lk3 (hN : 2000 ≤ N) (B : okB R W P T C) (H : mB s a R W P T C) (S : mS s a sn tt tp) {r : Nat} (hr : r < R) {α : Type} {K : Hp → Option Nat → Int32 → Int32 → Option α} : ∀ (n d w : Nat) (f : Nat → Int32), w + d = W → d < n → (∀ i, i < T r → f i = nI (lkV T C r w tt tp sn i)) → ∃ f', fX6_look_L39 N K n (mH g m s t (ua a 15 f)) (some m) (nI r) (nI (lkA T C r w tt tp sn)) (nI w) = K (mH g m s t (ua a 15 f')) (some m) (nI r) (nI (lkA T C r W tt tp sn)) ∧ ∀ i, i < T r → f' i = nI (lkV T C r W tt tp sn i) := by
  have hR := B.1
  have hW := B.2.1
  have hT := B.2.2.2.1 r hr
  intro n
  induction n with
  | zero => intro d w f _ h; omega
  | succ n ih =>
    intro d w f hw hd hf
    have H' := mB_ua (k := 15) (f := f) H (by omega)
    rw [fX6_look_L39]
    simp (disch := omega) only [mh_O, mh_gJ, mh_pJ, mh_gI0, mh_gI1, mh_gI2, mh_gI5, mh_gI6, mh_gI9, mh_gI14, mh_gI15, mh_gI16, mh_gI17, mh_gI18, mh_gI19, mh_gI24, mh_pI0, mh_pI1, mh_pI2, mh_pI5, mh_pI6, mh_pI9, mh_pI14, mh_pI15, mh_pI16, mh_pI17, mh_pI18, mh_pI19, mh_pI24, mh_gA3, mh_gA4, mh_gA7, mh_gA8, mh_gA10, mh_gA11, mh_gA13, mh_gA20, mh_gA21, mh_gA22, mh_gA23, mh_gA25, mh_gA26, mh_gA27, mh_gA28, mh_gA29, Option.bind_some, Option.bind_none, ↓reduceIte, if_true, if_false, H'.2.1]
    cases d with
    | zero =>
      have ej : w = W := by omega
      subst ej
      exact ⟨f, if_pos (nI_le (by omega) (by omega)), hf⟩
    | succ d =>
      rw [if_neg (nI_ge (by omega) (by omega))]
      obtain ⟨f1, e1, h1⟩ := m_lk2 (g := g) (m := m) (s := s) (t := t) (a := a) (N := N) (V := lkV T C r w tt tp sn) hN B H S hr (show w < W by omega) (K := fun h l0 l1 l2 l3 => fX6_look_L39 N K n h l0 l1 l2 (l3 + 1)) N (T r) 0 (lkA T C r w tt tp sn) f (by omega) (by omega) hf
      obtain ⟨f2, e2, h2⟩ := ih d (w + 1) f1 (by omega) (by omega) h1
      refine ⟨f2, ?_, h2⟩
      refine e1.trans ?_
      rw [nI_1]
      exact e2
theorem m_lk4 (B : okB R W P T C) (H : mB s a R W P T C) {r all : Nat} {V : Nat → Nat} {f : Nat → Int32} (hr : r < R) (hall : all < 2 ^ 30) (hV : ∀ i, V i ≤ all) (hf : ∀ i, i < T r → f i = nI (V i)) {α : Type} {K : Hp → Int32 → Option α} : ∀ (n d j : Nat), j + d = T r → d < n → fX6_look_L152 N K n (mH g m s t (ua a 15 f)) (some m) (nI r) (nI all) (selL all V j).1 (nI (selL all V j).2) (nI j) = K (mH g m s t (ua a 15 f)) (selL all V (T r)).1 := by
  have hR := B.1
  have hT := B.2.2.2.1 r hr
  intro n
  induction n with
  | zero => intro d j _ h; omega
  | succ n ih =>
    intro d j hj hd
    have H' := mB_ua (k := 15) (f := f) H (by omega)
    rw [fX6_look_L152]
    simp (disch := omega) only [mh_O, mh_gJ, mh_pJ, mh_gI0, mh_gI1, mh_gI2, mh_gI5, mh_gI6, mh_gI9, mh_gI14, mh_gI15, mh_gI16, mh_gI17, mh_gI18, mh_gI19, mh_gI24, mh_pI0, mh_pI1, mh_pI2, mh_pI5, mh_pI6, mh_pI9, mh_pI14, mh_pI15, mh_pI16, mh_pI17, mh_pI18, mh_pI19, mh_pI24, mh_gA3, mh_gA4, mh_gA7, mh_gA8, mh_gA10, mh_gA11, mh_gA13, mh_gA20, mh_gA21, mh_gA22, mh_gA23, mh_gA25, mh_gA26, mh_gA27, mh_gA28, mh_gA29, mh_rd1, mh_rd2, mh_rd3, mh_rd4, mh_rd5, mh_rd6, mh_rd7, mh_rd8, mh_rd9, mh_rd10, mh_rd11, mh_rd12, mh_rd13, mh_rd14, mh_rd15, mh_rd16, mh_wr1, mh_wr2, mh_wr3, mh_wr4, mh_wr5, mh_wr6, mh_wr7, mh_wr8, mh_wr9, mh_wr10, mh_wr11, mh_wr12, mh_wr13, mh_wr14, mh_wr15, mh_wr16, Option.bind_some, Option.bind_none, ↓reduceIte, if_true, if_false, H'.2.2.2.1 r hr]
    cases d with
    | zero => rw [if_pos (nI_le (by omega) (by omega)), show j = T r by omega]
    | succ d =>
      have ih' := ih d (j + 1) (by omega) (by omega)
      have hv := hV j
      have hl := selL_le all V j
      rw [if_neg (nI_ge (by omega) (by omega))]
      simp (disch := omega) only [mh_O, mh_gJ, mh_pJ, mh_gI0, mh_gI1, mh_gI2, mh_gI5, mh_gI6, mh_gI9, mh_gI14, mh_gI15, mh_gI16, mh_gI17, mh_gI18, mh_gI19, mh_gI24, mh_pI0, mh_pI1, mh_pI2, mh_pI5, mh_pI6, mh_pI9, mh_pI14, mh_pI15, mh_pI16, mh_pI17, mh_pI18, mh_pI19, mh_pI24, mh_gA3, mh_gA4, mh_gA7, mh_gA8, mh_gA10, mh_gA11, mh_gA13, mh_gA20, mh_gA21, mh_gA22, mh_gA23, mh_gA25, mh_gA26, mh_gA27, mh_gA28, mh_gA29, mh_rd1, mh_rd2, mh_rd3, mh_rd4, mh_rd5, mh_rd6, mh_rd7, mh_rd8, mh_rd9, mh_rd10, mh_rd11, mh_rd12, mh_rd13, mh_rd14, mh_rd15, mh_rd16, mh_wr1, mh_wr2, mh_wr3, mh_wr4, mh_wr5, mh_wr6, mh_wr7, mh_wr8, mh_wr9, mh_wr10, mh_wr11, mh_wr12, mh_wr13, mh_wr14, mh_wr15, mh_wr16, Option.bind_some, Option.bind_none, ↓reduceIte, if_true, if_false, ua_s, hf j (by omega), pk_sub, nI_leI]
      have key : ∀ more : Nat, more = max (V j) (all - V j) → fX6_look_j201 N (fX6_look_L152 N K n) (mH g m s t (ua a 15 f)) (some m) (nI r) (nI all) (selL all V j).1 (nI (selL all V j).2) (nI j) (nI more) = K (mH g m s t (ua a 15 f)) (selL all V (T r)).1 := by
        intro more hm
        have hml : more ≤ all := by omega
        simp (disch := omega) only [fX6_look_j201, fX6_look_j216, nI_leI, nI_1]
        by_cases c : more < (selL all V j).2
        · rw [if_neg (by omega), if_neg (by omega)]
          rw [show selL all V (j + 1) = (nI j, max (V j) (all - V j)) from if_pos (by rw [← hm]; exact c), ← hm] at ih'
          exact ih'
        · rw [if_pos (by omega), if_pos (by omega)]
          rw [show selL all V (j + 1) = selL all V j from if_neg (by rw [← hm]; exact c)] at ih'
          exact ih'
      by_cases c : V j ≤ all - V j
      · rw [if_pos c]
        exact key _ (by omega)
      · rw [if_neg c]
        exact key _ (by omega)
theorem m_look (hN : 2000 ≤ N) (B : okB R W P T C) (H : mB s a R W P T C) (S : mS s a sn tt tp) {r : Nat} (hr : r < R) : ∃ f', fX6_look N (mH g m s t a) (some m) (nI r) = some ((selL (lkA T C r W tt tp sn) (lkV T C r W tt tp sn) (T r)).1, mH g m s t (ua a 15 f')) := by
  have hR := B.1
  have hW := B.2.1
  have hT := B.2.2.2.1 r hr
  have hA : lkA T C r W tt tp sn ≤ T r * W := sumN_le (fun w => cnt_le _ _) W
  have hA2 : T r * W ≤ 120 * 6 := Nat.mul_le_mul (by omega) hW
  obtain ⟨f1, e1, h1⟩ := m_lk0 (g := g) (m := m) (s := s) (t := t) (a := a) (N := N) (A := 0) B H hr (K := (fun h l0 l1 l2 =>
          fX6_look_L39 N
            (fun h l0 l1 l2 =>
              fX6_look_L152 N
                (fun h l3 =>
                  some (l3, h))
                N h l0 l1 l2 (-9 : Int32) l2 (0 : Int32))
            N h l0 l1 l2 (0 : Int32))) N (T r) 0 (a 15) (by omega) (by omega) (fun i hi => by omega)
  obtain ⟨f2, e2, h2⟩ := m_lk3 (g := g) (m := m) (s := s) (t := t) (a := a) (N := N) hN B H S hr (K := (fun h l0 l1 l2 =>
              fX6_look_L152 N
                (fun h l3 =>
                  some (l3, h))
                N h l0 l1 l2 (-9 : Int32) l2 (0 : Int32))) N W 0 f1 (by omega) (by omega) h1
  have e3 := m_lk4 (g := g) (m := m) (s := s) (t := t) (a := a) (N := N) (V := lkV T C r W tt tp sn) (all := lkA T C r W tt tp sn) (f := f2) B H hr (by omega) (fun i => lkV_le) h2 (K := (fun h l3 => some (l3, h))) N (T r) 0 (by omega) (by omega)
  refine ⟨f2, ?_⟩
  rw [ua_id] at e1
  simp only [fX6_look, mh_O, mh_gJ, mh_pJ, mh_gI0, mh_gI1, mh_gI2, mh_gI5, mh_gI6, mh_gI9, mh_gI14, mh_gI15, mh_gI16, mh_gI17, mh_gI18, mh_gI19, mh_gI24, mh_pI0, mh_pI1, mh_pI2, mh_pI5, mh_pI6, mh_pI9, mh_pI14, mh_pI15, mh_pI16, mh_pI17, mh_pI18, mh_pI19, mh_pI24, mh_gA3, mh_gA4, mh_gA7, mh_gA8, mh_gA10, mh_gA11, mh_gA13, mh_gA20, mh_gA21, mh_gA22, mh_gA23, mh_gA25, mh_gA26, mh_gA27, mh_gA28, mh_gA29, Option.bind_some, Option.bind_none, ↓reduceIte, if_true, if_false, m_isRing_y H.1 hR hr]
  rw [if_neg (by decide)]
  exact e1.trans (e2.trans e3)
end MHH
