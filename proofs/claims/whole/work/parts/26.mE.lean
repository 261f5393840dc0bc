/-- the first from i on, of d, or none -/
def findU (p : Nat → Bool) : Nat → Nat → Int32
  | 0, _ => -9
  | d + 1, i => if p i = true then nI i else findU p d (i + 1)
theorem findU_t {p : Nat → Bool} {d i : Nat} (h : p i = true) : findU p (d + 1) i = nI i := if_pos h
theorem findU_f {p : Nat → Bool} {d i : Nat} (h : ¬ p i = true) : findU p (d + 1) i = findU p d (i + 1) := if_neg h
/-- some bare place of those that are g apart from t on -/
def anyS (p : Nat → Bool) (g T : Nat) : Nat → Nat → Bool
  | 0, _ => false
  | f + 1, t => if t < T then p t || anyS p g T f (t + g) else false
def selS (fit : Nat → Bool) (need : Nat → Nat) : Nat → Option (Nat × Nat)
  | 0 => none
  | w + 1 => match selS fit need w with
    | none => if fit w = true then some (need w, w) else none
    | some q => if fit w = true ∧ need w < q.1 then some (need w, w) else some q
theorem selS_n1 {fit : Nat → Bool} {need : Nat → Nat} {w : Nat} (h : selS fit need w = none) (hf : fit w = true) : selS fit need (w + 1) = some (need w, w) := by simp [selS, h, hf]
theorem selS_n0 {fit : Nat → Bool} {need : Nat → Nat} {w : Nat} (h : selS fit need w = none) (hf : ¬ fit w = true) : selS fit need (w + 1) = none := by simp [selS, h, hf]
theorem selS_s1 {fit : Nat → Bool} {need : Nat → Nat} {w : Nat} {q : Nat × Nat} (h : selS fit need w = some q) (hf : fit w = true ∧ need w < q.1) : selS fit need (w + 1) = some (need w, w) := by simp [selS, h, hf]
theorem selS_s0 {fit : Nat → Bool} {need : Nat → Nat} {w : Nat} {q : Nat × Nat} (h : selS fit need w = some q) (hf : ¬ (fit w = true ∧ need w < q.1)) : selS fit need (w + 1) = some q := by
  simp only [selS, h]
  rw [if_neg hf]
def selB (q : Option (Nat × Nat)) : Int32 := match q with
  | none => -9
  | some q => nI q.2
def selF (q : Option (Nat × Nat)) (d : Int32) : Int32 := match q with
  | none => d
  | some q => nI q.1
theorem selS_le {fit : Nat → Bool} {need : Nat → Nat} {M : Nat} (h : ∀ w, need w ≤ M) : ∀ (w : Nat) (q : Nat × Nat), selS fit need w = some q → q.1 ≤ M ∧ q.2 < w := by
  intro w
  induction w with
  | zero => intro q e; cases e
  | succ w ih =>
    intro q e
    unfold selS at e
    cases hs : selS fit need w with
    | none =>
      rw [hs] at e
      dsimp only at e
      split at e
      · cases e; exact ⟨h w, by omega⟩
      · cases e
    | some q' =>
      rw [hs] at e
      dsimp only at e
      split at e
      · cases e; exact ⟨h w, by omega⟩
      · cases e
        have := ih q hs
        exact ⟨this.1, by omega⟩
/-- a tooth without a tip, as the paper lies -/
def bareT (T C φ : Nat → Nat) (r line t : Nat) : Bool := lastK (tipL T C φ line ((360 / T r * t + φ 0) % 360)) (φ 1) == -9
def needC (p : Nat → Bool) (g T : Nat) : Nat := cnt (fun q => anyS p g T 121 q) g
def fitB (T C : Nat → Nat) (r w : Nat) : Bool := decide (C w < T r)
section ME
variable {g : Hp} {m : Nat} {s : Nat → Int32} {t : Int64} {a : Nat → Nat → Int32} {N R W P : Nat} {T C φ : Nat → Nat}
theorem m_petL (hN : 2000 ≤ N) (B : okB R W P T C) (H : mB s a R W P T C) {r q : Nat} (hr : r < R) (hq : q ≤ 120) {α : Type} {K : Int32 → Option α} {K' : Option α} : ∀ (n d w : Nat), w + d = W → d < n → fX6_petals_L22 N (mH g m s t a) K K' n (some m) (nI r) (nI q) (nI w) = if findU (fun w => fitB T C r w && (T r / Nat.gcd (T r) (C w) == q)) d w = -9 then K' else K (findU (fun w => fitB T C r w && (T r / Nat.gcd (T r) (C w) == q)) d w) := by
  have hW := B.2.1
  have hT := B.2.2.2.1 r hr
  have hR := B.1
  intro n
  induction n with
  | zero => intro d w _ h; omega
  | succ n ih =>
    intro d w hw hd
    rw [fX6_petals_L22]
    simp only [mh_O, mh_gJ, mh_pJ, mh_gI0, mh_gI1, mh_gI2, mh_gI5, mh_gI6, mh_gI9, mh_gI14, mh_gI15, mh_gI16, mh_gI17, mh_gI18, mh_gI19, mh_gI24, mh_pI0, mh_pI1, mh_pI2, mh_pI5, mh_pI6, mh_pI9, mh_pI14, mh_pI15, mh_pI16, mh_pI17, mh_pI18, mh_pI19, mh_pI24, mh_gA3, mh_gA4, mh_gA7, mh_gA8, mh_gA10, mh_gA11, mh_gA13, mh_gA20, mh_gA21, mh_gA22, mh_gA23, mh_gA25, mh_gA26, mh_gA27, mh_gA28, mh_gA29, Option.bind_some, Option.bind_none, ↓reduceIte, if_true, if_false, H.2.1]
    cases d with
    | zero =>
      rw [if_pos (nI_le (by omega) (by omega))]
      exact (if_pos rfl).symm
    | succ d =>
      have hw' : w < W := by omega
      have hl : T r / Nat.gcd (T r) (C w) ≤ T r := Nat.div_le_self _ _
      rw [if_neg (nI_ge (by omega) (by omega)), m_fits B H hr hw']
      simp only [Option.bind_some, Option.bind_none, ↓reduceIte, if_true, if_false, m_petalsOf hN B H hr hw']
      have ih' := ih d (w + 1) (by omega) (by omega)
      by_cases c : C w < T r
      · have c1 : fitB T C r w = true := by simpa [fitB] using c
        rw [if_pos c, if_neg (by decide)]
        by_cases c2 : T r / Nat.gcd (T r) (C w) = q
        · rw [findU_t (by simp [c1, c2]), if_pos (by rw [c2]), if_neg (nI_neg9 (by omega))]
        · rw [if_neg (fun z => c2 ((nI_eq (by omega) (by omega)).mp z)), findU_f (by simp [c2]), nI_1]
          exact ih'
      · have c1 : fitB T C r w = false := by simpa [fitB] using c
        rw [if_neg c, if_pos rfl, findU_f (by simp [c1]), nI_1]
        exact ih'
/-! closes -/
theorem m_covL (hN : 2000 ≤ N) (B : okB R W P T C) (H : mB s a R W P T C) (O : okN R W P T C φ) (J : mN s a P φ) {r line : Nat} {w : Int32} (hr : r < R) (hl : line < 10) {α : Type} {K : Hp → Option Nat → Int32 → Int32 → Option α} : ∀ (n d j : Nat), j + d = T r → d < n → fX6_closes_L32 N K n (mH g m s t (ua a 13 (fillF (a 13) (fun i => bI (!bareT T C φ r line i)) j))) (some m) (nI r) (nI line) w (nI j) = K (mH g m s t (ua a 13 (fillF (a 13) (fun i => bI (!bareT T C φ r line i)) (T r)))) (some m) (nI r) w := by
  have hT := B.2.2.2.1 r hr
  have hR := B.1
  have hd3 := dv_360 hT.2.2 hT.1 hT.2.1
  have hφ := O.1
  have e0 : ¬ nI (T r) = 0 := nI_ne0 (by omega) (by omega)
  intro n
  induction n with
  | zero => intro d j _ h; omega
  | succ n ih =>
    intro d j hj hd
    have H' := mB_ua (k := 13) (f := fillF (a 13) (fun i => bI (!bareT T C φ r line i)) j) H (by omega)
    have J' := mN_ua (k := 13) (f := fillF (a 13) (fun i => bI (!bareT T C φ r line i)) j) J (by omega)
    rw [fX6_closes_L32]
    simp (disch := omega) only [mh_O, mh_gJ, mh_pJ, mh_gI0, mh_gI1, mh_gI2, mh_gI5, mh_gI6, mh_gI9, mh_gI14, mh_gI15, mh_gI16, mh_gI17, mh_gI18, mh_gI19, mh_gI24, mh_pI0, mh_pI1, mh_pI2, mh_pI5, mh_pI6, mh_pI9, mh_pI14, mh_pI15, mh_pI16, mh_pI17, mh_pI18, mh_pI19, mh_pI24, mh_gA3, mh_gA4, mh_gA7, mh_gA8, mh_gA10, mh_gA11, mh_gA13, mh_gA20, mh_gA21, mh_gA22, mh_gA23, mh_gA25, mh_gA26, mh_gA27, mh_gA28, mh_gA29, mh_rd1, mh_rd2, mh_rd3, mh_rd4, mh_rd5, mh_rd6, mh_rd7, mh_rd8, mh_rd9, mh_rd10, mh_rd11, mh_rd12, mh_rd13, mh_rd14, mh_rd15, mh_rd16, mh_wr1, mh_wr2, mh_wr3, mh_wr4, mh_wr5, mh_wr6, mh_wr7, mh_wr8, mh_wr9, mh_wr10, mh_wr11, mh_wr12, mh_wr13, mh_wr14, mh_wr15, mh_wr16, Option.bind_some, Option.bind_none, ↓reduceIte, if_true, if_false, H'.2.2.2.1 r hr]
    cases d with
    | zero =>
      rw [if_pos (nI_le (by omega) (by omega)), show j = T r by omega]
    | succ d =>
      have ih' := ih d (j + 1) (by omega) (by omega)
      have hm : (360 / T r * j + φ 0) % 360 < 360 := Nat.mod_lt _ (by decide)
      have hb : 360 / T r * j ≤ 30 * 120 := Nat.mul_le_mul (by omega) (by omega)
      have e := m_shownAt (g := g) (m := m) (t := t) hN B H' O J' (pt := (360 / T r * j + φ 0) % 360) (line := line) hm hl
      rw [if_neg (nI_ge (by omega) (by omega))]
      have ep : fX6_pointOf N (mH g m s t (ua a 13 (fillF (a 13) (fun i => bI (!bareT T C φ r line i)) j))) (some m) (nI r) (nI (φ 0)) (nI j) = some (nI ((360 / T r * j + φ 0) % 360)) := by
        simp (disch := omega) only [fX6_pointOf, mh_O, mh_gJ, mh_pJ, mh_gI0, mh_gI1, mh_gI2, mh_gI5, mh_gI6, mh_gI9, mh_gI14, mh_gI15, mh_gI16, mh_gI17, mh_gI18, mh_gI19, mh_gI24, mh_pI0, mh_pI1, mh_pI2, mh_pI5, mh_pI6, mh_pI9, mh_pI14, mh_pI15, mh_pI16, mh_pI17, mh_pI18, mh_pI19, mh_pI24, mh_gA3, mh_gA4, mh_gA7, mh_gA8, mh_gA10, mh_gA11, mh_gA13, mh_gA20, mh_gA21, mh_gA22, mh_gA23, mh_gA25, mh_gA26, mh_gA27, mh_gA28, mh_gA29, mh_rd1, mh_rd2, mh_rd3, mh_rd4, mh_rd5, mh_rd6, mh_rd7, mh_rd8, mh_rd9, mh_rd10, mh_rd11, mh_rd12, mh_rd13, mh_rd14, mh_rd15, mh_rd16, mh_wr1, mh_wr2, mh_wr3, mh_wr4, mh_wr5, mh_wr6, mh_wr7, mh_wr8, mh_wr9, mh_wr10, mh_wr11, mh_wr12, mh_wr13, mh_wr14, mh_wr15, mh_wr16, Option.bind_some, Option.bind_none, ↓reduceIte, if_true, if_false, H'.2.2.2.1 r hr, e0, i_360, pk_div, pk_mul, nI_add, jrem_nI]
      simp only [J'.1, ep, Option.bind_some, Option.bind_none, ↓reduceIte, if_true, if_false, e]
      rw [← fill_s] at ih'
      by_cases c : lastK (tipL T C φ line ((360 / T r * j + φ 0) % 360)) (φ 1) = -9
      · have cb : bareT T C φ r line j = true := by simpa [bareT] using c
        rw [if_pos c]
        simp (disch := omega) only [mh_wr13, Option.bind_some, Option.bind_none, ↓reduceIte, if_true, if_false, ua_s, ua_ua, i_1, nI_add]
        rw [cb] at ih'
        exact ih'
      · have cb : bareT T C φ r line j = false := by simpa [bareT] using c
        rw [if_neg c]
        simp (disch := omega) only [mh_wr13, Option.bind_some, Option.bind_none, ↓reduceIte, if_true, if_false, ua_s, ua_ua, nI_1]
        rw [cb] at ih'
        exact ih'
theorem m_opnL (B : okB R W P T C) (H : mB s a R W P T C) {r : Nat} {p : Nat → Bool} (hr : r < R) (ha : ∀ i, i < T r → a 13 i = bI (!p i)) {α : Type} {K : Int32 → Option α} : ∀ (n d j : Nat), j + d = T r → d < n → fX6_openMany_L4 N (mH g m s t a) K n (some m) (nI r) (nI (cnt p j)) (nI j) = K (nI (cnt p (T r))) := by
  have hT := B.2.2.2.1 r hr
  have hR := B.1
  intro n
  induction n with
  | zero => intro d j _ h; omega
  | succ n ih =>
    intro d j hj hd
    rw [fX6_openMany_L4]
    simp (disch := omega) only [mh_O, mh_gJ, mh_pJ, mh_gI0, mh_gI1, mh_gI2, mh_gI5, mh_gI6, mh_gI9, mh_gI14, mh_gI15, mh_gI16, mh_gI17, mh_gI18, mh_gI19, mh_gI24, mh_pI0, mh_pI1, mh_pI2, mh_pI5, mh_pI6, mh_pI9, mh_pI14, mh_pI15, mh_pI16, mh_pI17, mh_pI18, mh_pI19, mh_pI24, mh_gA3, mh_gA4, mh_gA7, mh_gA8, mh_gA10, mh_gA11, mh_gA13, mh_gA20, mh_gA21, mh_gA22, mh_gA23, mh_gA25, mh_gA26, mh_gA27, mh_gA28, mh_gA29, mh_rd1, mh_rd2, mh_rd3, mh_rd4, mh_rd5, mh_rd6, mh_rd7, mh_rd8, mh_rd9, mh_rd10, mh_rd11, mh_rd12, mh_rd13, mh_rd14, mh_rd15, mh_rd16, mh_wr1, mh_wr2, mh_wr3, mh_wr4, mh_wr5, mh_wr6, mh_wr7, mh_wr8, mh_wr9, mh_wr10, mh_wr11, mh_wr12, mh_wr13, mh_wr14, mh_wr15, mh_wr16, Option.bind_some, Option.bind_none, ↓reduceIte, if_true, if_false, H.2.2.2.1 r hr]
    cases d with
    | zero =>
      rw [if_pos (nI_le (by omega) (by omega)), show j = T r by omega]
    | succ d =>
      have ih' := ih d (j + 1) (by omega) (by omega)
      rw [if_neg (nI_ge (by omega) (by omega))]
      simp (disch := omega) only [mh_O, mh_gJ, mh_pJ, mh_gI0, mh_gI1, mh_gI2, mh_gI5, mh_gI6, mh_gI9, mh_gI14, mh_gI15, mh_gI16, mh_gI17, mh_gI18, mh_gI19, mh_gI24, mh_pI0, mh_pI1, mh_pI2, mh_pI5, mh_pI6, mh_pI9, mh_pI14, mh_pI15, mh_pI16, mh_pI17, mh_pI18, mh_pI19, mh_pI24, mh_gA3, mh_gA4, mh_gA7, mh_gA8, mh_gA10, mh_gA11, mh_gA13, mh_gA20, mh_gA21, mh_gA22, mh_gA23, mh_gA25, mh_gA26, mh_gA27, mh_gA28, mh_gA29, mh_rd1, mh_rd2, mh_rd3, mh_rd4, mh_rd5, mh_rd6, mh_rd7, mh_rd8, mh_rd9, mh_rd10, mh_rd11, mh_rd12, mh_rd13, mh_rd14, mh_rd15, mh_rd16, mh_wr1, mh_wr2, mh_wr3, mh_wr4, mh_wr5, mh_wr6, mh_wr7, mh_wr8, mh_wr9, mh_wr10, mh_wr11, mh_wr12, mh_wr13, mh_wr14, mh_wr15, mh_wr16, Option.bind_some, Option.bind_none, ↓reduceIte, if_true, if_false, ha j (by omega), bI_0]
      cases hp : p j with
      | true =>
        rw [cnt_t hp] at ih'
        rw [if_pos (by simp)]
        simp only [i_1, nI_add]
        exact ih'
      | false =>
        rw [cnt_f (by simp [hp])] at ih'
        rw [if_neg (by simp)]
        simp only [i_1, i_0, nI_add, Nat.add_zero]
        exact ih'
theorem anyS_end {p : Nat → Bool} {g T f t : Nat} (h : T ≤ t) : anyS p g T f t = false := by
  cases f with
  | zero => rfl
  | succ f =>
    show (if t < T then p t || anyS p g T f (t + g) else false) = false
    rw [if_neg (by omega)]
theorem anyS_fuel {p : Nat → Bool} {g T : Nat} (hg : 0 < g) : ∀ (f f' t : Nat), T - t < f → T - t < f' → anyS p g T f t = anyS p g T f' t := by
  intro f
  induction f with
  | zero => intro f' t h; omega
  | succ f ih =>
    intro f' t h h'
    cases f' with
    | zero => omega
    | succ f' =>
      show (if t < T then p t || anyS p g T f (t + g) else false) = (if t < T then p t || anyS p g T f' (t + g) else false)
      by_cases c : t < T
      · rw [if_pos c, if_pos c, ih f' (t + g) (by omega) (by omega)]
      · rw [if_neg c, if_neg c]
theorem m_orsL (B : okB R W P T C) (H : mB s a R W P T C) {r gg rest : Nat} {p : Nat → Bool} {A : Int32} (hr : r < R) (hg : 0 < gg) (hg2 : gg ≤ 120) (ha : ∀ i, i < T r → a 13 i = bI (!p i)) {α : Type} {K : Option Nat → Int32 → Int32 → Int32 → Int32 → Int32 → Option α} : ∀ (n tt : Nat) (b : Bool), T r - tt < n → tt ≤ 240 → fX6_openRests_L18 N (mH g m s t a) K n (some m) (nI r) (nI gg) A (nI rest) (bI b) (nI tt) = K (some m) (nI r) (nI gg) A (nI rest) (bI (b || anyS p gg (T r) 121 tt)) := by
  have hT := B.2.2.2.1 r hr
  have hR := B.1
  intro n
  induction n with
  | zero => intro tt b h; omega
  | succ n ih =>
    intro tt b hd h2
    rw [fX6_openRests_L18]
    simp (disch := omega) only [mh_O, mh_gJ, mh_pJ, mh_gI0, mh_gI1, mh_gI2, mh_gI5, mh_gI6, mh_gI9, mh_gI14, mh_gI15, mh_gI16, mh_gI17, mh_gI18, mh_gI19, mh_gI24, mh_pI0, mh_pI1, mh_pI2, mh_pI5, mh_pI6, mh_pI9, mh_pI14, mh_pI15, mh_pI16, mh_pI17, mh_pI18, mh_pI19, mh_pI24, mh_gA3, mh_gA4, mh_gA7, mh_gA8, mh_gA10, mh_gA11, mh_gA13, mh_gA20, mh_gA21, mh_gA22, mh_gA23, mh_gA25, mh_gA26, mh_gA27, mh_gA28, mh_gA29, mh_rd1, mh_rd2, mh_rd3, mh_rd4, mh_rd5, mh_rd6, mh_rd7, mh_rd8, mh_rd9, mh_rd10, mh_rd11, mh_rd12, mh_rd13, mh_rd14, mh_rd15, mh_rd16, mh_wr1, mh_wr2, mh_wr3, mh_wr4, mh_wr5, mh_wr6, mh_wr7, mh_wr8, mh_wr9, mh_wr10, mh_wr11, mh_wr12, mh_wr13, mh_wr14, mh_wr15, mh_wr16, Option.bind_some, Option.bind_none, ↓reduceIte, if_true, if_false, H.2.2.2.1 r hr]
    by_cases c : T r ≤ tt
    · rw [if_pos (nI_le c (by omega)), anyS_end c, Bool.or_false]
    · have es : anyS p gg (T r) 121 tt = (p tt || anyS p gg (T r) 121 (tt + gg)) := by
        show (if tt < T r then p tt || anyS p gg (T r) 120 (tt + gg) else false) = _
        rw [if_pos (by omega), anyS_fuel hg 120 121 (tt + gg) (by omega) (by omega)]
      rw [if_neg (nI_ge (by omega) (by omega)), es, ← Bool.or_assoc]
      simp (disch := omega) only [mh_O, mh_gJ, mh_pJ, mh_gI0, mh_gI1, mh_gI2, mh_gI5, mh_gI6, mh_gI9, mh_gI14, mh_gI15, mh_gI16, mh_gI17, mh_gI18, mh_gI19, mh_gI24, mh_pI0, mh_pI1, mh_pI2, mh_pI5, mh_pI6, mh_pI9, mh_pI14, mh_pI15, mh_pI16, mh_pI17, mh_pI18, mh_pI19, mh_pI24, mh_gA3, mh_gA4, mh_gA7, mh_gA8, mh_gA10, mh_gA11, mh_gA13, mh_gA20, mh_gA21, mh_gA22, mh_gA23, mh_gA25, mh_gA26, mh_gA27, mh_gA28, mh_gA29, mh_rd1, mh_rd2, mh_rd3, mh_rd4, mh_rd5, mh_rd6, mh_rd7, mh_rd8, mh_rd9, mh_rd10, mh_rd11, mh_rd12, mh_rd13, mh_rd14, mh_rd15, mh_rd16, mh_wr1, mh_wr2, mh_wr3, mh_wr4, mh_wr5, mh_wr6, mh_wr7, mh_wr8, mh_wr9, mh_wr10, mh_wr11, mh_wr12, mh_wr13, mh_wr14, mh_wr15, mh_wr16, Option.bind_some, Option.bind_none, ↓reduceIte, if_true, if_false, ha tt (by omega), bI_0, nI_add]
      have ih' := ih (tt + gg) (b || p tt) (by omega) (by omega)
      cases b with
      | true =>
        rw [if_neg (by simp)]
        exact ih'
      | false =>
        rw [if_pos (by simp)]
        cases hp : p tt with
        | true =>
          rw [hp] at ih'
          rw [if_pos (by simp)]
          exact ih'
        | false =>
          rw [hp] at ih'
          rw [if_neg (by simp)]
          exact ih'
theorem m_orsLL (hN : 2000 ≤ N) (B : okB R W P T C) (H : mB s a R W P T C) {r gg : Nat} {p : Nat → Bool} (hr : r < R) (hg : 0 < gg) (hg2 : gg ≤ 120) (ha : ∀ i, i < T r → a 13 i = bI (!p i)) {α : Type} {K : Int32 → Option α} : ∀ (n d j : Nat), j + d = gg → d < n → fX6_openRests_L5 N (mH g m s t a) K n (some m) (nI r) (nI gg) (nI (cnt (fun q => anyS p gg (T r) 121 q) j)) (nI j) = K (nI (needC p gg (T r))) := by
  have hT := B.2.2.2.1 r hr
  have hR := B.1
  intro n
  induction n with
  | zero => intro d j _ h; omega
  | succ n ih =>
    intro d j hj hd
    rw [fX6_openRests_L5]
    cases d with
    | zero =>
      rw [if_pos (nI_le (by omega) (by omega)), show j = gg by omega]
      rfl
    | succ d =>
      have ih' := ih d (j + 1) (by omega) (by omega)
      rw [if_neg (nI_ge (by omega) (by omega))]
      refine (m_orsL (g := g) (m := m) (t := t) (N := N) B H (p := p) (gg := gg) (rest := j) hr hg hg2 ha N j false (by omega) (by omega)).trans ?_
      simp only [Bool.false_or, bI_0]
      by_cases c : anyS p gg (T r) 121 j = true
      · rw [cnt_t c] at ih'
        rw [if_neg (by simp [c])]
        simp only [i_1, nI_add]
        exact ih'
      · rw [cnt_f c] at ih'
        rw [if_pos c]
        simp only [i_1, i_0, nI_add, Nat.add_zero]
        exact ih'
theorem m_openRests (hN : 2000 ≤ N) (B : okB R W P T C) (H : mB s a R W P T C) {r gg : Nat} {p : Nat → Bool} (hr : r < R) (hg : 0 < gg) (hg2 : gg ≤ 120) (ha : ∀ i, i < T r → a 13 i = bI (!p i)) : fX6_openRests N (mH g m s t a) (some m) (nI r) (nI gg) = some (nI (needC p gg (T r))) := by
  simp only [fX6_openRests]
  exact m_orsLL (g := g) (m := m) (t := t) hN B H hr hg hg2 ha (K := fun l3 => some l3) N gg 0 (by omega) (by omega)
theorem needC_le {p : Nat → Bool} {gg T : Nat} : needC p gg T ≤ gg := cnt_le _ _
theorem m_selL (hN : 2000 ≤ N) (B : okB R W P T C) (H : mB s a R W P T C) {r : Nat} {p : Nat → Bool} {what : Int32} (hr : r < R) (ha : ∀ i, i < T r → a 13 i = bI (!p i)) {α : Type} {K : Hp → Int32 → Int32 → Int32 → Option α} : ∀ (n d w : Nat), w + d = W → d < n → fX6_closes_L112 N K n (mH g m s t a) (some m) (nI r) what (selB (selS (fitB T C r) (fun w => needC p (Nat.gcd (T r) (C w)) (T r)) w)) (selF (selS (fitB T C r) (fun w => needC p (Nat.gcd (T r) (C w)) (T r)) w) (nI 1048576)) (nI w) = K (mH g m s t a) what (selB (selS (fitB T C r) (fun w => needC p (Nat.gcd (T r) (C w)) (T r)) W)) (selF (selS (fitB T C r) (fun w => needC p (Nat.gcd (T r) (C w)) (T r)) W) (nI 1048576)) := by
  have hT := B.2.2.2.1 r hr
  have hR := B.1
  have hW := B.2.1
  intro n
  induction n with
  | zero => intro d w _ h; omega
  | succ n ih =>
    intro d w hw hd
    rw [fX6_closes_L112]
    simp only [mh_O, mh_gJ, mh_pJ, mh_gI0, mh_gI1, mh_gI2, mh_gI5, mh_gI6, mh_gI9, mh_gI14, mh_gI15, mh_gI16, mh_gI17, mh_gI18, mh_gI19, mh_gI24, mh_pI0, mh_pI1, mh_pI2, mh_pI5, mh_pI6, mh_pI9, mh_pI14, mh_pI15, mh_pI16, mh_pI17, mh_pI18, mh_pI19, mh_pI24, mh_gA3, mh_gA4, mh_gA7, mh_gA8, mh_gA10, mh_gA11, mh_gA13, mh_gA20, mh_gA21, mh_gA22, mh_gA23, mh_gA25, mh_gA26, mh_gA27, mh_gA28, mh_gA29, Option.bind_some, Option.bind_none, ↓reduceIte, if_true, if_false, H.2.1]
    cases d with
    | zero =>
      rw [if_pos (nI_le (by omega) (by omega)), show w = W by omega]
    | succ d =>
      have hw' : w < W := by omega
      have ih' := ih d (w + 1) (by omega) (by omega)
      have hg := gcd_in (x := T r) (y := C w) (by omega)
      rw [if_neg (nI_ge (by omega) (by omega)), m_fits B H hr hw']
      simp only [Option.bind_some, Option.bind_none, ↓reduceIte, if_true, if_false, m_commonOf hN B H hr hw', m_openRests hN B H hr hg.1 (by omega) ha]
      have hn : ∀ w, needC p (Nat.gcd (T r) (C w)) (T r) ≤ T r := fun w => Nat.le_trans needC_le (gcd_in (by omega)).2
      have hle := selS_le (fit := fitB T C r) (need := fun w => needC p (Nat.gcd (T r) (C w)) (T r)) hn w
      have hnw := hn w
      by_cases c : C w < T r
      · have c1 : fitB T C r w = true := by simpa [fitB] using c
        rw [if_pos c, if_neg (by decide)]
        simp only [fX6_closes_j148, fX6_closes_j164]
        cases hs : selS (fitB T C r) (fun w => needC p (Nat.gcd (T r) (C w)) (T r)) w with
        | none =>
          rw [selS_n1 hs c1] at ih'
          rw [show selF none (nI 1048576) = nI 1048576 from rfl, show selB none = -9 from rfl]
          rw [if_neg (nI_ge (by omega) (by omega)), if_neg (nI_ge (by omega) (by omega)), nI_1]
          exact ih'
        | some q =>
          have hq := hle q hs
          rw [show selF (some q) (nI 1048576) = nI q.1 from rfl, show selB (some q) = nI q.2 from rfl]
          by_cases c2 : needC p (Nat.gcd (T r) (C w)) (T r) < q.1
          · rw [if_neg (nI_ge (by omega) (by omega)), if_neg (nI_ge (by omega) (by omega)), nI_1]
            rw [selS_s1 hs ⟨c1, c2⟩] at ih'
            exact ih'
          · rw [if_pos (nI_le (by omega) (by omega)), if_pos (nI_le (by omega) (by omega)), nI_1]
            rw [selS_s0 hs (fun z => c2 z.2)] at ih'
            exact ih'
      · have c1 : fitB T C r w = false := by simpa [fitB] using c
        rw [if_neg c, if_pos rfl]
        simp only [fX6_closes_j148, fX6_closes_j164]
        cases hs : selS (fitB T C r) (fun w => needC p (Nat.gcd (T r) (C w)) (T r)) w with
        | none =>
          rw [selS_n0 hs (by simp [c1])] at ih'
          rw [show selF none (nI 1048576) = nI 1048576 from rfl, show selB none = -9 from rfl, i_1048576]
          rw [if_pos (nI_le (by omega) (by omega)), if_pos (nI_le (by omega) (by omega)), nI_1]
          exact ih'
        | some q =>
          have hq := hle q hs
          rw [selS_s0 hs (by simp [c1])] at ih'
          rw [show selF (some q) (nI 1048576) = nI q.1 from rfl, show selB (some q) = nI q.2 from rfl, i_1048576]
          rw [if_pos (nI_le (by omega) (by omega)), if_pos (nI_le (by omega) (by omega)), nI_1]
          exact ih'
end ME
