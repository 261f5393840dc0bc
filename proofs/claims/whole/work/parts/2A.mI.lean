/-- the note of how it is now, flat -/
def curF (s : Nat → Int32) (a : Nat → Nat → Int32) (i : Nat) : Int32 := if i = 0 then s 5 else if i = 1 then s 6 else if i < 6 then a 3 (i - 2) else a 4 (i - 6)
def nF (f : Nat → Int32) (P : Nat) (φ : Nat → Nat) : Prop := f 0 = nI (φ 0) ∧ f 1 = nI (φ 1) ∧ (∀ p, p < P → f (2 + p) = nI (φ (2 + p))) ∧ ∀ q, q < 6 * φ 1 → f (6 + q) = nI (φ (6 + q))
theorem nF_cur {s : Nat → Int32} {a : Nat → Nat → Int32} {P : Nat} {φ : Nat → Nat} (hP : P ≤ 4) (h : mN s a P φ) : nF (curF s a) P φ := by
  obtain ⟨h1, h2, h3, h4⟩ := h
  refine ⟨h1, h2, fun p hp => ?_, fun q hq => ?_⟩
  · unfold curF
    rw [if_neg (by omega), if_neg (by omega), if_pos (by omega), show 2 + p - 2 = p by omega]
    exact h3 p hp
  · unfold curF
    rw [if_neg (by omega), if_neg (by omega), if_neg (by omega), show 6 + q - 6 = q by omega]
    exact h4 q hq
theorem nF_congr {f f' : Nat → Int32} {P : Nat} {φ : Nat → Nat} (hP : P ≤ 4) (hφ : φ 1 ≤ 12) (h : nF f P φ) (e : ∀ i, i < 78 → f' i = f i) : nF f' P φ := by
  obtain ⟨h1, h2, h3, h4⟩ := h
  exact ⟨by rw [e 0 (by omega)]; exact h1, by rw [e 1 (by omega)]; exact h2, fun p hp => by rw [e _ (by omega)]; exact h3 p hp, fun q hq => by rw [e _ (by omega)]; exact h4 q hq⟩
section MI
variable {g : Hp} {m : Nat} {s : Nat → Int32} {t : Int64} {a : Nat → Nat → Int32} {N : Nat}
theorem m_ly1 {k o : Nat} (hk : 5 ≤ k) (hk2 : k ≤ 16) (ho : o + 78 ≤ mLen k) (hM : mLen k ≤ 2000) {α : Type} {K : Hp → Option Nat → Option Nat → Int32 → Option α} : ∀ (n d p : Nat) (f : Nat → Int32), p + d = 4 → d < n → ∃ f', fX6_lays_L18 N K n (mH g m s t (ua a k f)) (some m) (some (m + k)) (nI o) (nI p) = K (mH g m s t (ua a k f')) (some m) (some (m + k)) (nI o) ∧ ∀ i, f' i = if o + 2 + p ≤ i ∧ i < o + 6 then a 3 (i - (o + 2)) else f i := by
  intro n
  induction n with
  | zero => intro d p f _ h; omega
  | succ n ih =>
    intro d p f hp hd
    rw [fX6_lays_L18]
    cases d with
    | zero =>
      refine ⟨f, ?_, fun i => by rw [if_neg (by omega)]⟩
      rw [i_4, if_pos (nI_le (by omega) (by omega))]
    | succ d =>
      rw [i_4, if_neg (nI_ge (by omega) (by omega))]
      simp (disch := omega) only [mh_O, mh_gJ, mh_pJ, mh_gI0, mh_gI1, mh_gI2, mh_gI5, mh_gI6, mh_gI9, mh_gI14, mh_gI15, mh_gI16, mh_gI17, mh_gI18, mh_gI19, mh_gI24, mh_pI0, mh_pI1, mh_pI2, mh_pI5, mh_pI6, mh_pI9, mh_pI14, mh_pI15, mh_pI16, mh_pI17, mh_pI18, mh_pI19, mh_pI24, mh_gA3, mh_gA4, mh_gA7, mh_gA8, mh_gA10, mh_gA11, mh_gA13, mh_gA20, mh_gA21, mh_gA22, mh_gA23, mh_gA25, mh_gA26, mh_gA27, mh_gA28, mh_gA29, mh_rd1, mh_rd2, mh_rd3, mh_rd4, mh_rd5, mh_rd6, mh_rd7, mh_rd8, mh_rd9, mh_rd10, mh_rd11, mh_rd12, mh_rd13, mh_rd14, mh_rd15, mh_rd16, mh_wr1, mh_wr2, mh_wr3, mh_wr4, mh_wr5, mh_wr6, mh_wr7, mh_wr8, mh_wr9, mh_wr10, mh_wr11, mh_wr12, mh_wr13, mh_wr14, mh_wr15, mh_wr16, Option.bind_some, Option.bind_none, ↓reduceIte, if_true, if_false, mh_wr, i_2, nI_add, nI_1, ua_s, ua_n, ua_ua]
      obtain ⟨f1, e1, h1⟩ := ih d (p + 1) (upd f (o + 2 + p) (a 3 p)) (by omega) (by omega)
      refine ⟨f1, e1, fun i => ?_⟩
      rw [h1 i]
      by_cases c : o + 2 + (p + 1) ≤ i ∧ i < o + 6
      · rw [if_pos c, if_pos (by omega)]
      · rw [if_neg c]
        by_cases c2 : i = o + 2 + p
        · rw [c2, pk_us, if_pos (by omega), show o + 2 + p - (o + 2) = p by omega]
        · rw [pk_un c2, if_neg (by omega)]
theorem m_ly2 {k o : Nat} (hk : 5 ≤ k) (hk2 : k ≤ 16) (ho : o + 78 ≤ mLen k) (hM : mLen k ≤ 2000) {α : Type} {K : Hp → Option α} : ∀ (n d p : Nat) (f : Nat → Int32), p + d = 72 → d < n → ∃ f', fX6_lays_L44 N K n (mH g m s t (ua a k f)) (some m) (some (m + k)) (nI o) (nI p) = K (mH g m s t (ua a k f')) ∧ ∀ i, f' i = if o + 6 + p ≤ i ∧ i < o + 78 then a 4 (i - (o + 6)) else f i := by
  intro n
  induction n with
  | zero => intro d p f _ h; omega
  | succ n ih =>
    intro d p f hp hd
    rw [fX6_lays_L44]
    cases d with
    | zero =>
      refine ⟨f, ?_, fun i => by rw [if_neg (by omega)]⟩
      rw [i_72, if_pos (nI_le (by omega) (by omega))]
    | succ d =>
      rw [i_72, if_neg (nI_ge (by omega) (by omega))]
      simp (disch := omega) only [mh_O, mh_gJ, mh_pJ, mh_gI0, mh_gI1, mh_gI2, mh_gI5, mh_gI6, mh_gI9, mh_gI14, mh_gI15, mh_gI16, mh_gI17, mh_gI18, mh_gI19, mh_gI24, mh_pI0, mh_pI1, mh_pI2, mh_pI5, mh_pI6, mh_pI9, mh_pI14, mh_pI15, mh_pI16, mh_pI17, mh_pI18, mh_pI19, mh_pI24, mh_gA3, mh_gA4, mh_gA7, mh_gA8, mh_gA10, mh_gA11, mh_gA13, mh_gA20, mh_gA21, mh_gA22, mh_gA23, mh_gA25, mh_gA26, mh_gA27, mh_gA28, mh_gA29, mh_rd1, mh_rd2, mh_rd3, mh_rd4, mh_rd5, mh_rd6, mh_rd7, mh_rd8, mh_rd9, mh_rd10, mh_rd11, mh_rd12, mh_rd13, mh_rd14, mh_rd15, mh_rd16, mh_wr1, mh_wr2, mh_wr3, mh_wr4, mh_wr5, mh_wr6, mh_wr7, mh_wr8, mh_wr9, mh_wr10, mh_wr11, mh_wr12, mh_wr13, mh_wr14, mh_wr15, mh_wr16, Option.bind_some, Option.bind_none, ↓reduceIte, if_true, if_false, mh_wr, i_6, nI_add, nI_1, ua_s, ua_n, ua_ua]
      obtain ⟨f1, e1, h1⟩ := ih d (p + 1) (upd f (o + 6 + p) (a 4 p)) (by omega) (by omega)
      refine ⟨f1, e1, fun i => ?_⟩
      rw [h1 i]
      by_cases c : o + 6 + (p + 1) ≤ i ∧ i < o + 78
      · rw [if_pos c, if_pos (by omega)]
      · rw [if_neg c]
        by_cases c2 : i = o + 6 + p
        · rw [c2, pk_us, if_pos (by omega), show o + 6 + p - (o + 6) = p by omega]
        · rw [pk_un c2, if_neg (by omega)]
theorem m_lays (hN : 2000 ≤ N) {k o : Nat} (hk : 5 ≤ k) (hk2 : k ≤ 16) (ho : o + 78 ≤ mLen k) (hM : mLen k ≤ 2000) : ∃ f', fX6_lays N (mH g m s t a) (some m) (some (m + k)) (nI o) = some (mH g m s t (ua a k f')) ∧ ∀ i, f' i = if o ≤ i ∧ i < o + 78 then curF s a (i - o) else a k i := by
  simp (disch := omega) only [fX6_lays, mh_O, mh_gJ, mh_pJ, mh_gI0, mh_gI1, mh_gI2, mh_gI5, mh_gI6, mh_gI9, mh_gI14, mh_gI15, mh_gI16, mh_gI17, mh_gI18, mh_gI19, mh_gI24, mh_pI0, mh_pI1, mh_pI2, mh_pI5, mh_pI6, mh_pI9, mh_pI14, mh_pI15, mh_pI16, mh_pI17, mh_pI18, mh_pI19, mh_pI24, mh_gA3, mh_gA4, mh_gA7, mh_gA8, mh_gA10, mh_gA11, mh_gA13, mh_gA20, mh_gA21, mh_gA22, mh_gA23, mh_gA25, mh_gA26, mh_gA27, mh_gA28, mh_gA29, mh_rd1, mh_rd2, mh_rd3, mh_rd4, mh_rd5, mh_rd6, mh_rd7, mh_rd8, mh_rd9, mh_rd10, mh_rd11, mh_rd12, mh_rd13, mh_rd14, mh_rd15, mh_rd16, mh_wr1, mh_wr2, mh_wr3, mh_wr4, mh_wr5, mh_wr6, mh_wr7, mh_wr8, mh_wr9, mh_wr10, mh_wr11, mh_wr12, mh_wr13, mh_wr14, mh_wr15, mh_wr16, Option.bind_some, Option.bind_none, ↓reduceIte, if_true, if_false, mh_wr, nI_1, ua_s, ua_ua]
  obtain ⟨f1, e1, h1⟩ := m_ly1 (g := g) (m := m) (s := s) (t := t) (a := a) (N := N) hk hk2 ho hM (K := fun h l0 l1 l2 => fX6_lays_L44 N (fun h => some h) N h l0 l1 l2 (0 : Int32)) N 4 0 (upd (upd (a k) o (s 5)) (o + 1) (s 6)) (by omega) (by omega)
  obtain ⟨f2, e2, h2⟩ := m_ly2 (g := g) (m := m) (s := s) (t := t) (a := a) (N := N) hk hk2 ho hM (K := fun h => some h) N 72 0 f1 (by omega) (by omega)
  refine ⟨f2, e1.trans e2, fun i => ?_⟩
  rw [h2 i]
  unfold curF
  by_cases c : o + 6 + 0 ≤ i ∧ i < o + 78
  · rw [if_pos c, if_pos (by omega), if_neg (by omega), if_neg (by omega), if_neg (by omega), show i - (o + 6) = i - o - 6 by omega]
  · rw [if_neg c, h1 i]
    by_cases c2 : o + 2 + 0 ≤ i ∧ i < o + 6
    · rw [if_pos c2, if_pos (by omega), if_neg (by omega), if_neg (by omega), if_pos (by omega), show i - (o + 2) = i - o - 2 by omega]
    · rw [if_neg c2]
      by_cases c3 : i = o + 1
      · rw [c3, pk_us, if_pos (by omega), if_neg (by omega), if_pos (by omega)]
      · rw [pk_un c3]
        by_cases c4 : i = o
        · rw [c4, pk_us, if_pos (by omega), if_pos (by omega)]
        · rw [pk_un c4, if_neg (by omega)]
theorem m_tk1 {k o : Nat} (hk : 5 ≤ k) (hk2 : k ≤ 16) (ho : o + 78 ≤ mLen k) (hM : mLen k ≤ 2000) {α : Type} {K : Hp → Option Nat → Option Nat → Int32 → Option α} : ∀ (n d p : Nat) (f : Nat → Int32), p + d = 4 → d < n → (∀ i, i < p → f i = a k (o + 2 + i)) → ∃ f', fX6_takes_L18 N K n (mH g m s t (ua a 3 f)) (some m) (some (m + k)) (nI o) (nI p) = K (mH g m s t (ua a 3 f')) (some m) (some (m + k)) (nI o) ∧ ∀ i, i < 4 → f' i = a k (o + 2 + i) := by
  intro n
  induction n with
  | zero => intro d p f _ h; omega
  | succ n ih =>
    intro d p f hp hd hf
    rw [fX6_takes_L18]
    cases d with
    | zero =>
      refine ⟨f, ?_, fun i hi => hf i (by omega)⟩
      rw [i_4, if_pos (nI_le (by omega) (by omega))]
    | succ d =>
      rw [i_4, if_neg (nI_ge (by omega) (by omega))]
      simp (disch := omega) only [mh_O, mh_gJ, mh_pJ, mh_gI0, mh_gI1, mh_gI2, mh_gI5, mh_gI6, mh_gI9, mh_gI14, mh_gI15, mh_gI16, mh_gI17, mh_gI18, mh_gI19, mh_gI24, mh_pI0, mh_pI1, mh_pI2, mh_pI5, mh_pI6, mh_pI9, mh_pI14, mh_pI15, mh_pI16, mh_pI17, mh_pI18, mh_pI19, mh_pI24, mh_gA3, mh_gA4, mh_gA7, mh_gA8, mh_gA10, mh_gA11, mh_gA13, mh_gA20, mh_gA21, mh_gA22, mh_gA23, mh_gA25, mh_gA26, mh_gA27, mh_gA28, mh_gA29, mh_rd1, mh_rd2, mh_rd3, mh_rd4, mh_rd5, mh_rd6, mh_rd7, mh_rd8, mh_rd9, mh_rd10, mh_rd11, mh_rd12, mh_rd13, mh_rd14, mh_rd15, mh_rd16, mh_wr1, mh_wr2, mh_wr3, mh_wr4, mh_wr5, mh_wr6, mh_wr7, mh_wr8, mh_wr9, mh_wr10, mh_wr11, mh_wr12, mh_wr13, mh_wr14, mh_wr15, mh_wr16, Option.bind_some, Option.bind_none, ↓reduceIte, if_true, if_false, mh_rd, i_2, nI_add, nI_1, ua_s, ua_n, ua_ua]
      refine ih d (p + 1) _ (by omega) (by omega) (fun i hi => ?_)
      by_cases c2 : i = p
      · rw [c2, pk_us]
      · rw [pk_un c2]; exact hf i (by omega)
theorem m_tk2 {k o : Nat} (hk : 5 ≤ k) (hk2 : k ≤ 16) (ho : o + 78 ≤ mLen k) (hM : mLen k ≤ 2000) {α : Type} {K : Hp → Option α} : ∀ (n d p : Nat) (f : Nat → Int32), p + d = 72 → d < n → (∀ i, i < p → f i = a k (o + 6 + i)) → ∃ f', fX6_takes_L44 N K n (mH g m s t (ua a 4 f)) (some m) (some (m + k)) (nI o) (nI p) = K (mH g m s t (ua a 4 f')) ∧ ∀ i, i < 72 → f' i = a k (o + 6 + i) := by
  intro n
  induction n with
  | zero => intro d p f _ h; omega
  | succ n ih =>
    intro d p f hp hd hf
    rw [fX6_takes_L44]
    cases d with
    | zero =>
      refine ⟨f, ?_, fun i hi => hf i (by omega)⟩
      rw [i_72, if_pos (nI_le (by omega) (by omega))]
    | succ d =>
      rw [i_72, if_neg (nI_ge (by omega) (by omega))]
      simp (disch := omega) only [mh_O, mh_gJ, mh_pJ, mh_gI0, mh_gI1, mh_gI2, mh_gI5, mh_gI6, mh_gI9, mh_gI14, mh_gI15, mh_gI16, mh_gI17, mh_gI18, mh_gI19, mh_gI24, mh_pI0, mh_pI1, mh_pI2, mh_pI5, mh_pI6, mh_pI9, mh_pI14, mh_pI15, mh_pI16, mh_pI17, mh_pI18, mh_pI19, mh_pI24, mh_gA3, mh_gA4, mh_gA7, mh_gA8, mh_gA10, mh_gA11, mh_gA13, mh_gA20, mh_gA21, mh_gA22, mh_gA23, mh_gA25, mh_gA26, mh_gA27, mh_gA28, mh_gA29, mh_rd1, mh_rd2, mh_rd3, mh_rd4, mh_rd5, mh_rd6, mh_rd7, mh_rd8, mh_rd9, mh_rd10, mh_rd11, mh_rd12, mh_rd13, mh_rd14, mh_rd15, mh_rd16, mh_wr1, mh_wr2, mh_wr3, mh_wr4, mh_wr5, mh_wr6, mh_wr7, mh_wr8, mh_wr9, mh_wr10, mh_wr11, mh_wr12, mh_wr13, mh_wr14, mh_wr15, mh_wr16, Option.bind_some, Option.bind_none, ↓reduceIte, if_true, if_false, mh_rd, i_6, nI_add, nI_1, ua_s, ua_n, ua_ua]
      refine ih d (p + 1) _ (by omega) (by omega) (fun i hi => ?_)
      by_cases c2 : i = p
      · rw [c2, pk_us]
      · rw [pk_un c2]; exact hf i (by omega)
theorem m_takes (hN : 2000 ≤ N) {k o : Nat} (hk : 5 ≤ k) (hk2 : k ≤ 16) (ho : o + 78 ≤ mLen k) (hM : mLen k ≤ 2000) : ∃ f3 f4, fX6_takes N (mH g m s t a) (some m) (some (m + k)) (nI o) = some (mH g m (upd (upd s 5 (a k o)) 6 (a k (o + 1))) t (ua (ua a 3 f3) 4 f4)) ∧ (∀ i, i < 4 → f3 i = a k (o + 2 + i)) ∧ ∀ i, i < 72 → f4 i = a k (o + 6 + i) := by
  simp (disch := omega) only [fX6_takes, mh_O, mh_gJ, mh_pJ, mh_gI0, mh_gI1, mh_gI2, mh_gI5, mh_gI6, mh_gI9, mh_gI14, mh_gI15, mh_gI16, mh_gI17, mh_gI18, mh_gI19, mh_gI24, mh_pI0, mh_pI1, mh_pI2, mh_pI5, mh_pI6, mh_pI9, mh_pI14, mh_pI15, mh_pI16, mh_pI17, mh_pI18, mh_pI19, mh_pI24, mh_gA3, mh_gA4, mh_gA7, mh_gA8, mh_gA10, mh_gA11, mh_gA13, mh_gA20, mh_gA21, mh_gA22, mh_gA23, mh_gA25, mh_gA26, mh_gA27, mh_gA28, mh_gA29, mh_rd1, mh_rd2, mh_rd3, mh_rd4, mh_rd5, mh_rd6, mh_rd7, mh_rd8, mh_rd9, mh_rd10, mh_rd11, mh_rd12, mh_rd13, mh_rd14, mh_rd15, mh_rd16, mh_wr1, mh_wr2, mh_wr3, mh_wr4, mh_wr5, mh_wr6, mh_wr7, mh_wr8, mh_wr9, mh_wr10, mh_wr11, mh_wr12, mh_wr13, mh_wr14, mh_wr15, mh_wr16, Option.bind_some, Option.bind_none, ↓reduceIte, if_true, if_false, mh_rd, nI_1]
  obtain ⟨f1, e1, h1⟩ := m_tk1 (g := g) (m := m) (s := upd (upd s 5 (a k o)) 6 (a k (o + 1))) (t := t) (a := a) (N := N) hk hk2 ho hM (K := fun h l0 l1 l2 => fX6_takes_L44 N (fun h => some h) N h l0 l1 l2 (0 : Int32)) N 4 0 (a 3) (by omega) (by omega) (fun i hi => by omega)
  obtain ⟨f2, e2, h2⟩ := m_tk2 (g := g) (m := m) (s := upd (upd s 5 (a k o)) 6 (a k (o + 1))) (t := t) (a := ua a 3 f1) (N := N) hk hk2 ho hM (K := fun h => some h) N 72 0 (a 4) (by omega) (by omega) (fun i hi => by omega)
  rw [ua_id] at e1
  rw [show ua (ua a 3 f1) 4 (a 4) = ua a 3 f1 by rw [show a 4 = ua a 3 f1 4 by rw [ua_n (by omega)], ua_id]] at e2
  refine ⟨f1, f2, e1.trans e2, h1, fun i hi => ?_⟩
  rw [h2 i hi, ua_n (by omega)]
theorem m_nt1 {α : Type} {K : Hp → Option Nat → Option α} : ∀ (n d p : Nat) (f : Nat → Int32), p + d = 702 → d < n → (∀ i, i < p → f i = a 11 (i + 78)) → (∀ i, p ≤ i → f i = a 11 i) → ∃ f', fX6_notes_L11 N K n (mH g m s t (ua a 11 f)) (some m) (nI p) = K (mH g m s t (ua a 11 f')) (some m) ∧ ∀ i, i < 702 → f' i = a 11 (i + 78) := by
  intro n
  induction n with
  | zero => intro d p f _ h; omega
  | succ n ih =>
    intro d p f hp hd hf hf2
    rw [fX6_notes_L11]
    cases d with
    | zero =>
      refine ⟨f, ?_, fun i hi => hf i (by omega)⟩
      rw [i_702, if_pos (nI_le (by omega) (by omega))]
    | succ d =>
      rw [i_702, if_neg (nI_ge (by omega) (by omega))]
      simp (disch := omega) only [mh_O, mh_gJ, mh_pJ, mh_gI0, mh_gI1, mh_gI2, mh_gI5, mh_gI6, mh_gI9, mh_gI14, mh_gI15, mh_gI16, mh_gI17, mh_gI18, mh_gI19, mh_gI24, mh_pI0, mh_pI1, mh_pI2, mh_pI5, mh_pI6, mh_pI9, mh_pI14, mh_pI15, mh_pI16, mh_pI17, mh_pI18, mh_pI19, mh_pI24, mh_gA3, mh_gA4, mh_gA7, mh_gA8, mh_gA10, mh_gA11, mh_gA13, mh_gA20, mh_gA21, mh_gA22, mh_gA23, mh_gA25, mh_gA26, mh_gA27, mh_gA28, mh_gA29, mh_rd1, mh_rd2, mh_rd3, mh_rd4, mh_rd5, mh_rd6, mh_rd7, mh_rd8, mh_rd9, mh_rd10, mh_rd11, mh_rd12, mh_rd13, mh_rd14, mh_rd15, mh_rd16, mh_wr1, mh_wr2, mh_wr3, mh_wr4, mh_wr5, mh_wr6, mh_wr7, mh_wr8, mh_wr9, mh_wr10, mh_wr11, mh_wr12, mh_wr13, mh_wr14, mh_wr15, mh_wr16, Option.bind_some, Option.bind_none, ↓reduceIte, if_true, if_false, i_78, nI_add, nI_1, ua_s, ua_ua]
      refine ih d (p + 1) _ (by omega) (by omega) (fun i hi => ?_) (fun i hi => ?_)
      · by_cases c2 : i = p
        · rw [c2, pk_us]; exact hf2 _ (by omega)
        · rw [pk_un c2]; exact hf i (by omega)
      · rw [pk_un (by omega)]; exact hf2 i (by omega)
theorem m_nt2 (hN : 2000 ≤ N) {U : Nat} (hU : s 24 = nI U) (hU9 : U ≤ 9) : ∃ f', fX6_notes_j49 N (mH g m s t a) (some m) = some (mH g m (upd s 24 (nI (U + 1))) t (ua a 11 f')) ∧ ∀ i, f' i = if 78 * U ≤ i ∧ i < 78 * U + 78 then curF s a (i - 78 * U) else a 11 i := by
  obtain ⟨f1, e1, h1⟩ := m_lays (g := g) (m := m) (s := s) (t := t) (a := a) hN (k := 11) (o := 78 * U) (by omega) (by omega) (show 78 * U + 78 ≤ 780 by omega) (show 780 ≤ 2000 by omega)
  refine ⟨f1, ?_, h1⟩
  simp only [fX6_notes_j49, mh_O, mh_gJ, mh_pJ, mh_gI0, mh_gI1, mh_gI2, mh_gI5, mh_gI6, mh_gI9, mh_gI14, mh_gI15, mh_gI16, mh_gI17, mh_gI18, mh_gI19, mh_gI24, mh_pI0, mh_pI1, mh_pI2, mh_pI5, mh_pI6, mh_pI9, mh_pI14, mh_pI15, mh_pI16, mh_pI17, mh_pI18, mh_pI19, mh_pI24, mh_gA3, mh_gA4, mh_gA7, mh_gA8, mh_gA10, mh_gA11, mh_gA13, mh_gA20, mh_gA21, mh_gA22, mh_gA23, mh_gA25, mh_gA26, mh_gA27, mh_gA28, mh_gA29, Option.bind_some, Option.bind_none, ↓reduceIte, if_true, if_false, hU, i_78, pk_mul, e1, nI_1]
theorem m_notes (hN : 2000 ≤ N) {U : Nat} (hU : s 24 = nI U) (hU10 : U ≤ 10) : ∃ s' f' V d, V + d = U ∧ d ≤ 1 ∧ V ≤ 9 ∧ V + 1 = min (U + 1) 10 ∧ fX6_notes N (mH g m s t a) (some m) = some (mH g m s' t (ua a 11 f')) ∧ s' 24 = nI (V + 1) ∧ (∀ j, j ≠ 24 → s' j = s j) ∧ (∀ j i, j < V → i < 78 → f' (78 * j + i) = a 11 (78 * (j + d) + i)) ∧ ∀ i, i < 78 → f' (78 * V + i) = curF s a i := by
  by_cases c : U = 10
  · subst c
    obtain ⟨f1, e1, h1⟩ := m_nt1 (g := g) (m := m) (s := s) (t := t) (a := a) (N := N) (K := fun h l0 => (gI h l0 6 24).bind fun v41 => (pV h l0 6 24 (.int (v41 - (1 : Int32)))).bind fun h46 => fX6_notes_j49 N h46 l0) N 702 0 (a 11) (by omega) (by omega) (fun i hi => by omega) (fun i hi => rfl)
    obtain ⟨f2, e2, h2⟩ := m_nt2 (g := g) (m := m) (s := upd s 24 (nI 9)) (t := t) (a := ua a 11 f1) hN (U := 9) pk_us (by omega)
    refine ⟨upd (upd s 24 (nI 9)) 24 (nI (9 + 1)), f2, 9, 1, rfl, by omega, by omega, rfl, ?_, pk_us, fun j hj => ?_, fun j i hj hi => ?_, fun i hi => ?_⟩
    · rw [ua_id] at e1
      simp only [fX6_notes, mh_O, mh_gJ, mh_pJ, mh_gI0, mh_gI1, mh_gI2, mh_gI5, mh_gI6, mh_gI9, mh_gI14, mh_gI15, mh_gI16, mh_gI17, mh_gI18, mh_gI19, mh_gI24, mh_pI0, mh_pI1, mh_pI2, mh_pI5, mh_pI6, mh_pI9, mh_pI14, mh_pI15, mh_pI16, mh_pI17, mh_pI18, mh_pI19, mh_pI24, mh_gA3, mh_gA4, mh_gA7, mh_gA8, mh_gA10, mh_gA11, mh_gA13, mh_gA20, mh_gA21, mh_gA22, mh_gA23, mh_gA25, mh_gA26, mh_gA27, mh_gA28, mh_gA29, Option.bind_some, Option.bind_none, ↓reduceIte, if_true, if_false, hU]
      rw [if_pos (show nI 10 = 10 from rfl)]
      refine e1.trans ?_
      simp only [mh_O, mh_gJ, mh_pJ, mh_gI0, mh_gI1, mh_gI2, mh_gI5, mh_gI6, mh_gI9, mh_gI14, mh_gI15, mh_gI16, mh_gI17, mh_gI18, mh_gI19, mh_gI24, mh_pI0, mh_pI1, mh_pI2, mh_pI5, mh_pI6, mh_pI9, mh_pI14, mh_pI15, mh_pI16, mh_pI17, mh_pI18, mh_pI19, mh_pI24, mh_gA3, mh_gA4, mh_gA7, mh_gA8, mh_gA10, mh_gA11, mh_gA13, mh_gA20, mh_gA21, mh_gA22, mh_gA23, mh_gA25, mh_gA26, mh_gA27, mh_gA28, mh_gA29, Option.bind_some, Option.bind_none, ↓reduceIte, if_true, if_false, hU]
      rw [show nI 10 - 1 = nI 9 from rfl, e2, ua_ua]
    · rw [pk_un hj, pk_un hj]
    · rw [h2, if_neg (by omega), ua_s, h1 _ (by omega), show 78 * j + i + 78 = 78 * (j + 1) + i by omega]
    · rw [h2, if_pos (by omega), show 78 * 9 + i - 78 * 9 = i by omega]
      unfold curF
      rw [pk_un (by omega), pk_un (by omega), ua_n (by omega), ua_n (by omega)]
  · obtain ⟨f2, e2, h2⟩ := m_nt2 (g := g) (m := m) (s := s) (t := t) (a := a) hN hU (by omega)
    refine ⟨upd s 24 (nI (U + 1)), f2, U, 0, rfl, by omega, by omega, by omega, ?_, pk_us, fun j hj => pk_un hj, fun j i hj hi => ?_, fun i hi => ?_⟩
    · simp only [fX6_notes, mh_O, mh_gJ, mh_pJ, mh_gI0, mh_gI1, mh_gI2, mh_gI5, mh_gI6, mh_gI9, mh_gI14, mh_gI15, mh_gI16, mh_gI17, mh_gI18, mh_gI19, mh_gI24, mh_pI0, mh_pI1, mh_pI2, mh_pI5, mh_pI6, mh_pI9, mh_pI14, mh_pI15, mh_pI16, mh_pI17, mh_pI18, mh_pI19, mh_pI24, mh_gA3, mh_gA4, mh_gA7, mh_gA8, mh_gA10, mh_gA11, mh_gA13, mh_gA20, mh_gA21, mh_gA22, mh_gA23, mh_gA25, mh_gA26, mh_gA27, mh_gA28, mh_gA29, Option.bind_some, Option.bind_none, ↓reduceIte, if_true, if_false, hU]
      rw [if_neg (show ¬ nI U = 10 from fun z => c ((nI_eq (b := 10) (by omega) (by omega)).mp z)), e2]
    · rw [h2, if_neg (by omega)]; rfl
    · rw [h2, if_pos (by omega), show 78 * U + i - 78 * U = i by omega]
end MI
