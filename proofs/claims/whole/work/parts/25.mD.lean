def allN (p : Nat → Bool) : Nat → Bool
  | 0 => true
  | n + 1 => allN p n && p n
theorem allN_iff {p : Nat → Bool} {n : Nat} : allN p n = true ↔ ∀ i, i < n → p i = true := by
  induction n with
  | zero => exact ⟨fun _ i h => by omega, fun _ => rfl⟩
  | succ n ih =>
    show (allN p n && p n) = true ↔ _
    rw [Bool.and_eq_true, ih]
    constructor
    · rintro ⟨h1, h2⟩ i hi
      rcases Nat.lt_or_ge i n with c | c
      · exact h1 i c
      · rw [show i = n by omega]; exact h2
    · exact fun h => ⟨fun i hi => h i (by omega), h n (by omega)⟩
theorem allN_congr {p q : Nat → Bool} {n : Nat} (h : ∀ i, i < n → p i = q i) : allN p n = allN q n := by
  induction n with
  | zero => rfl
  | succ n ih =>
    show (allN p n && p n) = (allN q n && q n)
    rw [ih (fun i hi => h i (by omega)), h n (by omega)]
def bI (b : Bool) : Int32 := if b = true then 1 else 0
theorem bI_0 (b : Bool) : bI b = 0 ↔ ¬ b = true := by cases b <;> decide
theorem bI_or (b : Bool) : bI b = 0 ∨ bI b = 1 := by cases b <;> decide
def findD (p : Nat → Bool) : Nat → Nat
  | 0 => 0
  | n + 1 => if p (n + 1) = true then n + 1 else findD p n
def fillF (f v : Nat → Int32) (q : Nat) : Nat → Int32 := fun i => if i < q then v i else f i
theorem fill_0 (f v : Nat → Int32) : fillF f v 0 = f := by funext i; simp [fillF]
theorem fill_s (f v : Nat → Int32) (q : Nat) : upd (fillF f v q) q (v q) = fillF f v (q + 1) := by
  funext i
  by_cases e : i = q
  · subst e
    rw [pk_us]
    simp [fillF]
  · rw [pk_un e]
    unfold fillF
    by_cases c : i < q
    · rw [if_pos c, if_pos (by omega)]
    · rw [if_neg c, if_neg (by omega)]
theorem fill_lt {f v : Nat → Int32} {q i : Nat} (h : i < q) : fillF f v q i = v i := by simp [fillF, h]
theorem ua_ua (a : Nat → Nat → Int32) (k : Nat) (f f' : Nat → Int32) : ua (ua a k f) k f' = ua a k f' := by
  funext q
  by_cases e : q = k
  · subst e; rw [ua_s, ua_s]
  · rw [ua_n e, ua_n e, ua_n e]
theorem ua_id (a : Nat → Nat → Int32) (k : Nat) : ua a k (a k) = a := by
  funext q
  by_cases e : q = k
  · subst e; rw [ua_s]
  · rw [ua_n e]
/-- the same as it is turned: v by points and lines, 9 to a point -/
def symN (v : Nat → Int32) (by_ : Nat) : Bool := allN (fun pt => allN (fun i => v (9 * pt + i) == v (9 * ((pt + by_) % 360) + i)) 9) 360
def picV (T C φ : Nat → Nat) (q : Nat) : Int32 := penK T C φ (q % 9 + 1) (q / 9)
section MD
variable {g : Hp} {m : Nat} {s : Nat → Int32} {t : Int64} {a : Nat → Nat → Int32} {N R W P : Nat} {T C φ : Nat → Nat}
theorem m_lkL {by_ pt o : Nat} {b : Bool} (hp : pt < 360) (ho : o < 360) {α : Type} {K : Option Nat → Int32 → Int32 → Int32 → Option α} : ∀ (n d j : Nat), j + d = 9 → d < n → fX6_isLike_L23 N (mH g m s t a) K n (some m) (nI by_) (bI (b && allN (fun i => a 12 (9 * pt + i) == a 12 (9 * o + i)) j)) (nI pt) (nI o) (nI j) = K (some m) (nI by_) (bI (b && allN (fun i => a 12 (9 * pt + i) == a 12 (9 * o + i)) 9)) (nI pt) := by
  intro n
  induction n with
  | zero => intro d j _ h; omega
  | succ n ih =>
    intro d j hj hd
    rw [fX6_isLike_L23]
    cases d with
    | zero =>
      have : j = 9 := by omega
      subst this
      rw [i_9, if_pos (nI_le (by omega) (by omega))]
    | succ d =>
      have ih' := ih d (j + 1) (by omega) (by omega)
      rw [show allN (fun i => a 12 (9 * pt + i) == a 12 (9 * o + i)) (j + 1) = (allN (fun i => a 12 (9 * pt + i) == a 12 (9 * o + i)) j && (a 12 (9 * pt + j) == a 12 (9 * o + j))) from rfl, ← Bool.and_assoc] at ih'
      rw [i_9, if_neg (nI_ge (by omega) (by omega))]
      generalize (b && allN (fun i => a 12 (9 * pt + i) == a 12 (9 * o + i)) j) = b' at ih' ⊢
      simp (disch := omega) only [mh_O, mh_gJ, mh_pJ, mh_gI0, mh_gI1, mh_gI2, mh_gI5, mh_gI6, mh_gI9, mh_gI14, mh_gI15, mh_gI16, mh_gI17, mh_gI18, mh_gI19, mh_gI24, mh_pI0, mh_pI1, mh_pI2, mh_pI5, mh_pI6, mh_pI9, mh_pI14, mh_pI15, mh_pI16, mh_pI17, mh_pI18, mh_pI19, mh_pI24, mh_gA3, mh_gA4, mh_gA7, mh_gA8, mh_gA10, mh_gA11, mh_gA13, mh_gA20, mh_gA21, mh_gA22, mh_gA23, mh_gA25, mh_gA26, mh_gA27, mh_gA28, mh_gA29, Option.bind_some, Option.bind_none, ↓reduceIte, if_true, if_false, pk_mul, nI_add, i_1, mh_rd12]
      cases b' with
      | false =>
        rw [if_pos (by decide)]
        exact ih'
      | true =>
        rw [if_neg (by decide)]
        by_cases c : a 12 (9 * pt + j) = a 12 (9 * o + j)
        · rw [if_pos c]
          rw [show (a 12 (9 * pt + j) == a 12 (9 * o + j)) = true by simpa using c] at ih'
          exact ih'
        · rw [if_neg c]
          rw [show (a 12 (9 * pt + j) == a 12 (9 * o + j)) = false by simpa using c] at ih'
          exact ih'
theorem m_lkLL {by_ : Nat} (hb : by_ ≤ 360) (hN : 2000 ≤ N) {α : Type} {K : Int32 → Option α} : ∀ (n d j : Nat), j + d = 360 → d < n → fX6_isLike_L4 N (mH g m s t a) K n (some m) (nI by_) (bI (allN (fun pt => allN (fun i => a 12 (9 * pt + i) == a 12 (9 * ((pt + by_) % 360) + i)) 9) j)) (nI j) = K (bI (symN (a 12) by_)) := by
  intro n
  induction n with
  | zero => intro d j _ h; omega
  | succ n ih =>
    intro d j hj hd
    rw [fX6_isLike_L4]
    cases d with
    | zero =>
      have : j = 360 := by omega
      subst this
      rw [i_360, if_pos (nI_le (by omega) (by omega))]
      rfl
    | succ d =>
      have ih' := ih d (j + 1) (by omega) (by omega)
      rw [i_360, if_neg (nI_ge (by omega) (by omega)), nI_add, jrem_nI (by omega) (by omega) (by omega)]
      have hm : (j + by_) % 360 < 360 := Nat.mod_lt _ (by decide)
      have e := m_lkL (g := g) (m := m) (s := s) (t := t) (a := a) (N := N) (by_ := by_) (pt := j) (o := (j + by_) % 360) (b := allN (fun pt => allN (fun i => a 12 (9 * pt + i) == a 12 (9 * ((pt + by_) % 360) + i)) 9) j) (by omega) hm (K := fun l0 l1 l2 l3 => fX6_isLike_L4 N (mH g m s t a) K n l0 l1 l2 (l3 + 1)) N 9 0 (by omega) (by omega)
      rw [show allN (fun i => a 12 (9 * j + i) == a 12 (9 * ((j + by_) % 360) + i)) 0 = true from rfl, Bool.and_true] at e
      refine e.trans ?_
      simp only [i_1, nI_add]
      exact ih'
theorem m_isLike {by_ : Nat} (hb : by_ ≤ 360) (hN : 2000 ≤ N) : fX6_isLike N (mH g m s t a) (some m) (nI by_) = some (bI (symN (a 12) by_)) := by
  simp only [fX6_isLike]
  refine (m_lkLL (g := g) (m := m) (s := s) (t := t) (a := a) hb hN (K := fun l2 => if l2 = 0 ∨ l2 = 1 then some l2 else none) N 360 0 (by omega) (by omega)).trans ?_
  exact if_pos (bI_or _)
theorem m_pcL (hN : 2000 ≤ N) (B : okB R W P T C) (H : mB s a R W P T C) (O : okN R W P T C φ) (J : mN s a P φ) {pt : Nat} (hp : pt < 360) {α : Type} {K : Hp → Option Nat → Int32 → Option α} : ∀ (n d j : Nat), j + d = 9 → d < n → fX6_like_L11 N K n (mH g m s t (ua a 12 (fillF (a 12) (picV T C φ) (9 * pt + j)))) (some m) (nI pt) (nI j) = K (mH g m s t (ua a 12 (fillF (a 12) (picV T C φ) (9 * (pt + 1))))) (some m) (nI pt) := by
  intro n
  induction n with
  | zero => intro d j _ h; omega
  | succ n ih =>
    intro d j hj hd
    rw [fX6_like_L11]
    cases d with
    | zero =>
      have : j = 9 := by omega
      subst this
      rw [i_9, if_pos (nI_le (by omega) (by omega))]
      rfl
    | succ d =>
      have ih' := ih d (j + 1) (by omega) (by omega)
      have e := m_penAt (g := g) (m := m) (t := t) hN B (mB_ua (k := 12) (f := fillF (a 12) (picV T C φ) (9 * pt + j)) H (by omega)) O (mN_ua J (by omega)) (pt := pt) (line := j + 1) hp (by omega)
      rw [i_9, if_neg (nI_ge (by omega) (by omega))]
      simp (disch := omega) only [mh_O, mh_gJ, mh_pJ, mh_gI0, mh_gI1, mh_gI2, mh_gI5, mh_gI6, mh_gI9, mh_gI14, mh_gI15, mh_gI16, mh_gI17, mh_gI18, mh_gI19, mh_gI24, mh_pI0, mh_pI1, mh_pI2, mh_pI5, mh_pI6, mh_pI9, mh_pI14, mh_pI15, mh_pI16, mh_pI17, mh_pI18, mh_pI19, mh_pI24, mh_gA3, mh_gA4, mh_gA7, mh_gA8, mh_gA10, mh_gA11, mh_gA13, mh_gA20, mh_gA21, mh_gA22, mh_gA23, mh_gA25, mh_gA26, mh_gA27, mh_gA28, mh_gA29, Option.bind_some, Option.bind_none, ↓reduceIte, if_true, if_false, pk_mul, nI_add, i_1, e, mh_wr12, ua_s, ua_ua]
      have ep : penK T C φ (j + 1) pt = picV T C φ (9 * pt + j) := by
        unfold picV
        rw [show (9 * pt + j) % 9 = j by omega, show (9 * pt + j) / 9 = pt by omega]
      rw [ep, fill_s]
      exact ih'
theorem m_pcLL (hN : 2000 ≤ N) (B : okB R W P T C) (H : mB s a R W P T C) (O : okN R W P T C φ) (J : mN s a P φ) {α : Type} {K : Hp → Option Nat → Option α} : ∀ (n d j : Nat), j + d = 360 → d < n → fX6_like_L2 N K n (mH g m s t (ua a 12 (fillF (a 12) (picV T C φ) (9 * j)))) (some m) (nI j) = K (mH g m s t (ua a 12 (fillF (a 12) (picV T C φ) 3240))) (some m) := by
  intro n
  induction n with
  | zero => intro d j _ h; omega
  | succ n ih =>
    intro d j hj hd
    rw [fX6_like_L2]
    cases d with
    | zero =>
      have : j = 360 := by omega
      subst this
      rw [i_360, if_pos (nI_le (by omega) (by omega))]
    | succ d =>
      have ih' := ih d (j + 1) (by omega) (by omega)
      rw [i_360, if_neg (nI_ge (by omega) (by omega))]
      have e := m_pcL (g := g) (m := m) (t := t) hN B H O J (pt := j) (by omega) (K := fun h l0 l1 => fX6_like_L2 N K n h l0 (l1 + 1)) N 9 0 (by omega) (by omega)
      refine e.trans ?_
      simp only [i_1, nI_add]
      exact ih'
theorem symN_360 (v : Nat → Int32) : symN v 360 = true := by
  unfold symN
  rw [allN_iff]
  intro pt hp
  rw [allN_iff]
  intro i hi
  rw [show (pt + 360) % 360 = pt by omega]
  simp
theorem m_fdL (hN : 2000 ≤ N) {α : Type} {K : Hp → Int32 → Option α} : ∀ (n d : Nat), 1 ≤ d → d ≤ 360 → d < n → fX6_like_L52 N K n (mH g m s t a) (some m) (nI d) = K (mH g m s t a) (nI (findD (fun n => (360 % n == 0) && symN (a 12) (360 / n)) d)) := by
  intro n
  induction n with
  | zero => intro d _ _ h; omega
  | succ n ih =>
    intro d h1 h2 hd
    rw [fX6_like_L52]
    have hm : 360 % d < d := Nat.mod_lt _ (by omega)
    have hq : 360 / d ≤ 360 := Nat.div_le_self _ _
    rw [if_neg (nI_ne0 (by omega) (by omega)), i_360, jrem_nI (by omega) (by omega) (by omega)]
    obtain ⟨e, rfl⟩ : ∃ e, d = e + 1 := ⟨d - 1, by omega⟩
    have ed : nI (e + 1) + (-1) = nI e := pk_m1 e
    by_cases c : 360 % (e + 1) = 0
    · rw [c, if_pos nI_0, if_neg (nI_ne0 (by omega) (by omega)), pk_div (by omega) (by omega) (by omega)]
      simp only [mh_O, mh_gJ, mh_pJ, mh_gI0, mh_gI1, mh_gI2, mh_gI5, mh_gI6, mh_gI9, mh_gI14, mh_gI15, mh_gI16, mh_gI17, mh_gI18, mh_gI19, mh_gI24, mh_pI0, mh_pI1, mh_pI2, mh_pI5, mh_pI6, mh_pI9, mh_pI14, mh_pI15, mh_pI16, mh_pI17, mh_pI18, mh_pI19, mh_pI24, mh_gA3, mh_gA4, mh_gA7, mh_gA8, mh_gA10, mh_gA11, mh_gA13, mh_gA20, mh_gA21, mh_gA22, mh_gA23, mh_gA25, mh_gA26, mh_gA27, mh_gA28, mh_gA29, Option.bind_some, Option.bind_none, ↓reduceIte, if_true, if_false, m_isLike hq hN]
      show _ = K _ (nI (if ((360 % (e + 1) == 0) && symN (a 12) (360 / (e + 1))) = true then e + 1 else findD _ e))
      cases hs : symN (a 12) (360 / (e + 1)) with
      | true =>
        rw [if_neg (by decide), if_pos (by simp [c])]
      | false =>
        rw [if_pos (by decide), if_neg (by simp), ed]
        rcases Nat.eq_zero_or_pos e with c0 | c0
        · subst c0
          rw [show 360 / (0 + 1) = 360 from rfl, symN_360] at hs
          cases hs
        · exact ih e c0 (by omega) (by omega)
    · rw [if_neg (nI_ne0 (by omega) (by omega)), ed]
      show _ = K _ (nI (if ((360 % (e + 1) == 0) && symN (a 12) (360 / (e + 1))) = true then e + 1 else findD _ e))
      rw [if_neg (by simp [c])]
      rcases Nat.eq_zero_or_pos e with c0 | c0
      · subst c0
        exact absurd rfl c
      · exact ih e c0 (by omega) (by omega)
theorem m_like (hN : 2000 ≤ N) (B : okB R W P T C) (H : mB s a R W P T C) (O : okN R W P T C φ) (J : mN s a P φ) : fX6_like N (mH g m s t a) (some m) = some (nI (findD (fun n => (360 % n == 0) && symN (picV T C φ) (360 / n)) 360), mH g m s t (ua a 12 (fillF (a 12) (picV T C φ) 3240))) := by
  simp only [fX6_like]
  have e := m_pcLL (g := g) (m := m) (t := t) hN B H O J (K := fun h l0 => fX6_like_L52 N (fun h l1 => some (l1, h)) N h l0 (360 : Int32)) N 360 0 (by omega) (by omega)
  rw [show 9 * 0 = 0 from rfl, fill_0, ua_id] at e
  refine e.trans ?_
  refine (m_fdL (g := g) (m := m) (s := s) (t := t) (a := ua a 12 (fillF (a 12) (picV T C φ) 3240)) hN (K := fun h l1 => some (l1, h)) N 360 (by omega) (by omega) (by omega)).trans ?_
  rw [ua_s]
  have key : ∀ b, symN (fillF (a 12) (picV T C φ) 3240) b = symN (picV T C φ) b := by
    intro b
    unfold symN
    refine allN_congr (fun pt hp => allN_congr (fun i hi => ?_))
    have : (pt + b) % 360 < 360 := Nat.mod_lt _ (by decide)
    rw [fill_lt (by omega), fill_lt (by omega)]
  simp only [key]
end MD
