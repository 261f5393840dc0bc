def tipS (g T tooth start : Nat) : Bool := decide (tooth < T) && decide ((g : Int) ∣ (tooth : Int) - (start : Int))
def soB (g T : Nat) (tt tp : Nat → Nat) (sn start : Nat) : Bool := allN (fun i => tipS g T (tt i) start == (tp i == 1)) sn
def mS (s : Nat → Int32) (a : Nat → Nat → Int32) (sn : Nat) (tt tp : Nat → Nat) : Prop := s 9 = nI sn ∧ sn ≤ 6 ∧ ∀ i, i < sn → a 5 i = nI (tt i) ∧ tt i < 120 ∧ a 6 i = nI (tp i) ∧ tp i ≤ 1
def minK (p : Nat → Bool) : Nat → Option Nat
  | 0 => none
  | n + 1 => match minK p n with
    | some k => some k
    | none => if p n = true then some n else none
def fstJ (p : Nat → Bool) (w j : Nat) (F : Int32) : Int32 := match minK p j with
  | some k => nI (1000 * w + k)
  | none => F
theorem fstJ_t {p : Nat → Bool} {w j : Nat} {F : Int32} (h : p j = true) : fstJ p w (j + 1) F = fstJ p w j (nI (1000 * w + j)) := by
  unfold fstJ
  rw [show minK p (j + 1) = (match minK p j with | some k => some k | none => if p j = true then some j else none) from rfl]
  cases minK p j with
  | some k => rfl
  | none => simp [h]
theorem fstJ_f {p : Nat → Bool} {w j : Nat} {F : Int32} (h : ¬ p j = true) : fstJ p w (j + 1) F = fstJ p w j F := by
  unfold fstJ
  rw [show minK p (j + 1) = (match minK p j with | some k => some k | none => if p j = true then some j else none) from rfl]
  cases minK p j with
  | some k => rfl
  | none => simp [h]
/-- the wheel fits, and by that start all that was seen is so -/
def gsB (T C : Nat → Nat) (r : Nat) (tt tp : Nat → Nat) (sn w start : Nat) : Bool := fitB T C r w && soB (Nat.gcd (T r) (C w)) (T r) tt tp sn start
def fstW (p : Nat → Nat → Bool) (T : Nat) : Nat → Int32 → Int32
  | 0, F => F
  | w + 1, F => fstW p T w (fstJ (p w) w T F)
theorem mS_ua {s : Nat → Int32} {a : Nat → Nat → Int32} {sn : Nat} {tt tp : Nat → Nat} {k : Nat} {f : Nat → Int32} (h : mS s a sn tt tp) (hk : 7 ≤ k) : mS s (ua a k f) sn tt tp := by
  unfold mS
  rw [ua_n (by omega), ua_n (by omega)]
  exact h
section MG
variable {g : Hp} {m : Nat} {s : Nat → Int32} {t : Int64} {a : Nat → Nat → Int32} {N R W P sn : Nat} {T C φ tt tp : Nat → Nat}
theorem m_closes (hN : 2000 ≤ N) (B : okB R W P T C) (H : mB s a R W P T C) (O : okN R W P T C φ) (J : mN s a P φ) {r line q : Nat} (hr : r < R) (hl1 : 1 ≤ line) (hl : line ≤ 9) (hq : q < 2) : fX6_closes N (mH g m s t a) (some m) (nI r) (nI line) (nI q) = some (if cnt (bareT T C φ r line) (T r) = 0 then (if q = 0 then 0 else -9) else if q = 0 then selF (selS (fitB T C r) (fun w => needC (bareT T C φ r line) (Nat.gcd (T r) (C w)) (T r)) W) (-9) else selB (selS (fitB T C r) (fun w => needC (bareT T C φ r line) (Nat.gcd (T r) (C w)) (T r)) W), mH g m s t (ua a 13 (fillF (a 13) (fun i => bI (!bareT T C φ r line i)) (T r)))) := by
  have hR := B.1
  have hW := B.2.1
  have hT := B.2.2.2.1 r hr
  have H' := mB_ua (k := 13) (f := fillF (a 13) (fun i => bI (!bareT T C φ r line i)) (T r)) H (by omega)
  have i1 : fX6_in N (mH g m s t a) (nI line) (1 : Int32) (9 : Int32) = some 1 := m_in_y (nI_le (a := 1) hl1 (by omega)) (nI_le (b := 9) hl (by omega))
  have i2 : fX6_in N (mH g m s t a) (nI q) (0 : Int32) (1 : Int32) = some 1 := m_in_y (nI_le (a := 0) (by omega) (by omega)) (nI_le (b := 1) (by omega) (by omega))
  simp only [fX6_closes, mh_O, mh_gJ, mh_pJ, mh_gI0, mh_gI1, mh_gI2, mh_gI5, mh_gI6, mh_gI9, mh_gI14, mh_gI15, mh_gI16, mh_gI17, mh_gI18, mh_gI19, mh_gI24, mh_pI0, mh_pI1, mh_pI2, mh_pI5, mh_pI6, mh_pI9, mh_pI14, mh_pI15, mh_pI16, mh_pI17, mh_pI18, mh_pI19, mh_pI24, mh_gA3, mh_gA4, mh_gA7, mh_gA8, mh_gA10, mh_gA11, mh_gA13, mh_gA20, mh_gA21, mh_gA22, mh_gA23, mh_gA25, mh_gA26, mh_gA27, mh_gA28, mh_gA29, Option.bind_some, Option.bind_none, ↓reduceIte, if_true, if_false, m_isRing_y H.1 hR hr, i1, i2]
  rw [if_neg (by decide), if_neg (by decide), if_neg (by decide)]
  have e := m_covL (g := g) (m := m) (t := t) (w := nI q) hN B H O J hr (line := line) (by omega) (K := fun h l0 l1 l3 =>
              if isO h l0 6 = true then
              (fX6_openMany N h l0 l1).bind fun v84 =>
                if v84 = 0 then
                  if l3 = 0 then
                    some ((0 : Int32), h)
                  else
                    some ((-9 : Int32), h)
                else
                  fX6_closes_L112 N
                    (fun h l3 l4 l5 =>
                      if l4 = (-9 : Int32) then
                        some (l4, h)
                      else
                        if l3 = (1 : Int32) then
                          some (l4, h)
                        else
                          some (l5, h))
                    N h l0 l1 l3 (-9 : Int32) (1048576 : Int32) (0 : Int32)
              else none) N (T r) 0 (by omega) (by omega)
  rw [fill_0, ua_id] at e
  refine e.trans ?_
  have ha : ∀ i, i < T r → (ua a 13 (fillF (a 13) (fun i => bI (!bareT T C φ r line i)) (T r))) 13 i = bI (!bareT T C φ r line i) := fun i hi => by rw [ua_s, fill_lt hi]
  have eo : fX6_openMany N (mH g m s t (ua a 13 (fillF (a 13) (fun i => bI (!bareT T C φ r line i)) (T r)))) (some m) (nI r) = some (nI (cnt (bareT T C φ r line) (T r))) := by
    simp only [fX6_openMany]
    exact m_opnL (g := g) (m := m) (t := t) (N := N) B H' hr ha (K := fun l2 => some l2) N (T r) 0 (by omega) (by omega)
  have hc := cnt_le (bareT T C φ r line) (T r)
  simp only [mh_O, mh_gJ, mh_pJ, mh_gI0, mh_gI1, mh_gI2, mh_gI5, mh_gI6, mh_gI9, mh_gI14, mh_gI15, mh_gI16, mh_gI17, mh_gI18, mh_gI19, mh_gI24, mh_pI0, mh_pI1, mh_pI2, mh_pI5, mh_pI6, mh_pI9, mh_pI14, mh_pI15, mh_pI16, mh_pI17, mh_pI18, mh_pI19, mh_pI24, mh_gA3, mh_gA4, mh_gA7, mh_gA8, mh_gA10, mh_gA11, mh_gA13, mh_gA20, mh_gA21, mh_gA22, mh_gA23, mh_gA25, mh_gA26, mh_gA27, mh_gA28, mh_gA29, Option.bind_some, Option.bind_none, ↓reduceIte, if_true, if_false, eo]
  by_cases c : cnt (bareT T C φ r line) (T r) = 0
  · rw [if_pos c, c, if_pos nI_0]
    by_cases c2 : q = 0
    · subst c2; rw [if_pos rfl, if_pos nI_0]
    · rw [if_neg c2, if_neg (nI_ne0 (by omega) (by omega))]
  · rw [if_neg c, if_neg (nI_ne0 (by omega) (by omega))]
    refine (m_selL (g := g) (m := m) (t := t) (what := nI q) hN B H' hr ha (K := fun h l3 l4 l5 => if l4 = (-9 : Int32) then some (l4, h) else if l3 = (1 : Int32) then some (l4, h) else some (l5, h)) N W 0 (by omega) (by omega)).trans ?_
    cases hs : selS (fitB T C r) (fun w => needC (bareT T C φ r line) (Nat.gcd (T r) (C w)) (T r)) W with
    | none =>
      rw [show selB none = -9 from rfl, if_pos rfl]
      by_cases c2 : q = 0
      · rw [if_pos c2]; rfl
      · rw [if_neg c2]
    | some z =>
      have hz := selS_le (M := T r) (fun w => Nat.le_trans needC_le (gcd_in (by omega)).2) W z hs
      rw [show selB (some z) = nI z.2 from rfl, if_neg (nI_neg9 (by omega))]
      by_cases c2 : q = 0
      · subst c2
        rw [if_pos rfl, if_neg (by decide)]; rfl
      · rw [if_neg c2, show q = 1 by omega, if_pos (by decide)]
theorem m_best (hN : 2000 ≤ N) (B : okB R W P T C) (H : mB s a R W P T C) {p q all : Nat} (hp : p < P) (hq : q < 2) (hall : a 3 p = nI all) (ha : all ≤ 999) : ∃ f', fX6_best N (mH g m s t a) (some m) (nI p) (nI q) = some (if q = 0 then eI (procR T C W all E0 R (amax (procR T C W all E0 R) all)) else nI (amax (procR T C W all E0 R) all), mH g m s t (ua a 14 f')) := by
  have hR := B.1
  have hW := B.2.1
  have hP := B.2.2.1
  have i2 : fX6_in N (mH g m s t a) (nI q) (0 : Int32) (1 : Int32) = some 1 := m_in_y (nI_le (a := 0) (by omega) (by omega)) (nI_le (b := 1) (by omega) (by omega))
  have hle := procR_le (T := T) (C := C) (all := all) (W := W) (R := R) E0_le (fun r hr => by have := B.2.2.2.1 r hr; omega) (fun w hw => by have := B.2.2.2.2 w hw; omega) R (Nat.le_refl _)
  have hm := amax_le (procR T C W all E0 R) all
  have w0 : wI (mH g m s t a) (some (m + 14)) 0 (0 : Int32) (0 : Int32) = some (mH g m s t (ua a 14 (upd (a 14) 0 0))) := mh_wr14 (j := 0) (by omega)
  obtain ⟨f1, e1, h1⟩ := m_bsI (g := g) (m := m) (s := s) (t := t) (a := a) (N := N) (p := nI p) (what := nI q) (K := (fun h l0 l1 l2 =>
            fX6_best_L50 N
              (fun h l0 l1 l2 =>
                fX6_best_L121 N
                  (fun h l0 l2 l3 =>
                    if l2 = 0 then
                      (gA h l0 6 27).bind fun v166 =>
                      (rI h v166 0 l3).bind fun v170 =>
                      some (v170, h)
                    else
                      some (l3, h))
                  N h l0 l1 l2 (0 : Int32) (1 : Int32))
              N h l0 l1 l2 (0 : Int32))) N 999 1 (upd (a 14) 0 0) (by omega) (by omega) (by omega) (fun i hi => by rw [show i = 0 by omega, pk_us]; rfl)
  obtain ⟨f2, e2, h2⟩ := m_bsR (g := g) (m := m) (s := s) (t := t) (a := a) (N := N) (what := nI q) hN B H (p := p) (by omega) hall ha (K := (fun h l0 l1 l2 =>
                fX6_best_L121 N
                  (fun h l0 l2 l3 =>
                    if l2 = 0 then
                      (gA h l0 6 27).bind fun v166 =>
                      (rI h v166 0 l3).bind fun v170 =>
                      some (v170, h)
                    else
                      some (l3, h))
                  N h l0 l1 l2 (0 : Int32) (1 : Int32))) N R 0 f1 (by omega) (by omega) h1
  have e3 := m_bsM (g := g) (m := m) (s := s) (t := t) (a := a) (N := N) (what := nI q) (f := f2) hle (by omega) hall ha h2 (K := (fun h l0 l2 l3 =>
                    if l2 = 0 then
                      (gA h l0 6 27).bind fun v166 =>
                      (rI h v166 0 l3).bind fun v170 =>
                      some (v170, h)
                    else
                      some (l3, h))) N all 0 (by omega) (by omega)
  refine ⟨f2, ?_⟩
  simp only [fX6_best, mh_O, mh_gJ, mh_pJ, mh_gI0, mh_gI1, mh_gI2, mh_gI5, mh_gI6, mh_gI9, mh_gI14, mh_gI15, mh_gI16, mh_gI17, mh_gI18, mh_gI19, mh_gI24, mh_pI0, mh_pI1, mh_pI2, mh_pI5, mh_pI6, mh_pI9, mh_pI14, mh_pI15, mh_pI16, mh_pI17, mh_pI18, mh_pI19, mh_pI24, mh_gA3, mh_gA4, mh_gA7, mh_gA8, mh_gA10, mh_gA11, mh_gA13, mh_gA20, mh_gA21, mh_gA22, mh_gA23, mh_gA25, mh_gA26, mh_gA27, mh_gA28, mh_gA29, Option.bind_some, Option.bind_none, ↓reduceIte, if_true, if_false, m_isPen_y H.2.2.1 hP hp, i2, w0]
  rw [if_neg (by decide), if_neg (by decide)]
  refine e1.trans (e2.trans (e3.trans ?_))
  by_cases c : q = 0
  · subst c
    rw [if_pos nI_0, if_pos rfl]
    simp (disch := omega) only [mh_O, mh_gJ, mh_pJ, mh_gI0, mh_gI1, mh_gI2, mh_gI5, mh_gI6, mh_gI9, mh_gI14, mh_gI15, mh_gI16, mh_gI17, mh_gI18, mh_gI19, mh_gI24, mh_pI0, mh_pI1, mh_pI2, mh_pI5, mh_pI6, mh_pI9, mh_pI14, mh_pI15, mh_pI16, mh_pI17, mh_pI18, mh_pI19, mh_pI24, mh_gA3, mh_gA4, mh_gA7, mh_gA8, mh_gA10, mh_gA11, mh_gA13, mh_gA20, mh_gA21, mh_gA22, mh_gA23, mh_gA25, mh_gA26, mh_gA27, mh_gA28, mh_gA29, mh_rd1, mh_rd2, mh_rd3, mh_rd4, mh_rd5, mh_rd6, mh_rd7, mh_rd8, mh_rd9, mh_rd10, mh_rd11, mh_rd12, mh_rd13, mh_rd14, mh_rd15, mh_rd16, mh_wr1, mh_wr2, mh_wr3, mh_wr4, mh_wr5, mh_wr6, mh_wr7, mh_wr8, mh_wr9, mh_wr10, mh_wr11, mh_wr12, mh_wr13, mh_wr14, mh_wr15, mh_wr16, Option.bind_some, Option.bind_none, ↓reduceIte, if_true, if_false, ua_s, h2 _ (show amax (procR T C W all E0 R) all < 1000 by omega)]
  · rw [if_neg (nI_ne0 (by omega) (by omega)), if_neg c]
theorem m_meetL (hN : 2000 ≤ N) (B : okB R W P T C) (H : mB s a R W P T C) (O : okN R W P T C φ) (J : mN s a P φ) {k l line : Nat} (hk : k < φ 1) (hl : l < φ 1) (hli : line < 10) {α : Type} {K : Int32 → Option α} : ∀ (n d j : Nat), j + d = 360 → d < n → fX6_meet_L41 N (mH g m s t a) K n (some m) (nI k) (nI l) (nI line) (nI (cnt (fun pt => tipL T C φ line pt k && tipL T C φ line pt l) j)) (nI j) = K (nI (cnt (fun pt => tipL T C φ line pt k && tipL T C φ line pt l) 360)) := by
  intro n
  induction n with
  | zero => intro d j _ h; omega
  | succ n ih =>
    intro d j hj hd
    rw [fX6_meet_L41]
    cases d with
    | zero =>
      have : j = 360 := by omega
      subst this
      rw [i_360, if_pos (nI_le (by omega) (by omega))]
    | succ d =>
      have ih' := ih d (j + 1) (by omega) (by omega)
      rw [i_360, if_neg (nI_ge (by omega) (by omega)), m_hasTip hN B H O J hk (by omega) hli, m_hasTip hN B H O J hl (by omega) hli]
      simp only [mh_O, mh_gJ, mh_pJ, mh_gI0, mh_gI1, mh_gI2, mh_gI5, mh_gI6, mh_gI9, mh_gI14, mh_gI15, mh_gI16, mh_gI17, mh_gI18, mh_gI19, mh_gI24, mh_pI0, mh_pI1, mh_pI2, mh_pI5, mh_pI6, mh_pI9, mh_pI14, mh_pI15, mh_pI16, mh_pI17, mh_pI18, mh_pI19, mh_pI24, mh_gA3, mh_gA4, mh_gA7, mh_gA8, mh_gA10, mh_gA11, mh_gA13, mh_gA20, mh_gA21, mh_gA22, mh_gA23, mh_gA25, mh_gA26, mh_gA27, mh_gA28, mh_gA29, Option.bind_some, Option.bind_none, ↓reduceIte, if_true, if_false]
      by_cases c1 : tipL T C φ line j k = true
      · rw [if_pos c1, if_neg (by decide)]
        by_cases c2 : tipL T C φ line j l = true
        · rw [if_pos c2, if_neg (by decide), nI_1, nI_1]
          rw [cnt_t (n := j) (by simp [c1, c2])] at ih'
          exact ih'
        · rw [if_neg c2, if_pos rfl, nI_1, show (0 : Int32) = nI 0 from rfl, nI_add]
          rw [cnt_f (n := j) (by simp [c2])] at ih'
          exact ih'
      · rw [if_neg c1, if_pos rfl, nI_1, show (0 : Int32) = nI 0 from rfl, nI_add]
        rw [cnt_f (n := j) (by simp [c1])] at ih'
        exact ih'
theorem m_soL (hN : 2000 ≤ N) (B : okB R W P T C) (H : mB s a R W P T C) (S : mS s a sn tt tp) {r w st : Nat} (hr : r < R) (hw : w < W) (hst : st < 120) {α : Type} {K : Int32 → Option α} : ∀ (n d j : Nat), j + d = sn → d < n → fX6_isSo_L6 N (mH g m s t a) K n (some m) (nI r) (nI w) (nI st) (bI (allN (fun i => tipS (Nat.gcd (T r) (C w)) (T r) (tt i) st == (tp i == 1)) j)) (nI j) = K (bI (soB (Nat.gcd (T r) (C w)) (T r) tt tp sn st)) := by
  have hR := B.1
  have hT := B.2.2.2.1 r hr
  have hg := gcd_in (x := T r) (y := C w) (by omega)
  obtain ⟨s1, s2, s3⟩ := S
  intro n
  induction n with
  | zero => intro d j _ h; omega
  | succ n ih =>
    intro d j hj hd
    rw [fX6_isSo_L6]
    simp only [mh_O, mh_gJ, mh_pJ, mh_gI0, mh_gI1, mh_gI2, mh_gI5, mh_gI6, mh_gI9, mh_gI14, mh_gI15, mh_gI16, mh_gI17, mh_gI18, mh_gI19, mh_gI24, mh_pI0, mh_pI1, mh_pI2, mh_pI5, mh_pI6, mh_pI9, mh_pI14, mh_pI15, mh_pI16, mh_pI17, mh_pI18, mh_pI19, mh_pI24, mh_gA3, mh_gA4, mh_gA7, mh_gA8, mh_gA10, mh_gA11, mh_gA13, mh_gA20, mh_gA21, mh_gA22, mh_gA23, mh_gA25, mh_gA26, mh_gA27, mh_gA28, mh_gA29, Option.bind_some, Option.bind_none, ↓reduceIte, if_true, if_false, s1]
    cases d with
    | zero =>
      rw [if_pos (nI_le (by omega) (by omega)), show j = sn by omega]
      rfl
    | succ d =>
      have ih' := ih d (j + 1) (by omega) (by omega)
      obtain ⟨q1, q2, q3, q4⟩ := s3 j (by omega)
      rw [if_neg (nI_ge (by omega) (by omega))]
      simp (disch := omega) only [mh_O, mh_gJ, mh_pJ, mh_gI0, mh_gI1, mh_gI2, mh_gI5, mh_gI6, mh_gI9, mh_gI14, mh_gI15, mh_gI16, mh_gI17, mh_gI18, mh_gI19, mh_gI24, mh_pI0, mh_pI1, mh_pI2, mh_pI5, mh_pI6, mh_pI9, mh_pI14, mh_pI15, mh_pI16, mh_pI17, mh_pI18, mh_pI19, mh_pI24, mh_gA3, mh_gA4, mh_gA7, mh_gA8, mh_gA10, mh_gA11, mh_gA13, mh_gA20, mh_gA21, mh_gA22, mh_gA23, mh_gA25, mh_gA26, mh_gA27, mh_gA28, mh_gA29, mh_rd1, mh_rd2, mh_rd3, mh_rd4, mh_rd5, mh_rd6, mh_rd7, mh_rd8, mh_rd9, mh_rd10, mh_rd11, mh_rd12, mh_rd13, mh_rd14, mh_rd15, mh_rd16, mh_wr1, mh_wr2, mh_wr3, mh_wr4, mh_wr5, mh_wr6, mh_wr7, mh_wr8, mh_wr9, mh_wr10, mh_wr11, mh_wr12, mh_wr13, mh_wr14, mh_wr15, mh_wr16, Option.bind_some, Option.bind_none, ↓reduceIte, if_true, if_false, q1, H.2.2.2.1 r hr, m_commonOf hN B H hr hw, m_isTip]
      rw [show allN (fun i => tipS (Nat.gcd (T r) (C w)) (T r) (tt i) st == (tp i == 1)) (j + 1) = (allN (fun i => tipS (Nat.gcd (T r) (C w)) (T r) (tt i) st == (tp i == 1)) j && (tipS (Nat.gcd (T r) (C w)) (T r) (tt j) st == (tp j == 1))) from rfl] at ih'
      have key : ∀ b : Bool, b = tipS (Nat.gcd (T r) (C w)) (T r) (tt j) st → fX6_isSo_j56 N (mH g m s t a) (fX6_isSo_L6 N (mH g m s t a) K n) (some m) (nI r) (nI w) (nI st) (bI (allN (fun i => tipS (Nat.gcd (T r) (C w)) (T r) (tt i) st == (tp i == 1)) j)) (nI j) (bI b) = K (bI (soB (Nat.gcd (T r) (C w)) (T r) tt tp sn st)) := by
        intro b hb
        rw [← hb] at ih'
        simp (disch := omega) only [fX6_isSo_j56, fX6_isSo_j81, mh_O, mh_gJ, mh_pJ, mh_gI0, mh_gI1, mh_gI2, mh_gI5, mh_gI6, mh_gI9, mh_gI14, mh_gI15, mh_gI16, mh_gI17, mh_gI18, mh_gI19, mh_gI24, mh_pI0, mh_pI1, mh_pI2, mh_pI5, mh_pI6, mh_pI9, mh_pI14, mh_pI15, mh_pI16, mh_pI17, mh_pI18, mh_pI19, mh_pI24, mh_gA3, mh_gA4, mh_gA7, mh_gA8, mh_gA10, mh_gA11, mh_gA13, mh_gA20, mh_gA21, mh_gA22, mh_gA23, mh_gA25, mh_gA26, mh_gA27, mh_gA28, mh_gA29, mh_rd1, mh_rd2, mh_rd3, mh_rd4, mh_rd5, mh_rd6, mh_rd7, mh_rd8, mh_rd9, mh_rd10, mh_rd11, mh_rd12, mh_rd13, mh_rd14, mh_rd15, mh_rd16, mh_wr1, mh_wr2, mh_wr3, mh_wr4, mh_wr5, mh_wr6, mh_wr7, mh_wr8, mh_wr9, mh_wr10, mh_wr11, mh_wr12, mh_wr13, mh_wr14, mh_wr15, mh_wr16, Option.bind_some, Option.bind_none, ↓reduceIte, if_true, if_false, q3, nI_1]
        cases hA : allN (fun i => tipS (Nat.gcd (T r) (C w)) (T r) (tt i) st == (tp i == 1)) j with
        | false =>
          rw [hA] at ih'
          rw [if_pos (by decide)]
          exact ih'
        | true =>
          rw [hA, Bool.true_and] at ih'
          rw [if_neg (by decide)]
          rcases (show tp j = 0 ∨ tp j = 1 by omega) with c | c
          · rw [c, if_neg (by decide)]
            rw [c] at ih'
            cases b with
            | true => rw [if_neg (by decide)]; exact ih'
            | false => rw [if_pos (by decide)]; exact ih'
          · rw [c, if_pos (by decide)]
            rw [c] at ih'
            cases b with
            | true => rw [if_pos (by decide)]; exact ih'
            | false => rw [if_neg (by decide)]; exact ih'
      by_cases c1 : T r ≤ tt j
      · rw [if_pos (nI_le c1 (by omega))]
        exact key false (by simp [tipS]; omega)
      · rw [if_neg (nI_ge (by omega) (by omega))]
        by_cases c2 : ((Nat.gcd (T r) (C w) : Nat) : Int) ∣ (tt j : Int) - (st : Int)
        · rw [if_pos c2, if_neg (by decide)]
          exact key true (by simp [tipS, c2]; omega)
        · rw [if_neg c2, if_pos rfl]
          exact key false (by simp [tipS, c2])
theorem m_isSo (hN : 2000 ≤ N) (B : okB R W P T C) (H : mB s a R W P T C) (S : mS s a sn tt tp) {r w st : Nat} (hr : r < R) (hw : w < W) (hst : st < 120) : fX6_isSo N (mH g m s t a) (some m) (nI r) (nI w) (nI st) = some (bI (soB (Nat.gcd (T r) (C w)) (T r) tt tp sn st)) := by
  have hsn := S.2.1
  simp only [fX6_isSo]
  refine (m_soL (g := g) (m := m) (t := t) hN B H S hr hw hst (K := fun l4 => if l4 = 0 ∨ l4 = 1 then some l4 else none) N sn 0 (by omega) (by omega)).trans ?_
  exact if_pos (bI_or _)
theorem m_gsL (hN : 2000 ≤ N) (B : okB R W P T C) (H : mB s a R W P T C) (S : mS s a sn tt tp) {r w A : Nat} {q F : Int32} (hr : r < R) (hw : w < W) {α : Type} {K : Option Nat → Int32 → Int32 → Int32 → Int32 → Int32 → Option α} : ∀ (n j A : Nat) (F : Int32), j ≤ 120 → j < n → fX6_guess_L48 N (mH g m s t a) K n (some m) (nI r) q (nI A) F (nI w) (nI j - 1) = K (some m) (nI r) q (nI (A + cnt (gsB T C r tt tp sn w) j)) (fstJ (gsB T C r tt tp sn w) w j F) (nI w) := by
  have hW := B.2.1
  intro n
  induction n with
  | zero => intro j A F _ h; omega
  | succ n ih =>
    intro j A F h2 hd
    rw [fX6_guess_L48]
    cases j with
    | zero => exact if_pos (by decide)
    | succ j =>
      rw [nI_pred, if_neg (nI_neg (by omega)), m_fits B H hr hw]
      simp only [mh_O, mh_gJ, mh_pJ, mh_gI0, mh_gI1, mh_gI2, mh_gI5, mh_gI6, mh_gI9, mh_gI14, mh_gI15, mh_gI16, mh_gI17, mh_gI18, mh_gI19, mh_gI24, mh_pI0, mh_pI1, mh_pI2, mh_pI5, mh_pI6, mh_pI9, mh_pI14, mh_pI15, mh_pI16, mh_pI17, mh_pI18, mh_pI19, mh_pI24, mh_gA3, mh_gA4, mh_gA7, mh_gA8, mh_gA10, mh_gA11, mh_gA13, mh_gA20, mh_gA21, mh_gA22, mh_gA23, mh_gA25, mh_gA26, mh_gA27, mh_gA28, mh_gA29, Option.bind_some, Option.bind_none, ↓reduceIte, if_true, if_false, m_isSo hN B H S hr hw (show j < 120 by omega), bI_0]
      have em : nI j + (-1) = nI j - 1 := by rw [Int32.sub_eq_add_neg]
      rw [em]
      by_cases c : C w < T r
      · have c1 : fitB T C r w = true := by simpa [fitB] using c
        rw [if_pos c, if_neg (by decide)]
        by_cases c2 : soB (Nat.gcd (T r) (C w)) (T r) tt tp sn j = true
        · have cg : gsB T C r tt tp sn w j = true := by simp [gsB, c1, c2]
          rw [if_neg (by simp [c2]), cnt_t cg, fstJ_t cg, nI_1, show (1000 : Int32) = nI 1000 from rfl, pk_mul, nI_add, ih j (A + 1) _ (by omega) (by omega)]
          rw [show A + 1 + cnt (gsB T C r tt tp sn w) j = A + (cnt (gsB T C r tt tp sn w) j + 1) by omega]
        · have cg : ¬ gsB T C r tt tp sn w j = true := by simp [gsB, c2]
          rw [if_pos c2, cnt_f cg, fstJ_f cg, ih j A F (by omega) (by omega)]
      · have c1 : fitB T C r w = false := by simpa [fitB] using c
        have cg : ¬ gsB T C r tt tp sn w j = true := by simp [gsB, c1]
        rw [if_neg c, if_pos rfl, cnt_f cg, fstJ_f cg, ih j A F (by omega) (by omega)]
theorem m_gsLL (hN : 2000 ≤ N) (B : okB R W P T C) (H : mB s a R W P T C) (S : mS s a sn tt tp) {r : Nat} {q : Int32} (hr : r < R) {α : Type} {K : Int32 → Int32 → Int32 → Option α} : ∀ (n w A : Nat) (F : Int32), w ≤ W → w < n → fX6_guess_L33 N (mH g m s t a) K n (some m) (nI r) q (nI A) F (nI w - 1) = K q (nI (A + sumN (fun w => cnt (gsB T C r tt tp sn w) (T r)) w)) (fstW (gsB T C r tt tp sn) (T r) w F) := by
  have hR := B.1
  have hW := B.2.1
  have hT := B.2.2.2.1 r hr
  intro n
  induction n with
  | zero => intro w A F _ h; omega
  | succ n ih =>
    intro w A F h2 hd
    rw [fX6_guess_L33]
    cases w with
    | zero => exact if_pos (by decide)
    | succ w =>
      rw [nI_pred, if_neg (nI_neg (by omega))]
      simp (disch := omega) only [mh_O, mh_gJ, mh_pJ, mh_gI0, mh_gI1, mh_gI2, mh_gI5, mh_gI6, mh_gI9, mh_gI14, mh_gI15, mh_gI16, mh_gI17, mh_gI18, mh_gI19, mh_gI24, mh_pI0, mh_pI1, mh_pI2, mh_pI5, mh_pI6, mh_pI9, mh_pI14, mh_pI15, mh_pI16, mh_pI17, mh_pI18, mh_pI19, mh_pI24, mh_gA3, mh_gA4, mh_gA7, mh_gA8, mh_gA10, mh_gA11, mh_gA13, mh_gA20, mh_gA21, mh_gA22, mh_gA23, mh_gA25, mh_gA26, mh_gA27, mh_gA28, mh_gA29, mh_rd1, mh_rd2, mh_rd3, mh_rd4, mh_rd5, mh_rd6, mh_rd7, mh_rd8, mh_rd9, mh_rd10, mh_rd11, mh_rd12, mh_rd13, mh_rd14, mh_rd15, mh_rd16, mh_wr1, mh_wr2, mh_wr3, mh_wr4, mh_wr5, mh_wr6, mh_wr7, mh_wr8, mh_wr9, mh_wr10, mh_wr11, mh_wr12, mh_wr13, mh_wr14, mh_wr15, mh_wr16, Option.bind_some, Option.bind_none, ↓reduceIte, if_true, if_false, H.2.2.2.1 r hr]
      refine (m_gsL (g := g) (m := m) (t := t) (N := N) (q := q) (A := A) (F := F) hN B H S hr (show w < W by omega) (K := fun l0 l1 l2 l3 l4 l5 => fX6_guess_L33 N (mH g m s t a) K n l0 l1 l2 l3 l4 (l5 + (-1))) N (T r) A F (by omega) (by omega)).trans ?_
      have em : nI w + (-1) = nI w - 1 := by rw [Int32.sub_eq_add_neg]
      rw [em, ih w _ _ (by omega) (by omega)]
      rw [show A + cnt (gsB T C r tt tp sn w) (T r) + sumN (fun w => cnt (gsB T C r tt tp sn w) (T r)) w = A + sumN (fun w => cnt (gsB T C r tt tp sn w) (T r)) (w + 1) by
        show _ = A + (sumN (fun w => cnt (gsB T C r tt tp sn w) (T r)) w + cnt (gsB T C r tt tp sn w) (T r))
        omega]
      rfl
theorem m_guess (hN : 2000 ≤ N) (B : okB R W P T C) (H : mB s a R W P T C) (S : mS s a sn tt tp) {r q : Nat} (hr : r < R) (hq : q < 2) : fX6_guess N (mH g m s t a) (some m) (nI r) (nI q) = some (if q = 0 then nI (sumN (fun w => cnt (gsB T C r tt tp sn w) (T r)) W) else fstW (gsB T C r tt tp sn) (T r) W (-9)) := by
  have hR := B.1
  have hW := B.2.1
  have i2 : fX6_in N (mH g m s t a) (nI q) (0 : Int32) (1 : Int32) = some 1 := m_in_y (nI_le (a := 0) (by omega) (by omega)) (nI_le (b := 1) (by omega) (by omega))
  simp only [fX6_guess, mh_O, mh_gJ, mh_pJ, mh_gI0, mh_gI1, mh_gI2, mh_gI5, mh_gI6, mh_gI9, mh_gI14, mh_gI15, mh_gI16, mh_gI17, mh_gI18, mh_gI19, mh_gI24, mh_pI0, mh_pI1, mh_pI2, mh_pI5, mh_pI6, mh_pI9, mh_pI14, mh_pI15, mh_pI16, mh_pI17, mh_pI18, mh_pI19, mh_pI24, mh_gA3, mh_gA4, mh_gA7, mh_gA8, mh_gA10, mh_gA11, mh_gA13, mh_gA20, mh_gA21, mh_gA22, mh_gA23, mh_gA25, mh_gA26, mh_gA27, mh_gA28, mh_gA29, Option.bind_some, Option.bind_none, ↓reduceIte, if_true, if_false, m_isRing_y H.1 hR hr, i2, H.2.1]
  rw [if_neg (by decide), if_neg (by decide)]
  refine (m_gsLL (g := g) (m := m) (t := t) (N := N) (q := nI q) hN B H S hr (K := fun l2 l3 l4 => if l2 = 0 then some l3 else some l4) N W 0 (-9) (Nat.le_refl _) (by omega)).trans ?_
  rw [Nat.zero_add]
  by_cases c : q = 0
  · subst c; rw [if_pos nI_0, if_pos rfl]
  · rw [if_neg c, if_neg (nI_ne0 (by omega) (by omega))]
end MG
