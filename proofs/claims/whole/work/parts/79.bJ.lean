/-- what the reference does behind the text -/
def boxK (N : Nat) (h : Hp) (l0 : Option Nat) (l1 : Int32) : Option (Int32 × Hp) :=
        (pV h l0 6 14 (.int (0 : Int32))).bind fun h64 =>
        (gI h64 l0 6 16).bind fun v69 =>
        (pV h64 l0 6 0 (.int v69)).bind fun h72 =>
        (gI h72 l0 6 17).bind fun v77 =>
        (pV h72 l0 6 1 (.int v77)).bind fun h80 =>
        (gI h80 l0 6 18).bind fun v85 =>
        (pV h80 l0 6 2 (.int v85)).bind fun h88 =>
        fX6_box_L93 N
          (fun h l0 l1 =>
            fX6_box_L121 N
              (fun h l0 l1 =>
                fX6_box_L149 N
                  (fun h l0 l1 =>
                    (pV h l0 6 5 (.int (0 : Int32))).bind fun h177 =>
                    (pV h177 l0 6 6 (.int (0 : Int32))).bind fun h182 =>
                    (pV h182 l0 6 9 (.int (0 : Int32))).bind fun h187 =>
                    (pV h187 l0 6 24 (.int (0 : Int32))).bind fun h192 =>
                    (gA h192 l0 6 29).bind fun v196 =>
                    (wI h192 v196 0 (0 : Int32) (0 : Int32)).bind fun h201 =>
                    (gA h201 l0 6 29).bind fun v203 =>
                    (wI h201 v203 0 (860 : Int32) (0 : Int32)).bind fun h210 =>
                    some (l1, h210))
                  N h l0 l1 (0 : Int32))
              N h l0 l1 (0 : Int32))
          N h88 l0 l1 (0 : Int32)
section BJ
variable {N m : Nat} {t : Int64} {s : Nat → Int32} {G : Hp}
theorem m_cp1 {a : Nat → Nat → Int32} {R : Nat} {l1 : Int32} (h0 : s 0 = nI R) (hR : R ≤ 4) {α : Type} {K : Hp → Option Nat → Int32 → Option α} : ∀ (n d j : Nat), j + d = R → d < n → fX6_box_L93 N K n (mH G m s t (ua a 1 (fillF (a 1) (a 8) j))) (some m) l1 (nI j) = K (mH G m s t (ua a 1 (fillF (a 1) (a 8) R))) (some m) l1 := by
  intro n
  induction n with
  | zero => intro d j _ h; omega
  | succ n ih =>
    intro d j hj hd
    rw [fX6_box_L93]
    by_cases c : j < R
    · have e : (nI R ≤ nI j) = False := eq_false (nI_ge c (by omega))
      simp (disch := omega) only [mh_O, mh_gJ, mh_pJ, mh_gI0, mh_gI1, mh_gI2, mh_gI5, mh_gI6, mh_gI9, mh_gI14, mh_gI15, mh_gI16, mh_gI17, mh_gI18, mh_gI19, mh_gI24, mh_pI0, mh_pI1, mh_pI2, mh_pI5, mh_pI6, mh_pI9, mh_pI14, mh_pI15, mh_pI16, mh_pI17, mh_pI18, mh_pI19, mh_pI24, mh_gA3, mh_gA4, mh_gA7, mh_gA8, mh_gA10, mh_gA11, mh_gA13, mh_gA20, mh_gA21, mh_gA22, mh_gA23, mh_gA25, mh_gA26, mh_gA27, mh_gA28, mh_gA29, mh_rd1, mh_rd2, mh_rd3, mh_rd4, mh_rd5, mh_rd6, mh_rd7, mh_rd8, mh_rd9, mh_rd10, mh_rd11, mh_rd12, mh_rd13, mh_rd14, mh_rd15, mh_rd16, mh_wr1, mh_wr2, mh_wr3, mh_wr4, mh_wr5, mh_wr6, mh_wr7, mh_wr8, mh_wr9, mh_wr10, mh_wr11, mh_wr12, mh_wr13, mh_wr14, mh_wr15, mh_wr16, Option.bind_some, Option.bind_none, ↓reduceIte, if_true, if_false, h0, e, ua_n, ua_s, ua_ua, fill_s, nI_1]
      exact ih (d - 1) (j + 1) (by omega) (by omega)
    · have e : (nI R ≤ nI j) = True := eq_true (nI_le (by omega) (by omega))
      have ej : j = R := by omega
      subst ej
      simp only [mh_O, mh_gJ, mh_pJ, mh_gI0, mh_gI1, mh_gI2, mh_gI5, mh_gI6, mh_gI9, mh_gI14, mh_gI15, mh_gI16, mh_gI17, mh_gI18, mh_gI19, mh_gI24, mh_pI0, mh_pI1, mh_pI2, mh_pI5, mh_pI6, mh_pI9, mh_pI14, mh_pI15, mh_pI16, mh_pI17, mh_pI18, mh_pI19, mh_pI24, mh_gA3, mh_gA4, mh_gA7, mh_gA8, mh_gA10, mh_gA11, mh_gA13, mh_gA20, mh_gA21, mh_gA22, mh_gA23, mh_gA25, mh_gA26, mh_gA27, mh_gA28, mh_gA29, Option.bind_some, Option.bind_none, ↓reduceIte, if_true, if_false, h0, e]
theorem m_cp2 {a : Nat → Nat → Int32} {R : Nat} {l1 : Int32} (h0 : s 1 = nI R) (hR : R ≤ 6) {α : Type} {K : Hp → Option Nat → Int32 → Option α} : ∀ (n d j : Nat), j + d = R → d < n → fX6_box_L121 N K n (mH G m s t (ua a 2 (fillF (a 2) (a 9) j))) (some m) l1 (nI j) = K (mH G m s t (ua a 2 (fillF (a 2) (a 9) R))) (some m) l1 := by
  intro n
  induction n with
  | zero => intro d j _ h; omega
  | succ n ih =>
    intro d j hj hd
    rw [fX6_box_L121]
    by_cases c : j < R
    · have e : (nI R ≤ nI j) = False := eq_false (nI_ge c (by omega))
      simp (disch := omega) only [mh_O, mh_gJ, mh_pJ, mh_gI0, mh_gI1, mh_gI2, mh_gI5, mh_gI6, mh_gI9, mh_gI14, mh_gI15, mh_gI16, mh_gI17, mh_gI18, mh_gI19, mh_gI24, mh_pI0, mh_pI1, mh_pI2, mh_pI5, mh_pI6, mh_pI9, mh_pI14, mh_pI15, mh_pI16, mh_pI17, mh_pI18, mh_pI19, mh_pI24, mh_gA3, mh_gA4, mh_gA7, mh_gA8, mh_gA10, mh_gA11, mh_gA13, mh_gA20, mh_gA21, mh_gA22, mh_gA23, mh_gA25, mh_gA26, mh_gA27, mh_gA28, mh_gA29, mh_rd1, mh_rd2, mh_rd3, mh_rd4, mh_rd5, mh_rd6, mh_rd7, mh_rd8, mh_rd9, mh_rd10, mh_rd11, mh_rd12, mh_rd13, mh_rd14, mh_rd15, mh_rd16, mh_wr1, mh_wr2, mh_wr3, mh_wr4, mh_wr5, mh_wr6, mh_wr7, mh_wr8, mh_wr9, mh_wr10, mh_wr11, mh_wr12, mh_wr13, mh_wr14, mh_wr15, mh_wr16, Option.bind_some, Option.bind_none, ↓reduceIte, if_true, if_false, h0, e, ua_n, ua_s, ua_ua, fill_s, nI_1]
      exact ih (d - 1) (j + 1) (by omega) (by omega)
    · have e : (nI R ≤ nI j) = True := eq_true (nI_le (by omega) (by omega))
      have ej : j = R := by omega
      subst ej
      simp only [mh_O, mh_gJ, mh_pJ, mh_gI0, mh_gI1, mh_gI2, mh_gI5, mh_gI6, mh_gI9, mh_gI14, mh_gI15, mh_gI16, mh_gI17, mh_gI18, mh_gI19, mh_gI24, mh_pI0, mh_pI1, mh_pI2, mh_pI5, mh_pI6, mh_pI9, mh_pI14, mh_pI15, mh_pI16, mh_pI17, mh_pI18, mh_pI19, mh_pI24, mh_gA3, mh_gA4, mh_gA7, mh_gA8, mh_gA10, mh_gA11, mh_gA13, mh_gA20, mh_gA21, mh_gA22, mh_gA23, mh_gA25, mh_gA26, mh_gA27, mh_gA28, mh_gA29, Option.bind_some, Option.bind_none, ↓reduceIte, if_true, if_false, h0, e]
theorem m_cp3 {a : Nat → Nat → Int32} {R : Nat} {l1 : Int32} (h0 : s 2 = nI R) (hR : R ≤ 4) {α : Type} {K : Hp → Option Nat → Int32 → Option α} : ∀ (n d j : Nat), j + d = R → d < n → fX6_box_L149 N K n (mH G m s t (ua a 3 (fillF (a 3) (a 10) j))) (some m) l1 (nI j) = K (mH G m s t (ua a 3 (fillF (a 3) (a 10) R))) (some m) l1 := by
  intro n
  induction n with
  | zero => intro d j _ h; omega
  | succ n ih =>
    intro d j hj hd
    rw [fX6_box_L149]
    by_cases c : j < R
    · have e : (nI R ≤ nI j) = False := eq_false (nI_ge c (by omega))
      simp (disch := omega) only [mh_O, mh_gJ, mh_pJ, mh_gI0, mh_gI1, mh_gI2, mh_gI5, mh_gI6, mh_gI9, mh_gI14, mh_gI15, mh_gI16, mh_gI17, mh_gI18, mh_gI19, mh_gI24, mh_pI0, mh_pI1, mh_pI2, mh_pI5, mh_pI6, mh_pI9, mh_pI14, mh_pI15, mh_pI16, mh_pI17, mh_pI18, mh_pI19, mh_pI24, mh_gA3, mh_gA4, mh_gA7, mh_gA8, mh_gA10, mh_gA11, mh_gA13, mh_gA20, mh_gA21, mh_gA22, mh_gA23, mh_gA25, mh_gA26, mh_gA27, mh_gA28, mh_gA29, mh_rd1, mh_rd2, mh_rd3, mh_rd4, mh_rd5, mh_rd6, mh_rd7, mh_rd8, mh_rd9, mh_rd10, mh_rd11, mh_rd12, mh_rd13, mh_rd14, mh_rd15, mh_rd16, mh_wr1, mh_wr2, mh_wr3, mh_wr4, mh_wr5, mh_wr6, mh_wr7, mh_wr8, mh_wr9, mh_wr10, mh_wr11, mh_wr12, mh_wr13, mh_wr14, mh_wr15, mh_wr16, Option.bind_some, Option.bind_none, ↓reduceIte, if_true, if_false, h0, e, ua_n, ua_s, ua_ua, fill_s, nI_1]
      exact ih (d - 1) (j + 1) (by omega) (by omega)
    · have e : (nI R ≤ nI j) = True := eq_true (nI_le (by omega) (by omega))
      have ej : j = R := by omega
      subst ej
      simp only [mh_O, mh_gJ, mh_pJ, mh_gI0, mh_gI1, mh_gI2, mh_gI5, mh_gI6, mh_gI9, mh_gI14, mh_gI15, mh_gI16, mh_gI17, mh_gI18, mh_gI19, mh_gI24, mh_pI0, mh_pI1, mh_pI2, mh_pI5, mh_pI6, mh_pI9, mh_pI14, mh_pI15, mh_pI16, mh_pI17, mh_pI18, mh_pI19, mh_pI24, mh_gA3, mh_gA4, mh_gA7, mh_gA8, mh_gA10, mh_gA11, mh_gA13, mh_gA20, mh_gA21, mh_gA22, mh_gA23, mh_gA25, mh_gA26, mh_gA27, mh_gA28, mh_gA29, Option.bind_some, Option.bind_none, ↓reduceIte, if_true, if_false, h0, e]
theorem m_boxK {a : Nat → Nat → Int32} {R W P : Nat} {l1 : Int32} (hN : 2000 ≤ N) (h16 : s 16 = nI R) (h17 : s 17 = nI W) (h18 : s 18 = nI P) (hR : R ≤ 4) (hW : W ≤ 6) (hP : P ≤ 4) : ∃ (s' : Nat → Int32) (a' : Nat → Nat → Int32), (∀ G : Hp, boxK N (mH G m s t a) (some m) l1 = some (l1, mH G m s' t a')) ∧ s' 0 = nI R ∧ s' 1 = nI W ∧ s' 2 = nI P ∧ s' 5 = 0 ∧ s' 6 = 0 ∧ s' 9 = 0 ∧ s' 14 = 0 ∧ s' 24 = 0 ∧ (∀ i, i < R → a' 1 i = a 8 i) ∧ (∀ i, i < W → a' 2 i = a 9 i) ∧ (∀ i, i < P → a' 3 i = a 10 i) ∧ a' 16 0 = 0 ∧ a' 16 860 = 0 := by
  refine ⟨upd (upd (upd (upd (upd (upd (upd (upd s 14 0) 0 (nI R)) 1 (nI W)) 2 (nI P)) 5 0) 6 0) 9 0) 24 0, ua (ua (ua (ua a 1 (fillF (a 1) (a 8) R)) 2 (fillF (a 2) (a 9) W)) 3 (fillF (a 3) (a 10) P)) 16 (upd (upd (a 16) 0 0) 860 0), fun G => ?_, ?_, ?_, ?_, ?_, ?_, ?_, ?_, ?_, fun i hi => ?_, fun i hi => ?_, fun i hi => ?_, ?_, ?_⟩
  · have e16 : upd s 14 0 16 = nI R := by rw [pk_un (by omega), h16]
    have e17 : upd (upd s 14 0) 0 (nI R) 17 = nI W := by rw [pk_un (by omega), pk_un (by omega), h17]
    have e18 : upd (upd (upd s 14 0) 0 (nI R)) 1 (nI W) 18 = nI P := by rw [pk_un (by omega), pk_un (by omega), pk_un (by omega), h18]
    have k0 : upd (upd (upd (upd s 14 0) 0 (nI R)) 1 (nI W)) 2 (nI P) 0 = nI R := by rw [pk_un (by omega), pk_un (by omega), pk_us]
    have k1 : upd (upd (upd (upd s 14 0) 0 (nI R)) 1 (nI W)) 2 (nI P) 1 = nI W := by rw [pk_un (by omega), pk_us]
    have k2 : upd (upd (upd (upd s 14 0) 0 (nI R)) 1 (nI W)) 2 (nI P) 2 = nI P := by rw [pk_us]
    simp only [boxK, mh_O, mh_gJ, mh_pJ, mh_gI0, mh_gI1, mh_gI2, mh_gI5, mh_gI6, mh_gI9, mh_gI14, mh_gI15, mh_gI16, mh_gI17, mh_gI18, mh_gI19, mh_gI24, mh_pI0, mh_pI1, mh_pI2, mh_pI5, mh_pI6, mh_pI9, mh_pI14, mh_pI15, mh_pI16, mh_pI17, mh_pI18, mh_pI19, mh_pI24, mh_gA3, mh_gA4, mh_gA7, mh_gA8, mh_gA10, mh_gA11, mh_gA13, mh_gA20, mh_gA21, mh_gA22, mh_gA23, mh_gA25, mh_gA26, mh_gA27, mh_gA28, mh_gA29, Option.bind_some, Option.bind_none, ↓reduceIte, if_true, if_false, e16, e17, e18]
    have c1 := m_cp1 (N := N) (G := G) (m := m) (t := t) (a := a) (l1 := l1) k0 hR (K := fun h l0 l1 =>
            fX6_box_L121 N
              (fun h l0 l1 =>
                fX6_box_L149 N
                  (fun h l0 l1 =>
                    (pV h l0 6 5 (.int (0 : Int32))).bind fun h177 =>
                    (pV h177 l0 6 6 (.int (0 : Int32))).bind fun h182 =>
                    (pV h182 l0 6 9 (.int (0 : Int32))).bind fun h187 =>
                    (pV h187 l0 6 24 (.int (0 : Int32))).bind fun h192 =>
                    (gA h192 l0 6 29).bind fun v196 =>
                    (wI h192 v196 0 (0 : Int32) (0 : Int32)).bind fun h201 =>
                    (gA h201 l0 6 29).bind fun v203 =>
                    (wI h201 v203 0 (860 : Int32) (0 : Int32)).bind fun h210 =>
                    some (l1, h210))
                  N h l0 l1 (0 : Int32))
              N h l0 l1 (0 : Int32)) N R 0 (by omega) (by omega)
    rw [fill_0, ua_id, nI_0] at c1
    refine c1.trans ?_
    have c2 := m_cp2 (N := N) (G := G) (m := m) (t := t) (a := ua a 1 (fillF (a 1) (a 8) R)) (l1 := l1) k1 hW (K := fun h l0 l1 =>
                fX6_box_L149 N
                  (fun h l0 l1 =>
                    (pV h l0 6 5 (.int (0 : Int32))).bind fun h177 =>
                    (pV h177 l0 6 6 (.int (0 : Int32))).bind fun h182 =>
                    (pV h182 l0 6 9 (.int (0 : Int32))).bind fun h187 =>
                    (pV h187 l0 6 24 (.int (0 : Int32))).bind fun h192 =>
                    (gA h192 l0 6 29).bind fun v196 =>
                    (wI h192 v196 0 (0 : Int32) (0 : Int32)).bind fun h201 =>
                    (gA h201 l0 6 29).bind fun v203 =>
                    (wI h201 v203 0 (860 : Int32) (0 : Int32)).bind fun h210 =>
                    some (l1, h210))
                  N h l0 l1 (0 : Int32)) N W 0 (by omega) (by omega)
    rw [fill_0, ua_id, nI_0, ua_n (show 2 ≠ 1 by omega), ua_n (show 9 ≠ 1 by omega)] at c2
    refine c2.trans ?_
    have c3 := m_cp3 (N := N) (G := G) (m := m) (t := t) (a := ua (ua a 1 (fillF (a 1) (a 8) R)) 2 (fillF (a 2) (a 9) W)) (l1 := l1) k2 hP (K := fun h l0 l1 =>
                    (pV h l0 6 5 (.int (0 : Int32))).bind fun h177 =>
                    (pV h177 l0 6 6 (.int (0 : Int32))).bind fun h182 =>
                    (pV h182 l0 6 9 (.int (0 : Int32))).bind fun h187 =>
                    (pV h187 l0 6 24 (.int (0 : Int32))).bind fun h192 =>
                    (gA h192 l0 6 29).bind fun v196 =>
                    (wI h192 v196 0 (0 : Int32) (0 : Int32)).bind fun h201 =>
                    (gA h201 l0 6 29).bind fun v203 =>
                    (wI h201 v203 0 (860 : Int32) (0 : Int32)).bind fun h210 =>
                    some (l1, h210)) N P 0 (by omega) (by omega)
    rw [fill_0, ua_id, nI_0, ua_n (show 3 ≠ 2 by omega), ua_n (show 3 ≠ 1 by omega), ua_n (show 10 ≠ 2 by omega), ua_n (show 10 ≠ 1 by omega)] at c3
    refine c3.trans ?_
    have w0 (S : Nat → Int32) (A : Nat → Nat → Int32) : wI (mH G m S t A) (some (m + 16)) 0 (0 : Int32) 0 = some (mH G m S t (ua A 16 (upd (A 16) 0 0))) := mh_wr16 (j := 0) (by omega)
    have w1 (S : Nat → Int32) (A : Nat → Nat → Int32) : wI (mH G m S t A) (some (m + 16)) 0 (860 : Int32) 0 = some (mH G m S t (ua A 16 (upd (A 16) 860 0))) := mh_wr16 (j := 860) (by omega)
    simp (disch := omega) only [mh_O, mh_gJ, mh_pJ, mh_gI0, mh_gI1, mh_gI2, mh_gI5, mh_gI6, mh_gI9, mh_gI14, mh_gI15, mh_gI16, mh_gI17, mh_gI18, mh_gI19, mh_gI24, mh_pI0, mh_pI1, mh_pI2, mh_pI5, mh_pI6, mh_pI9, mh_pI14, mh_pI15, mh_pI16, mh_pI17, mh_pI18, mh_pI19, mh_pI24, mh_gA3, mh_gA4, mh_gA7, mh_gA8, mh_gA10, mh_gA11, mh_gA13, mh_gA20, mh_gA21, mh_gA22, mh_gA23, mh_gA25, mh_gA26, mh_gA27, mh_gA28, mh_gA29, Option.bind_some, Option.bind_none, ↓reduceIte, if_true, if_false, w0, w1, ua_s, ua_ua, ua_n]
  all_goals (repeat (first | rw [pk_us] | rw [pk_un (by omega)]))
  · rw [ua_n (by omega), ua_n (by omega), ua_n (by omega), ua_s, fill_lt hi]
  · rw [ua_n (by omega), ua_n (by omega), ua_s, fill_lt hi]
  · rw [ua_n (by omega), ua_s, fill_lt hi]
  · rw [ua_s, pk_un (by omega), pk_us]
  · rw [ua_s, pk_us]
end BJ
