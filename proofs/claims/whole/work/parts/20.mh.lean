/-! numbers -/
theorem jrem_nI {a d : Nat} (ha : a < 2 ^ 31) (h0 : 0 < d) (hd : d < 2 ^ 31) : jrem (nI a) (nI d) = nI (a % d) := pk_rem ha h0 hd
theorem jmax_nI {a b : Nat} (ha : a < 2 ^ 31) (hb : b < 2 ^ 31) : jmax (nI a) (nI b) = nI (max a b) := by
  unfold jmax
  by_cases h : a < b
  · rw [if_pos ((nI_ltI ha hb).mpr h), Nat.max_eq_right (Nat.le_of_lt h)]
  · rw [if_neg (fun z => h ((nI_ltI ha hb).mp z)), Nat.max_eq_left (Nat.not_lt.mp h)]
theorem jmin_nI {a b : Nat} (ha : a < 2 ^ 31) (hb : b < 2 ^ 31) : jmin (nI a) (nI b) = nI (min a b) := by
  unfold jmin
  by_cases h : b < a
  · rw [if_pos ((nI_ltI hb ha).mpr h), Nat.min_eq_right (Nat.le_of_lt h)]
  · rw [if_neg (fun z => h ((nI_ltI hb ha).mp z)), Nat.min_eq_left (Nat.not_lt.mp h)]
theorem nI_neg {n : Nat} (h : n < 2 ^ 31) : ¬ nI n < 0 := nI_pos h
theorem nI_m1 {n : Nat} (h : 0 < n) : nI n + (-1) = nI (n - 1) := sb_m1 h
theorem ap_if {α β : Type} (c : Prop) [Decidable c] (f : α → β) (a b : α) : f (if c then a else b) = if c then f a else f b := by by_cases h : c <;> simp [h]
theorem nI_neg9 {n : Nat} (h : n < 2 ^ 31) : ¬ nI n = -9 := by
  intro e
  have := congrArg Int32.toInt e
  rw [nI_toInt h] at this
  have h9 : (-9 : Int32).toInt = -9 := by decide
  omega
theorem i_0 : (0 : Int32) = nI 0 := rfl
theorem i_1 : (1 : Int32) = nI 1 := rfl
theorem i_2 : (2 : Int32) = nI 2 := rfl
theorem i_3 : (3 : Int32) = nI 3 := rfl
theorem i_4 : (4 : Int32) = nI 4 := rfl
theorem i_5 : (5 : Int32) = nI 5 := rfl
theorem i_6 : (6 : Int32) = nI 6 := rfl
theorem i_7 : (7 : Int32) = nI 7 := rfl
theorem i_8 : (8 : Int32) = nI 8 := rfl
theorem i_9 : (9 : Int32) = nI 9 := rfl
theorem i_10 : (10 : Int32) = nI 10 := rfl
theorem i_11 : (11 : Int32) = nI 11 := rfl
theorem i_12 : (12 : Int32) = nI 12 := rfl
theorem i_31 : (31 : Int32) = nI 31 := rfl
theorem i_32 : (32 : Int32) = nI 32 := rfl
theorem i_48 : (48 : Int32) = nI 48 := rfl
theorem i_57 : (57 : Int32) = nI 57 := rfl
theorem i_59 : (59 : Int32) = nI 59 := rfl
theorem i_72 : (72 : Int32) = nI 72 := rfl
theorem i_78 : (78 : Int32) = nI 78 := rfl
theorem i_80 : (80 : Int32) = nI 80 := rfl
theorem i_97 : (97 : Int32) = nI 97 := rfl
theorem i_99 : (99 : Int32) = nI 99 := rfl
theorem i_100 : (100 : Int32) = nI 100 := rfl
theorem i_112 : (112 : Int32) = nI 112 := rfl
theorem i_114 : (114 : Int32) = nI 114 := rfl
theorem i_119 : (119 : Int32) = nI 119 := rfl
theorem i_120 : (120 : Int32) = nI 120 := rfl
theorem i_122 : (122 : Int32) = nI 122 := rfl
theorem i_255 : (255 : Int32) = nI 255 := rfl
theorem i_359 : (359 : Int32) = nI 359 := rfl
theorem i_360 : (360 : Int32) = nI 360 := rfl
theorem i_702 : (702 : Int32) = nI 702 := rfl
theorem i_780 : (780 : Int32) = nI 780 := rfl
theorem i_860 : (860 : Int32) = nI 860 := rfl
theorem i_999 : (999 : Int32) = nI 999 := rfl
theorem i_1000 : (1000 : Int32) = nI 1000 := rfl
theorem i_1048576 : (1048576 : Int32) = nI 1048576 := rfl
theorem i_64 : (64 : Int32) = nI 64 := rfl
/-! reads and writes, where the cell is known -/
theorem gV_eq {h : Hp} {a ci j : Nat} {fs : List Value} (e : h a = some (oO ci fs)) : gV h (some a) ci j = fs[j]? := by simp [gV, e]
theorem gI_eq {h : Hp} {a ci j : Nat} {fs : List Value} {v : Int32} (e : h a = some (oO ci fs)) (ev : fs[j]? = some (.int v)) : gI h (some a) ci j = some v := by simp [gI, gV_eq e, ev]
theorem gJ_eq {h : Hp} {a ci j : Nat} {fs : List Value} {v : Int64} (e : h a = some (oO ci fs)) (ev : fs[j]? = some (.long v)) : gJ h (some a) ci j = some v := by simp [gJ, gV_eq e, ev]
theorem gA_eq {h : Hp} {a ci j : Nat} {fs : List Value} {v : Option Nat} (e : h a = some (oO ci fs)) (ev : fs[j]? = some (va_rf v)) : gA h (some a) ci j = some v := by
  cases v <;> simp [gA, gV_eq e, ev, va_rf]
theorem pV_eq {h : Hp} {a ci j : Nat} {fs : List Value} {v : Value} (e : h a = some (oO ci fs)) (hl : j < fs.length) : pV h (some a) ci j v = some (up h a (oO ci (fs.set j v))) := by simp [pV, e, hl]
theorem in_nI {j n : Nat} (hj : j < n) (hb : j < 2 ^ 31) : ¬ (nI j < 0 ∨ n ≤ (nI j).toNatClampNeg) := by
  rw [nI_clamp hb]
  exact fun z => z.elim (nI_pos hb) (by omega)
theorem rI_eq {h : Hp} {a t n j : Nat} {f : Nat → Int32} (e : h a = some (oI t n f)) (hj : j < n) (hb : j < 2 ^ 31) : rI h (some a) t (nI j) = some (f j) := by
  dsimp only [rI]
  rw [e]
  dsimp only
  rw [if_pos ⟨rfl, in_nI hj hb⟩, nI_clamp hb]
theorem wI_eq {h : Hp} {a t n j : Nat} {f : Nat → Int32} {v : Int32} (e : h a = some (oI t n f)) (hj : j < n) (hb : j < 2 ^ 31) : wI h (some a) t (nI j) v = some (up h a (oI t n (upd f j v))) := by
  dsimp only [wI]
  rw [e]
  dsimp only
  rw [if_pos ⟨rfl, in_nI hj hb⟩, nI_clamp hb]
theorem rA_eq {h : Hp} {a t n j : Nat} {f : Nat → Option Nat} (e : h a = some (oA t n f)) (hj : j < n) (hb : j < 2 ^ 31) : rA h (some a) t (nI j) = some (f j) := by
  dsimp only [rA]
  rw [e]
  dsimp only
  rw [if_pos ⟨rfl, in_nI hj hb⟩, nI_clamp hb]
theorem wA_eq {h : Hp} {a t n j : Nat} {f : Nat → Option Nat} {v : Option Nat} (e : h a = some (oA t n f)) (hj : j < n) (hb : j < 2 ^ 31) (hv : v = none ∨ isO h v (t - 1) = true) : wA h (some a) t (nI j) v = some (up h a (oA t n (va_up f j v))) := by
  dsimp only [wA]
  rw [e]
  dsimp only
  rw [if_pos ⟨rfl, in_nI hj hb, hv⟩, nI_clamp hb]
theorem isO_eq {h : Hp} {a ci : Nat} {fs : List Value} (e : h a = some (oO ci fs)) : isO h (some a) ci = true := by simp [isO, e]
theorem aL_I {h : Hp} {a t n : Nat} {f : Nat → Int32} (e : h a = some (oI t n f)) (ht : t < 2) : aL h (some a) = some (nI n) := by simp [aL, e, ht, nI]
theorem aL_A {h : Hp} {a t n : Nat} {f : Nat → Option Nat} (e : h a = some (oA t n f)) (ht : t = 2 ∨ t = 3) : aL h (some a) = some (nI n) := by simp [aL, e, ht, nI]
def ua (a : Nat → Nat → Int32) (k : Nat) (f : Nat → Int32) : Nat → Nat → Int32 := fun q => if q = k then f else a q
theorem ua_s {a : Nat → Nat → Int32} {k : Nat} {f : Nat → Int32} : ua a k f k = f := by simp [ua]
theorem ua_n {a : Nat → Nat → Int32} {k q : Nat} {f : Nat → Int32} (h : q ≠ k) : ua a k f q = a q := by simp [ua, h]
/-! the reference's cells: s its numbers by their slots, t its trace, a its rows by their places behind it -/
def mF (m : Nat) (s : Nat → Int32) (t : Int64) : List Value := [.int (s 0), .int (s 1), .int (s 2), .ref (m + 1), .ref (m + 2), .int (s 5), .int (s 6), .ref (m + 3), .ref (m + 4), .int (s 9), .ref (m + 5), .ref (m + 6), .long t, .ref (m + 7), .int (s 14), .int (s 15), .int (s 16), .int (s 17), .int (s 18), .int (s 19), .ref (m + 8), .ref (m + 9), .ref (m + 10), .ref (m + 11), .int (s 24), .ref (m + 12), .ref (m + 13), .ref (m + 14), .ref (m + 15), .ref (m + 16)]
def mLen (k : Nat) : Nat := match k with
  | 1 => 4
  | 2 => 6
  | 3 => 4
  | 4 => 72
  | 5 => 6
  | 6 => 6
  | 7 => 100
  | 8 => 4
  | 9 => 6
  | 10 => 4
  | 11 => 780
  | 12 => 3240
  | 13 => 120
  | 14 => 1000
  | 15 => 120
  | 16 => 1720
  | _ => 0
def mH (g : Hp) (m : Nat) (s : Nat → Int32) (t : Int64) (a : Nat → Nat → Int32) : Hp := fun q => if q < m then g q else if q = m then some (oO 6 (mF m s t)) else if q ≤ m + 16 then some (oI 0 (mLen (q - m)) (a (q - m))) else g q
section MH
variable {g : Hp} {m : Nat} {s : Nat → Int32} {t : Int64} {a : Nat → Nat → Int32}
theorem mh_m : mH g m s t a m = some (oO 6 (mF m s t)) := by simp [mH]
theorem mh_k {k : Nat} (h1 : 1 ≤ k) (h2 : k ≤ 16) : mH g m s t a (m + k) = some (oI 0 (mLen k) (a k)) := by
  unfold mH
  rw [if_neg (by omega), if_neg (by omega), if_pos (by omega), show m + k - m = k by omega]
theorem mh_out {q : Nat} (h : q < m ∨ m + 16 < q) : mH g m s t a q = g q := by
  unfold mH
  by_cases h1 : q < m
  · rw [if_pos h1]
  · rw [if_neg h1, if_neg (by omega), if_neg (by omega)]
theorem mh_put {s' : Nat → Int32} {t' : Int64} : up (mH g m s t a) m (oO 6 (mF m s' t')) = mH g m s' t' a := by
  funext q
  by_cases e : q = m
  · subst e
    rw [up_s, mh_m]
  · rw [up_n e]
    unfold mH
    by_cases h1 : q < m
    · rw [if_pos h1, if_pos h1]
    · rw [if_neg h1, if_neg e, if_neg h1, if_neg e]
theorem mh_row {k : Nat} {f : Nat → Int32} (h1 : 1 ≤ k) (h2 : k ≤ 16) : up (mH g m s t a) (m + k) (oI 0 (mLen k) f) = mH g m s t (ua a k f) := by
  funext q
  by_cases e : q = m + k
  · subst e
    rw [up_s, mh_k h1 h2, ua_s]
  · rw [up_n e]
    unfold mH
    by_cases h3 : q < m
    · rw [if_pos h3, if_pos h3]
    · rw [if_neg h3, if_neg h3]
      by_cases h4 : q = m
      · rw [if_pos h4, if_pos h4]
      · rw [if_neg h4, if_neg h4]
        by_cases h5 : q ≤ m + 16
        · rw [if_pos h5, if_pos h5, ua_n (by omega)]
        · rw [if_neg h5, if_neg h5]
theorem mh_O : isO (mH g m s t a) (some m) 6 = true := by simp [isO, mh_m]
theorem mh_rd {k j : Nat} (h1 : 1 ≤ k) (h2 : k ≤ 16) (hj : j < mLen k) (hb : j < 2 ^ 31) : rI (mH g m s t a) (some (m + k)) 0 (nI j) = some (a k j) := rI_eq (mh_k h1 h2) hj hb
theorem mh_wr {k j : Nat} {v : Int32} (h1 : 1 ≤ k) (h2 : k ≤ 16) (hj : j < mLen k) (hb : j < 2 ^ 31) : wI (mH g m s t a) (some (m + k)) 0 (nI j) v = some (mH g m s t (ua a k (upd (a k) j v))) := by
  rw [wI_eq (mh_k h1 h2) hj hb, mh_row h1 h2]
theorem mh_gJ : gJ (mH g m s t a) (some m) 6 12 = some t := gJ_eq mh_m rfl
theorem mh_pJ {v : Int64} : pV (mH g m s t a) (some m) 6 12 (.long v) = some (mH g m s v a) := by
  rw [pV_eq mh_m (by simp [mF]), ← mh_put (s' := s) (t' := v) (t := t)]
  rfl
theorem mh_gI0 : gI (mH g m s t a) (some m) 6 0 = some (s 0) := gI_eq mh_m rfl
theorem mh_pI0 {v : Int32} : pV (mH g m s t a) (some m) 6 0 (.int v) = some (mH g m (upd s 0 v) t a) := by
  rw [pV_eq mh_m (by simp [mF]), ← mh_put (s' := upd s 0 v) (t' := t) (s := s)]
  rfl
theorem mh_gI1 : gI (mH g m s t a) (some m) 6 1 = some (s 1) := gI_eq mh_m rfl
theorem mh_pI1 {v : Int32} : pV (mH g m s t a) (some m) 6 1 (.int v) = some (mH g m (upd s 1 v) t a) := by
  rw [pV_eq mh_m (by simp [mF]), ← mh_put (s' := upd s 1 v) (t' := t) (s := s)]
  rfl
theorem mh_gI2 : gI (mH g m s t a) (some m) 6 2 = some (s 2) := gI_eq mh_m rfl
theorem mh_pI2 {v : Int32} : pV (mH g m s t a) (some m) 6 2 (.int v) = some (mH g m (upd s 2 v) t a) := by
  rw [pV_eq mh_m (by simp [mF]), ← mh_put (s' := upd s 2 v) (t' := t) (s := s)]
  rfl
theorem mh_gA3 : gA (mH g m s t a) (some m) 6 3 = some (some (m + 1)) := gA_eq (v := some (m + 1)) mh_m rfl
theorem mh_rd1 {j : Nat} (hj : j < 4) : rI (mH g m s t a) (some (m + 1)) 0 (nI j) = some (a 1 j) := mh_rd (by decide) (by decide) hj (by omega)
theorem mh_wr1 {j : Nat} {v : Int32} (hj : j < 4) : wI (mH g m s t a) (some (m + 1)) 0 (nI j) v = some (mH g m s t (ua a 1 (upd (a 1) j v))) := mh_wr (by decide) (by decide) hj (by omega)
theorem mh_gA4 : gA (mH g m s t a) (some m) 6 4 = some (some (m + 2)) := gA_eq (v := some (m + 2)) mh_m rfl
theorem mh_rd2 {j : Nat} (hj : j < 6) : rI (mH g m s t a) (some (m + 2)) 0 (nI j) = some (a 2 j) := mh_rd (by decide) (by decide) hj (by omega)
theorem mh_wr2 {j : Nat} {v : Int32} (hj : j < 6) : wI (mH g m s t a) (some (m + 2)) 0 (nI j) v = some (mH g m s t (ua a 2 (upd (a 2) j v))) := mh_wr (by decide) (by decide) hj (by omega)
theorem mh_gI5 : gI (mH g m s t a) (some m) 6 5 = some (s 5) := gI_eq mh_m rfl
theorem mh_pI5 {v : Int32} : pV (mH g m s t a) (some m) 6 5 (.int v) = some (mH g m (upd s 5 v) t a) := by
  rw [pV_eq mh_m (by simp [mF]), ← mh_put (s' := upd s 5 v) (t' := t) (s := s)]
  rfl
theorem mh_gI6 : gI (mH g m s t a) (some m) 6 6 = some (s 6) := gI_eq mh_m rfl
theorem mh_pI6 {v : Int32} : pV (mH g m s t a) (some m) 6 6 (.int v) = some (mH g m (upd s 6 v) t a) := by
  rw [pV_eq mh_m (by simp [mF]), ← mh_put (s' := upd s 6 v) (t' := t) (s := s)]
  rfl
theorem mh_gA7 : gA (mH g m s t a) (some m) 6 7 = some (some (m + 3)) := gA_eq (v := some (m + 3)) mh_m rfl
theorem mh_rd3 {j : Nat} (hj : j < 4) : rI (mH g m s t a) (some (m + 3)) 0 (nI j) = some (a 3 j) := mh_rd (by decide) (by decide) hj (by omega)
theorem mh_wr3 {j : Nat} {v : Int32} (hj : j < 4) : wI (mH g m s t a) (some (m + 3)) 0 (nI j) v = some (mH g m s t (ua a 3 (upd (a 3) j v))) := mh_wr (by decide) (by decide) hj (by omega)
theorem mh_gA8 : gA (mH g m s t a) (some m) 6 8 = some (some (m + 4)) := gA_eq (v := some (m + 4)) mh_m rfl
theorem mh_rd4 {j : Nat} (hj : j < 72) : rI (mH g m s t a) (some (m + 4)) 0 (nI j) = some (a 4 j) := mh_rd (by decide) (by decide) hj (by omega)
theorem mh_wr4 {j : Nat} {v : Int32} (hj : j < 72) : wI (mH g m s t a) (some (m + 4)) 0 (nI j) v = some (mH g m s t (ua a 4 (upd (a 4) j v))) := mh_wr (by decide) (by decide) hj (by omega)
theorem mh_gI9 : gI (mH g m s t a) (some m) 6 9 = some (s 9) := gI_eq mh_m rfl
theorem mh_pI9 {v : Int32} : pV (mH g m s t a) (some m) 6 9 (.int v) = some (mH g m (upd s 9 v) t a) := by
  rw [pV_eq mh_m (by simp [mF]), ← mh_put (s' := upd s 9 v) (t' := t) (s := s)]
  rfl
theorem mh_gA10 : gA (mH g m s t a) (some m) 6 10 = some (some (m + 5)) := gA_eq (v := some (m + 5)) mh_m rfl
theorem mh_rd5 {j : Nat} (hj : j < 6) : rI (mH g m s t a) (some (m + 5)) 0 (nI j) = some (a 5 j) := mh_rd (by decide) (by decide) hj (by omega)
theorem mh_wr5 {j : Nat} {v : Int32} (hj : j < 6) : wI (mH g m s t a) (some (m + 5)) 0 (nI j) v = some (mH g m s t (ua a 5 (upd (a 5) j v))) := mh_wr (by decide) (by decide) hj (by omega)
theorem mh_gA11 : gA (mH g m s t a) (some m) 6 11 = some (some (m + 6)) := gA_eq (v := some (m + 6)) mh_m rfl
theorem mh_rd6 {j : Nat} (hj : j < 6) : rI (mH g m s t a) (some (m + 6)) 0 (nI j) = some (a 6 j) := mh_rd (by decide) (by decide) hj (by omega)
theorem mh_wr6 {j : Nat} {v : Int32} (hj : j < 6) : wI (mH g m s t a) (some (m + 6)) 0 (nI j) v = some (mH g m s t (ua a 6 (upd (a 6) j v))) := mh_wr (by decide) (by decide) hj (by omega)
theorem mh_gA13 : gA (mH g m s t a) (some m) 6 13 = some (some (m + 7)) := gA_eq (v := some (m + 7)) mh_m rfl
theorem mh_rd7 {j : Nat} (hj : j < 100) : rI (mH g m s t a) (some (m + 7)) 0 (nI j) = some (a 7 j) := mh_rd (by decide) (by decide) hj (by omega)
theorem mh_wr7 {j : Nat} {v : Int32} (hj : j < 100) : wI (mH g m s t a) (some (m + 7)) 0 (nI j) v = some (mH g m s t (ua a 7 (upd (a 7) j v))) := mh_wr (by decide) (by decide) hj (by omega)
theorem mh_gI14 : gI (mH g m s t a) (some m) 6 14 = some (s 14) := gI_eq mh_m rfl
theorem mh_pI14 {v : Int32} : pV (mH g m s t a) (some m) 6 14 (.int v) = some (mH g m (upd s 14 v) t a) := by
  rw [pV_eq mh_m (by simp [mF]), ← mh_put (s' := upd s 14 v) (t' := t) (s := s)]
  rfl
theorem mh_gI15 : gI (mH g m s t a) (some m) 6 15 = some (s 15) := gI_eq mh_m rfl
theorem mh_pI15 {v : Int32} : pV (mH g m s t a) (some m) 6 15 (.int v) = some (mH g m (upd s 15 v) t a) := by
  rw [pV_eq mh_m (by simp [mF]), ← mh_put (s' := upd s 15 v) (t' := t) (s := s)]
  rfl
theorem mh_gI16 : gI (mH g m s t a) (some m) 6 16 = some (s 16) := gI_eq mh_m rfl
theorem mh_pI16 {v : Int32} : pV (mH g m s t a) (some m) 6 16 (.int v) = some (mH g m (upd s 16 v) t a) := by
  rw [pV_eq mh_m (by simp [mF]), ← mh_put (s' := upd s 16 v) (t' := t) (s := s)]
  rfl
theorem mh_gI17 : gI (mH g m s t a) (some m) 6 17 = some (s 17) := gI_eq mh_m rfl
theorem mh_pI17 {v : Int32} : pV (mH g m s t a) (some m) 6 17 (.int v) = some (mH g m (upd s 17 v) t a) := by
  rw [pV_eq mh_m (by simp [mF]), ← mh_put (s' := upd s 17 v) (t' := t) (s := s)]
  rfl
theorem mh_gI18 : gI (mH g m s t a) (some m) 6 18 = some (s 18) := gI_eq mh_m rfl
theorem mh_pI18 {v : Int32} : pV (mH g m s t a) (some m) 6 18 (.int v) = some (mH g m (upd s 18 v) t a) := by
  rw [pV_eq mh_m (by simp [mF]), ← mh_put (s' := upd s 18 v) (t' := t) (s := s)]
  rfl
theorem mh_gI19 : gI (mH g m s t a) (some m) 6 19 = some (s 19) := gI_eq mh_m rfl
theorem mh_pI19 {v : Int32} : pV (mH g m s t a) (some m) 6 19 (.int v) = some (mH g m (upd s 19 v) t a) := by
  rw [pV_eq mh_m (by simp [mF]), ← mh_put (s' := upd s 19 v) (t' := t) (s := s)]
  rfl
theorem mh_gA20 : gA (mH g m s t a) (some m) 6 20 = some (some (m + 8)) := gA_eq (v := some (m + 8)) mh_m rfl
theorem mh_rd8 {j : Nat} (hj : j < 4) : rI (mH g m s t a) (some (m + 8)) 0 (nI j) = some (a 8 j) := mh_rd (by decide) (by decide) hj (by omega)
theorem mh_wr8 {j : Nat} {v : Int32} (hj : j < 4) : wI (mH g m s t a) (some (m + 8)) 0 (nI j) v = some (mH g m s t (ua a 8 (upd (a 8) j v))) := mh_wr (by decide) (by decide) hj (by omega)
theorem mh_gA21 : gA (mH g m s t a) (some m) 6 21 = some (some (m + 9)) := gA_eq (v := some (m + 9)) mh_m rfl
theorem mh_rd9 {j : Nat} (hj : j < 6) : rI (mH g m s t a) (some (m + 9)) 0 (nI j) = some (a 9 j) := mh_rd (by decide) (by decide) hj (by omega)
theorem mh_wr9 {j : Nat} {v : Int32} (hj : j < 6) : wI (mH g m s t a) (some (m + 9)) 0 (nI j) v = some (mH g m s t (ua a 9 (upd (a 9) j v))) := mh_wr (by decide) (by decide) hj (by omega)
theorem mh_gA22 : gA (mH g m s t a) (some m) 6 22 = some (some (m + 10)) := gA_eq (v := some (m + 10)) mh_m rfl
theorem mh_rd10 {j : Nat} (hj : j < 4) : rI (mH g m s t a) (some (m + 10)) 0 (nI j) = some (a 10 j) := mh_rd (by decide) (by decide) hj (by omega)
theorem mh_wr10 {j : Nat} {v : Int32} (hj : j < 4) : wI (mH g m s t a) (some (m + 10)) 0 (nI j) v = some (mH g m s t (ua a 10 (upd (a 10) j v))) := mh_wr (by decide) (by decide) hj (by omega)
theorem mh_gA23 : gA (mH g m s t a) (some m) 6 23 = some (some (m + 11)) := gA_eq (v := some (m + 11)) mh_m rfl
theorem mh_rd11 {j : Nat} (hj : j < 780) : rI (mH g m s t a) (some (m + 11)) 0 (nI j) = some (a 11 j) := mh_rd (by decide) (by decide) hj (by omega)
theorem mh_wr11 {j : Nat} {v : Int32} (hj : j < 780) : wI (mH g m s t a) (some (m + 11)) 0 (nI j) v = some (mH g m s t (ua a 11 (upd (a 11) j v))) := mh_wr (by decide) (by decide) hj (by omega)
theorem mh_gI24 : gI (mH g m s t a) (some m) 6 24 = some (s 24) := gI_eq mh_m rfl
theorem mh_pI24 {v : Int32} : pV (mH g m s t a) (some m) 6 24 (.int v) = some (mH g m (upd s 24 v) t a) := by
  rw [pV_eq mh_m (by simp [mF]), ← mh_put (s' := upd s 24 v) (t' := t) (s := s)]
  rfl
theorem mh_gA25 : gA (mH g m s t a) (some m) 6 25 = some (some (m + 12)) := gA_eq (v := some (m + 12)) mh_m rfl
theorem mh_rd12 {j : Nat} (hj : j < 3240) : rI (mH g m s t a) (some (m + 12)) 0 (nI j) = some (a 12 j) := mh_rd (by decide) (by decide) hj (by omega)
theorem mh_wr12 {j : Nat} {v : Int32} (hj : j < 3240) : wI (mH g m s t a) (some (m + 12)) 0 (nI j) v = some (mH g m s t (ua a 12 (upd (a 12) j v))) := mh_wr (by decide) (by decide) hj (by omega)
theorem mh_gA26 : gA (mH g m s t a) (some m) 6 26 = some (some (m + 13)) := gA_eq (v := some (m + 13)) mh_m rfl
theorem mh_rd13 {j : Nat} (hj : j < 120) : rI (mH g m s t a) (some (m + 13)) 0 (nI j) = some (a 13 j) := mh_rd (by decide) (by decide) hj (by omega)
theorem mh_wr13 {j : Nat} {v : Int32} (hj : j < 120) : wI (mH g m s t a) (some (m + 13)) 0 (nI j) v = some (mH g m s t (ua a 13 (upd (a 13) j v))) := mh_wr (by decide) (by decide) hj (by omega)
theorem mh_gA27 : gA (mH g m s t a) (some m) 6 27 = some (some (m + 14)) := gA_eq (v := some (m + 14)) mh_m rfl
theorem mh_rd14 {j : Nat} (hj : j < 1000) : rI (mH g m s t a) (some (m + 14)) 0 (nI j) = some (a 14 j) := mh_rd (by decide) (by decide) hj (by omega)
theorem mh_wr14 {j : Nat} {v : Int32} (hj : j < 1000) : wI (mH g m s t a) (some (m + 14)) 0 (nI j) v = some (mH g m s t (ua a 14 (upd (a 14) j v))) := mh_wr (by decide) (by decide) hj (by omega)
theorem mh_gA28 : gA (mH g m s t a) (some m) 6 28 = some (some (m + 15)) := gA_eq (v := some (m + 15)) mh_m rfl
theorem mh_rd15 {j : Nat} (hj : j < 120) : rI (mH g m s t a) (some (m + 15)) 0 (nI j) = some (a 15 j) := mh_rd (by decide) (by decide) hj (by omega)
theorem mh_wr15 {j : Nat} {v : Int32} (hj : j < 120) : wI (mH g m s t a) (some (m + 15)) 0 (nI j) v = some (mH g m s t (ua a 15 (upd (a 15) j v))) := mh_wr (by decide) (by decide) hj (by omega)
theorem mh_gA29 : gA (mH g m s t a) (some m) 6 29 = some (some (m + 16)) := gA_eq (v := some (m + 16)) mh_m rfl
theorem mh_rd16 {j : Nat} (hj : j < 1720) : rI (mH g m s t a) (some (m + 16)) 0 (nI j) = some (a 16 j) := mh_rd (by decide) (by decide) hj (by omega)
theorem mh_wr16 {j : Nat} {v : Int32} (hj : j < 1720) : wI (mH g m s t a) (some (m + 16)) 0 (nI j) v = some (mH g m s t (ua a 16 (upd (a 16) j v))) := mh_wr (by decide) (by decide) hj (by omega)
end MH
