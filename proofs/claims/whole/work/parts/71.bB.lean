def TKs (v : Nat → Int32) (tb : Nat → Nat) (L q : Nat) : Prop := v 3 = nI q ∧ q ≤ L ∧ ((q = L ∧ v 5 = 0) ∨ (q < L ∧ ltr tb q = true ∧ v 5 = 1 ∧ v 4 = nI (rn (ltr tb) L q) ∧ v 6 = nI (if rn (ltr tb) L q - q = 1 then tb q else 0)) ∨ (q < L ∧ dgt tb q = true ∧ nOk tb L q ∧ v 5 = 2 ∧ v 4 = nI (rn (dgt tb) L q) ∧ v 6 = nI (nV tb L q)) ∨ (q < L ∧ dgt tb q = true ∧ ¬ nOk tb L q ∧ v 5 = 4) ∨ (q < L ∧ tb q = 59 ∧ v 5 = 3 ∧ v 4 = nI (q + 1)) ∨ (q < L ∧ ¬ ltr tb q = true ∧ ¬ dgt tb q = true ∧ tb q ≠ 59 ∧ v 5 = 4))
theorem upd64 (v : Nat → Int32) (a b c d : Int32) : upd (upd (upd (upd v 6 a) 4 b) 6 c) 4 d = upd (upd v 6 c) 4 d := by
  funext q
  by_cases c4 : q = 4
  · subst c4; rw [pk_us, pk_us]
  · rw [pk_un c4, pk_un c4]
    by_cases c6 : q = 6
    · subst c6; rw [pk_us, pk_us]
    · rw [pk_un c6, pk_un c6, pk_un c4, pk_un c6]
theorem x_isL_y {N : Nat} {h : Hp} {c : Nat} (h1 : 97 ≤ c) (h2 : c ≤ 122) : fX4_isLetter N h (nI c) = some 1 := by
  simp only [fX4_isLetter]
  rw [i_97, i_122, if_neg (Int32.not_lt.mpr (nI_le h1 (by omega))), if_neg (Int32.not_lt.mpr (nI_le h2 (by omega)))]
theorem x_isL_n {N : Nat} {h : Hp} {c : Nat} (hc : c ≤ 255) (h1 : ¬ (97 ≤ c ∧ c ≤ 122)) : fX4_isLetter N h (nI c) = some 0 := by
  simp only [fX4_isLetter]
  by_cases d : c < 97
  · rw [i_97, if_pos (nI_lt d (by omega))]
  · rw [i_97, i_122, if_neg (Int32.not_lt.mpr (nI_le (by omega) (by omega))), if_pos (nI_lt (by omega) (by omega))]
theorem x_isD_y {N : Nat} {h : Hp} {c : Nat} (h1 : 48 ≤ c) (h2 : c ≤ 57) : fX4_isDigit N h (nI c) = some 1 := by
  simp only [fX4_isDigit]
  rw [i_48, i_57, if_neg (Int32.not_lt.mpr (nI_le h1 (by omega))), if_neg (Int32.not_lt.mpr (nI_le h2 (by omega)))]
theorem x_isD_n {N : Nat} {h : Hp} {c : Nat} (hc : c ≤ 255) (h1 : ¬ (48 ≤ c ∧ c ≤ 57)) : fX4_isDigit N h (nI c) = some 0 := by
  simp only [fX4_isDigit]
  by_cases d : c < 48
  · rw [i_48, if_pos (nI_lt d (by omega))]
  · rw [i_48, i_57, if_neg (Int32.not_lt.mpr (nI_le (by omega) (by omega))), if_pos (nI_lt (by omega) (by omega))]
section BB
variable {x : Nat} {N : Nat} {G : Hp} {t : Int64} {b p : Nat} {ip : Nat → Option Nat} {r : Nat → Nat → Int32} {tb : Nat → Nat} {L : Nat}
theorem x_byte_y {v : Nat → Int32} (h2 : v 2 = nI L) (hL : L ≤ 100) (ht : ∀ i, i < L → r 2 i = nI (tb i) ∧ tb i ≤ 255) {q : Nat} (hq : q < L) : fX4_byteAt N (xH G x v t b p ip r) (some (x + 1)) (nI q) = some (nI (tb q)) := by
  have e1 : (nI q < 0) = False := eq_false (nI_neg (by omega))
  have e2 : (nI L ≤ nI q) = False := eq_false (nI_ge hq (by omega))
  simp (disch := omega) only [fX4_byteAt, xh_O5, xh_O4, xh_O3, xh_O8, xh_g5_0, xh_g5_1, xh_g5_2, xh_g5_3, xh_g5_4, xh_g5_5, xh_g5_7, xh_g5_8, xh_g5_9, xh_g5_10, xh_g5_6, xh_g8_0, xh_g8_1, xh_g4_0, xh_g4_1, xh_g4_2, xh_g4_3, xh_g4_4, xh_g4_5, xh_g3_0, xh_g3_1, xh_g3_2, xh_p5_2, xh_p5_3, xh_p8_1, xh_p5_6, xh_p5_10, xh_p4_1, xh_p4_2, xh_p4_3, xh_p4_4, xh_p4_5, xh_p3_2, xh_rd2, xh_wr2, xh_rd4, xh_wr4, xh_rd5, xh_wr5, xh_rd15, xh_wr15, xh_len15, xh_rd16, xh_wr16, xh_len16, xh_rd17, xh_wr17, xh_len17, xh_rdA, xh_rdP, xh_wrA, xh_wrP, Option.bind_some, Option.bind_none, ↓reduceIte, if_true, if_false, h2, e1, e2, (ht q hq).1]
theorem x_byte_n {v : Nat → Int32} (h2 : v 2 = nI L) (hL : L ≤ 100) : fX4_byteAt N (xH G x v t b p ip r) (some (x + 1)) (nI L) = some 0 := by
  have e1 : (nI L < 0) = False := eq_false (nI_neg (by omega))
  have e2 : (nI L ≤ nI L) = True := eq_true (nI_le (Nat.le_refl _) (by omega))
  simp (disch := omega) only [fX4_byteAt, xh_O5, xh_O4, xh_O3, xh_O8, xh_g5_0, xh_g5_1, xh_g5_2, xh_g5_3, xh_g5_4, xh_g5_5, xh_g5_7, xh_g5_8, xh_g5_9, xh_g5_10, xh_g5_6, xh_g8_0, xh_g8_1, xh_g4_0, xh_g4_1, xh_g4_2, xh_g4_3, xh_g4_4, xh_g4_5, xh_g3_0, xh_g3_1, xh_g3_2, xh_p5_2, xh_p5_3, xh_p8_1, xh_p5_6, xh_p5_10, xh_p4_1, xh_p4_2, xh_p4_3, xh_p4_4, xh_p4_5, xh_p3_2, xh_rd2, xh_wr2, xh_rd4, xh_wr4, xh_rd5, xh_wr5, xh_rd15, xh_wr15, xh_len15, xh_rd16, xh_wr16, xh_len16, xh_rd17, xh_wr17, xh_len17, xh_rdA, xh_rdP, xh_wrA, xh_wrP, Option.bind_some, Option.bind_none, ↓reduceIte, if_true, if_false, h2, e1, e2]
theorem x_skL {v : Nat → Int32} (h2 : v 2 = nI L) (hL : L ≤ 100) (ht : ∀ i, i < L → r 2 i = nI (tb i) ∧ tb i ≤ 255) {α : Type} {K : Hp → Option Nat → Option α} : ∀ (n p0 : Nat), p0 ≤ L → L - p0 < n → fX4_readToken_L0 N K n (xH G x (upd v 4 (nI p0)) t b p ip r) (some (x + 1)) = K (xH G x (upd v 4 (nI (rn (bln tb) L p0))) t b p ip r) (some (x + 1)) := by
  intro n
  induction n with
  | zero => intro p0 _ h; omega
  | succ n ih =>
    intro p0 h1 hn
    have h2' : upd v 4 (nI p0) 2 = nI L := by rw [pk_un (by omega)]; exact h2
    rw [fX4_readToken_L0]
    by_cases c : p0 < L
    · have e2 : (nI L ≤ nI p0) = False := eq_false (nI_ge c (by omega))
      by_cases d : tb p0 = 32
      · have e3 : (nI (tb p0) = (32 : Int32)) = True := eq_true (by rw [d]; rfl)
        simp only [xh_O5, xh_O4, xh_O3, xh_O8, xh_g5_0, xh_g5_1, xh_g5_2, xh_g5_3, xh_g5_4, xh_g5_5, xh_g5_7, xh_g5_8, xh_g5_9, xh_g5_10, xh_g5_6, xh_g8_0, xh_g8_1, xh_g4_0, xh_g4_1, xh_g4_2, xh_g4_3, xh_g4_4, xh_g4_5, xh_g3_0, xh_g3_1, xh_g3_2, xh_p5_2, xh_p5_3, xh_p8_1, xh_p5_6, xh_p5_10, xh_p4_1, xh_p4_2, xh_p4_3, xh_p4_4, xh_p4_5, xh_p3_2, xh_rd2, xh_wr2, xh_rd4, xh_wr4, xh_rd5, xh_wr5, xh_rd15, xh_wr15, xh_len15, xh_rd16, xh_wr16, xh_len16, xh_rd17, xh_wr17, xh_len17, xh_rdA, xh_rdP, xh_wrA, xh_wrP, Option.bind_some, Option.bind_none, ↓reduceIte, if_true, if_false, h2', pk_us, e2, x_byte_y h2' hL ht c, e3, nI_1, upd_upd]
        rw [rn_step c (bln_iff.mpr d)]
        exact ih (p0 + 1) (by omega) (by omega)
      · have hb := (ht p0 c).2
        have e3 : (nI (tb p0) = (32 : Int32)) = False := eq_false (fun z => d ((nI_eq (b := 32) (by omega) (by omega)).mp z))
        simp only [xh_O5, xh_O4, xh_O3, xh_O8, xh_g5_0, xh_g5_1, xh_g5_2, xh_g5_3, xh_g5_4, xh_g5_5, xh_g5_7, xh_g5_8, xh_g5_9, xh_g5_10, xh_g5_6, xh_g8_0, xh_g8_1, xh_g4_0, xh_g4_1, xh_g4_2, xh_g4_3, xh_g4_4, xh_g4_5, xh_g3_0, xh_g3_1, xh_g3_2, xh_p5_2, xh_p5_3, xh_p8_1, xh_p5_6, xh_p5_10, xh_p4_1, xh_p4_2, xh_p4_3, xh_p4_4, xh_p4_5, xh_p3_2, xh_rd2, xh_wr2, xh_rd4, xh_wr4, xh_rd5, xh_wr5, xh_rd15, xh_wr15, xh_len15, xh_rd16, xh_wr16, xh_len16, xh_rd17, xh_wr17, xh_len17, xh_rdA, xh_rdP, xh_wrA, xh_wrP, Option.bind_some, Option.bind_none, ↓reduceIte, if_true, if_false, h2', pk_us, e2, x_byte_y h2' hL ht c, e3]
        rw [rn_stop (fun z => d (bln_iff.mp z.2))]
    · have e2 : (nI L ≤ nI p0) = True := eq_true (nI_le (by omega) (by omega))
      simp only [xh_O5, xh_O4, xh_O3, xh_O8, xh_g5_0, xh_g5_1, xh_g5_2, xh_g5_3, xh_g5_4, xh_g5_5, xh_g5_7, xh_g5_8, xh_g5_9, xh_g5_10, xh_g5_6, xh_g8_0, xh_g8_1, xh_g4_0, xh_g4_1, xh_g4_2, xh_g4_3, xh_g4_4, xh_g4_5, xh_g3_0, xh_g3_1, xh_g3_2, xh_p5_2, xh_p5_3, xh_p8_1, xh_p5_6, xh_p5_10, xh_p4_1, xh_p4_2, xh_p4_3, xh_p4_4, xh_p4_5, xh_p3_2, xh_rd2, xh_wr2, xh_rd4, xh_wr4, xh_rd5, xh_wr5, xh_rd15, xh_wr15, xh_len15, xh_rd16, xh_wr16, xh_len16, xh_rd17, xh_wr17, xh_len17, xh_rdA, xh_rdP, xh_wrA, xh_wrP, Option.bind_some, Option.bind_none, ↓reduceIte, if_true, if_false, h2', pk_us, e2]
      rw [rn_stop (fun z => c z.1)]
theorem x_ltL {v : Nat → Int32} (h2 : v 2 = nI L) (hL : L ≤ 100) (ht : ∀ i, i < L → r 2 i = nI (tb i) ∧ tb i ≤ 255) {α : Type} {K : Hp → Option Nat → Option α} : ∀ (n p0 : Nat), p0 ≤ L → L - p0 < n → fX4_readLetters_L0 N K n (xH G x (upd v 4 (nI p0)) t b p ip r) (some (x + 1)) = K (xH G x (upd v 4 (nI (rn (ltr tb) L p0))) t b p ip r) (some (x + 1)) := by
  intro n
  induction n with
  | zero => intro p0 _ h; omega
  | succ n ih =>
    intro p0 h1 hn
    have h2' : upd v 4 (nI p0) 2 = nI L := by rw [pk_un (by omega)]; exact h2
    rw [fX4_readLetters_L0]
    by_cases c : p0 < L
    · have e2 : (nI L ≤ nI p0) = False := eq_false (nI_ge c (by omega))
      have hb := (ht p0 c).2
      by_cases d : 97 ≤ tb p0 ∧ tb p0 ≤ 122
      · simp only [xh_O5, xh_O4, xh_O3, xh_O8, xh_g5_0, xh_g5_1, xh_g5_2, xh_g5_3, xh_g5_4, xh_g5_5, xh_g5_7, xh_g5_8, xh_g5_9, xh_g5_10, xh_g5_6, xh_g8_0, xh_g8_1, xh_g4_0, xh_g4_1, xh_g4_2, xh_g4_3, xh_g4_4, xh_g4_5, xh_g3_0, xh_g3_1, xh_g3_2, xh_p5_2, xh_p5_3, xh_p8_1, xh_p5_6, xh_p5_10, xh_p4_1, xh_p4_2, xh_p4_3, xh_p4_4, xh_p4_5, xh_p3_2, xh_rd2, xh_wr2, xh_rd4, xh_wr4, xh_rd5, xh_wr5, xh_rd15, xh_wr15, xh_len15, xh_rd16, xh_wr16, xh_len16, xh_rd17, xh_wr17, xh_len17, xh_rdA, xh_rdP, xh_wrA, xh_wrP, Option.bind_some, Option.bind_none, ↓reduceIte, if_true, if_false, h2', pk_us, e2, x_byte_y h2' hL ht c, x_isL_y d.1 d.2, i10, nI_1, upd_upd]
        rw [rn_step c (ltr_iff.mpr d)]
        exact ih (p0 + 1) (by omega) (by omega)
      · simp only [xh_O5, xh_O4, xh_O3, xh_O8, xh_g5_0, xh_g5_1, xh_g5_2, xh_g5_3, xh_g5_4, xh_g5_5, xh_g5_7, xh_g5_8, xh_g5_9, xh_g5_10, xh_g5_6, xh_g8_0, xh_g8_1, xh_g4_0, xh_g4_1, xh_g4_2, xh_g4_3, xh_g4_4, xh_g4_5, xh_g3_0, xh_g3_1, xh_g3_2, xh_p5_2, xh_p5_3, xh_p8_1, xh_p5_6, xh_p5_10, xh_p4_1, xh_p4_2, xh_p4_3, xh_p4_4, xh_p4_5, xh_p3_2, xh_rd2, xh_wr2, xh_rd4, xh_wr4, xh_rd5, xh_wr5, xh_rd15, xh_wr15, xh_len15, xh_rd16, xh_wr16, xh_len16, xh_rd17, xh_wr17, xh_len17, xh_rdA, xh_rdP, xh_wrA, xh_wrP, Option.bind_some, Option.bind_none, ↓reduceIte, if_true, if_false, h2', pk_us, e2, x_byte_y h2' hL ht c, x_isL_n hb d, i00]
        rw [rn_stop (fun z => d (ltr_iff.mp z.2))]
    · have e2 : (nI L ≤ nI p0) = True := eq_true (nI_le (by omega) (by omega))
      simp only [xh_O5, xh_O4, xh_O3, xh_O8, xh_g5_0, xh_g5_1, xh_g5_2, xh_g5_3, xh_g5_4, xh_g5_5, xh_g5_7, xh_g5_8, xh_g5_9, xh_g5_10, xh_g5_6, xh_g8_0, xh_g8_1, xh_g4_0, xh_g4_1, xh_g4_2, xh_g4_3, xh_g4_4, xh_g4_5, xh_g3_0, xh_g3_1, xh_g3_2, xh_p5_2, xh_p5_3, xh_p8_1, xh_p5_6, xh_p5_10, xh_p4_1, xh_p4_2, xh_p4_3, xh_p4_4, xh_p4_5, xh_p3_2, xh_rd2, xh_wr2, xh_rd4, xh_wr4, xh_rd5, xh_wr5, xh_rd15, xh_wr15, xh_len15, xh_rd16, xh_wr16, xh_len16, xh_rd17, xh_wr17, xh_len17, xh_rdA, xh_rdP, xh_wrA, xh_wrP, Option.bind_some, Option.bind_none, ↓reduceIte, if_true, if_false, h2', pk_us, e2]
      rw [rn_stop (fun z => c z.1)]
theorem x_dgL {v : Nat → Int32} (h2 : v 2 = nI L) (hL : L ≤ 100) (ht : ∀ i, i < L → r 2 i = nI (tb i) ∧ tb i ≤ 255) {q : Nat} {α : Type} {K : Hp → Option Nat → Option α} : ∀ (n k : Nat), q + k ≤ L → L - (q + k) < n → fX4_readNumber_L5 N K n (xH G x (upd (upd v 6 (nI (vC tb q k))) 4 (nI (q + k))) t b p ip r) (some (x + 1)) = K (xH G x (upd (upd v 6 (nI (vC tb q (rn (dgt tb) L (q + k) - q)))) 4 (nI (rn (dgt tb) L (q + k)))) t b p ip r) (some (x + 1)) := by
  intro n
  induction n with
  | zero => intro k _ h; omega
  | succ n ih =>
    intro k h1 hn
    have h2' : upd (upd v 6 (nI (vC tb q k))) 4 (nI (q + k)) 2 = nI L := by rw [pk_un (by omega), pk_un (by omega)]; exact h2
    have h6' : upd (upd v 6 (nI (vC tb q k))) 4 (nI (q + k)) 6 = nI (vC tb q k) := by rw [pk_un (by omega), pk_us]
    rw [fX4_readNumber_L5]
    by_cases c : q + k < L
    · have e2 : (nI L ≤ nI (q + k)) = False := eq_false (nI_ge c (by omega))
      have hb := (ht (q + k) c).2
      have hv := vC_le tb q k
      by_cases d : 48 ≤ tb (q + k) ∧ tb (q + k) ≤ 57
      · have ev : jmin ((10 : Int32) * nI (vC tb q k) + nI (tb (q + k)) - (48 : Int32)) (1000 : Int32) = nI (vC tb q (k + 1)) := by
          rw [show (10 : Int32) * nI (vC tb q k) = nI (10 * vC tb q k) from pk_mul 10 _, nI_add, i_48, pk_sub (by omega), i_1000, jmin_nI (by omega) (by omega)]
          show _ = nI (min (10 * vC tb q k + (tb (q + k) - 48)) 1000)
          rw [show 10 * vC tb q k + tb (q + k) - 48 = 10 * vC tb q k + (tb (q + k) - 48) by omega]
        simp only [xh_O5, xh_O4, xh_O3, xh_O8, xh_g5_0, xh_g5_1, xh_g5_2, xh_g5_3, xh_g5_4, xh_g5_5, xh_g5_7, xh_g5_8, xh_g5_9, xh_g5_10, xh_g5_6, xh_g8_0, xh_g8_1, xh_g4_0, xh_g4_1, xh_g4_2, xh_g4_3, xh_g4_4, xh_g4_5, xh_g3_0, xh_g3_1, xh_g3_2, xh_p5_2, xh_p5_3, xh_p8_1, xh_p5_6, xh_p5_10, xh_p4_1, xh_p4_2, xh_p4_3, xh_p4_4, xh_p4_5, xh_p3_2, xh_rd2, xh_wr2, xh_rd4, xh_wr4, xh_rd5, xh_wr5, xh_rd15, xh_wr15, xh_len15, xh_rd16, xh_wr16, xh_len16, xh_rd17, xh_wr17, xh_len17, xh_rdA, xh_rdP, xh_wrA, xh_wrP, Option.bind_some, Option.bind_none, ↓reduceIte, if_true, if_false, h2', h6', pk_us, e2, x_byte_y h2' hL ht c, x_isD_y d.1 d.2, i10, ev]
        rw [pk_un (show (4 : Nat) ≠ 6 by omega), pk_us, nI_1, upd64, rn_step c (dgt_iff.mpr d)]
        exact ih (k + 1) (by omega) (by omega)
      · simp only [xh_O5, xh_O4, xh_O3, xh_O8, xh_g5_0, xh_g5_1, xh_g5_2, xh_g5_3, xh_g5_4, xh_g5_5, xh_g5_7, xh_g5_8, xh_g5_9, xh_g5_10, xh_g5_6, xh_g8_0, xh_g8_1, xh_g4_0, xh_g4_1, xh_g4_2, xh_g4_3, xh_g4_4, xh_g4_5, xh_g3_0, xh_g3_1, xh_g3_2, xh_p5_2, xh_p5_3, xh_p8_1, xh_p5_6, xh_p5_10, xh_p4_1, xh_p4_2, xh_p4_3, xh_p4_4, xh_p4_5, xh_p3_2, xh_rd2, xh_wr2, xh_rd4, xh_wr4, xh_rd5, xh_wr5, xh_rd15, xh_wr15, xh_len15, xh_rd16, xh_wr16, xh_len16, xh_rd17, xh_wr17, xh_len17, xh_rdA, xh_rdP, xh_wrA, xh_wrP, Option.bind_some, Option.bind_none, ↓reduceIte, if_true, if_false, h2', pk_us, e2, x_byte_y h2' hL ht c, x_isD_n hb d, i00]
        rw [rn_stop (fun z => d (dgt_iff.mp z.2)), Nat.add_sub_cancel_left]
    · have e2 : (nI L ≤ nI (q + k)) = True := eq_true (nI_le (by omega) (by omega))
      simp only [xh_O5, xh_O4, xh_O3, xh_O8, xh_g5_0, xh_g5_1, xh_g5_2, xh_g5_3, xh_g5_4, xh_g5_5, xh_g5_7, xh_g5_8, xh_g5_9, xh_g5_10, xh_g5_6, xh_g8_0, xh_g8_1, xh_g4_0, xh_g4_1, xh_g4_2, xh_g4_3, xh_g4_4, xh_g4_5, xh_g3_0, xh_g3_1, xh_g3_2, xh_p5_2, xh_p5_3, xh_p8_1, xh_p5_6, xh_p5_10, xh_p4_1, xh_p4_2, xh_p4_3, xh_p4_4, xh_p4_5, xh_p3_2, xh_rd2, xh_wr2, xh_rd4, xh_wr4, xh_rd5, xh_wr5, xh_rd15, xh_wr15, xh_len15, xh_rd16, xh_wr16, xh_len16, xh_rd17, xh_wr17, xh_len17, xh_rdA, xh_rdP, xh_wrA, xh_wrP, Option.bind_some, Option.bind_none, ↓reduceIte, if_true, if_false, h2', pk_us, e2]
      rw [rn_stop (fun z => c z.1), Nat.add_sub_cancel_left]
end BB
