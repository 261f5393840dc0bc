section BF
variable {g : Hp} {m N : Nat} {t : Int64} {a : Nat → Nat → Int32} {tb : Nat → Nat} {L : Nat}
theorem m_here_y {s : Nat → Int32} {q : Nat} (h14 : s 14 = nI L) (h15 : s 15 = nI q) (hL : L ≤ 100) (ht : ∀ i, i < L → a 7 i = nI (tb i) ∧ tb i ≤ 255) (hq : q < L) : fX6_here N (mH g m s t a) (some m) = some (nI (tb q)) := by
  have e : (nI L ≤ nI q) = False := eq_false (nI_ge hq (by omega))
  simp (disch := omega) only [fX6_here, mh_O, mh_gJ, mh_pJ, mh_gI0, mh_gI1, mh_gI2, mh_gI5, mh_gI6, mh_gI9, mh_gI14, mh_gI15, mh_gI16, mh_gI17, mh_gI18, mh_gI19, mh_gI24, mh_pI0, mh_pI1, mh_pI2, mh_pI5, mh_pI6, mh_pI9, mh_pI14, mh_pI15, mh_pI16, mh_pI17, mh_pI18, mh_pI19, mh_pI24, mh_gA3, mh_gA4, mh_gA7, mh_gA8, mh_gA10, mh_gA11, mh_gA13, mh_gA20, mh_gA21, mh_gA22, mh_gA23, mh_gA25, mh_gA26, mh_gA27, mh_gA28, mh_gA29, mh_rd1, mh_rd2, mh_rd3, mh_rd4, mh_rd5, mh_rd6, mh_rd7, mh_rd8, mh_rd9, mh_rd10, mh_rd11, mh_rd12, mh_rd13, mh_rd14, mh_rd15, mh_rd16, mh_wr1, mh_wr2, mh_wr3, mh_wr4, mh_wr5, mh_wr6, mh_wr7, mh_wr8, mh_wr9, mh_wr10, mh_wr11, mh_wr12, mh_wr13, mh_wr14, mh_wr15, mh_wr16, Option.bind_some, Option.bind_none, ↓reduceIte, if_true, if_false, h14, h15, e, (ht q hq).1]
theorem m_here_n {s : Nat → Int32} {q : Nat} (h14 : s 14 = nI L) (h15 : s 15 = nI q) (hL : L ≤ 100) (hq : q = L) : fX6_here N (mH g m s t a) (some m) = some (-9) := by
  have e : (nI L ≤ nI q) = True := eq_true (nI_le (by omega) (by omega))
  simp (disch := omega) only [fX6_here, mh_O, mh_gJ, mh_pJ, mh_gI0, mh_gI1, mh_gI2, mh_gI5, mh_gI6, mh_gI9, mh_gI14, mh_gI15, mh_gI16, mh_gI17, mh_gI18, mh_gI19, mh_gI24, mh_pI0, mh_pI1, mh_pI2, mh_pI5, mh_pI6, mh_pI9, mh_pI14, mh_pI15, mh_pI16, mh_pI17, mh_pI18, mh_pI19, mh_pI24, mh_gA3, mh_gA4, mh_gA7, mh_gA8, mh_gA10, mh_gA11, mh_gA13, mh_gA20, mh_gA21, mh_gA22, mh_gA23, mh_gA25, mh_gA26, mh_gA27, mh_gA28, mh_gA29, mh_rd1, mh_rd2, mh_rd3, mh_rd4, mh_rd5, mh_rd6, mh_rd7, mh_rd8, mh_rd9, mh_rd10, mh_rd11, mh_rd12, mh_rd13, mh_rd14, mh_rd15, mh_rd16, mh_wr1, mh_wr2, mh_wr3, mh_wr4, mh_wr5, mh_wr6, mh_wr7, mh_wr8, mh_wr9, mh_wr10, mh_wr11, mh_wr12, mh_wr13, mh_wr14, mh_wr15, mh_wr16, Option.bind_some, Option.bind_none, ↓reduceIte, if_true, if_false, h14, h15, e]
theorem m_skL {s : Nat → Int32} (h14 : s 14 = nI L) (hL : L ≤ 100) (ht : ∀ i, i < L → a 7 i = nI (tb i) ∧ tb i ≤ 255) {α : Type} {K : Hp → Option α} : ∀ (n p0 : Nat), p0 ≤ L → L - p0 < n → fX6_skip_L0 N K n (mH g m (upd s 15 (nI p0)) t a) (some m) = K (mH g m (upd s 15 (nI (rn (bln tb) L p0))) t a) := by
  intro n
  induction n with
  | zero => intro p0 _ h; omega
  | succ n ih =>
    intro p0 h1 hn
    have h14' : upd s 15 (nI p0) 14 = nI L := by rw [pk_un (by omega)]; exact h14
    rw [fX6_skip_L0]
    by_cases c : p0 < L
    · have hb := (ht p0 c).2
      by_cases d : tb p0 = 32
      · have e3 : (nI (tb p0) = (32 : Int32)) = True := eq_true (by rw [d]; rfl)
        simp only [mh_O, mh_gJ, mh_pJ, mh_gI0, mh_gI1, mh_gI2, mh_gI5, mh_gI6, mh_gI9, mh_gI14, mh_gI15, mh_gI16, mh_gI17, mh_gI18, mh_gI19, mh_gI24, mh_pI0, mh_pI1, mh_pI2, mh_pI5, mh_pI6, mh_pI9, mh_pI14, mh_pI15, mh_pI16, mh_pI17, mh_pI18, mh_pI19, mh_pI24, mh_gA3, mh_gA4, mh_gA7, mh_gA8, mh_gA10, mh_gA11, mh_gA13, mh_gA20, mh_gA21, mh_gA22, mh_gA23, mh_gA25, mh_gA26, mh_gA27, mh_gA28, mh_gA29, Option.bind_some, Option.bind_none, ↓reduceIte, if_true, if_false, m_here_y h14' pk_us hL ht c, e3, pk_us, nI_1, upd_upd]
        rw [rn_step c (bln_iff.mpr d)]
        exact ih (p0 + 1) (by omega) (by omega)
      · have e3 : (nI (tb p0) = (32 : Int32)) = False := eq_false (fun z => d ((nI_eq (b := 32) (by omega) (by omega)).mp z))
        simp only [mh_O, mh_gJ, mh_pJ, mh_gI0, mh_gI1, mh_gI2, mh_gI5, mh_gI6, mh_gI9, mh_gI14, mh_gI15, mh_gI16, mh_gI17, mh_gI18, mh_gI19, mh_gI24, mh_pI0, mh_pI1, mh_pI2, mh_pI5, mh_pI6, mh_pI9, mh_pI14, mh_pI15, mh_pI16, mh_pI17, mh_pI18, mh_pI19, mh_pI24, mh_gA3, mh_gA4, mh_gA7, mh_gA8, mh_gA10, mh_gA11, mh_gA13, mh_gA20, mh_gA21, mh_gA22, mh_gA23, mh_gA25, mh_gA26, mh_gA27, mh_gA28, mh_gA29, Option.bind_some, Option.bind_none, ↓reduceIte, if_true, if_false, m_here_y h14' pk_us hL ht c, e3]
        rw [rn_stop (fun z => d (bln_iff.mp z.2))]
    · have e3 : ((-9 : Int32) = (32 : Int32)) = False := eq_false (by decide)
      simp only [mh_O, mh_gJ, mh_pJ, mh_gI0, mh_gI1, mh_gI2, mh_gI5, mh_gI6, mh_gI9, mh_gI14, mh_gI15, mh_gI16, mh_gI17, mh_gI18, mh_gI19, mh_gI24, mh_pI0, mh_pI1, mh_pI2, mh_pI5, mh_pI6, mh_pI9, mh_pI14, mh_pI15, mh_pI16, mh_pI17, mh_pI18, mh_pI19, mh_pI24, mh_gA3, mh_gA4, mh_gA7, mh_gA8, mh_gA10, mh_gA11, mh_gA13, mh_gA20, mh_gA21, mh_gA22, mh_gA23, mh_gA25, mh_gA26, mh_gA27, mh_gA28, mh_gA29, Option.bind_some, Option.bind_none, ↓reduceIte, if_true, if_false, m_here_n h14' pk_us hL (show p0 = L by omega), e3]
      rw [rn_stop (fun z => c z.1)]
theorem m_skip {s : Nat → Int32} {p0 : Nat} (hN : 2000 ≤ N) (h14 : s 14 = nI L) (h15 : s 15 = nI p0) (hL : L ≤ 100) (ht : ∀ i, i < L → a 7 i = nI (tb i) ∧ tb i ≤ 255) (hp : p0 ≤ L) : fX6_skip N (mH g m s t a) (some m) = some (mH g m (upd s 15 (nI (rn (bln tb) L p0))) t a) := by
  have e := m_skL (N := N) (g := g) (m := m) (t := t) h14 hL ht (K := fun h => some h) N p0 hp (by omega)
  rw [← h15, upd_id] at e
  exact e
theorem m_nuL {s : Nat → Int32} {q : Nat} {lo hi : Int32} (h14 : s 14 = nI L) (h15 : s 15 = nI q) (hL : L ≤ 100) (ht : ∀ i, i < L → a 7 i = nI (tb i) ∧ tb i ≤ 255) {α : Type} {K : Hp → Option Nat → Int32 → Int32 → Int32 → Int32 → Option α} : ∀ (n k : Nat), q + k ≤ L → L - (q + k) < n → fX6_number_L9 N K n (mH g m s t a) (some m) lo hi (nI k) (nI (vR tb q k)) = K (mH g m s t a) (some m) lo hi (nI (rn (dgt tb) L (q + k) - q)) (nI (vR tb q (rn (dgt tb) L (q + k) - q))) := by
  intro n
  induction n with
  | zero => intro k _ h; omega
  | succ n ih =>
    intro k h1 hn
    rw [fX6_number_L9]
    by_cases c : q + k < L
    · have hb := (ht (q + k) c).2
      have e : (nI L ≤ nI (q + k)) = False := eq_false (nI_ge c (by omega))
      by_cases d : 48 ≤ tb (q + k) ∧ tb (q + k) ≤ 57
      · have w := m_in_y (N := N) (h := mH g m s t a) (nI_le (b := tb (q + k)) d.1 (by omega)) (nI_le (b := 57) d.2 (by omega))
        rw [← i_48, ← i_57] at w
        have hs := ih (k + 1) (by omega) (by omega)
        rw [← Nat.add_assoc, ← rn_step c (dgt_iff.mpr d)] at hs
        by_cases c3 : k < 3
        · have e3 : ((3 : Int32) ≤ nI k) = False := eq_false (nI_ge (b := 3) c3 (by omega))
          have ev : (10 : Int32) * nI (vR tb q k) + nI (tb (q + k)) - (48 : Int32) = nI (vR tb q (k + 1)) := by
            rw [show (10 : Int32) * nI (vR tb q k) = nI (10 * vR tb q k) from pk_mul 10 _, nI_add, i_48, pk_sub (by omega)]
            have : vR tb q (k + 1) = 10 * vR tb q k + (tb (q + k) - 48) := if_pos c3
            rw [this]
            congr 1
            omega
          simp (disch := omega) only [mh_O, mh_gJ, mh_pJ, mh_gI0, mh_gI1, mh_gI2, mh_gI5, mh_gI6, mh_gI9, mh_gI14, mh_gI15, mh_gI16, mh_gI17, mh_gI18, mh_gI19, mh_gI24, mh_pI0, mh_pI1, mh_pI2, mh_pI5, mh_pI6, mh_pI9, mh_pI14, mh_pI15, mh_pI16, mh_pI17, mh_pI18, mh_pI19, mh_pI24, mh_gA3, mh_gA4, mh_gA7, mh_gA8, mh_gA10, mh_gA11, mh_gA13, mh_gA20, mh_gA21, mh_gA22, mh_gA23, mh_gA25, mh_gA26, mh_gA27, mh_gA28, mh_gA29, mh_rd1, mh_rd2, mh_rd3, mh_rd4, mh_rd5, mh_rd6, mh_rd7, mh_rd8, mh_rd9, mh_rd10, mh_rd11, mh_rd12, mh_rd13, mh_rd14, mh_rd15, mh_rd16, mh_wr1, mh_wr2, mh_wr3, mh_wr4, mh_wr5, mh_wr6, mh_wr7, mh_wr8, mh_wr9, mh_wr10, mh_wr11, mh_wr12, mh_wr13, mh_wr14, mh_wr15, mh_wr16, Option.bind_some, Option.bind_none, ↓reduceIte, if_true, if_false, h14, h15, nI_add, e, (ht (q + k) c).1, w, i10, e3, ev, nI_1]
          exact hs
        · have e3 : ((3 : Int32) ≤ nI k) = True := eq_true (nI_le (a := 3) (by omega) (by omega))
          have ev : vR tb q (k + 1) = vR tb q k := if_neg c3
          rw [ev] at hs
          simp (disch := omega) only [mh_O, mh_gJ, mh_pJ, mh_gI0, mh_gI1, mh_gI2, mh_gI5, mh_gI6, mh_gI9, mh_gI14, mh_gI15, mh_gI16, mh_gI17, mh_gI18, mh_gI19, mh_gI24, mh_pI0, mh_pI1, mh_pI2, mh_pI5, mh_pI6, mh_pI9, mh_pI14, mh_pI15, mh_pI16, mh_pI17, mh_pI18, mh_pI19, mh_pI24, mh_gA3, mh_gA4, mh_gA7, mh_gA8, mh_gA10, mh_gA11, mh_gA13, mh_gA20, mh_gA21, mh_gA22, mh_gA23, mh_gA25, mh_gA26, mh_gA27, mh_gA28, mh_gA29, mh_rd1, mh_rd2, mh_rd3, mh_rd4, mh_rd5, mh_rd6, mh_rd7, mh_rd8, mh_rd9, mh_rd10, mh_rd11, mh_rd12, mh_rd13, mh_rd14, mh_rd15, mh_rd16, mh_wr1, mh_wr2, mh_wr3, mh_wr4, mh_wr5, mh_wr6, mh_wr7, mh_wr8, mh_wr9, mh_wr10, mh_wr11, mh_wr12, mh_wr13, mh_wr14, mh_wr15, mh_wr16, Option.bind_some, Option.bind_none, ↓reduceIte, if_true, if_false, h14, h15, nI_add, e, (ht (q + k) c).1, w, i10, e3, nI_1]
          exact hs
      · have w := m_in_n (N := N) (h := mH g m s t a) (v := nI (tb (q + k))) (lo := (48 : Int32)) (hi := (57 : Int32)) (fun y => d ⟨(nI_leI (a := 48) (by omega) (by omega)).mp y.1, (nI_leI (b := 57) (by omega) (by omega)).mp y.2⟩)
        simp (disch := omega) only [mh_O, mh_gJ, mh_pJ, mh_gI0, mh_gI1, mh_gI2, mh_gI5, mh_gI6, mh_gI9, mh_gI14, mh_gI15, mh_gI16, mh_gI17, mh_gI18, mh_gI19, mh_gI24, mh_pI0, mh_pI1, mh_pI2, mh_pI5, mh_pI6, mh_pI9, mh_pI14, mh_pI15, mh_pI16, mh_pI17, mh_pI18, mh_pI19, mh_pI24, mh_gA3, mh_gA4, mh_gA7, mh_gA8, mh_gA10, mh_gA11, mh_gA13, mh_gA20, mh_gA21, mh_gA22, mh_gA23, mh_gA25, mh_gA26, mh_gA27, mh_gA28, mh_gA29, mh_rd1, mh_rd2, mh_rd3, mh_rd4, mh_rd5, mh_rd6, mh_rd7, mh_rd8, mh_rd9, mh_rd10, mh_rd11, mh_rd12, mh_rd13, mh_rd14, mh_rd15, mh_rd16, mh_wr1, mh_wr2, mh_wr3, mh_wr4, mh_wr5, mh_wr6, mh_wr7, mh_wr8, mh_wr9, mh_wr10, mh_wr11, mh_wr12, mh_wr13, mh_wr14, mh_wr15, mh_wr16, Option.bind_some, Option.bind_none, ↓reduceIte, if_true, if_false, h14, h15, nI_add, e, (ht (q + k) c).1, w, i00]
        rw [rn_stop (fun z => d (dgt_iff.mp z.2)), Nat.add_sub_cancel_left]
    · have e : (nI L ≤ nI (q + k)) = True := eq_true (nI_le (by omega) (by omega))
      simp (disch := omega) only [mh_O, mh_gJ, mh_pJ, mh_gI0, mh_gI1, mh_gI2, mh_gI5, mh_gI6, mh_gI9, mh_gI14, mh_gI15, mh_gI16, mh_gI17, mh_gI18, mh_gI19, mh_gI24, mh_pI0, mh_pI1, mh_pI2, mh_pI5, mh_pI6, mh_pI9, mh_pI14, mh_pI15, mh_pI16, mh_pI17, mh_pI18, mh_pI19, mh_pI24, mh_gA3, mh_gA4, mh_gA7, mh_gA8, mh_gA10, mh_gA11, mh_gA13, mh_gA20, mh_gA21, mh_gA22, mh_gA23, mh_gA25, mh_gA26, mh_gA27, mh_gA28, mh_gA29, mh_rd1, mh_rd2, mh_rd3, mh_rd4, mh_rd5, mh_rd6, mh_rd7, mh_rd8, mh_rd9, mh_rd10, mh_rd11, mh_rd12, mh_rd13, mh_rd14, mh_rd15, mh_rd16, mh_wr1, mh_wr2, mh_wr3, mh_wr4, mh_wr5, mh_wr6, mh_wr7, mh_wr8, mh_wr9, mh_wr10, mh_wr11, mh_wr12, mh_wr13, mh_wr14, mh_wr15, mh_wr16, Option.bind_some, Option.bind_none, ↓reduceIte, if_true, if_false, h14, h15, nI_add, e]
      rw [rn_stop (fun z => c z.1), Nat.add_sub_cancel_left]
theorem m_number_y {s : Nat → Int32} {p0 q lo hi : Nat} (hN : 2000 ≤ N) (h14 : s 14 = nI L) (h15 : s 15 = nI p0) (hL : L ≤ 100) (ht : ∀ i, i < L → a 7 i = nI (tb i) ∧ tb i ≤ 255) (hp : p0 ≤ L) (hq : rn (bln tb) L p0 = q) (ok : nOk tb L q) (h1 : lo ≤ nV tb L q) (h2 : nV tb L q ≤ hi) (hhi : hi ≤ 1000) : ∃ s', (∀ g : Hp, fX6_number N (mH g m s t a) (some m) (nI lo) (nI hi) = some (1, mH g m s' t a)) ∧ s' 15 = nI (rn (dgt tb) L q) ∧ s' 19 = nI (nV tb L q) ∧ ∀ i, i ≠ 15 → i ≠ 19 → s' i = s i := by
  have hqL : q ≤ L := by rw [← hq]; exact rn_le hp
  have hd := nOk_dgt hqL ok
  have hg := rn_ge (f := dgt tb) (L := L) (p := q) hqL
  have hg2 := rn_le (f := dgt tb) (L := L) (p := q) hqL
  have k14 : upd s 15 (nI q) 14 = nI L := by rw [pk_un (by omega)]; exact h14
  have e (g : Hp) := m_nuL (N := N) (g := g) (m := m) (t := t) (s := upd s 15 (nI q)) (q := q) (lo := nI lo) (hi := nI hi) k14 pk_us hL ht (K := fun h l0 l1 l2 l3 l4 => fX6_number_j81 N h l0 l1 l2 l3 l4) N 0 (by omega) (by omega)
  have w1 (g : Hp) := (w_y (N := N) (G := mH g m (upd s 15 (nI q)) t a) ok.1 ok.2.1 (by omega)).2
  have w2 (g : Hp) := (w_y (N := N) (G := mH g m (upd s 15 (nI q)) t a) h1 h2 (by omega)).2
  have hb := (ht q hd.1).2
  refine ⟨upd (upd (upd s 15 (nI q)) 19 (nI (nV tb L q))) 15 (nI (rn (dgt tb) L q)), fun g => ?_, pk_us, by rw [pk_un (by omega), pk_us], fun i a b => by rw [pk_un a, pk_un b, pk_un a]⟩
  simp only [fX6_number, mh_O, mh_gJ, mh_pJ, mh_gI0, mh_gI1, mh_gI2, mh_gI5, mh_gI6, mh_gI9, mh_gI14, mh_gI15, mh_gI16, mh_gI17, mh_gI18, mh_gI19, mh_gI24, mh_pI0, mh_pI1, mh_pI2, mh_pI5, mh_pI6, mh_pI9, mh_pI14, mh_pI15, mh_pI16, mh_pI17, mh_pI18, mh_pI19, mh_pI24, mh_gA3, mh_gA4, mh_gA7, mh_gA8, mh_gA10, mh_gA11, mh_gA13, mh_gA20, mh_gA21, mh_gA22, mh_gA23, mh_gA25, mh_gA26, mh_gA27, mh_gA28, mh_gA29, Option.bind_some, Option.bind_none, ↓reduceIte, if_true, if_false, m_skip hN h14 h15 hL ht hp, hq]
  refine (e g).trans ?_
  rw [Nat.add_zero]
  have e15 : upd (upd s 15 (nI q)) 19 (nI (nV tb L q)) 15 = nI q := by rw [pk_un (by omega), pk_us]
  have es : q + (rn (dgt tb) L q - q) = rn (dgt tb) L q := by omega
  show fX6_number_j81 N _ (some m) (nI lo) (nI hi) _ (nI (nV tb L q)) = _
  by_cases c : rn (dgt tb) L q - q ≤ 1
  · simp only [fX6_number_j81, fX6_number_j104, i_1, i_3, w1, w2, lit_le (show 1 ≤ 100000 by omega) c, mh_O, mh_gJ, mh_pJ, mh_gI0, mh_gI1, mh_gI2, mh_gI5, mh_gI6, mh_gI9, mh_gI14, mh_gI15, mh_gI16, mh_gI17, mh_gI18, mh_gI19, mh_gI24, mh_pI0, mh_pI1, mh_pI2, mh_pI5, mh_pI6, mh_pI9, mh_pI14, mh_pI15, mh_pI16, mh_pI17, mh_pI18, mh_pI19, mh_pI24, mh_gA3, mh_gA4, mh_gA7, mh_gA8, mh_gA10, mh_gA11, mh_gA13, mh_gA20, mh_gA21, mh_gA22, mh_gA23, mh_gA25, mh_gA26, mh_gA27, mh_gA28, mh_gA29, Option.bind_some, Option.bind_none, ↓reduceIte, if_true, if_false, e15, nI_add, es, lit_ne (show 1 ≤ 1000 by omega) (show 0 ≤ 1000 by omega) (by omega), i_0]
  · have c48 : (nI (tb q) = (48 : Int32)) = False := eq_false (fun y => ok.2.2 ⟨by omega, (nI_eq (b := 48) (by omega) (by omega)).mp y⟩)
    simp only [fX6_number_j81, fX6_number_j104, i_1, i_3, w1, w2, lit_gt (show rn (dgt tb) L q - q ≤ 100000 by omega) (show 1 < rn (dgt tb) L q - q by omega), mh_O, mh_gJ, mh_pJ, mh_gI0, mh_gI1, mh_gI2, mh_gI5, mh_gI6, mh_gI9, mh_gI14, mh_gI15, mh_gI16, mh_gI17, mh_gI18, mh_gI19, mh_gI24, mh_pI0, mh_pI1, mh_pI2, mh_pI5, mh_pI6, mh_pI9, mh_pI14, mh_pI15, mh_pI16, mh_pI17, mh_pI18, mh_pI19, mh_pI24, mh_gA3, mh_gA4, mh_gA7, mh_gA8, mh_gA10, mh_gA11, mh_gA13, mh_gA20, mh_gA21, mh_gA22, mh_gA23, mh_gA25, mh_gA26, mh_gA27, mh_gA28, mh_gA29, Option.bind_some, Option.bind_none, ↓reduceIte, if_true, if_false, m_here_y k14 pk_us hL ht hd.1, c48, e15, nI_add, es, lit_ne (show 1 ≤ 1000 by omega) (show 0 ≤ 1000 by omega) (by omega), i_0]
theorem m_number_n {s : Nat → Int32} {p0 q lo hi : Nat} (hN : 2000 ≤ N) (h14 : s 14 = nI L) (h15 : s 15 = nI p0) (hL : L ≤ 100) (ht : ∀ i, i < L → a 7 i = nI (tb i) ∧ tb i ≤ 255) (hp : p0 ≤ L) (hq : rn (bln tb) L p0 = q) (hn : ¬ (nOk tb L q ∧ lo ≤ nV tb L q ∧ nV tb L q ≤ hi)) (hhi : hi ≤ 1000) (hlo : lo ≤ 1000) : fX6_number N (mH g m s t a) (some m) (nI lo) (nI hi) = some (0, mH g m (upd s 15 (nI q)) t a) := by
  have hqL : q ≤ L := by rw [← hq]; exact rn_le hp
  have hg := rn_ge (f := dgt tb) (L := L) (p := q) hqL
  have hg2 := rn_le (f := dgt tb) (L := L) (p := q) hqL
  have k14 : upd s 15 (nI q) 14 = nI L := by rw [pk_un (by omega)]; exact h14
  have e := m_nuL (N := N) (g := g) (m := m) (t := t) (s := upd s 15 (nI q)) (q := q) (lo := nI lo) (hi := nI hi) k14 pk_us hL ht (K := fun h l0 l1 l2 l3 l4 => fX6_number_j81 N h l0 l1 l2 l3 l4) N 0 (by omega) (by omega)
  rw [Nat.add_zero] at e
  simp only [fX6_number, mh_O, mh_gJ, mh_pJ, mh_gI0, mh_gI1, mh_gI2, mh_gI5, mh_gI6, mh_gI9, mh_gI14, mh_gI15, mh_gI16, mh_gI17, mh_gI18, mh_gI19, mh_gI24, mh_pI0, mh_pI1, mh_pI2, mh_pI5, mh_pI6, mh_pI9, mh_pI14, mh_pI15, mh_pI16, mh_pI17, mh_pI18, mh_pI19, mh_pI24, mh_gA3, mh_gA4, mh_gA7, mh_gA8, mh_gA10, mh_gA11, mh_gA13, mh_gA20, mh_gA21, mh_gA22, mh_gA23, mh_gA25, mh_gA26, mh_gA27, mh_gA28, mh_gA29, Option.bind_some, Option.bind_none, ↓reduceIte, if_true, if_false, m_skip hN h14 h15 hL ht hp, hq]
  refine e.trans ?_
  show fX6_number_j81 N _ (some m) (nI lo) (nI hi) _ (nI (nV tb L q)) = _
  by_cases c : 1 ≤ rn (dgt tb) L q - q ∧ rn (dgt tb) L q - q ≤ 3
  · have w1 := (w_y (N := N) (G := mH g m (upd s 15 (nI q)) t a) c.1 c.2 (by omega)).2
    have hd : q < L ∧ dgt tb q = true := by
      by_cases cc : q < L ∧ dgt tb q = true
      · exact cc
      · have := rn_stop cc
        omega
    have hb := (ht q hd.1).2
    by_cases ok : nOk tb L q
    · have hv := (num_y hqL ok).2.1
      have w2 : fX6_in N (mH g m (upd s 15 (nI q)) t a) (nI (nV tb L q)) (nI lo) (nI hi) = some 0 := m_in_n (fun y => hn ⟨ok, (nI_leI (by omega) (by omega)).mp y.1, (nI_leI (by omega) (by omega)).mp y.2⟩)
      by_cases c1 : rn (dgt tb) L q - q ≤ 1
      · simp only [fX6_number_j81, fX6_number_j104, i_1, i_3, w1, w2, lit_le (show 1 ≤ 100000 by omega) c1, mh_O, mh_gJ, mh_pJ, mh_gI0, mh_gI1, mh_gI2, mh_gI5, mh_gI6, mh_gI9, mh_gI14, mh_gI15, mh_gI16, mh_gI17, mh_gI18, mh_gI19, mh_gI24, mh_pI0, mh_pI1, mh_pI2, mh_pI5, mh_pI6, mh_pI9, mh_pI14, mh_pI15, mh_pI16, mh_pI17, mh_pI18, mh_pI19, mh_pI24, mh_gA3, mh_gA4, mh_gA7, mh_gA8, mh_gA10, mh_gA11, mh_gA13, mh_gA20, mh_gA21, mh_gA22, mh_gA23, mh_gA25, mh_gA26, mh_gA27, mh_gA28, mh_gA29, Option.bind_some, Option.bind_none, ↓reduceIte, if_true, if_false, lit_ne (show 1 ≤ 1000 by omega) (show 0 ≤ 1000 by omega) (by omega), i_0]
      · have c48 : (nI (tb q) = (48 : Int32)) = False := eq_false (fun y => ok.2.2 ⟨by omega, (nI_eq (b := 48) (by omega) (by omega)).mp y⟩)
        simp only [fX6_number_j81, fX6_number_j104, i_1, i_3, w1, w2, lit_gt (show rn (dgt tb) L q - q ≤ 100000 by omega) (show 1 < rn (dgt tb) L q - q by omega), mh_O, mh_gJ, mh_pJ, mh_gI0, mh_gI1, mh_gI2, mh_gI5, mh_gI6, mh_gI9, mh_gI14, mh_gI15, mh_gI16, mh_gI17, mh_gI18, mh_gI19, mh_gI24, mh_pI0, mh_pI1, mh_pI2, mh_pI5, mh_pI6, mh_pI9, mh_pI14, mh_pI15, mh_pI16, mh_pI17, mh_pI18, mh_pI19, mh_pI24, mh_gA3, mh_gA4, mh_gA7, mh_gA8, mh_gA10, mh_gA11, mh_gA13, mh_gA20, mh_gA21, mh_gA22, mh_gA23, mh_gA25, mh_gA26, mh_gA27, mh_gA28, mh_gA29, Option.bind_some, Option.bind_none, ↓reduceIte, if_true, if_false, m_here_y k14 pk_us hL ht hd.1, c48, lit_ne (show 1 ≤ 1000 by omega) (show 0 ≤ 1000 by omega) (by omega), i_0]
    · have c2 : 1 < rn (dgt tb) L q - q ∧ tb q = 48 := by unfold nOk at ok; omega
      have c48 : (nI (tb q) = (48 : Int32)) = True := eq_true (by rw [c2.2]; rfl)
      simp only [fX6_number_j81, fX6_number_j104, i_1, i_3, w1, lit_gt (show rn (dgt tb) L q - q ≤ 100000 by omega) c2.1, mh_O, mh_gJ, mh_pJ, mh_gI0, mh_gI1, mh_gI2, mh_gI5, mh_gI6, mh_gI9, mh_gI14, mh_gI15, mh_gI16, mh_gI17, mh_gI18, mh_gI19, mh_gI24, mh_pI0, mh_pI1, mh_pI2, mh_pI5, mh_pI6, mh_pI9, mh_pI14, mh_pI15, mh_pI16, mh_pI17, mh_pI18, mh_pI19, mh_pI24, mh_gA3, mh_gA4, mh_gA7, mh_gA8, mh_gA10, mh_gA11, mh_gA13, mh_gA20, mh_gA21, mh_gA22, mh_gA23, mh_gA25, mh_gA26, mh_gA27, mh_gA28, mh_gA29, Option.bind_some, Option.bind_none, ↓reduceIte, if_true, if_false, m_here_y k14 pk_us hL ht hd.1, c48, lit_ne (show 1 ≤ 1000 by omega) (show 0 ≤ 1000 by omega) (by omega), i_0]
  · have w1 : fX6_in N (mH g m (upd s 15 (nI q)) t a) (nI (rn (dgt tb) L q - q)) (nI 1) (nI 3) = some 0 := m_in_n (fun y => c ⟨(nI_leI (by omega) (by omega)).mp y.1, (nI_leI (by omega) (by omega)).mp y.2⟩)
    simp only [fX6_number_j81, i_1, i_3, w1, mh_O, mh_gJ, mh_pJ, mh_gI0, mh_gI1, mh_gI2, mh_gI5, mh_gI6, mh_gI9, mh_gI14, mh_gI15, mh_gI16, mh_gI17, mh_gI18, mh_gI19, mh_gI24, mh_pI0, mh_pI1, mh_pI2, mh_pI5, mh_pI6, mh_pI9, mh_pI14, mh_pI15, mh_pI16, mh_pI17, mh_pI18, mh_pI19, mh_pI24, mh_gA3, mh_gA4, mh_gA7, mh_gA8, mh_gA10, mh_gA11, mh_gA13, mh_gA20, mh_gA21, mh_gA22, mh_gA23, mh_gA25, mh_gA26, mh_gA27, mh_gA28, mh_gA29, Option.bind_some, Option.bind_none, ↓reduceIte, if_true, if_false, i_0]
theorem m_ends {s : Nat → Int32} {p0 q : Nat} (hN : 2000 ≤ N) (h14 : s 14 = nI L) (h15 : s 15 = nI p0) (hL : L ≤ 100) (ht : ∀ i, i < L → a 7 i = nI (tb i) ∧ tb i ≤ 255) (hp : p0 ≤ L) (hq : rn (bln tb) L p0 = q) : ∃ w s', (∀ g : Hp, fX6_ends N (mH g m s t a) (some m) = some (w, mH g m s' t a)) ∧ ((q < L ∧ tb q = 59 ∧ w = 1 ∧ s' 15 = nI (q + 1)) ∨ (¬ (q < L ∧ tb q = 59) ∧ w = 0 ∧ s' 15 = nI q)) ∧ ∀ i, i ≠ 15 → s' i = s i := by
  have hqL : q ≤ L := by rw [← hq]; exact rn_le hp
  have k14 : upd s 15 (nI q) 14 = nI L := by rw [pk_un (by omega)]; exact h14
  by_cases c : q < L
  · have hb := (ht q c).2
    by_cases d : tb q = 59
    · have e9 : (nI (tb q) = (59 : Int32)) = True := eq_true (by rw [d]; rfl)
      refine ⟨1, upd s 15 (nI (q + 1)), fun g => ?_, Or.inl ⟨c, d, rfl, pk_us⟩, fun i h => pk_un h⟩
      simp only [fX6_ends, mh_O, mh_gJ, mh_pJ, mh_gI0, mh_gI1, mh_gI2, mh_gI5, mh_gI6, mh_gI9, mh_gI14, mh_gI15, mh_gI16, mh_gI17, mh_gI18, mh_gI19, mh_gI24, mh_pI0, mh_pI1, mh_pI2, mh_pI5, mh_pI6, mh_pI9, mh_pI14, mh_pI15, mh_pI16, mh_pI17, mh_pI18, mh_pI19, mh_pI24, mh_gA3, mh_gA4, mh_gA7, mh_gA8, mh_gA10, mh_gA11, mh_gA13, mh_gA20, mh_gA21, mh_gA22, mh_gA23, mh_gA25, mh_gA26, mh_gA27, mh_gA28, mh_gA29, Option.bind_some, Option.bind_none, ↓reduceIte, if_true, if_false, m_skip hN h14 h15 hL ht hp, hq, m_here_y k14 pk_us hL ht c, e9, pk_us, nI_1, upd_upd]
    · have e9 : (nI (tb q) = (59 : Int32)) = False := eq_false (fun z => d ((nI_eq (b := 59) (by omega) (by omega)).mp z))
      refine ⟨0, upd s 15 (nI q), fun g => ?_, Or.inr ⟨fun z => d z.2, rfl, pk_us⟩, fun i h => pk_un h⟩
      simp only [fX6_ends, mh_O, mh_gJ, mh_pJ, mh_gI0, mh_gI1, mh_gI2, mh_gI5, mh_gI6, mh_gI9, mh_gI14, mh_gI15, mh_gI16, mh_gI17, mh_gI18, mh_gI19, mh_gI24, mh_pI0, mh_pI1, mh_pI2, mh_pI5, mh_pI6, mh_pI9, mh_pI14, mh_pI15, mh_pI16, mh_pI17, mh_pI18, mh_pI19, mh_pI24, mh_gA3, mh_gA4, mh_gA7, mh_gA8, mh_gA10, mh_gA11, mh_gA13, mh_gA20, mh_gA21, mh_gA22, mh_gA23, mh_gA25, mh_gA26, mh_gA27, mh_gA28, mh_gA29, Option.bind_some, Option.bind_none, ↓reduceIte, if_true, if_false, m_skip hN h14 h15 hL ht hp, hq, m_here_y k14 pk_us hL ht c, e9]
  · have e9 : ((-9 : Int32) = (59 : Int32)) = False := eq_false (by decide)
    refine ⟨0, upd s 15 (nI q), fun g => ?_, Or.inr ⟨fun z => c z.1, rfl, pk_us⟩, fun i h => pk_un h⟩
    simp only [fX6_ends, mh_O, mh_gJ, mh_pJ, mh_gI0, mh_gI1, mh_gI2, mh_gI5, mh_gI6, mh_gI9, mh_gI14, mh_gI15, mh_gI16, mh_gI17, mh_gI18, mh_gI19, mh_gI24, mh_pI0, mh_pI1, mh_pI2, mh_pI5, mh_pI6, mh_pI9, mh_pI14, mh_pI15, mh_pI16, mh_pI17, mh_pI18, mh_pI19, mh_pI24, mh_gA3, mh_gA4, mh_gA7, mh_gA8, mh_gA10, mh_gA11, mh_gA13, mh_gA20, mh_gA21, mh_gA22, mh_gA23, mh_gA25, mh_gA26, mh_gA27, mh_gA28, mh_gA29, Option.bind_some, Option.bind_none, ↓reduceIte, if_true, if_false, m_skip hN h14 h15 hL ht hp, hq, m_here_n k14 pk_us hL (show q = L by omega), e9]
end BF
