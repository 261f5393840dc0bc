section SC
variable {x : Nat} {N : Nat}
theorem x_meetL {E : Hp} {R W P k l c1 c2 : Nat} {T C φ : Nat → Nat} (B : okB R W P T C) (O1 : okC R W P T C φ k) (O2 : okC R W P T C φ l) (X1 : E c1 = some (oO 1 (cvL T C φ k))) (X2 : E c2 = some (oO 1 (cvL T C φ l))) {α : Type} {K : Int32 → Option α} : ∀ (n d q : Nat), q + d = T (cF φ k 0) / Nat.gcd (T (cF φ k 0)) (C (cF φ k 1)) → d < n → fX5_meet_L41 N E K n (some c1) (some c2) (nI (cnt (fun q => tipL T C φ (cF φ k 2) ((360 / T (cF φ k 0) * cF φ k 3 + cF φ k 5 + 360 / T (cF φ k 0) * Nat.gcd (T (cF φ k 0)) (C (cF φ k 1)) * q) % 360) l) q)) (nI q) = K (nI (cnt (fun q => tipL T C φ (cF φ k 2) ((360 / T (cF φ k 0) * cF φ k 3 + cF φ k 5 + 360 / T (cF φ k 0) * Nat.gcd (T (cF φ k 0)) (C (cF φ k 1)) * q) % 360) l) (T (cF φ k 0) / Nat.gcd (T (cF φ k 0)) (C (cF φ k 1))))) := by
  obtain ⟨n1, n2, n3, n4, n5, n6, n7⟩ := ok_nums B O1
  have e6 : gI E (some c1) 1 6 = some (nI (T (cF φ k 0) / Nat.gcd (T (cF φ k 0)) (C (cF φ k 1)))) := gI_eq X1 rfl
  have e2 : gI E (some c1) 1 2 = some (nI (cF φ k 2)) := gI_eq X1 rfl
  have h9 : cF φ k 2 ≤ 9 := O1.2.2.2.2.1
  intro n
  induction n with
  | zero => intro d q _ h; omega
  | succ n ih =>
    intro d q hq hd
    rw [fX5_meet_L41]
    simp only [e6, Option.bind_some, Option.bind_none, ↓reduceIte, if_true, if_false]
    cases d with
    | zero =>
      have : q = T (cF φ k 0) / Nat.gcd (T (cF φ k 0)) (C (cF φ k 1)) := by omega
      rw [if_pos (nI_le (by omega) (by omega)), ← this]
    | succ d =>
      have ih' := ih d (q + 1) (by omega) (by omega)
      have hm : (360 / T (cF φ k 0) * cF φ k 3 + cF φ k 5 + 360 / T (cF φ k 0) * Nat.gcd (T (cF φ k 0)) (C (cF φ k 1)) * q) % 360 < 360 := Nat.mod_lt _ (by decide)
      rw [if_neg (nI_ge (by omega) (by omega))]
      simp only [isO_eq X1, isO_eq X2, Option.bind_some, Option.bind_none, ↓reduceIte, if_true, if_false, x_pointOf B O1 X1 (show q ≤ 120 by omega), e2, x_hasTip B O2 X2 hm (show cF φ k 2 < 10 by omega), nI_1]
      by_cases c : tipL T C φ (cF φ k 2) ((360 / T (cF φ k 0) * cF φ k 3 + cF φ k 5 + 360 / T (cF φ k 0) * Nat.gcd (T (cF φ k 0)) (C (cF φ k 1)) * q) % 360) l = true
      · rw [cnt_t (p := fun q => tipL T C φ (cF φ k 2) ((360 / T (cF φ k 0) * cF φ k 3 + cF φ k 5 + 360 / T (cF φ k 0) * Nat.gcd (T (cF φ k 0)) (C (cF φ k 1)) * q) % 360) l) c] at ih'
        rw [if_pos c, if_neg (by decide)]
        exact ih'
      · rw [cnt_f (p := fun q => tipL T C φ (cF φ k 2) ((360 / T (cF φ k 0) * cF φ k 3 + cF φ k 5 + 360 / T (cF φ k 0) * Nat.gcd (T (cF φ k 0)) (C (cF φ k 1)) * q) % 360) l) c] at ih'
        rw [if_neg c, if_pos rfl]
        exact ih'
theorem s_meet (hN : 2000 ≤ N) : ∀ (h : Hp) (sz : Nat) (a1 : Int32) (a2 : Int32), IV x h sz → ∃ (r : Int32) (h1 : Hp) (sz1 : Nat) (h2 : Hp), (fX5_meet N h (some x) a1 a2 = some r ∧ h1 = h ∧ sz1 = sz) ∧ isO h1 (some (x + 19)) 6 = true ∧ (fX6_meet N h1 (some (x + 19)) a1 a2 = some r ∧ h2 = h1) ∧ IV x h2 sz1 := by
  rintro h sz a1 a2 ⟨g, v, t, b, p, ip, r, s, a, R, W, P, T, C, φ, sn, tt, tp, L, U, ψ, c⟩
  have X := c.XX
  have B := c.B
  have hR := B.1
  have hW := B.2.1
  have hP := B.2.2.1
  have hφ := c.O.2.1
  obtain ⟨q1, -⟩ := pp_read (E := xH (mH g (x + 19) s t a) x v t b p ip r) c.Qx xh_dy
  rcases in_or a1 (n := φ 1) (by omega) with ⟨i, hi, rfl⟩ | hn
  · obtain ⟨ci, i1, i2, i3⟩ := x_curveAt_y (N := N) (E := xH (mH g (x + 19) s t a) x v t b p ip r) c.O c.Qx xh_dy hi
    rcases in_or a2 (n := φ 1) (by omega) with ⟨j, hj, rfl⟩ | hn2
    · obtain ⟨cj, j1, j2, j3⟩ := x_curveAt_y (N := N) (E := xH (mH g (x + 19) s t a) x v t b p ip r) c.O c.Qx xh_dy hj
      by_cases cc : i = j
      · subst cc
        refine st_00 (fx := fun h => fX5_meet N h (some x) (nI i) (nI i)) (fm := fun h => fX6_meet N h (some (x + 19)) (nI i) (nI i)) c (-1) ?_ ?_
        · simp only [fX5_meet, xh_O5, xh_O4, xh_O3, xh_O8, xh_g5_0, xh_g5_1, xh_g5_2, xh_g5_3, xh_g5_4, xh_g5_5, xh_g5_7, xh_g5_8, xh_g5_9, xh_g5_10, xh_g5_6, xh_g8_0, xh_g8_1, xh_g4_0, xh_g4_1, xh_g4_2, xh_g4_3, xh_g4_4, xh_g4_5, xh_g3_0, xh_g3_1, xh_g3_2, xh_p5_2, xh_p5_3, xh_p8_1, xh_p5_6, xh_p5_10, xh_p4_1, xh_p4_2, xh_p4_3, xh_p4_4, xh_p4_5, xh_p3_2, xh_rd2, xh_wr2, xh_rd4, xh_wr4, xh_rd5, xh_wr5, xh_rd15, xh_wr15, xh_len15, xh_rd16, xh_wr16, xh_len16, xh_rd17, xh_wr17, xh_len17, xh_rdA, xh_rdP, xh_wrA, xh_wrP, Option.bind_some, Option.bind_none, ↓reduceIte, if_true, if_false, q1, i1, reduceCtorEq]
        · simp only [fX6_meet, mh_O, mh_gJ, mh_pJ, mh_gI0, mh_gI1, mh_gI2, mh_gI5, mh_gI6, mh_gI9, mh_gI14, mh_gI15, mh_gI16, mh_gI17, mh_gI18, mh_gI19, mh_gI24, mh_pI0, mh_pI1, mh_pI2, mh_pI5, mh_pI6, mh_pI9, mh_pI14, mh_pI15, mh_pI16, mh_pI17, mh_pI18, mh_pI19, mh_pI24, mh_gA3, mh_gA4, mh_gA7, mh_gA8, mh_gA10, mh_gA11, mh_gA13, mh_gA20, mh_gA21, mh_gA22, mh_gA23, mh_gA25, mh_gA26, mh_gA27, mh_gA28, mh_gA29, Option.bind_some, Option.bind_none, ↓reduceIte, if_true, if_false, m_isCurve_y c.J.2.1 hφ hi]
          rfl
      · have O1 := c.O.2.2.2 i hi
        obtain ⟨n1, n2, n3, n4, n5, n6, n7⟩ := ok_nums B O1
        have ec := cnt_pts (D := tipB T C φ i) (Z := fun pt => tipL T C φ (cF φ i 2) pt j) n2 n3 (fun pt hp => by unfold tipB; exact decide_eq_true_iff)
        have e8 : a 4 (6 * i + 2) = nI (cF φ i 2) := by
          rw [c.J.2.2.2 (6 * i + 2) (by omega)]
          skip
          try rw [show 6 + (6 * i + 2) = 6 + 6 * i + 2 by omega]
        refine st_00 (fx := fun h => fX5_meet N h (some x) (nI i) (nI j)) (fm := fun h => fX6_meet N h (some (x + 19)) (nI i) (nI j)) c (nI (cnt (fun q => tipL T C φ (cF φ i 2) ((360 / T (cF φ i 0) * cF φ i 3 + cF φ i 5 + 360 / T (cF φ i 0) * Nat.gcd (T (cF φ i 0)) (C (cF φ i 1)) * q) % 360) j) (T (cF φ i 0) / Nat.gcd (T (cF φ i 0)) (C (cF φ i 1))))) ?_ ?_
        · simp only [fX5_meet, xh_O5, xh_O4, xh_O3, xh_O8, xh_g5_0, xh_g5_1, xh_g5_2, xh_g5_3, xh_g5_4, xh_g5_5, xh_g5_7, xh_g5_8, xh_g5_9, xh_g5_10, xh_g5_6, xh_g8_0, xh_g8_1, xh_g4_0, xh_g4_1, xh_g4_2, xh_g4_3, xh_g4_4, xh_g4_5, xh_g3_0, xh_g3_1, xh_g3_2, xh_p5_2, xh_p5_3, xh_p8_1, xh_p5_6, xh_p5_10, xh_p4_1, xh_p4_2, xh_p4_3, xh_p4_4, xh_p4_5, xh_p3_2, xh_rd2, xh_wr2, xh_rd4, xh_wr4, xh_rd5, xh_wr5, xh_rd15, xh_wr15, xh_len15, xh_rd16, xh_wr16, xh_len16, xh_rd17, xh_wr17, xh_len17, xh_rdA, xh_rdP, xh_wrA, xh_wrP, Option.bind_some, Option.bind_none, ↓reduceIte, if_true, if_false, q1, i1, j1, reduceCtorEq]
          rw [if_neg (fun z => cc ((nI_eq (by omega) (by omega)).mp z))]
          exact x_meetL B O1 (c.O.2.2.2 j hj) i3 j3 (K := fun l5 => some l5) N (T (cF φ i 0) / Nat.gcd (T (cF φ i 0)) (C (cF φ i 1))) 0 (by omega) (by omega)
        · simp only [fX6_meet, mh_O, mh_gJ, mh_pJ, mh_gI0, mh_gI1, mh_gI2, mh_gI5, mh_gI6, mh_gI9, mh_gI14, mh_gI15, mh_gI16, mh_gI17, mh_gI18, mh_gI19, mh_gI24, mh_pI0, mh_pI1, mh_pI2, mh_pI5, mh_pI6, mh_pI9, mh_pI14, mh_pI15, mh_pI16, mh_pI17, mh_pI18, mh_pI19, mh_pI24, mh_gA3, mh_gA4, mh_gA7, mh_gA8, mh_gA10, mh_gA11, mh_gA13, mh_gA20, mh_gA21, mh_gA22, mh_gA23, mh_gA25, mh_gA26, mh_gA27, mh_gA28, mh_gA29, Option.bind_some, Option.bind_none, ↓reduceIte, if_true, if_false, m_isCurve_y c.J.2.1 hφ hi, m_isCurve_y c.J.2.1 hφ hj]
          rw [if_neg (by decide), if_neg (by decide), if_neg (fun z => cc ((nI_eq (by omega) (by omega)).mp z)), i_6, i_2, pk_mul, nI_add]
          simp (disch := omega) only [mh_O, mh_gJ, mh_pJ, mh_gI0, mh_gI1, mh_gI2, mh_gI5, mh_gI6, mh_gI9, mh_gI14, mh_gI15, mh_gI16, mh_gI17, mh_gI18, mh_gI19, mh_gI24, mh_pI0, mh_pI1, mh_pI2, mh_pI5, mh_pI6, mh_pI9, mh_pI14, mh_pI15, mh_pI16, mh_pI17, mh_pI18, mh_pI19, mh_pI24, mh_gA3, mh_gA4, mh_gA7, mh_gA8, mh_gA10, mh_gA11, mh_gA13, mh_gA20, mh_gA21, mh_gA22, mh_gA23, mh_gA25, mh_gA26, mh_gA27, mh_gA28, mh_gA29, mh_rd1, mh_rd2, mh_rd3, mh_rd4, mh_rd5, mh_rd6, mh_rd7, mh_rd8, mh_rd9, mh_rd10, mh_rd11, mh_rd12, mh_rd13, mh_rd14, mh_rd15, mh_rd16, mh_wr1, mh_wr2, mh_wr3, mh_wr4, mh_wr5, mh_wr6, mh_wr7, mh_wr8, mh_wr9, mh_wr10, mh_wr11, mh_wr12, mh_wr13, mh_wr14, mh_wr15, mh_wr16, Option.bind_some, Option.bind_none, ↓reduceIte, if_true, if_false, e8]
          refine (m_meetL hN B c.H c.O c.J hi hj (show cF φ i 2 < 10 by have := O1.2.2.2.2.1; omega) (K := fun l4 => some l4) N 360 0 (by omega) (by omega)).trans ?_
          rw [← ec]
          have (pt : Nat) : tipL T C φ (cF φ i 2) pt i = tipB T C φ i pt := by simp [tipL]
          rw [cnt_congr (q := fun pt => tipB T C φ i pt && tipL T C φ (cF φ i 2) pt j) (fun pt _ => by rw [this])]
    · refine st_00 (fx := fun h => fX5_meet N h (some x) (nI i) a2) (fm := fun h => fX6_meet N h (some (x + 19)) (nI i) a2) c (-1) ?_ ?_
      · simp only [fX5_meet, xh_O5, xh_O4, xh_O3, xh_O8, xh_g5_0, xh_g5_1, xh_g5_2, xh_g5_3, xh_g5_4, xh_g5_5, xh_g5_7, xh_g5_8, xh_g5_9, xh_g5_10, xh_g5_6, xh_g8_0, xh_g8_1, xh_g4_0, xh_g4_1, xh_g4_2, xh_g4_3, xh_g4_4, xh_g4_5, xh_g3_0, xh_g3_1, xh_g3_2, xh_p5_2, xh_p5_3, xh_p8_1, xh_p5_6, xh_p5_10, xh_p4_1, xh_p4_2, xh_p4_3, xh_p4_4, xh_p4_5, xh_p3_2, xh_rd2, xh_wr2, xh_rd4, xh_wr4, xh_rd5, xh_wr5, xh_rd15, xh_wr15, xh_len15, xh_rd16, xh_wr16, xh_len16, xh_rd17, xh_wr17, xh_len17, xh_rdA, xh_rdP, xh_wrA, xh_wrP, Option.bind_some, Option.bind_none, ↓reduceIte, if_true, if_false, q1, i1, x_curveAt_n (N := N) (E := xH (mH g (x + 19) s t a) x v t b p ip r) c.O c.Qx xh_dy hn2, reduceCtorEq]
      · simp only [fX6_meet, mh_O, mh_gJ, mh_pJ, mh_gI0, mh_gI1, mh_gI2, mh_gI5, mh_gI6, mh_gI9, mh_gI14, mh_gI15, mh_gI16, mh_gI17, mh_gI18, mh_gI19, mh_gI24, mh_pI0, mh_pI1, mh_pI2, mh_pI5, mh_pI6, mh_pI9, mh_pI14, mh_pI15, mh_pI16, mh_pI17, mh_pI18, mh_pI19, mh_pI24, mh_gA3, mh_gA4, mh_gA7, mh_gA8, mh_gA10, mh_gA11, mh_gA13, mh_gA20, mh_gA21, mh_gA22, mh_gA23, mh_gA25, mh_gA26, mh_gA27, mh_gA28, mh_gA29, Option.bind_some, Option.bind_none, ↓reduceIte, if_true, if_false, m_isCurve_y c.J.2.1 hφ hi, m_isCurve_n c.J.2.1 hφ hn2]
        rfl
  · have : ∃ z, fX2_curveAt N (xH (mH g (x + 19) s t a) x v t b p ip r) (some p) a2 = some z := by
      rcases in_or a2 (n := φ 1) (by omega) with ⟨j, hj, rfl⟩ | hn2
      · obtain ⟨cj, j1, -⟩ := x_curveAt_y (N := N) (E := xH (mH g (x + 19) s t a) x v t b p ip r) c.O c.Qx xh_dy hj
        exact ⟨_, j1⟩
      · exact ⟨_, x_curveAt_n (N := N) (E := xH (mH g (x + 19) s t a) x v t b p ip r) c.O c.Qx xh_dy hn2⟩
    obtain ⟨z, ez⟩ := this
    refine st_00 (fx := fun h => fX5_meet N h (some x) a1 a2) (fm := fun h => fX6_meet N h (some (x + 19)) a1 a2) c (-1) ?_ ?_
    · simp only [fX5_meet, xh_O5, xh_O4, xh_O3, xh_O8, xh_g5_0, xh_g5_1, xh_g5_2, xh_g5_3, xh_g5_4, xh_g5_5, xh_g5_7, xh_g5_8, xh_g5_9, xh_g5_10, xh_g5_6, xh_g8_0, xh_g8_1, xh_g4_0, xh_g4_1, xh_g4_2, xh_g4_3, xh_g4_4, xh_g4_5, xh_g3_0, xh_g3_1, xh_g3_2, xh_p5_2, xh_p5_3, xh_p8_1, xh_p5_6, xh_p5_10, xh_p4_1, xh_p4_2, xh_p4_3, xh_p4_4, xh_p4_5, xh_p3_2, xh_rd2, xh_wr2, xh_rd4, xh_wr4, xh_rd5, xh_wr5, xh_rd15, xh_wr15, xh_len15, xh_rd16, xh_wr16, xh_len16, xh_rd17, xh_wr17, xh_len17, xh_rdA, xh_rdP, xh_wrA, xh_wrP, Option.bind_some, Option.bind_none, ↓reduceIte, if_true, if_false, q1, x_curveAt_n (N := N) (E := xH (mH g (x + 19) s t a) x v t b p ip r) c.O c.Qx xh_dy hn, ez]
    · simp only [fX6_meet, mh_O, mh_gJ, mh_pJ, mh_gI0, mh_gI1, mh_gI2, mh_gI5, mh_gI6, mh_gI9, mh_gI14, mh_gI15, mh_gI16, mh_gI17, mh_gI18, mh_gI19, mh_gI24, mh_pI0, mh_pI1, mh_pI2, mh_pI5, mh_pI6, mh_pI9, mh_pI14, mh_pI15, mh_pI16, mh_pI17, mh_pI18, mh_pI19, mh_pI24, mh_gA3, mh_gA4, mh_gA7, mh_gA8, mh_gA10, mh_gA11, mh_gA13, mh_gA20, mh_gA21, mh_gA22, mh_gA23, mh_gA25, mh_gA26, mh_gA27, mh_gA28, mh_gA29, Option.bind_some, Option.bind_none, ↓reduceIte, if_true, if_false, m_isCurve_n c.J.2.1 hφ hn]
theorem frm_dvd {lay pt d : Nat} (hd : d ∣ 360) (hl : lay < 360) (hp : pt < 360) : (((pt : Int) - (lay : Int)) % (d : Int)).toNat = 0 ↔ frm lay pt % d = 0 := by
  have d0 : 0 < d := Nat.pos_of_dvd_of_pos hd (by decide)
  have h1 := Int.emod_nonneg ((pt : Int) - (lay : Int)) (b := (d : Int)) (by omega)
  have h2 : (((pt : Int) - (lay : Int)) % (d : Int)).toNat = 0 ↔ (d : Int) ∣ (pt : Int) - (lay : Int) := by
    rw [Int.dvd_iff_emod_eq_zero]; omega
  rw [h2, ← Nat.dvd_iff_mod_eq_zero]
  have h3 : d ∣ frm lay pt ↔ (d : Int) ∣ ((frm lay pt : Nat) : Int) := Int.natCast_dvd_natCast.symm
  rw [h3]
  have hd' : (d : Int) ∣ 360 := by
    have := Int.natCast_dvd_natCast.mpr hd
    exact this
  have h4 : ((frm lay pt : Nat) : Int) = (pt : Int) - (lay : Int) ∨ ((frm lay pt : Nat) : Int) = (pt : Int) - (lay : Int) + 360 := by
    unfold frm
    omega
  rcases h4 with e | e
  · rw [e]
  · rw [e]
    constructor
    · exact fun z => Int.dvd_add z hd'
    · intro z
      have := Int.dvd_sub z hd'
      rwa [Int.add_sub_cancel] at this
theorem s_odds (hN : 2000 ≤ N) : ∀ (h : Hp) (sz : Nat) (a1 : Int32) (a2 : Int32) (a3 : Int32) (a4 : Int32), IV x h sz → ∃ (r : Int32) (h1 : Hp) (sz1 : Nat) (h2 : Hp), (fX5_odds N h (some x) a1 a2 a3 a4 = some r ∧ h1 = h ∧ sz1 = sz) ∧ isO h1 (some (x + 19)) 6 = true ∧ (fX6_odds N h1 (some (x + 19)) a1 a2 a3 a4 = some r ∧ h2 = h1) ∧ IV x h2 sz1 := by
  rintro h sz a1 a2 a3 a4 ⟨g, v, t, b, p, ip, r, s, a, R, W, P, T, C, φ, sn, tt, tp, L, U, ψ, c⟩
  have X := c.XX
  have B := c.B
  have hR := B.1
  have hW := B.2.1
  have hP := B.2.2.1
  have hφ := c.O.2.1
  have hl := c.O.1
  obtain ⟨q1, q2, -⟩ := pp_read (E := xH (mH g (x + 19) s t a) x v t b p ip r) c.Qx xh_dy
  rcases in_or a1 (n := R) (by omega) with ⟨i, hi, rfl⟩ | hn
  · rcases in_or a2 (n := W) (by omega) with ⟨w, hw, rfl⟩ | hn2
    · rcases in_rng a3 (lo := 0) (hi := 359) (by omega) (by omega) with ⟨pt, -, hpt, rfl⟩ | hn3
      · rcases in_rng a4 (lo := 0) (hi := 1) (by omega) (by omega) with ⟨q, -, hq, rfl⟩ | hn4
        · have hT := B.2.2.2.1 i hi
          have hs0 : 0 < 360 / T i := Nat.div_pos (Nat.le_of_dvd (by decide) hT.2.2) (by omega)
          have hs1 : 360 / T i ≤ 360 := Nat.div_le_self _ _
          have er : fX5_rest N (xH (mH g (x + 19) s t a) x v t b p ip r) (nI pt - nI (φ 0)) (nI (360 / T i)) = some (nI (((pt : Int) - (φ 0 : Int)) % ((360 / T i : Nat) : Int)).toNat) := x_restS (by omega) (by omega) hs0 (by omega)
          have hm : (((pt : Int) - (φ 0 : Int)) % ((360 / T i : Nat) : Int)).toNat < 2000 := by
            have := Int.emod_lt_of_pos ((pt : Int) - (φ 0 : Int)) (b := ((360 / T i : Nat) : Int)) (by omega)
            omega
          have hz : (nI (((pt : Int) - (φ 0 : Int)) % ((360 / T i : Nat) : Int)).toNat = nI 0) ↔ frm (φ 0) pt % (360 / T i) = 0 := by
            rw [nI_eq (by omega) (by omega)]
            exact frm_dvd (Nat.div_dvd_of_dvd hT.2.2) hl (by omega)
          have hq' : q = 0 ∨ q = 1 := by omega
          refine st_00 (fx := fun h => fX5_odds N h (some x) (nI i) (nI w) (nI pt) (nI q)) (fm := fun h => fX6_odds N h (some (x + 19)) (nI i) (nI w) (nI pt) (nI q)) c (if C w < T i then (if q = 0 then (if frm (φ 0) pt % (360 / T i) = 0 then 1 else 0) else (if frm (φ 0) pt % (360 / T i) = 0 then nI (Nat.gcd (T i) (C w)) else 1)) else -2) ?_ ?_
          · simp only [fX5_odds, fX5_odds_j90, xh_O5, xh_O4, xh_O3, xh_O8, xh_g5_0, xh_g5_1, xh_g5_2, xh_g5_3, xh_g5_4, xh_g5_5, xh_g5_7, xh_g5_8, xh_g5_9, xh_g5_10, xh_g5_6, xh_g8_0, xh_g8_1, xh_g4_0, xh_g4_1, xh_g4_2, xh_g4_3, xh_g4_4, xh_g4_5, xh_g3_0, xh_g3_1, xh_g3_2, xh_p5_2, xh_p5_3, xh_p8_1, xh_p5_6, xh_p5_10, xh_p4_1, xh_p4_2, xh_p4_3, xh_p4_4, xh_p4_5, xh_p3_2, xh_rd2, xh_wr2, xh_rd4, xh_wr4, xh_rd5, xh_wr5, xh_rd15, xh_wr15, xh_len15, xh_rd16, xh_wr16, xh_len16, xh_rd17, xh_wr17, xh_len17, xh_rdA, xh_rdP, xh_wrA, xh_wrP, Option.bind_some, Option.bind_none, ↓reduceIte, if_true, if_false, isO_eq X.1, x_hasRing_y X B hi, x_hasWheel_y X B hw, x_fits X B hi hw, q2, x_stepOf X B hi, er, x_divisorOf hN X B hi hw, i_0, i_359, i_1, (w_y (N := N) (G := xH (mH g (x + 19) s t a) x v t b p ip r) (Nat.zero_le pt) hpt (by omega)).1, (w_y (N := N) (G := xH (mH g (x + 19) s t a) x v t b p ip r) (Nat.zero_le q) hq (by omega)).1]
            by_cases cc : C w < T i
            · simp only [if_pos cc]
              by_cases c3 : frm (φ 0) pt % (360 / T i) = 0
              · simp only [if_pos c3, if_pos (hz.mpr c3)]
                rcases hq' with rfl | rfl <;> rfl
              · simp only [if_neg c3, if_neg (fun z => c3 (hz.mp z))]
                rcases hq' with rfl | rfl <;> rfl
            · simp only [if_neg cc]
              rfl
          · simp only [fX6_odds, fX6_odds_j71, mh_O, mh_gJ, mh_pJ, mh_gI0, mh_gI1, mh_gI2, mh_gI5, mh_gI6, mh_gI9, mh_gI14, mh_gI15, mh_gI16, mh_gI17, mh_gI18, mh_gI19, mh_gI24, mh_pI0, mh_pI1, mh_pI2, mh_pI5, mh_pI6, mh_pI9, mh_pI14, mh_pI15, mh_pI16, mh_pI17, mh_pI18, mh_pI19, mh_pI24, mh_gA3, mh_gA4, mh_gA7, mh_gA8, mh_gA10, mh_gA11, mh_gA13, mh_gA20, mh_gA21, mh_gA22, mh_gA23, mh_gA25, mh_gA26, mh_gA27, mh_gA28, mh_gA29, Option.bind_some, Option.bind_none, ↓reduceIte, if_true, if_false, m_isRing_y c.H.1 hR hi, m_isWheel_y c.H.2.1 hW hw, m_fits B c.H hi hw, c.J.1, m_toothAt B c.H hi hl (show pt < 360 by omega), m_commonOf hN B c.H hi hw, i_0, i_359, i_1, (w_y (N := N) (G := mH (xH g x v t b p ip r) (x + 19) s t a) (Nat.zero_le pt) hpt (by omega)).2, (w_y (N := N) (G := mH (xH g x v t b p ip r) (x + 19) s t a) (Nat.zero_le q) hq (by omega)).2]
            by_cases cc : C w < T i
            · simp only [if_pos cc]
              by_cases c3 : frm (φ 0) pt % (360 / T i) = 0
              · have hfr : frm (φ 0) pt / (360 / T i) < 1000 := Nat.lt_of_le_of_lt (Nat.div_le_self _ _) (by unfold frm; omega)
                simp only [if_pos c3, if_neg (nI_neg9 (show frm (φ 0) pt / (360 / T i) < 2 ^ 31 by omega))]
                rcases hq' with rfl | rfl <;> rfl
              · simp only [if_neg c3]
                rcases hq' with rfl | rfl <;> rfl
            · simp only [if_neg cc]
              rfl
        · refine st_00 (fx := fun h => fX5_odds N h (some x) (nI i) (nI w) (nI pt) a4) (fm := fun h => fX6_odds N h (some (x + 19)) (nI i) (nI w) (nI pt) a4) c (-1) ?_ ?_
          · simp only [fX5_odds, xh_O5, xh_O4, xh_O3, xh_O8, xh_g5_0, xh_g5_1, xh_g5_2, xh_g5_3, xh_g5_4, xh_g5_5, xh_g5_7, xh_g5_8, xh_g5_9, xh_g5_10, xh_g5_6, xh_g8_0, xh_g8_1, xh_g4_0, xh_g4_1, xh_g4_2, xh_g4_3, xh_g4_4, xh_g4_5, xh_g3_0, xh_g3_1, xh_g3_2, xh_p5_2, xh_p5_3, xh_p8_1, xh_p5_6, xh_p5_10, xh_p4_1, xh_p4_2, xh_p4_3, xh_p4_4, xh_p4_5, xh_p3_2, xh_rd2, xh_wr2, xh_rd4, xh_wr4, xh_rd5, xh_wr5, xh_rd15, xh_wr15, xh_len15, xh_rd16, xh_wr16, xh_len16, xh_rd17, xh_wr17, xh_len17, xh_rdA, xh_rdP, xh_wrA, xh_wrP, Option.bind_some, Option.bind_none, ↓reduceIte, if_true, if_false, isO_eq X.1, x_hasRing_y X B hi, x_hasWheel_y X B hw, i_0, i_359, i_1, (w_y (N := N) (G := xH (mH g (x + 19) s t a) x v t b p ip r) (Nat.zero_le pt) hpt (by omega)).1, x_in_n hn4]
            rfl
          · simp only [fX6_odds, mh_O, mh_gJ, mh_pJ, mh_gI0, mh_gI1, mh_gI2, mh_gI5, mh_gI6, mh_gI9, mh_gI14, mh_gI15, mh_gI16, mh_gI17, mh_gI18, mh_gI19, mh_gI24, mh_pI0, mh_pI1, mh_pI2, mh_pI5, mh_pI6, mh_pI9, mh_pI14, mh_pI15, mh_pI16, mh_pI17, mh_pI18, mh_pI19, mh_pI24, mh_gA3, mh_gA4, mh_gA7, mh_gA8, mh_gA10, mh_gA11, mh_gA13, mh_gA20, mh_gA21, mh_gA22, mh_gA23, mh_gA25, mh_gA26, mh_gA27, mh_gA28, mh_gA29, Option.bind_some, Option.bind_none, ↓reduceIte, if_true, if_false, m_isRing_y c.H.1 hR hi, m_isWheel_y c.H.2.1 hW hw, i_0, i_359, i_1, (w_y (N := N) (G := mH (xH g x v t b p ip r) (x + 19) s t a) (Nat.zero_le pt) hpt (by omega)).2, m_in_n hn4]
            rfl
      · refine st_00 (fx := fun h => fX5_odds N h (some x) (nI i) (nI w) a3 a4) (fm := fun h => fX6_odds N h (some (x + 19)) (nI i) (nI w) a3 a4) c (-1) ?_ ?_
        · simp only [fX5_odds, xh_O5, xh_O4, xh_O3, xh_O8, xh_g5_0, xh_g5_1, xh_g5_2, xh_g5_3, xh_g5_4, xh_g5_5, xh_g5_7, xh_g5_8, xh_g5_9, xh_g5_10, xh_g5_6, xh_g8_0, xh_g8_1, xh_g4_0, xh_g4_1, xh_g4_2, xh_g4_3, xh_g4_4, xh_g4_5, xh_g3_0, xh_g3_1, xh_g3_2, xh_p5_2, xh_p5_3, xh_p8_1, xh_p5_6, xh_p5_10, xh_p4_1, xh_p4_2, xh_p4_3, xh_p4_4, xh_p4_5, xh_p3_2, xh_rd2, xh_wr2, xh_rd4, xh_wr4, xh_rd5, xh_wr5, xh_rd15, xh_wr15, xh_len15, xh_rd16, xh_wr16, xh_len16, xh_rd17, xh_wr17, xh_len17, xh_rdA, xh_rdP, xh_wrA, xh_wrP, Option.bind_some, Option.bind_none, ↓reduceIte, if_true, if_false, isO_eq X.1, x_hasRing_y X B hi, x_hasWheel_y X B hw, i_0, i_359, x_in_n hn3]
          rfl
        · simp only [fX6_odds, mh_O, mh_gJ, mh_pJ, mh_gI0, mh_gI1, mh_gI2, mh_gI5, mh_gI6, mh_gI9, mh_gI14, mh_gI15, mh_gI16, mh_gI17, mh_gI18, mh_gI19, mh_gI24, mh_pI0, mh_pI1, mh_pI2, mh_pI5, mh_pI6, mh_pI9, mh_pI14, mh_pI15, mh_pI16, mh_pI17, mh_pI18, mh_pI19, mh_pI24, mh_gA3, mh_gA4, mh_gA7, mh_gA8, mh_gA10, mh_gA11, mh_gA13, mh_gA20, mh_gA21, mh_gA22, mh_gA23, mh_gA25, mh_gA26, mh_gA27, mh_gA28, mh_gA29, Option.bind_some, Option.bind_none, ↓reduceIte, if_true, if_false, m_isRing_y c.H.1 hR hi, m_isWheel_y c.H.2.1 hW hw, i_0, i_359, m_in_n hn3]
          rfl
    · refine st_00 (fx := fun h => fX5_odds N h (some x) (nI i) a2 a3 a4) (fm := fun h => fX6_odds N h (some (x + 19)) (nI i) a2 a3 a4) c (-1) ?_ ?_
      · simp only [fX5_odds, xh_O5, xh_O4, xh_O3, xh_O8, xh_g5_0, xh_g5_1, xh_g5_2, xh_g5_3, xh_g5_4, xh_g5_5, xh_g5_7, xh_g5_8, xh_g5_9, xh_g5_10, xh_g5_6, xh_g8_0, xh_g8_1, xh_g4_0, xh_g4_1, xh_g4_2, xh_g4_3, xh_g4_4, xh_g4_5, xh_g3_0, xh_g3_1, xh_g3_2, xh_p5_2, xh_p5_3, xh_p8_1, xh_p5_6, xh_p5_10, xh_p4_1, xh_p4_2, xh_p4_3, xh_p4_4, xh_p4_5, xh_p3_2, xh_rd2, xh_wr2, xh_rd4, xh_wr4, xh_rd5, xh_wr5, xh_rd15, xh_wr15, xh_len15, xh_rd16, xh_wr16, xh_len16, xh_rd17, xh_wr17, xh_len17, xh_rdA, xh_rdP, xh_wrA, xh_wrP, Option.bind_some, Option.bind_none, ↓reduceIte, if_true, if_false, isO_eq X.1, x_hasRing_y X B hi, x_hasWheel_n X B hn2]
        rfl
      · simp only [fX6_odds, mh_O, mh_gJ, mh_pJ, mh_gI0, mh_gI1, mh_gI2, mh_gI5, mh_gI6, mh_gI9, mh_gI14, mh_gI15, mh_gI16, mh_gI17, mh_gI18, mh_gI19, mh_gI24, mh_pI0, mh_pI1, mh_pI2, mh_pI5, mh_pI6, mh_pI9, mh_pI14, mh_pI15, mh_pI16, mh_pI17, mh_pI18, mh_pI19, mh_pI24, mh_gA3, mh_gA4, mh_gA7, mh_gA8, mh_gA10, mh_gA11, mh_gA13, mh_gA20, mh_gA21, mh_gA22, mh_gA23, mh_gA25, mh_gA26, mh_gA27, mh_gA28, mh_gA29, Option.bind_some, Option.bind_none, ↓reduceIte, if_true, if_false, m_isRing_y c.H.1 hR hi, m_isWheel_n c.H.2.1 hW hn2]
        rfl
  · refine st_00 (fx := fun h => fX5_odds N h (some x) a1 a2 a3 a4) (fm := fun h => fX6_odds N h (some (x + 19)) a1 a2 a3 a4) c (-1) ?_ ?_
    · simp only [fX5_odds, xh_O5, xh_O4, xh_O3, xh_O8, xh_g5_0, xh_g5_1, xh_g5_2, xh_g5_3, xh_g5_4, xh_g5_5, xh_g5_7, xh_g5_8, xh_g5_9, xh_g5_10, xh_g5_6, xh_g8_0, xh_g8_1, xh_g4_0, xh_g4_1, xh_g4_2, xh_g4_3, xh_g4_4, xh_g4_5, xh_g3_0, xh_g3_1, xh_g3_2, xh_p5_2, xh_p5_3, xh_p8_1, xh_p5_6, xh_p5_10, xh_p4_1, xh_p4_2, xh_p4_3, xh_p4_4, xh_p4_5, xh_p3_2, xh_rd2, xh_wr2, xh_rd4, xh_wr4, xh_rd5, xh_wr5, xh_rd15, xh_wr15, xh_len15, xh_rd16, xh_wr16, xh_len16, xh_rd17, xh_wr17, xh_len17, xh_rdA, xh_rdP, xh_wrA, xh_wrP, Option.bind_some, Option.bind_none, ↓reduceIte, if_true, if_false, isO_eq X.1, x_hasRing_n X B hn]
    · simp only [fX6_odds, mh_O, mh_gJ, mh_pJ, mh_gI0, mh_gI1, mh_gI2, mh_gI5, mh_gI6, mh_gI9, mh_gI14, mh_gI15, mh_gI16, mh_gI17, mh_gI18, mh_gI19, mh_gI24, mh_pI0, mh_pI1, mh_pI2, mh_pI5, mh_pI6, mh_pI9, mh_pI14, mh_pI15, mh_pI16, mh_pI17, mh_pI18, mh_pI19, mh_pI24, mh_gA3, mh_gA4, mh_gA7, mh_gA8, mh_gA10, mh_gA11, mh_gA13, mh_gA20, mh_gA21, mh_gA22, mh_gA23, mh_gA25, mh_gA26, mh_gA27, mh_gA28, mh_gA29, Option.bind_some, Option.bind_none, ↓reduceIte, if_true, if_false, m_isRing_n c.H.1 hR hn]
end SC
