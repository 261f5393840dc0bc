section SF
variable {x : Nat} {N : Nat}
theorem s_mark (hN : 2000 ≤ N) : ∀ (h : Hp) (sz : Nat) (a1 : Int32) (a2 : Int32), IV x h sz → ∃ (r : Int32) (h1 : Hp) (sz1 : Nat) (h2 : Hp), (fX5_mark N h (some x) a1 a2 = some (r, h1) ∧ sz1 = sz) ∧ isO h1 (some (x + 19)) 6 = true ∧ fX6_mark N h1 (some (x + 19)) a1 a2 = some (r, h2) ∧ IV x h2 sz1 := by
  rintro h sz a1 a2 ⟨g, v, t, b, p, ip, r, s, a, R, W, P, T, C, φ, sn, tt, tp, L, U, ψ, c⟩
  have X := c.XX
  have B := c.B
  have hR := B.1
  have hW := B.2.1
  have hP := B.2.2.1
  have hφ := c.O.2.1
  obtain ⟨q1, -⟩ := pp_read (E := xH (mH g (x + 19) s t a) x v t b p ip r) c.Qx xh_dy
  rcases in_or a2 (n := φ 1) (by omega) with ⟨i, hi, rfl⟩ | hn
  · obtain ⟨ci, i1, i2, i3'⟩ := x_curveAt_y (N := N) (E := xH (mH g (x + 19) s t a) x v t b p ip r) c.O c.Qx xh_dy hi
    have hO := c.O.2.2.2 i hi
    have hc0 : cF φ i 0 < R := hO.1
    have hc1 : cF φ i 1 < W := hO.2.1
    have i3 (t' : Int64) : xH (mH g (x + 19) s t a) x v t' b p ip r ci = some (oO 1 (cvL T C φ i)) := by
      rw [xh_dy ci i2, ← xh_dy (G := mH g (x + 19) s t a) (v := v) (t := t) (b := b) (p := p) (ip := ip) (r := r) ci i2]
      exact i3'
    have g2 (t' : Int64) : gI (xH (mH g (x + 19) s t a) x v t' b p ip r) (some ci) 1 2 = some (nI (cF φ i 2)) := gI_eq (i3 t') rfl
    have g3 (t' : Int64) : gI (xH (mH g (x + 19) s t a) x v t' b p ip r) (some ci) 1 3 = some (nI (cF φ i 3)) := gI_eq (i3 t') rfl
    have g6 (t' : Int64) : gI (xH (mH g (x + 19) s t a) x v t' b p ip r) (some ci) 1 6 = some (nI (T (cF φ i 0) / Nat.gcd (T (cF φ i 0)) (C (cF φ i 1)))) := gI_eq (i3 t') rfl
    have g7 (t' : Int64) : gI (xH (mH g (x + 19) s t a) x v t' b p ip r) (some ci) 1 7 = some (nI (C (cF φ i 1) / Nat.gcd (T (cF φ i 0)) (C (cF φ i 1)))) := gI_eq (i3 t') rfl
    have m0 : a 4 (6 * i) = nI (cF φ i 0) := mn_at c.J hi (f := 0) (by omega)
    have m1 := mn_at c.J hi (f := 1) (by omega)
    have m2 := mn_at c.J hi (f := 2) (by omega)
    have m3 := mn_at c.J hi (f := 3) (by omega)
    have p6 : (6 : Int32) * nI i = nI (6 * i) := pk_mul 6 i
    have p1 : nI (6 * i) + 1 = nI (6 * i + 1) := nI_add (6 * i) 1
    have p2 : nI (6 * i) + 2 = nI (6 * i + 2) := nI_add (6 * i) 2
    have p3 : nI (6 * i) + 3 = nI (6 * i + 3) := nI_add (6 * i) 3
    rcases in_rng a1 (lo := 0) (hi := 5) (by omega) (by omega) with ⟨q, -, hq, rfl⟩ | hn2
    · have hin (E : Hp) : fX6_in N E (nI q) 0 5 = some 1 := (w_y (N := N) (G := E) (Nat.zero_le q) hq (by omega)).2
      have : q = 0 ∨ q = 1 ∨ q = 2 ∨ q = 3 ∨ q = 4 ∨ q = 5 := by omega
      rcases this with rfl | rfl | rfl | rfl | rfl | rfl
      · refine st_11 (fx := fun h => fX5_mark N h (some x) (nI 0) (nI i)) (fm := fun h => fX6_mark N h (some (x + 19)) (nI 0) (nI i)) c (v' := v) (r' := r) (t' := t + 1) (s' := s) (a' := a) (nI (T (cF φ i 0) / Nat.gcd (T (cF φ i 0)) (C (cF φ i 1)))) ?_ ?_ (fun _ _ => rfl) (fun _ _ => rfl) (fun _ _ => rfl) (fun _ _ => rfl) c.ca
        · simp only [fX5_mark, fX5_markOfCurve, xh_O5, xh_O4, xh_O3, xh_O8, xh_g5_0, xh_g5_1, xh_g5_2, xh_g5_3, xh_g5_4, xh_g5_5, xh_g5_7, xh_g5_8, xh_g5_9, xh_g5_10, xh_g5_6, xh_g8_0, xh_g8_1, xh_g4_0, xh_g4_1, xh_g4_2, xh_g4_3, xh_g4_4, xh_g4_5, xh_g3_0, xh_g3_1, xh_g3_2, xh_p5_2, xh_p5_3, xh_p8_1, xh_p5_6, xh_p5_10, xh_p4_1, xh_p4_2, xh_p4_3, xh_p4_4, xh_p4_5, xh_p3_2, xh_rd2, xh_wr2, xh_rd4, xh_wr4, xh_rd5, xh_wr5, xh_rd15, xh_wr15, xh_len15, xh_rd16, xh_wr16, xh_len16, xh_rd17, xh_wr17, xh_len17, xh_rdA, xh_rdP, xh_wrA, xh_wrP, Option.bind_some, Option.bind_none, ↓reduceIte, if_true, if_false, q1, i1, reduceCtorEq, g6]
          rfl
        · have d1 : (nI 0 = (1 : Int32)) = False := eq_false (by decide)
          have d2 : (nI 0 = (2 : Int32)) = False := eq_false (by decide)
          have d3 : (nI 0 = (3 : Int32)) = False := eq_false (by decide)
          have d4 : (nI 0 = (4 : Int32)) = False := eq_false (by decide)
          have d5 : (nI 0 = (5 : Int32)) = False := eq_false (by decide)
          have dz : ((1 : Int32) = 0) = False := eq_false (by decide)
          simp (disch := omega) only [dz, d1, d2, d3, d4, d5, fX6_mark, fX6_marked, fX6_marked_j45, fX6_marked_j70, fX6_marked_j80, fX6_marked_j115, fX6_marked_j138, fX6_marked_j161, mh_O, mh_gJ, mh_pJ, mh_gI0, mh_gI1, mh_gI2, mh_gI5, mh_gI6, mh_gI9, mh_gI14, mh_gI15, mh_gI16, mh_gI17, mh_gI18, mh_gI19, mh_gI24, mh_pI0, mh_pI1, mh_pI2, mh_pI5, mh_pI6, mh_pI9, mh_pI14, mh_pI15, mh_pI16, mh_pI17, mh_pI18, mh_pI19, mh_pI24, mh_gA3, mh_gA4, mh_gA7, mh_gA8, mh_gA10, mh_gA11, mh_gA13, mh_gA20, mh_gA21, mh_gA22, mh_gA23, mh_gA25, mh_gA26, mh_gA27, mh_gA28, mh_gA29, mh_rd1, mh_rd2, mh_rd3, mh_rd4, mh_rd5, mh_rd6, mh_rd7, mh_rd8, mh_rd9, mh_rd10, mh_rd11, mh_rd12, mh_rd13, mh_rd14, mh_rd15, mh_rd16, mh_wr1, mh_wr2, mh_wr3, mh_wr4, mh_wr5, mh_wr6, mh_wr7, mh_wr8, mh_wr9, mh_wr10, mh_wr11, mh_wr12, mh_wr13, mh_wr14, mh_wr15, mh_wr16, Option.bind_some, Option.bind_none, ↓reduceIte, if_true, if_false, hin, m_isCurve_y c.J.2.1 hφ hi, p6, p1, p2, p3, m0, m1, m2, m3, m_petalsOf hN B c.H hc0 hc1, m_roundsOf hN B c.H hc0 hc1]
      · refine st_11 (fx := fun h => fX5_mark N h (some x) (nI 1) (nI i)) (fm := fun h => fX6_mark N h (some (x + 19)) (nI 1) (nI i)) c (v' := v) (r' := r) (t' := t + 10 + 1) (s' := s) (a' := a) (nI (T (cF φ i 0) / Nat.gcd (T (cF φ i 0)) (C (cF φ i 1))) + nI (cF φ i 2)) ?_ ?_ (fun _ _ => rfl) (fun _ _ => rfl) (fun _ _ => rfl) (fun _ _ => rfl) c.ca
        · simp only [fX5_mark, fX5_markOfRose, fX5_markOfCurve, xh_O5, xh_O4, xh_O3, xh_O8, xh_g5_0, xh_g5_1, xh_g5_2, xh_g5_3, xh_g5_4, xh_g5_5, xh_g5_7, xh_g5_8, xh_g5_9, xh_g5_10, xh_g5_6, xh_g8_0, xh_g8_1, xh_g4_0, xh_g4_1, xh_g4_2, xh_g4_3, xh_g4_4, xh_g4_5, xh_g3_0, xh_g3_1, xh_g3_2, xh_p5_2, xh_p5_3, xh_p8_1, xh_p5_6, xh_p5_10, xh_p4_1, xh_p4_2, xh_p4_3, xh_p4_4, xh_p4_5, xh_p3_2, xh_rd2, xh_wr2, xh_rd4, xh_wr4, xh_rd5, xh_wr5, xh_rd15, xh_wr15, xh_len15, xh_rd16, xh_wr16, xh_len16, xh_rd17, xh_wr17, xh_len17, xh_rdA, xh_rdP, xh_wrA, xh_wrP, Option.bind_some, Option.bind_none, ↓reduceIte, if_true, if_false, q1, i1, reduceCtorEq, g6, g2]
          rfl
        · rw [t_sw t 10 1]
          have d1 : (nI 1 = (1 : Int32)) = True := eq_true rfl
          have d2 : (nI 1 = (2 : Int32)) = False := eq_false (by decide)
          have d3 : (nI 1 = (3 : Int32)) = False := eq_false (by decide)
          have d4 : (nI 1 = (4 : Int32)) = False := eq_false (by decide)
          have d5 : (nI 1 = (5 : Int32)) = False := eq_false (by decide)
          have dz : ((1 : Int32) = 0) = False := eq_false (by decide)
          simp (disch := omega) only [dz, d1, d2, d3, d4, d5, fX6_mark, fX6_marked, fX6_marked_j45, fX6_marked_j70, fX6_marked_j80, fX6_marked_j115, fX6_marked_j138, fX6_marked_j161, mh_O, mh_gJ, mh_pJ, mh_gI0, mh_gI1, mh_gI2, mh_gI5, mh_gI6, mh_gI9, mh_gI14, mh_gI15, mh_gI16, mh_gI17, mh_gI18, mh_gI19, mh_gI24, mh_pI0, mh_pI1, mh_pI2, mh_pI5, mh_pI6, mh_pI9, mh_pI14, mh_pI15, mh_pI16, mh_pI17, mh_pI18, mh_pI19, mh_pI24, mh_gA3, mh_gA4, mh_gA7, mh_gA8, mh_gA10, mh_gA11, mh_gA13, mh_gA20, mh_gA21, mh_gA22, mh_gA23, mh_gA25, mh_gA26, mh_gA27, mh_gA28, mh_gA29, mh_rd1, mh_rd2, mh_rd3, mh_rd4, mh_rd5, mh_rd6, mh_rd7, mh_rd8, mh_rd9, mh_rd10, mh_rd11, mh_rd12, mh_rd13, mh_rd14, mh_rd15, mh_rd16, mh_wr1, mh_wr2, mh_wr3, mh_wr4, mh_wr5, mh_wr6, mh_wr7, mh_wr8, mh_wr9, mh_wr10, mh_wr11, mh_wr12, mh_wr13, mh_wr14, mh_wr15, mh_wr16, Option.bind_some, Option.bind_none, ↓reduceIte, if_true, if_false, hin, m_isCurve_y c.J.2.1 hφ hi, p6, p1, p2, p3, m0, m1, m2, m3, m_petalsOf hN B c.H hc0 hc1, m_roundsOf hN B c.H hc0 hc1]
      · refine st_11 (fx := fun h => fX5_mark N h (some x) (nI 2) (nI i)) (fm := fun h => fX6_mark N h (some (x + 19)) (nI 2) (nI i)) c (v' := v) (r' := r) (t' := t + 100 + 1) (s' := s) (a' := a) (nI (T (cF φ i 0) / Nat.gcd (T (cF φ i 0)) (C (cF φ i 1))) - nI (C (cF φ i 1) / Nat.gcd (T (cF φ i 0)) (C (cF φ i 1)))) ?_ ?_ (fun _ _ => rfl) (fun _ _ => rfl) (fun _ _ => rfl) (fun _ _ => rfl) c.ca
        · simp only [fX5_mark, fX5_markOfWeb, fX5_markOfCurve, xh_O5, xh_O4, xh_O3, xh_O8, xh_g5_0, xh_g5_1, xh_g5_2, xh_g5_3, xh_g5_4, xh_g5_5, xh_g5_7, xh_g5_8, xh_g5_9, xh_g5_10, xh_g5_6, xh_g8_0, xh_g8_1, xh_g4_0, xh_g4_1, xh_g4_2, xh_g4_3, xh_g4_4, xh_g4_5, xh_g3_0, xh_g3_1, xh_g3_2, xh_p5_2, xh_p5_3, xh_p8_1, xh_p5_6, xh_p5_10, xh_p4_1, xh_p4_2, xh_p4_3, xh_p4_4, xh_p4_5, xh_p3_2, xh_rd2, xh_wr2, xh_rd4, xh_wr4, xh_rd5, xh_wr5, xh_rd15, xh_wr15, xh_len15, xh_rd16, xh_wr16, xh_len16, xh_rd17, xh_wr17, xh_len17, xh_rdA, xh_rdP, xh_wrA, xh_wrP, Option.bind_some, Option.bind_none, ↓reduceIte, if_true, if_false, q1, i1, reduceCtorEq, g6, g7]
          rfl
        · rw [t_sw t 100 1]
          have d1 : (nI 2 = (1 : Int32)) = False := eq_false (by decide)
          have d2 : (nI 2 = (2 : Int32)) = True := eq_true rfl
          have d3 : (nI 2 = (3 : Int32)) = False := eq_false (by decide)
          have d4 : (nI 2 = (4 : Int32)) = False := eq_false (by decide)
          have d5 : (nI 2 = (5 : Int32)) = False := eq_false (by decide)
          have dz : ((1 : Int32) = 0) = False := eq_false (by decide)
          simp (disch := omega) only [dz, d1, d2, d3, d4, d5, fX6_mark, fX6_marked, fX6_marked_j45, fX6_marked_j70, fX6_marked_j80, fX6_marked_j115, fX6_marked_j138, fX6_marked_j161, mh_O, mh_gJ, mh_pJ, mh_gI0, mh_gI1, mh_gI2, mh_gI5, mh_gI6, mh_gI9, mh_gI14, mh_gI15, mh_gI16, mh_gI17, mh_gI18, mh_gI19, mh_gI24, mh_pI0, mh_pI1, mh_pI2, mh_pI5, mh_pI6, mh_pI9, mh_pI14, mh_pI15, mh_pI16, mh_pI17, mh_pI18, mh_pI19, mh_pI24, mh_gA3, mh_gA4, mh_gA7, mh_gA8, mh_gA10, mh_gA11, mh_gA13, mh_gA20, mh_gA21, mh_gA22, mh_gA23, mh_gA25, mh_gA26, mh_gA27, mh_gA28, mh_gA29, mh_rd1, mh_rd2, mh_rd3, mh_rd4, mh_rd5, mh_rd6, mh_rd7, mh_rd8, mh_rd9, mh_rd10, mh_rd11, mh_rd12, mh_rd13, mh_rd14, mh_rd15, mh_rd16, mh_wr1, mh_wr2, mh_wr3, mh_wr4, mh_wr5, mh_wr6, mh_wr7, mh_wr8, mh_wr9, mh_wr10, mh_wr11, mh_wr12, mh_wr13, mh_wr14, mh_wr15, mh_wr16, Option.bind_some, Option.bind_none, ↓reduceIte, if_true, if_false, hin, m_isCurve_y c.J.2.1 hφ hi, p6, p1, p2, p3, m0, m1, m2, m3, m_petalsOf hN B c.H hc0 hc1, m_roundsOf hN B c.H hc0 hc1]
      · refine st_11 (fx := fun h => fX5_mark N h (some x) (nI 3) (nI i)) (fm := fun h => fX6_mark N h (some (x + 19)) (nI 3) (nI i)) c (v' := v) (r' := r) (t' := t + 1000 + 10 + 1) (s' := s) (a' := a) ((nI (T (cF φ i 0) / Nat.gcd (T (cF φ i 0)) (C (cF φ i 1))) + nI (cF φ i 2)) * 2) ?_ ?_ (fun _ _ => rfl) (fun _ _ => rfl) (fun _ _ => rfl) (fun _ _ => rfl) c.ca
        · simp only [fX5_mark, fX5_markOfBouquet, fX5_markOfRose, fX5_markOfCurve, xh_O5, xh_O4, xh_O3, xh_O8, xh_g5_0, xh_g5_1, xh_g5_2, xh_g5_3, xh_g5_4, xh_g5_5, xh_g5_7, xh_g5_8, xh_g5_9, xh_g5_10, xh_g5_6, xh_g8_0, xh_g8_1, xh_g4_0, xh_g4_1, xh_g4_2, xh_g4_3, xh_g4_4, xh_g4_5, xh_g3_0, xh_g3_1, xh_g3_2, xh_p5_2, xh_p5_3, xh_p8_1, xh_p5_6, xh_p5_10, xh_p4_1, xh_p4_2, xh_p4_3, xh_p4_4, xh_p4_5, xh_p3_2, xh_rd2, xh_wr2, xh_rd4, xh_wr4, xh_rd5, xh_wr5, xh_rd15, xh_wr15, xh_len15, xh_rd16, xh_wr16, xh_len16, xh_rd17, xh_wr17, xh_len17, xh_rdA, xh_rdP, xh_wrA, xh_wrP, Option.bind_some, Option.bind_none, ↓reduceIte, if_true, if_false, q1, i1, reduceCtorEq, g6, g2]
          rfl
        · rw [t_sw (t + 1000) 10 1, t_sw t 1000 1, t_sw (t + 1) 1000 10]
          have d1 : (nI 3 = (1 : Int32)) = False := eq_false (by decide)
          have d2 : (nI 3 = (2 : Int32)) = False := eq_false (by decide)
          have d3 : (nI 3 = (3 : Int32)) = True := eq_true rfl
          have d4 : (nI 3 = (4 : Int32)) = False := eq_false (by decide)
          have d5 : (nI 3 = (5 : Int32)) = False := eq_false (by decide)
          have dz : ((1 : Int32) = 0) = False := eq_false (by decide)
          simp (disch := omega) only [dz, d1, d2, d3, d4, d5, fX6_mark, fX6_marked, fX6_marked_j45, fX6_marked_j70, fX6_marked_j80, fX6_marked_j115, fX6_marked_j138, fX6_marked_j161, mh_O, mh_gJ, mh_pJ, mh_gI0, mh_gI1, mh_gI2, mh_gI5, mh_gI6, mh_gI9, mh_gI14, mh_gI15, mh_gI16, mh_gI17, mh_gI18, mh_gI19, mh_gI24, mh_pI0, mh_pI1, mh_pI2, mh_pI5, mh_pI6, mh_pI9, mh_pI14, mh_pI15, mh_pI16, mh_pI17, mh_pI18, mh_pI19, mh_pI24, mh_gA3, mh_gA4, mh_gA7, mh_gA8, mh_gA10, mh_gA11, mh_gA13, mh_gA20, mh_gA21, mh_gA22, mh_gA23, mh_gA25, mh_gA26, mh_gA27, mh_gA28, mh_gA29, mh_rd1, mh_rd2, mh_rd3, mh_rd4, mh_rd5, mh_rd6, mh_rd7, mh_rd8, mh_rd9, mh_rd10, mh_rd11, mh_rd12, mh_rd13, mh_rd14, mh_rd15, mh_rd16, mh_wr1, mh_wr2, mh_wr3, mh_wr4, mh_wr5, mh_wr6, mh_wr7, mh_wr8, mh_wr9, mh_wr10, mh_wr11, mh_wr12, mh_wr13, mh_wr14, mh_wr15, mh_wr16, Option.bind_some, Option.bind_none, ↓reduceIte, if_true, if_false, hin, m_isCurve_y c.J.2.1 hφ hi, p6, p1, p2, p3, m0, m1, m2, m3, m_petalsOf hN B c.H hc0 hc1, m_roundsOf hN B c.H hc0 hc1]
      · refine st_11 (fx := fun h => fX5_mark N h (some x) (nI 4) (nI i)) (fm := fun h => fX6_mark N h (some (x + 19)) (nI 4) (nI i)) c (v' := v) (r' := r) (t' := t + 10000 + 100 + 1) (s' := s) (a' := a) (nI (T (cF φ i 0) / Nat.gcd (T (cF φ i 0)) (C (cF φ i 1))) - nI (C (cF φ i 1) / Nat.gcd (T (cF φ i 0)) (C (cF φ i 1))) + nI i) ?_ ?_ (fun _ _ => rfl) (fun _ _ => rfl) (fun _ _ => rfl) (fun _ _ => rfl) c.ca
        · simp only [fX5_mark, fX5_markOfLace, fX5_markOfWeb, fX5_markOfCurve, xh_O5, xh_O4, xh_O3, xh_O8, xh_g5_0, xh_g5_1, xh_g5_2, xh_g5_3, xh_g5_4, xh_g5_5, xh_g5_7, xh_g5_8, xh_g5_9, xh_g5_10, xh_g5_6, xh_g8_0, xh_g8_1, xh_g4_0, xh_g4_1, xh_g4_2, xh_g4_3, xh_g4_4, xh_g4_5, xh_g3_0, xh_g3_1, xh_g3_2, xh_p5_2, xh_p5_3, xh_p8_1, xh_p5_6, xh_p5_10, xh_p4_1, xh_p4_2, xh_p4_3, xh_p4_4, xh_p4_5, xh_p3_2, xh_rd2, xh_wr2, xh_rd4, xh_wr4, xh_rd5, xh_wr5, xh_rd15, xh_wr15, xh_len15, xh_rd16, xh_wr16, xh_len16, xh_rd17, xh_wr17, xh_len17, xh_rdA, xh_rdP, xh_wrA, xh_wrP, Option.bind_some, Option.bind_none, ↓reduceIte, if_true, if_false, q1, i1, reduceCtorEq, g6, g7]
          rfl
        · rw [t_sw (t + 10000) 100 1, t_sw t 10000 1, t_sw (t + 1) 10000 100]
          have d1 : (nI 4 = (1 : Int32)) = False := eq_false (by decide)
          have d2 : (nI 4 = (2 : Int32)) = False := eq_false (by decide)
          have d3 : (nI 4 = (3 : Int32)) = False := eq_false (by decide)
          have d4 : (nI 4 = (4 : Int32)) = True := eq_true rfl
          have d5 : (nI 4 = (5 : Int32)) = False := eq_false (by decide)
          have dz : ((1 : Int32) = 0) = False := eq_false (by decide)
          simp (disch := omega) only [dz, d1, d2, d3, d4, d5, fX6_mark, fX6_marked, fX6_marked_j45, fX6_marked_j70, fX6_marked_j80, fX6_marked_j115, fX6_marked_j138, fX6_marked_j161, mh_O, mh_gJ, mh_pJ, mh_gI0, mh_gI1, mh_gI2, mh_gI5, mh_gI6, mh_gI9, mh_gI14, mh_gI15, mh_gI16, mh_gI17, mh_gI18, mh_gI19, mh_gI24, mh_pI0, mh_pI1, mh_pI2, mh_pI5, mh_pI6, mh_pI9, mh_pI14, mh_pI15, mh_pI16, mh_pI17, mh_pI18, mh_pI19, mh_pI24, mh_gA3, mh_gA4, mh_gA7, mh_gA8, mh_gA10, mh_gA11, mh_gA13, mh_gA20, mh_gA21, mh_gA22, mh_gA23, mh_gA25, mh_gA26, mh_gA27, mh_gA28, mh_gA29, mh_rd1, mh_rd2, mh_rd3, mh_rd4, mh_rd5, mh_rd6, mh_rd7, mh_rd8, mh_rd9, mh_rd10, mh_rd11, mh_rd12, mh_rd13, mh_rd14, mh_rd15, mh_rd16, mh_wr1, mh_wr2, mh_wr3, mh_wr4, mh_wr5, mh_wr6, mh_wr7, mh_wr8, mh_wr9, mh_wr10, mh_wr11, mh_wr12, mh_wr13, mh_wr14, mh_wr15, mh_wr16, Option.bind_some, Option.bind_none, ↓reduceIte, if_true, if_false, hin, m_isCurve_y c.J.2.1 hφ hi, p6, p1, p2, p3, m0, m1, m2, m3, m_petalsOf hN B c.H hc0 hc1, m_roundsOf hN B c.H hc0 hc1]
      · refine st_11 (fx := fun h => fX5_mark N h (some x) (nI 5) (nI i)) (fm := fun h => fX6_mark N h (some (x + 19)) (nI 5) (nI i)) c (v' := v) (r' := r) (t' := t + 100000 + 1) (s' := s) (a' := a) (nI (T (cF φ i 0) / Nat.gcd (T (cF φ i 0)) (C (cF φ i 1))) + nI (cF φ i 3)) ?_ ?_ (fun _ _ => rfl) (fun _ _ => rfl) (fun _ _ => rfl) (fun _ _ => rfl) c.ca
        · simp only [fX5_mark, fX5_markOfStar, fX5_markOfCurve, xh_O5, xh_O4, xh_O3, xh_O8, xh_g5_0, xh_g5_1, xh_g5_2, xh_g5_3, xh_g5_4, xh_g5_5, xh_g5_7, xh_g5_8, xh_g5_9, xh_g5_10, xh_g5_6, xh_g8_0, xh_g8_1, xh_g4_0, xh_g4_1, xh_g4_2, xh_g4_3, xh_g4_4, xh_g4_5, xh_g3_0, xh_g3_1, xh_g3_2, xh_p5_2, xh_p5_3, xh_p8_1, xh_p5_6, xh_p5_10, xh_p4_1, xh_p4_2, xh_p4_3, xh_p4_4, xh_p4_5, xh_p3_2, xh_rd2, xh_wr2, xh_rd4, xh_wr4, xh_rd5, xh_wr5, xh_rd15, xh_wr15, xh_len15, xh_rd16, xh_wr16, xh_len16, xh_rd17, xh_wr17, xh_len17, xh_rdA, xh_rdP, xh_wrA, xh_wrP, Option.bind_some, Option.bind_none, ↓reduceIte, if_true, if_false, q1, i1, reduceCtorEq, g6, g3]
          rfl
        · rw [t_sw t 100000 1]
          have d1 : (nI 5 = (1 : Int32)) = False := eq_false (by decide)
          have d2 : (nI 5 = (2 : Int32)) = False := eq_false (by decide)
          have d3 : (nI 5 = (3 : Int32)) = False := eq_false (by decide)
          have d4 : (nI 5 = (4 : Int32)) = False := eq_false (by decide)
          have d5 : (nI 5 = (5 : Int32)) = True := eq_true rfl
          have dz : ((1 : Int32) = 0) = False := eq_false (by decide)
          simp (disch := omega) only [dz, d1, d2, d3, d4, d5, fX6_mark, fX6_marked, fX6_marked_j45, fX6_marked_j70, fX6_marked_j80, fX6_marked_j115, fX6_marked_j138, fX6_marked_j161, mh_O, mh_gJ, mh_pJ, mh_gI0, mh_gI1, mh_gI2, mh_gI5, mh_gI6, mh_gI9, mh_gI14, mh_gI15, mh_gI16, mh_gI17, mh_gI18, mh_gI19, mh_gI24, mh_pI0, mh_pI1, mh_pI2, mh_pI5, mh_pI6, mh_pI9, mh_pI14, mh_pI15, mh_pI16, mh_pI17, mh_pI18, mh_pI19, mh_pI24, mh_gA3, mh_gA4, mh_gA7, mh_gA8, mh_gA10, mh_gA11, mh_gA13, mh_gA20, mh_gA21, mh_gA22, mh_gA23, mh_gA25, mh_gA26, mh_gA27, mh_gA28, mh_gA29, mh_rd1, mh_rd2, mh_rd3, mh_rd4, mh_rd5, mh_rd6, mh_rd7, mh_rd8, mh_rd9, mh_rd10, mh_rd11, mh_rd12, mh_rd13, mh_rd14, mh_rd15, mh_rd16, mh_wr1, mh_wr2, mh_wr3, mh_wr4, mh_wr5, mh_wr6, mh_wr7, mh_wr8, mh_wr9, mh_wr10, mh_wr11, mh_wr12, mh_wr13, mh_wr14, mh_wr15, mh_wr16, Option.bind_some, Option.bind_none, ↓reduceIte, if_true, if_false, hin, m_isCurve_y c.J.2.1 hφ hi, p6, p1, p2, p3, m0, m1, m2, m3, m_petalsOf hN B c.H hc0 hc1, m_roundsOf hN B c.H hc0 hc1]
    · refine st_11 (fx := fun h => fX5_mark N h (some x) a1 (nI i)) (fm := fun h => fX6_mark N h (some (x + 19)) a1 (nI i)) c (v' := v) (r' := r) (t' := t) (s' := s) (a' := a) (-1000000) ?_ ?_ (fun _ _ => rfl) (fun _ _ => rfl) (fun _ _ => rfl) (fun _ _ => rfl) c.ca
      · have hz (k : Nat) (hk : k ≤ 5) : ¬ a1 = nI k := fun z => hn2 (by rw [z]; exact ⟨nI_le (by omega) (by omega), nI_le hk (by omega)⟩)
        simp only [fX5_mark, xh_O5, xh_O4, xh_O3, xh_O8, xh_g5_0, xh_g5_1, xh_g5_2, xh_g5_3, xh_g5_4, xh_g5_5, xh_g5_7, xh_g5_8, xh_g5_9, xh_g5_10, xh_g5_6, xh_g8_0, xh_g8_1, xh_g4_0, xh_g4_1, xh_g4_2, xh_g4_3, xh_g4_4, xh_g4_5, xh_g3_0, xh_g3_1, xh_g3_2, xh_p5_2, xh_p5_3, xh_p8_1, xh_p5_6, xh_p5_10, xh_p4_1, xh_p4_2, xh_p4_3, xh_p4_4, xh_p4_5, xh_p3_2, xh_rd2, xh_wr2, xh_rd4, xh_wr4, xh_rd5, xh_wr5, xh_rd15, xh_wr15, xh_len15, xh_rd16, xh_wr16, xh_len16, xh_rd17, xh_wr17, xh_len17, xh_rdA, xh_rdP, xh_wrA, xh_wrP, Option.bind_some, Option.bind_none, ↓reduceIte, if_true, if_false, q1, i1, reduceCtorEq]
        rw [if_neg (show ¬ a1 = 0 from hz 0 (by omega)), if_neg (show ¬ a1 = 1 from hz 1 (by omega)), if_neg (show ¬ a1 = 2 from hz 2 (by omega)), if_neg (show ¬ a1 = 3 from hz 3 (by omega)), if_neg (show ¬ a1 = 4 from hz 4 (by omega)), if_neg (show ¬ a1 = 5 from hz 5 (by omega))]
      · simp only [fX6_mark]
        rw [i_0, i_5, m_in_n hn2]
        rfl
  · refine st_11 (fx := fun h => fX5_mark N h (some x) a1 a2) (fm := fun h => fX6_mark N h (some (x + 19)) a1 a2) c (v' := v) (r' := r) (t' := t) (s' := s) (a' := a) (-1000000) ?_ ?_ (fun _ _ => rfl) (fun _ _ => rfl) (fun _ _ => rfl) (fun _ _ => rfl) c.ca
    · simp only [fX5_mark, xh_O5, xh_O4, xh_O3, xh_O8, xh_g5_0, xh_g5_1, xh_g5_2, xh_g5_3, xh_g5_4, xh_g5_5, xh_g5_7, xh_g5_8, xh_g5_9, xh_g5_10, xh_g5_6, xh_g8_0, xh_g8_1, xh_g4_0, xh_g4_1, xh_g4_2, xh_g4_3, xh_g4_4, xh_g4_5, xh_g3_0, xh_g3_1, xh_g3_2, xh_p5_2, xh_p5_3, xh_p8_1, xh_p5_6, xh_p5_10, xh_p4_1, xh_p4_2, xh_p4_3, xh_p4_4, xh_p4_5, xh_p3_2, xh_rd2, xh_wr2, xh_rd4, xh_wr4, xh_rd5, xh_wr5, xh_rd15, xh_wr15, xh_len15, xh_rd16, xh_wr16, xh_len16, xh_rd17, xh_wr17, xh_len17, xh_rdA, xh_rdP, xh_wrA, xh_wrP, Option.bind_some, Option.bind_none, ↓reduceIte, if_true, if_false, q1, x_curveAt_n (N := N) (E := xH (mH g (x + 19) s t a) x v t b p ip r) c.O c.Qx xh_dy hn]
    · have : fX6_in N (mH (xH g x v t b p ip r) (x + 19) s t a) a1 0 5 = some 0 ∨ fX6_in N (mH (xH g x v t b p ip r) (x + 19) s t a) a1 0 5 = some 1 := by
        by_cases cc : (0 : Int32) ≤ a1 ∧ a1 ≤ 5
        · exact Or.inr (m_in_y cc.1 cc.2)
        · exact Or.inl (m_in_n cc)
      simp only [fX6_mark, mh_O, mh_gJ, mh_pJ, mh_gI0, mh_gI1, mh_gI2, mh_gI5, mh_gI6, mh_gI9, mh_gI14, mh_gI15, mh_gI16, mh_gI17, mh_gI18, mh_gI19, mh_gI24, mh_pI0, mh_pI1, mh_pI2, mh_pI5, mh_pI6, mh_pI9, mh_pI14, mh_pI15, mh_pI16, mh_pI17, mh_pI18, mh_pI19, mh_pI24, mh_gA3, mh_gA4, mh_gA7, mh_gA8, mh_gA10, mh_gA11, mh_gA13, mh_gA20, mh_gA21, mh_gA22, mh_gA23, mh_gA25, mh_gA26, mh_gA27, mh_gA28, mh_gA29, Option.bind_some, Option.bind_none, ↓reduceIte, if_true, if_false, m_isCurve_n c.J.2.1 hφ hn]
      rcases this with e | e <;> rw [e] <;> rfl
end SF
