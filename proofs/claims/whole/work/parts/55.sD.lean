section SD
variable {x : Nat} {N : Nat}
theorem mn_at {s : Nat → Int32} {a : Nat → Nat → Int32} {P : Nat} {φ : Nat → Nat} (J : mN s a P φ) {k f : Nat} (hk : k < φ 1) (hf : f < 6) : a 4 (6 * k + f) = nI (cF φ k f) := by
  rw [J.2.2.2 (6 * k + f) (by omega)]
  rw [show 6 + (6 * k + f) = 6 + 6 * k + f by omega]
  rfl
theorem s_curve (hN : 2000 ≤ N) : ∀ (h : Hp) (sz : Nat) (a1 : Int32) (a2 : Int32), IV x h sz → ∃ (r : Int32) (h1 : Hp) (sz1 : Nat) (h2 : Hp), (fX5_curve N h (some x) a1 a2 = some (r, h1) ∧ sz1 = sz) ∧ isO h1 (some (x + 18)) 6 = true ∧ (fX6_curve N h1 (some (x + 18)) a1 a2 = some r ∧ h2 = h1) ∧ IV x h2 sz1 := by
  rintro h sz a1 a2 ⟨g, v, t, b, p, ip, r, s, a, R, W, P, T, C, φ, bf, sn, tt, tp, L, U, ψ, c⟩
  have X := c.XX
  have B := c.B
  have hR := B.1
  have hW := B.2.1
  have hP := B.2.2.1
  have hφ := c.O.2.1
  obtain ⟨q1, -⟩ := pp_read (E := xH (mH g (x + 18) s t a) x v t b p ip r) c.Qx xh_dy
  rcases in_or a1 (n := φ 1) (by omega) with ⟨i, hi, rfl⟩ | hn
  · obtain ⟨ci, i1, i2, i3⟩ := x_curveAt_y (N := N) (E := xH (mH g (x + 18) s t a) x v t b p ip r) c.O c.Qx xh_dy hi
    have hO := c.O.2.2.2 i hi
    have h9 : cF φ i 2 ≤ 9 := hO.2.2.2.2.1
    have g0 : gI (xH (mH g (x + 18) s t a) x v t b p ip r) (some ci) 1 0 = some (nI (cF φ i 0)) := gI_eq i3 rfl
    have g1 : gI (xH (mH g (x + 18) s t a) x v t b p ip r) (some ci) 1 1 = some (nI (cF φ i 1)) := gI_eq i3 rfl
    have g2 : gI (xH (mH g (x + 18) s t a) x v t b p ip r) (some ci) 1 2 = some (nI (cF φ i 2)) := gI_eq i3 rfl
    have g3 : gI (xH (mH g (x + 18) s t a) x v t b p ip r) (some ci) 1 3 = some (nI (cF φ i 3)) := gI_eq i3 rfl
    have g4 : gI (xH (mH g (x + 18) s t a) x v t b p ip r) (some ci) 1 4 = some (nI (cF φ i 4)) := gI_eq i3 rfl
    have g5 : gI (xH (mH g (x + 18) s t a) x v t b p ip r) (some ci) 1 5 = some (nI (cF φ i 5)) := gI_eq i3 rfl
    rcases in_rng a2 (lo := 0) (hi := 6) (by omega) (by omega) with ⟨q, -, hq, rfl⟩ | hn2
    · by_cases c6 : q = 6
      · subst c6
        obtain ⟨f1, e1⟩ := x_tipsShown (G := mH g (x + 18) s t a) (x := x) (v := v) (t := t) (b := b) (p := p) (ip := ip) (r := r) (N := N) hN B c.O c.Qx (k := i) (show cF φ i 2 < 10 by omega)
        refine st_10 (fx := fun h => fX5_curve N h (some x) (nI i) (nI 6)) (fm := fun h => fX6_curve N h (some (x + 18)) (nI i) (nI 6)) c (v' := v) (r' := ua r 15 f1) (nI (cnt (fun pt => lastK (tipL T C φ (cF φ i 2) pt) (φ 1) == nI i) 360)) ?_ ?_ (fun _ _ => rfl) (ua_k (by omega)) (ca_ua (by omega) c.ca)
        · simp only [fX5_curve, xh_O5, xh_O4, xh_O3, xh_g5_0, xh_g5_1, xh_g5_2, xh_g5_3, xh_g5_5, xh_g5_6, xh_g5_8, xh_g5_9, xh_g5_10, xh_g5_4, xh_g5_11, xh_g5_7, xh_g4_0, xh_g4_1, xh_g4_2, xh_g4_3, xh_g4_4, xh_g4_5, xh_g3_0, xh_g3_1, xh_g3_2, xh_p5_2, xh_p5_3, xh_p5_4, xh_p5_7, xh_p5_11, xh_p4_1, xh_p4_2, xh_p4_3, xh_p4_4, xh_p4_5, xh_p3_2, xh_rd2, xh_wr2, xh_rd4, xh_wr4, xh_rd5, xh_wr5, xh_rd14, xh_wr14, xh_rd15, xh_wr15, xh_len15, xh_rd16, xh_wr16, xh_len16, xh_rd17, xh_wr17, xh_len17, xh_rdA, xh_wrA, Option.bind_some, Option.bind_none, ↓reduceIte, if_true, if_false, q1, i1, reduceCtorEq, g2, e1]
          rfl
        · simp only [fX6_curve, mh_O, mh_gJ, mh_pJ, mh_gI0, mh_gI1, mh_gI2, mh_gI5, mh_gI6, mh_gI9, mh_gI14, mh_gI15, mh_gI16, mh_gI17, mh_gI18, mh_gI19, mh_gI24, mh_pI0, mh_pI1, mh_pI2, mh_pI5, mh_pI6, mh_pI9, mh_pI14, mh_pI15, mh_pI16, mh_pI17, mh_pI18, mh_pI19, mh_pI24, mh_gA3, mh_gA4, mh_gA7, mh_gA8, mh_gA10, mh_gA11, mh_gA13, mh_gA20, mh_gA21, mh_gA22, mh_gA23, mh_gA25, mh_gA26, mh_gA27, mh_gA28, mh_gA29, Option.bind_some, Option.bind_none, ↓reduceIte, if_true, if_false, m_isCurve_y c.J.2.1 hφ hi, m_curveShown hN B c.H c.O c.J hi]
          rw [if_neg (by decide), i_0, i_6, (w_y (N := N) (G := mH (xH g x v t b p ip (ua r 15 f1)) (x + 18) s t a) (Nat.zero_le 6) hq (by omega)).2]
          rfl
      · refine st_10 (fx := fun h => fX5_curve N h (some x) (nI i) (nI q)) (fm := fun h => fX6_curve N h (some (x + 18)) (nI i) (nI q)) c (v' := v) (r' := r) (nI (cF φ i q)) ?_ ?_ (fun _ _ => rfl) (fun _ _ => rfl) c.ca
        · simp only [fX5_curve, xh_O5, xh_O4, xh_O3, xh_g5_0, xh_g5_1, xh_g5_2, xh_g5_3, xh_g5_5, xh_g5_6, xh_g5_8, xh_g5_9, xh_g5_10, xh_g5_4, xh_g5_11, xh_g5_7, xh_g4_0, xh_g4_1, xh_g4_2, xh_g4_3, xh_g4_4, xh_g4_5, xh_g3_0, xh_g3_1, xh_g3_2, xh_p5_2, xh_p5_3, xh_p5_4, xh_p5_7, xh_p5_11, xh_p4_1, xh_p4_2, xh_p4_3, xh_p4_4, xh_p4_5, xh_p3_2, xh_rd2, xh_wr2, xh_rd4, xh_wr4, xh_rd5, xh_wr5, xh_rd14, xh_wr14, xh_rd15, xh_wr15, xh_len15, xh_rd16, xh_wr16, xh_len16, xh_rd17, xh_wr17, xh_len17, xh_rdA, xh_wrA, Option.bind_some, Option.bind_none, ↓reduceIte, if_true, if_false, q1, i1, reduceCtorEq, g0, g1, g2, g3, g4, g5]
          have : q = 0 ∨ q = 1 ∨ q = 2 ∨ q = 3 ∨ q = 4 ∨ q = 5 := by omega
          rcases this with rfl | rfl | rfl | rfl | rfl | rfl <;> rfl
        · simp only [fX6_curve, mh_O, mh_gJ, mh_pJ, mh_gI0, mh_gI1, mh_gI2, mh_gI5, mh_gI6, mh_gI9, mh_gI14, mh_gI15, mh_gI16, mh_gI17, mh_gI18, mh_gI19, mh_gI24, mh_pI0, mh_pI1, mh_pI2, mh_pI5, mh_pI6, mh_pI9, mh_pI14, mh_pI15, mh_pI16, mh_pI17, mh_pI18, mh_pI19, mh_pI24, mh_gA3, mh_gA4, mh_gA7, mh_gA8, mh_gA10, mh_gA11, mh_gA13, mh_gA20, mh_gA21, mh_gA22, mh_gA23, mh_gA25, mh_gA26, mh_gA27, mh_gA28, mh_gA29, Option.bind_some, Option.bind_none, ↓reduceIte, if_true, if_false, m_isCurve_y c.J.2.1 hφ hi]
          rw [if_neg (by decide), i_0, i_6, (w_y (N := N) (G := mH (xH g x v t b p ip r) (x + 18) s t a) (Nat.zero_le q) hq (by omega)).2, pk_mul, nI_add]
          simp (disch := omega) only [mh_O, mh_gJ, mh_pJ, mh_gI0, mh_gI1, mh_gI2, mh_gI5, mh_gI6, mh_gI9, mh_gI14, mh_gI15, mh_gI16, mh_gI17, mh_gI18, mh_gI19, mh_gI24, mh_pI0, mh_pI1, mh_pI2, mh_pI5, mh_pI6, mh_pI9, mh_pI14, mh_pI15, mh_pI16, mh_pI17, mh_pI18, mh_pI19, mh_pI24, mh_gA3, mh_gA4, mh_gA7, mh_gA8, mh_gA10, mh_gA11, mh_gA13, mh_gA20, mh_gA21, mh_gA22, mh_gA23, mh_gA25, mh_gA26, mh_gA27, mh_gA28, mh_gA29, mh_rd1, mh_rd2, mh_rd3, mh_rd4, mh_rd5, mh_rd6, mh_rd7, mh_rd8, mh_rd9, mh_rd10, mh_rd11, mh_rd12, mh_rd13, mh_rd14, mh_rd15, mh_rd16, mh_wr1, mh_wr2, mh_wr3, mh_wr4, mh_wr5, mh_wr6, mh_wr7, mh_wr8, mh_wr9, mh_wr10, mh_wr11, mh_wr12, mh_wr13, mh_wr14, mh_wr15, mh_wr16, Option.bind_some, Option.bind_none, ↓reduceIte, if_true, if_false, mn_at c.J hi (show q < 6 by omega)]
          rw [if_neg (by decide), if_neg (nI_ge (by omega) (by omega))]
    · refine st_10 (fx := fun h => fX5_curve N h (some x) (nI i) a2) (fm := fun h => fX6_curve N h (some (x + 18)) (nI i) a2) c (v' := v) (r' := r) (-1) ?_ ?_ (fun _ _ => rfl) (fun _ _ => rfl) c.ca
      · have hz (k : Nat) (hk : k ≤ 6) : ¬ a2 = nI k := fun z => hn2 (by rw [z]; exact ⟨nI_le (by omega) (by omega), nI_le hk (by omega)⟩)
        simp only [fX5_curve, xh_O5, xh_O4, xh_O3, xh_g5_0, xh_g5_1, xh_g5_2, xh_g5_3, xh_g5_5, xh_g5_6, xh_g5_8, xh_g5_9, xh_g5_10, xh_g5_4, xh_g5_11, xh_g5_7, xh_g4_0, xh_g4_1, xh_g4_2, xh_g4_3, xh_g4_4, xh_g4_5, xh_g3_0, xh_g3_1, xh_g3_2, xh_p5_2, xh_p5_3, xh_p5_4, xh_p5_7, xh_p5_11, xh_p4_1, xh_p4_2, xh_p4_3, xh_p4_4, xh_p4_5, xh_p3_2, xh_rd2, xh_wr2, xh_rd4, xh_wr4, xh_rd5, xh_wr5, xh_rd14, xh_wr14, xh_rd15, xh_wr15, xh_len15, xh_rd16, xh_wr16, xh_len16, xh_rd17, xh_wr17, xh_len17, xh_rdA, xh_wrA, Option.bind_some, Option.bind_none, ↓reduceIte, if_true, if_false, q1, i1, reduceCtorEq]
        rw [if_neg (show ¬ a2 = 0 from hz 0 (by omega)), if_neg (show ¬ a2 = 1 from hz 1 (by omega)), if_neg (show ¬ a2 = 2 from hz 2 (by omega)), if_neg (show ¬ a2 = 3 from hz 3 (by omega)), if_neg (show ¬ a2 = 4 from hz 4 (by omega)), if_neg (show ¬ a2 = 5 from hz 5 (by omega)), if_neg (show ¬ a2 = 6 from hz 6 (by omega))]
      · simp only [fX6_curve, mh_O, mh_gJ, mh_pJ, mh_gI0, mh_gI1, mh_gI2, mh_gI5, mh_gI6, mh_gI9, mh_gI14, mh_gI15, mh_gI16, mh_gI17, mh_gI18, mh_gI19, mh_gI24, mh_pI0, mh_pI1, mh_pI2, mh_pI5, mh_pI6, mh_pI9, mh_pI14, mh_pI15, mh_pI16, mh_pI17, mh_pI18, mh_pI19, mh_pI24, mh_gA3, mh_gA4, mh_gA7, mh_gA8, mh_gA10, mh_gA11, mh_gA13, mh_gA20, mh_gA21, mh_gA22, mh_gA23, mh_gA25, mh_gA26, mh_gA27, mh_gA28, mh_gA29, Option.bind_some, Option.bind_none, ↓reduceIte, if_true, if_false, m_isCurve_y c.J.2.1 hφ hi]
        rw [if_neg (by decide), i_0, i_6, m_in_n hn2]
        rfl
  · refine st_10 (fx := fun h => fX5_curve N h (some x) a1 a2) (fm := fun h => fX6_curve N h (some (x + 18)) a1 a2) c (v' := v) (r' := r) (-1) ?_ ?_ (fun _ _ => rfl) (fun _ _ => rfl) c.ca
    · simp only [fX5_curve, xh_O5, xh_O4, xh_O3, xh_g5_0, xh_g5_1, xh_g5_2, xh_g5_3, xh_g5_5, xh_g5_6, xh_g5_8, xh_g5_9, xh_g5_10, xh_g5_4, xh_g5_11, xh_g5_7, xh_g4_0, xh_g4_1, xh_g4_2, xh_g4_3, xh_g4_4, xh_g4_5, xh_g3_0, xh_g3_1, xh_g3_2, xh_p5_2, xh_p5_3, xh_p5_4, xh_p5_7, xh_p5_11, xh_p4_1, xh_p4_2, xh_p4_3, xh_p4_4, xh_p4_5, xh_p3_2, xh_rd2, xh_wr2, xh_rd4, xh_wr4, xh_rd5, xh_wr5, xh_rd14, xh_wr14, xh_rd15, xh_wr15, xh_len15, xh_rd16, xh_wr16, xh_len16, xh_rd17, xh_wr17, xh_len17, xh_rdA, xh_wrA, Option.bind_some, Option.bind_none, ↓reduceIte, if_true, if_false, q1, x_curveAt_n (N := N) (E := xH (mH g (x + 18) s t a) x v t b p ip r) c.O c.Qx xh_dy hn]
    · simp only [fX6_curve, mh_O, mh_gJ, mh_pJ, mh_gI0, mh_gI1, mh_gI2, mh_gI5, mh_gI6, mh_gI9, mh_gI14, mh_gI15, mh_gI16, mh_gI17, mh_gI18, mh_gI19, mh_gI24, mh_pI0, mh_pI1, mh_pI2, mh_pI5, mh_pI6, mh_pI9, mh_pI14, mh_pI15, mh_pI16, mh_pI17, mh_pI18, mh_pI19, mh_pI24, mh_gA3, mh_gA4, mh_gA7, mh_gA8, mh_gA10, mh_gA11, mh_gA13, mh_gA20, mh_gA21, mh_gA22, mh_gA23, mh_gA25, mh_gA26, mh_gA27, mh_gA28, mh_gA29, Option.bind_some, Option.bind_none, ↓reduceIte, if_true, if_false, m_isCurve_n c.J.2.1 hφ hn]
theorem s_clear (hN : 2000 ≤ N) : ∀ (h : Hp) (sz : Nat), IV x h sz → ∃ (r : Int32) (h1 : Hp) (sz1 : Nat) (h2 : Hp), (fX5_clear N h (some x) = some (r, h1) ∧ sz1 = sz) ∧ isO h1 (some (x + 18)) 6 = true ∧ fX6_clear N h1 (some (x + 18)) = some (r, h2) ∧ IV x h2 sz1 := by
  rintro h sz ⟨g, v, t, b, p, ip, r, s, a, R, W, P, T, C, φ, bf, sn, tt, tp, L, U, ψ, c⟩
  have X := c.XX
  have B := c.B
  have hR := B.1
  have hW := B.2.1
  have hP := B.2.2.1
  have hφ := c.O.2.1
  refine ⟨nI L, mH (xH g x (upd v 2 0) t b p ip r) (x + 18) s t a, sz, mH (xH g x (upd v 2 0) t b p ip r) (x + 18) (upd s 14 0) t a, ⟨?_, rfl⟩, mh_O, ?_, ?_⟩
  · rw [c.hx, xh_mh rfl]
    simp only [fX5_clear, fX4_empties, xh_O5, xh_O4, xh_O3, xh_g5_0, xh_g5_1, xh_g5_2, xh_g5_3, xh_g5_5, xh_g5_6, xh_g5_8, xh_g5_9, xh_g5_10, xh_g5_4, xh_g5_11, xh_g5_7, xh_g4_0, xh_g4_1, xh_g4_2, xh_g4_3, xh_g4_4, xh_g4_5, xh_g3_0, xh_g3_1, xh_g3_2, xh_p5_2, xh_p5_3, xh_p5_4, xh_p5_7, xh_p5_11, xh_p4_1, xh_p4_2, xh_p4_3, xh_p4_4, xh_p4_5, xh_p3_2, xh_rd2, xh_wr2, xh_rd4, xh_wr4, xh_rd5, xh_wr5, xh_rd14, xh_wr14, xh_rd15, xh_wr15, xh_len15, xh_rd16, xh_wr16, xh_len16, xh_rd17, xh_wr17, xh_len17, xh_rdA, xh_wrA, Option.bind_some, Option.bind_none, ↓reduceIte, if_true, if_false, c.tx]
  · simp only [fX6_clear, mh_O, mh_gJ, mh_pJ, mh_gI0, mh_gI1, mh_gI2, mh_gI5, mh_gI6, mh_gI9, mh_gI14, mh_gI15, mh_gI16, mh_gI17, mh_gI18, mh_gI19, mh_gI24, mh_pI0, mh_pI1, mh_pI2, mh_pI5, mh_pI6, mh_pI9, mh_pI14, mh_pI15, mh_pI16, mh_pI17, mh_pI18, mh_pI19, mh_pI24, mh_gA3, mh_gA4, mh_gA7, mh_gA8, mh_gA10, mh_gA11, mh_gA13, mh_gA20, mh_gA21, mh_gA22, mh_gA23, mh_gA25, mh_gA26, mh_gA27, mh_gA28, mh_gA29, Option.bind_some, Option.bind_none, ↓reduceIte, if_true, if_false, c.tm]
  · have hs (i : Nat) (h : i ≠ 14) : upd s 14 0 i = s i := pk_un h
    have hv (i : Nat) (h : i ≠ 2) : upd v 2 0 i = v i := pk_un h
    refine (CI.mk rfl c.B ?_ c.X c.O ?_ c.Q ?_ ?_ ?_ (Nat.zero_le 100) pk_us pk_us (fun i hi => by omega) c.ul ?_ ?_ c.ch c.cm c.im c.fr c.sx).iv (sn := sn) (tt := tt) (tp := tp)
    · unfold mB; rw [hs 0 (by decide), hs 1 (by decide), hs 2 (by decide)]; exact c.H
    · unfold mN; rw [hs 5 (by decide), hs 6 (by decide)]; exact c.J
    · unfold mS; rw [hs 9 (by decide)]; exact c.S
    · unfold xS; rw [hv 7 (by decide)]; exact c.Y
    · rw [hv 1 (by decide)]; exact c.ca
    · rw [hs 24 (by decide)]; exact c.um
    · rw [hv 0 (by decide)]; exact c.ux
theorem s_forget (hN : 2000 ≤ N) : ∀ (h : Hp) (sz : Nat), IV x h sz → ∃ (r : Int32) (h1 : Hp) (sz1 : Nat) (h2 : Hp), (fX5_forget N h (some x) = some (r, h1) ∧ sz1 = sz) ∧ isO h1 (some (x + 18)) 6 = true ∧ fX6_forget N h1 (some (x + 18)) = some (r, h2) ∧ IV x h2 sz1 := by
  rintro h sz ⟨g, v, t, b, p, ip, r, s, a, R, W, P, T, C, φ, bf, sn, tt, tp, L, U, ψ, c⟩
  have X := c.XX
  have B := c.B
  have hR := B.1
  have hW := B.2.1
  have hP := B.2.2.1
  have hφ := c.O.2.1
  refine ⟨nI sn, mH (xH g x (upd v 7 0) t b p ip r) (x + 18) s t a, sz, mH (xH g x (upd v 7 0) t b p ip r) (x + 18) (upd s 9 0) t a, ⟨?_, rfl⟩, mh_O, ?_, ?_⟩
  · rw [c.hx, xh_mh rfl]
    simp only [fX5_forget, fX3_empties, xh_O5, xh_O4, xh_O3, xh_g5_0, xh_g5_1, xh_g5_2, xh_g5_3, xh_g5_5, xh_g5_6, xh_g5_8, xh_g5_9, xh_g5_10, xh_g5_4, xh_g5_11, xh_g5_7, xh_g4_0, xh_g4_1, xh_g4_2, xh_g4_3, xh_g4_4, xh_g4_5, xh_g3_0, xh_g3_1, xh_g3_2, xh_p5_2, xh_p5_3, xh_p5_4, xh_p5_7, xh_p5_11, xh_p4_1, xh_p4_2, xh_p4_3, xh_p4_4, xh_p4_5, xh_p3_2, xh_rd2, xh_wr2, xh_rd4, xh_wr4, xh_rd5, xh_wr5, xh_rd14, xh_wr14, xh_rd15, xh_wr15, xh_len15, xh_rd16, xh_wr16, xh_len16, xh_rd17, xh_wr17, xh_len17, xh_rdA, xh_wrA, Option.bind_some, Option.bind_none, ↓reduceIte, if_true, if_false, c.Y.1]
  · simp only [fX6_forget, mh_O, mh_gJ, mh_pJ, mh_gI0, mh_gI1, mh_gI2, mh_gI5, mh_gI6, mh_gI9, mh_gI14, mh_gI15, mh_gI16, mh_gI17, mh_gI18, mh_gI19, mh_gI24, mh_pI0, mh_pI1, mh_pI2, mh_pI5, mh_pI6, mh_pI9, mh_pI14, mh_pI15, mh_pI16, mh_pI17, mh_pI18, mh_pI19, mh_pI24, mh_gA3, mh_gA4, mh_gA7, mh_gA8, mh_gA10, mh_gA11, mh_gA13, mh_gA20, mh_gA21, mh_gA22, mh_gA23, mh_gA25, mh_gA26, mh_gA27, mh_gA28, mh_gA29, Option.bind_some, Option.bind_none, ↓reduceIte, if_true, if_false, c.S.1]
  · have hs (i : Nat) (h : i ≠ 9) : upd s 9 0 i = s i := pk_un h
    have hv (i : Nat) (h : i ≠ 7) : upd v 7 0 i = v i := pk_un h
    refine (CI.mk (sn := 0) (tt := tt) (tp := tp) rfl c.B ?_ c.X c.O ?_ c.Q ⟨pk_us, by omega, fun i hi => by omega⟩ ⟨pk_us, by omega, fun i hi => by omega⟩ ?_ c.tl ?_ ?_ c.te c.ul ?_ ?_ c.ch c.cm c.im c.fr c.sx).iv
    · unfold mB; rw [hs 0 (by decide), hs 1 (by decide), hs 2 (by decide)]; exact c.H
    · unfold mN; rw [hs 5 (by decide), hs 6 (by decide)]; exact c.J
    · rw [hv 1 (by decide)]; exact c.ca
    · rw [hs 14 (by decide)]; exact c.tm
    · rw [hv 2 (by decide)]; exact c.tx
    · rw [hs 24 (by decide)]; exact c.um
    · rw [hv 0 (by decide)]; exact c.ux
end SD
