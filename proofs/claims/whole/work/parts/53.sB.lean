section SB
variable {x : Nat} {N : Nat}
theorem s_guess (hN : 2000 ≤ N) : ∀ (h : Hp) (sz : Nat) (a1 : Int32) (a2 : Int32), IV x h sz → ∃ (r : Int32) (h1 : Hp) (sz1 : Nat) (h2 : Hp), (fX5_guess N h (some x) a1 a2 = some r ∧ h1 = h ∧ sz1 = sz) ∧ isO h1 (some (x + 19)) 6 = true ∧ (fX6_guess N h1 (some (x + 19)) a1 a2 = some r ∧ h2 = h1) ∧ IV x h2 sz1 := by
  rintro h sz a1 a2 ⟨g, v, t, b, p, ip, r, s, a, R, W, P, T, C, φ, sn, tt, tp, L, U, ψ, c⟩
  have X := c.XX
  have B := c.B
  have hR := B.1
  have hW := B.2.1
  have hP := B.2.2.1
  have hφ := c.O.2.1
  rcases in_or a1 (n := R) (by omega) with ⟨i, hi, rfl⟩ | hn
  · rcases in_rng a2 (lo := 0) (hi := 1) (by omega) (by omega) with ⟨q, -, hq, rfl⟩ | hn2
    · refine st_00 (fx := fun h => fX5_guess N h (some x) (nI i) (nI q)) (fm := fun h => fX6_guess N h (some (x + 19)) (nI i) (nI q)) c (if q = 0 then nI (sumN (fun w => cnt (gsB T C i tt tp sn w) (T i)) W) else fstW (gsB T C i tt tp sn) (T i) W (-9)) ?_ (m_guess hN B c.H c.S hi (by omega))
      simp only [fX5_guess, xh_O5, xh_O4, xh_O3, xh_O8, xh_g5_0, xh_g5_1, xh_g5_2, xh_g5_3, xh_g5_4, xh_g5_5, xh_g5_7, xh_g5_8, xh_g5_9, xh_g5_10, xh_g5_6, xh_g8_0, xh_g8_1, xh_g4_0, xh_g4_1, xh_g4_2, xh_g4_3, xh_g4_4, xh_g4_5, xh_g3_0, xh_g3_1, xh_g3_2, xh_p5_2, xh_p5_3, xh_p8_1, xh_p5_6, xh_p5_10, xh_p4_1, xh_p4_2, xh_p4_3, xh_p4_4, xh_p4_5, xh_p3_2, xh_rd2, xh_wr2, xh_rd4, xh_wr4, xh_rd5, xh_wr5, xh_rd15, xh_wr15, xh_len15, xh_rd16, xh_wr16, xh_len16, xh_rd17, xh_wr17, xh_len17, xh_rdA, xh_rdP, xh_wrA, xh_wrP, Option.bind_some, Option.bind_none, ↓reduceIte, if_true, if_false, isO_eq X.1, x_hasRing_y X B hi, x_guesses hN B c.Xx c.Y hi, x_firstGuess hN B c.Xx c.Y hi]
      rw [if_neg (by decide), i_0, i_1, (w_y (N := N) (G := xH (mH g (x + 19) s t a) x v t b p ip r) (Nat.zero_le q) hq (by omega)).1]
      have : q = 0 ∨ q = 1 := by omega
      rcases this with rfl | rfl <;> rfl
    · refine st_00 (fx := fun h => fX5_guess N h (some x) (nI i) a2) (fm := fun h => fX6_guess N h (some (x + 19)) (nI i) a2) c (-1) ?_ ?_
      · simp only [fX5_guess, xh_O5, xh_O4, xh_O3, xh_O8, xh_g5_0, xh_g5_1, xh_g5_2, xh_g5_3, xh_g5_4, xh_g5_5, xh_g5_7, xh_g5_8, xh_g5_9, xh_g5_10, xh_g5_6, xh_g8_0, xh_g8_1, xh_g4_0, xh_g4_1, xh_g4_2, xh_g4_3, xh_g4_4, xh_g4_5, xh_g3_0, xh_g3_1, xh_g3_2, xh_p5_2, xh_p5_3, xh_p8_1, xh_p5_6, xh_p5_10, xh_p4_1, xh_p4_2, xh_p4_3, xh_p4_4, xh_p4_5, xh_p3_2, xh_rd2, xh_wr2, xh_rd4, xh_wr4, xh_rd5, xh_wr5, xh_rd15, xh_wr15, xh_len15, xh_rd16, xh_wr16, xh_len16, xh_rd17, xh_wr17, xh_len17, xh_rdA, xh_rdP, xh_wrA, xh_wrP, Option.bind_some, Option.bind_none, ↓reduceIte, if_true, if_false, isO_eq X.1, x_hasRing_y X B hi]
        rw [if_neg (by decide), i_0, i_1, x_in_n hn2]
        rfl
      · simp only [fX6_guess, mh_O, mh_gJ, mh_pJ, mh_gI0, mh_gI1, mh_gI2, mh_gI5, mh_gI6, mh_gI9, mh_gI14, mh_gI15, mh_gI16, mh_gI17, mh_gI18, mh_gI19, mh_gI24, mh_pI0, mh_pI1, mh_pI2, mh_pI5, mh_pI6, mh_pI9, mh_pI14, mh_pI15, mh_pI16, mh_pI17, mh_pI18, mh_pI19, mh_pI24, mh_gA3, mh_gA4, mh_gA7, mh_gA8, mh_gA10, mh_gA11, mh_gA13, mh_gA20, mh_gA21, mh_gA22, mh_gA23, mh_gA25, mh_gA26, mh_gA27, mh_gA28, mh_gA29, Option.bind_some, Option.bind_none, ↓reduceIte, if_true, if_false, m_isRing_y c.H.1 hR hi]
        rw [if_neg (by decide), i_0, i_1, m_in_n hn2]
        rfl
  · refine st_00 (fx := fun h => fX5_guess N h (some x) a1 a2) (fm := fun h => fX6_guess N h (some (x + 19)) a1 a2) c (-1) ?_ ?_
    · simp only [fX5_guess, xh_O5, xh_O4, xh_O3, xh_O8, xh_g5_0, xh_g5_1, xh_g5_2, xh_g5_3, xh_g5_4, xh_g5_5, xh_g5_7, xh_g5_8, xh_g5_9, xh_g5_10, xh_g5_6, xh_g8_0, xh_g8_1, xh_g4_0, xh_g4_1, xh_g4_2, xh_g4_3, xh_g4_4, xh_g4_5, xh_g3_0, xh_g3_1, xh_g3_2, xh_p5_2, xh_p5_3, xh_p8_1, xh_p5_6, xh_p5_10, xh_p4_1, xh_p4_2, xh_p4_3, xh_p4_4, xh_p4_5, xh_p3_2, xh_rd2, xh_wr2, xh_rd4, xh_wr4, xh_rd5, xh_wr5, xh_rd15, xh_wr15, xh_len15, xh_rd16, xh_wr16, xh_len16, xh_rd17, xh_wr17, xh_len17, xh_rdA, xh_rdP, xh_wrA, xh_wrP, Option.bind_some, Option.bind_none, ↓reduceIte, if_true, if_false, isO_eq X.1, x_hasRing_n X B hn]
    · simp only [fX6_guess, mh_O, mh_gJ, mh_pJ, mh_gI0, mh_gI1, mh_gI2, mh_gI5, mh_gI6, mh_gI9, mh_gI14, mh_gI15, mh_gI16, mh_gI17, mh_gI18, mh_gI19, mh_gI24, mh_pI0, mh_pI1, mh_pI2, mh_pI5, mh_pI6, mh_pI9, mh_pI14, mh_pI15, mh_pI16, mh_pI17, mh_pI18, mh_pI19, mh_pI24, mh_gA3, mh_gA4, mh_gA7, mh_gA8, mh_gA10, mh_gA11, mh_gA13, mh_gA20, mh_gA21, mh_gA22, mh_gA23, mh_gA25, mh_gA26, mh_gA27, mh_gA28, mh_gA29, Option.bind_some, Option.bind_none, ↓reduceIte, if_true, if_false, m_isRing_n c.H.1 hR hn]
theorem s_look (hN : 2000 ≤ N) : ∀ (h : Hp) (sz : Nat) (a1 : Int32), IV x h sz → ∃ (r : Int32) (h1 : Hp) (sz1 : Nat) (h2 : Hp), (fX5_look N h (some x) a1 = some (r, h1) ∧ sz1 = sz) ∧ isO h1 (some (x + 19)) 6 = true ∧ fX6_look N h1 (some (x + 19)) a1 = some (r, h2) ∧ IV x h2 sz1 := by
  rintro h sz a1 ⟨g, v, t, b, p, ip, r, s, a, R, W, P, T, C, φ, sn, tt, tp, L, U, ψ, c⟩
  have X := c.XX
  have B := c.B
  have hR := B.1
  have hW := B.2.1
  have hP := B.2.2.1
  have hφ := c.O.2.1
  rcases in_or a1 (n := R) (by omega) with ⟨i, hi, rfl⟩ | hn
  · obtain ⟨f1, e1⟩ := x_look (G := mH g (x + 19) s t a) (x := x) (v := v) (t := t) (b := b) (p := p) (ip := ip) (r := r) (N := N) hN B c.Xx c.Y hi
    obtain ⟨f2, e2⟩ := m_look (g := xH g x v t b p ip (ua r 16 f1)) (m := x + 19) (s := s) (t := t) (a := a) (N := N) hN B c.H c.S hi
    exact st_11 (fx := fun h => fX5_look N h (some x) (nI i)) (fm := fun h => fX6_look N h (some (x + 19)) (nI i)) c _ e1 e2 (fun _ _ => rfl) (ua_k (by omega)) (fun _ _ => rfl) (ua_m (by omega) (by omega)) (ca_ua (by omega) c.ca)
  · refine st_11 (fx := fun h => fX5_look N h (some x) a1) (fm := fun h => fX6_look N h (some (x + 19)) a1) c (v' := v) (r' := r) (t' := t) (s' := s) (a' := a) (-1) ?_ ?_ (fun _ _ => rfl) (fun _ _ => rfl) (fun _ _ => rfl) (fun _ _ => rfl) c.ca
    · simp only [fX5_look, xh_O5, xh_O4, xh_O3, xh_O8, xh_g5_0, xh_g5_1, xh_g5_2, xh_g5_3, xh_g5_4, xh_g5_5, xh_g5_7, xh_g5_8, xh_g5_9, xh_g5_10, xh_g5_6, xh_g8_0, xh_g8_1, xh_g4_0, xh_g4_1, xh_g4_2, xh_g4_3, xh_g4_4, xh_g4_5, xh_g3_0, xh_g3_1, xh_g3_2, xh_p5_2, xh_p5_3, xh_p8_1, xh_p5_6, xh_p5_10, xh_p4_1, xh_p4_2, xh_p4_3, xh_p4_4, xh_p4_5, xh_p3_2, xh_rd2, xh_wr2, xh_rd4, xh_wr4, xh_rd5, xh_wr5, xh_rd15, xh_wr15, xh_len15, xh_rd16, xh_wr16, xh_len16, xh_rd17, xh_wr17, xh_len17, xh_rdA, xh_rdP, xh_wrA, xh_wrP, Option.bind_some, Option.bind_none, ↓reduceIte, if_true, if_false, isO_eq X.1, x_hasRing_n X B hn]
    · simp only [fX6_look, mh_O, mh_gJ, mh_pJ, mh_gI0, mh_gI1, mh_gI2, mh_gI5, mh_gI6, mh_gI9, mh_gI14, mh_gI15, mh_gI16, mh_gI17, mh_gI18, mh_gI19, mh_gI24, mh_pI0, mh_pI1, mh_pI2, mh_pI5, mh_pI6, mh_pI9, mh_pI14, mh_pI15, mh_pI16, mh_pI17, mh_pI18, mh_pI19, mh_pI24, mh_gA3, mh_gA4, mh_gA7, mh_gA8, mh_gA10, mh_gA11, mh_gA13, mh_gA20, mh_gA21, mh_gA22, mh_gA23, mh_gA25, mh_gA26, mh_gA27, mh_gA28, mh_gA29, Option.bind_some, Option.bind_none, ↓reduceIte, if_true, if_false, m_isRing_n c.H.1 hR hn]
theorem s_closes (hN : 2000 ≤ N) : ∀ (h : Hp) (sz : Nat) (a1 : Int32) (a2 : Int32) (a3 : Int32), IV x h sz → ∃ (r : Int32) (h1 : Hp) (sz1 : Nat) (h2 : Hp), (fX5_closes N h (some x) a1 a2 a3 = some (r, h1) ∧ sz1 = sz) ∧ isO h1 (some (x + 19)) 6 = true ∧ fX6_closes N h1 (some (x + 19)) a1 a2 a3 = some (r, h2) ∧ IV x h2 sz1 := by
  rintro h sz a1 a2 a3 ⟨g, v, t, b, p, ip, r, s, a, R, W, P, T, C, φ, sn, tt, tp, L, U, ψ, c⟩
  have X := c.XX
  have B := c.B
  have hR := B.1
  have hW := B.2.1
  have hP := B.2.2.1
  have hφ := c.O.2.1
  rcases in_or a1 (n := R) (by omega) with ⟨i, hi, rfl⟩ | hn
  · rcases in_rng a2 (lo := 1) (hi := 9) (by omega) (by omega) with ⟨l, hl1, hl, rfl⟩ | hn2
    · rcases in_rng a3 (lo := 0) (hi := 1) (by omega) (by omega) with ⟨q, -, hq, rfl⟩ | hn3
      · obtain ⟨f1, f2, e1⟩ := x_closes (G := mH g (x + 19) s t a) (x := x) (v := v) (t := t) (b := b) (p := p) (ip := ip) (r := r) (N := N) hN B c.Xx c.O c.Qx hi hl1 hl (show q < 2 by omega)
        have e2 := m_closes (g := xH g x v t b p ip (ua (ua r 15 f1) 16 f2)) (m := x + 19) (s := s) (t := t) (a := a) (N := N) hN B c.H c.O c.J hi hl1 hl (show q < 2 by omega)
        exact st_11 (fx := fun h => fX5_closes N h (some x) (nI i) (nI l) (nI q)) (fm := fun h => fX6_closes N h (some (x + 19)) (nI i) (nI l) (nI q)) c _ e1 e2 (fun _ _ => rfl) (fun k hk => by rw [ua_k (by omega) k hk, ua_k (by omega) k hk]) (fun _ _ => rfl) (ua_m (by omega) (by omega)) (ca_ua (by omega) (ca_ua (by omega) c.ca))
      · refine st_11 (fx := fun h => fX5_closes N h (some x) (nI i) (nI l) a3) (fm := fun h => fX6_closes N h (some (x + 19)) (nI i) (nI l) a3) c (v' := v) (r' := r) (t' := t) (s' := s) (a' := a) (-1) ?_ ?_ (fun _ _ => rfl) (fun _ _ => rfl) (fun _ _ => rfl) (fun _ _ => rfl) c.ca
        · simp only [fX5_closes, xh_O5, xh_O4, xh_O3, xh_O8, xh_g5_0, xh_g5_1, xh_g5_2, xh_g5_3, xh_g5_4, xh_g5_5, xh_g5_7, xh_g5_8, xh_g5_9, xh_g5_10, xh_g5_6, xh_g8_0, xh_g8_1, xh_g4_0, xh_g4_1, xh_g4_2, xh_g4_3, xh_g4_4, xh_g4_5, xh_g3_0, xh_g3_1, xh_g3_2, xh_p5_2, xh_p5_3, xh_p8_1, xh_p5_6, xh_p5_10, xh_p4_1, xh_p4_2, xh_p4_3, xh_p4_4, xh_p4_5, xh_p3_2, xh_rd2, xh_wr2, xh_rd4, xh_wr4, xh_rd5, xh_wr5, xh_rd15, xh_wr15, xh_len15, xh_rd16, xh_wr16, xh_len16, xh_rd17, xh_wr17, xh_len17, xh_rdA, xh_rdP, xh_wrA, xh_wrP, Option.bind_some, Option.bind_none, ↓reduceIte, if_true, if_false, isO_eq X.1, x_hasRing_y X B hi]
          rw [if_neg (by decide), i_0, i_1, i_9, (w_y (N := N) (G := xH (mH g (x + 19) s t a) x v t b p ip r) hl1 hl (by omega)).1, x_in_n hn3]
          rfl
        · simp only [fX6_closes, mh_O, mh_gJ, mh_pJ, mh_gI0, mh_gI1, mh_gI2, mh_gI5, mh_gI6, mh_gI9, mh_gI14, mh_gI15, mh_gI16, mh_gI17, mh_gI18, mh_gI19, mh_gI24, mh_pI0, mh_pI1, mh_pI2, mh_pI5, mh_pI6, mh_pI9, mh_pI14, mh_pI15, mh_pI16, mh_pI17, mh_pI18, mh_pI19, mh_pI24, mh_gA3, mh_gA4, mh_gA7, mh_gA8, mh_gA10, mh_gA11, mh_gA13, mh_gA20, mh_gA21, mh_gA22, mh_gA23, mh_gA25, mh_gA26, mh_gA27, mh_gA28, mh_gA29, Option.bind_some, Option.bind_none, ↓reduceIte, if_true, if_false, m_isRing_y c.H.1 hR hi]
          rw [if_neg (by decide), i_0, i_1, i_9, (w_y (N := N) (G := mH (xH g x v t b p ip r) (x + 19) s t a) hl1 hl (by omega)).2, m_in_n hn3]
          rfl
    · refine st_11 (fx := fun h => fX5_closes N h (some x) (nI i) a2 a3) (fm := fun h => fX6_closes N h (some (x + 19)) (nI i) a2 a3) c (v' := v) (r' := r) (t' := t) (s' := s) (a' := a) (-1) ?_ ?_ (fun _ _ => rfl) (fun _ _ => rfl) (fun _ _ => rfl) (fun _ _ => rfl) c.ca
      · simp only [fX5_closes, xh_O5, xh_O4, xh_O3, xh_O8, xh_g5_0, xh_g5_1, xh_g5_2, xh_g5_3, xh_g5_4, xh_g5_5, xh_g5_7, xh_g5_8, xh_g5_9, xh_g5_10, xh_g5_6, xh_g8_0, xh_g8_1, xh_g4_0, xh_g4_1, xh_g4_2, xh_g4_3, xh_g4_4, xh_g4_5, xh_g3_0, xh_g3_1, xh_g3_2, xh_p5_2, xh_p5_3, xh_p8_1, xh_p5_6, xh_p5_10, xh_p4_1, xh_p4_2, xh_p4_3, xh_p4_4, xh_p4_5, xh_p3_2, xh_rd2, xh_wr2, xh_rd4, xh_wr4, xh_rd5, xh_wr5, xh_rd15, xh_wr15, xh_len15, xh_rd16, xh_wr16, xh_len16, xh_rd17, xh_wr17, xh_len17, xh_rdA, xh_rdP, xh_wrA, xh_wrP, Option.bind_some, Option.bind_none, ↓reduceIte, if_true, if_false, isO_eq X.1, x_hasRing_y X B hi]
        rw [if_neg (by decide), i_1, i_9, x_in_n hn2]
        rfl
      · simp only [fX6_closes, mh_O, mh_gJ, mh_pJ, mh_gI0, mh_gI1, mh_gI2, mh_gI5, mh_gI6, mh_gI9, mh_gI14, mh_gI15, mh_gI16, mh_gI17, mh_gI18, mh_gI19, mh_gI24, mh_pI0, mh_pI1, mh_pI2, mh_pI5, mh_pI6, mh_pI9, mh_pI14, mh_pI15, mh_pI16, mh_pI17, mh_pI18, mh_pI19, mh_pI24, mh_gA3, mh_gA4, mh_gA7, mh_gA8, mh_gA10, mh_gA11, mh_gA13, mh_gA20, mh_gA21, mh_gA22, mh_gA23, mh_gA25, mh_gA26, mh_gA27, mh_gA28, mh_gA29, Option.bind_some, Option.bind_none, ↓reduceIte, if_true, if_false, m_isRing_y c.H.1 hR hi]
        rw [if_neg (by decide), i_1, i_9, m_in_n hn2]
        rfl
  · refine st_11 (fx := fun h => fX5_closes N h (some x) a1 a2 a3) (fm := fun h => fX6_closes N h (some (x + 19)) a1 a2 a3) c (v' := v) (r' := r) (t' := t) (s' := s) (a' := a) (-1) ?_ ?_ (fun _ _ => rfl) (fun _ _ => rfl) (fun _ _ => rfl) (fun _ _ => rfl) c.ca
    · simp only [fX5_closes, xh_O5, xh_O4, xh_O3, xh_O8, xh_g5_0, xh_g5_1, xh_g5_2, xh_g5_3, xh_g5_4, xh_g5_5, xh_g5_7, xh_g5_8, xh_g5_9, xh_g5_10, xh_g5_6, xh_g8_0, xh_g8_1, xh_g4_0, xh_g4_1, xh_g4_2, xh_g4_3, xh_g4_4, xh_g4_5, xh_g3_0, xh_g3_1, xh_g3_2, xh_p5_2, xh_p5_3, xh_p8_1, xh_p5_6, xh_p5_10, xh_p4_1, xh_p4_2, xh_p4_3, xh_p4_4, xh_p4_5, xh_p3_2, xh_rd2, xh_wr2, xh_rd4, xh_wr4, xh_rd5, xh_wr5, xh_rd15, xh_wr15, xh_len15, xh_rd16, xh_wr16, xh_len16, xh_rd17, xh_wr17, xh_len17, xh_rdA, xh_rdP, xh_wrA, xh_wrP, Option.bind_some, Option.bind_none, ↓reduceIte, if_true, if_false, isO_eq X.1, x_hasRing_n X B hn]
    · simp only [fX6_closes, mh_O, mh_gJ, mh_pJ, mh_gI0, mh_gI1, mh_gI2, mh_gI5, mh_gI6, mh_gI9, mh_gI14, mh_gI15, mh_gI16, mh_gI17, mh_gI18, mh_gI19, mh_gI24, mh_pI0, mh_pI1, mh_pI2, mh_pI5, mh_pI6, mh_pI9, mh_pI14, mh_pI15, mh_pI16, mh_pI17, mh_pI18, mh_pI19, mh_pI24, mh_gA3, mh_gA4, mh_gA7, mh_gA8, mh_gA10, mh_gA11, mh_gA13, mh_gA20, mh_gA21, mh_gA22, mh_gA23, mh_gA25, mh_gA26, mh_gA27, mh_gA28, mh_gA29, Option.bind_some, Option.bind_none, ↓reduceIte, if_true, if_false, m_isRing_n c.H.1 hR hn]
theorem s_best (hN : 2000 ≤ N) : ∀ (h : Hp) (sz : Nat) (a1 : Int32) (a2 : Int32), IV x h sz → ∃ (r : Int32) (h1 : Hp) (sz1 : Nat) (h2 : Hp), (fX5_best N h (some x) a1 a2 = some (r, h1) ∧ sz1 = sz) ∧ isO h1 (some (x + 19)) 6 = true ∧ fX6_best N h1 (some (x + 19)) a1 a2 = some (r, h2) ∧ IV x h2 sz1 := by
  rintro h sz a1 a2 ⟨g, v, t, b, p, ip, r, s, a, R, W, P, T, C, φ, sn, tt, tp, L, U, ψ, c⟩
  have X := c.XX
  have B := c.B
  have hR := B.1
  have hW := B.2.1
  have hP := B.2.2.1
  have hφ := c.O.2.1
  rcases in_or a1 (n := P) (by omega) with ⟨i, hi, rfl⟩ | hn
  · rcases in_rng a2 (lo := 0) (hi := 1) (by omega) (by omega) with ⟨q, -, hq, rfl⟩ | hn2
    · obtain ⟨v', f1, e1, h1, h2⟩ := x_best (G := mH g (x + 19) s t a) (x := x) (v := v) (t := t) (b := b) (p := p) (ip := ip) (r := r) (N := N) hN B c.Xx c.O c.Qx hi (show q < 2 by omega) c.ca
      obtain ⟨f2, e2⟩ := m_best (g := xH g x v' t b p ip (ua r 17 f1)) (m := x + 19) (s := s) (t := t) (a := a) (N := N) hN B c.H hi (show q < 2 by omega) (c.J.2.2.1 i hi) (c.O.2.2.1 i hi)
      exact st_11 (fx := fun h => fX5_best N h (some x) (nI i) (nI q)) (fm := fun h => fX6_best N h (some (x + 19)) (nI i) (nI q)) c _ e1 e2 (fun k hk => h1 k (by omega)) (ua_k (by omega)) (fun _ _ => rfl) (ua_m (by omega) (by omega)) (Or.inr (by rw [ua_s]; exact h2))
    · refine st_11 (fx := fun h => fX5_best N h (some x) (nI i) a2) (fm := fun h => fX6_best N h (some (x + 19)) (nI i) a2) c (v' := v) (r' := r) (t' := t) (s' := s) (a' := a) (-1) ?_ ?_ (fun _ _ => rfl) (fun _ _ => rfl) (fun _ _ => rfl) (fun _ _ => rfl) c.ca
      · simp only [fX5_best, xh_O5, xh_O4, xh_O3, xh_O8, xh_g5_0, xh_g5_1, xh_g5_2, xh_g5_3, xh_g5_4, xh_g5_5, xh_g5_7, xh_g5_8, xh_g5_9, xh_g5_10, xh_g5_6, xh_g8_0, xh_g8_1, xh_g4_0, xh_g4_1, xh_g4_2, xh_g4_3, xh_g4_4, xh_g4_5, xh_g3_0, xh_g3_1, xh_g3_2, xh_p5_2, xh_p5_3, xh_p8_1, xh_p5_6, xh_p5_10, xh_p4_1, xh_p4_2, xh_p4_3, xh_p4_4, xh_p4_5, xh_p3_2, xh_rd2, xh_wr2, xh_rd4, xh_wr4, xh_rd5, xh_wr5, xh_rd15, xh_wr15, xh_len15, xh_rd16, xh_wr16, xh_len16, xh_rd17, xh_wr17, xh_len17, xh_rdA, xh_rdP, xh_wrA, xh_wrP, Option.bind_some, Option.bind_none, ↓reduceIte, if_true, if_false, isO_eq X.1, x_hasPen_y X B hi]
        rw [if_neg (by decide), i_0, i_1, x_in_n hn2]
        rfl
      · simp only [fX6_best, mh_O, mh_gJ, mh_pJ, mh_gI0, mh_gI1, mh_gI2, mh_gI5, mh_gI6, mh_gI9, mh_gI14, mh_gI15, mh_gI16, mh_gI17, mh_gI18, mh_gI19, mh_gI24, mh_pI0, mh_pI1, mh_pI2, mh_pI5, mh_pI6, mh_pI9, mh_pI14, mh_pI15, mh_pI16, mh_pI17, mh_pI18, mh_pI19, mh_pI24, mh_gA3, mh_gA4, mh_gA7, mh_gA8, mh_gA10, mh_gA11, mh_gA13, mh_gA20, mh_gA21, mh_gA22, mh_gA23, mh_gA25, mh_gA26, mh_gA27, mh_gA28, mh_gA29, Option.bind_some, Option.bind_none, ↓reduceIte, if_true, if_false, m_isPen_y c.H.2.2.1 hP hi]
        rw [if_neg (by decide), i_0, i_1, m_in_n hn2]
        rfl
  · refine st_11 (fx := fun h => fX5_best N h (some x) a1 a2) (fm := fun h => fX6_best N h (some (x + 19)) a1 a2) c (v' := v) (r' := r) (t' := t) (s' := s) (a' := a) (-1) ?_ ?_ (fun _ _ => rfl) (fun _ _ => rfl) (fun _ _ => rfl) (fun _ _ => rfl) c.ca
    · simp only [fX5_best, xh_O5, xh_O4, xh_O3, xh_O8, xh_g5_0, xh_g5_1, xh_g5_2, xh_g5_3, xh_g5_4, xh_g5_5, xh_g5_7, xh_g5_8, xh_g5_9, xh_g5_10, xh_g5_6, xh_g8_0, xh_g8_1, xh_g4_0, xh_g4_1, xh_g4_2, xh_g4_3, xh_g4_4, xh_g4_5, xh_g3_0, xh_g3_1, xh_g3_2, xh_p5_2, xh_p5_3, xh_p8_1, xh_p5_6, xh_p5_10, xh_p4_1, xh_p4_2, xh_p4_3, xh_p4_4, xh_p4_5, xh_p3_2, xh_rd2, xh_wr2, xh_rd4, xh_wr4, xh_rd5, xh_wr5, xh_rd15, xh_wr15, xh_len15, xh_rd16, xh_wr16, xh_len16, xh_rd17, xh_wr17, xh_len17, xh_rdA, xh_rdP, xh_wrA, xh_wrP, Option.bind_some, Option.bind_none, ↓reduceIte, if_true, if_false, isO_eq X.1, x_hasPen_n X B hn]
    · simp only [fX6_best, mh_O, mh_gJ, mh_pJ, mh_gI0, mh_gI1, mh_gI2, mh_gI5, mh_gI6, mh_gI9, mh_gI14, mh_gI15, mh_gI16, mh_gI17, mh_gI18, mh_gI19, mh_gI24, mh_pI0, mh_pI1, mh_pI2, mh_pI5, mh_pI6, mh_pI9, mh_pI14, mh_pI15, mh_pI16, mh_pI17, mh_pI18, mh_pI19, mh_pI24, mh_gA3, mh_gA4, mh_gA7, mh_gA8, mh_gA10, mh_gA11, mh_gA13, mh_gA20, mh_gA21, mh_gA22, mh_gA23, mh_gA25, mh_gA26, mh_gA27, mh_gA28, mh_gA29, Option.bind_some, Option.bind_none, ↓reduceIte, if_true, if_false, m_isPen_n c.H.2.2.1 hP hn]
theorem s_pen (hN : 2000 ≤ N) : ∀ (h : Hp) (sz : Nat) (a1 : Int32) (a2 : Int32), IV x h sz → ∃ (r : Int32) (h1 : Hp) (sz1 : Nat) (h2 : Hp), (fX5_pen N h (some x) a1 a2 = some (r, h1) ∧ sz1 = sz) ∧ isO h1 (some (x + 19)) 6 = true ∧ (fX6_pen N h1 (some (x + 19)) a1 a2 = some r ∧ h2 = h1) ∧ IV x h2 sz1 := by
  rintro h sz a1 a2 ⟨g, v, t, b, p, ip, r, s, a, R, W, P, T, C, φ, sn, tt, tp, L, U, ψ, c⟩
  have X := c.XX
  have B := c.B
  have hR := B.1
  have hW := B.2.1
  have hP := B.2.2.1
  have hφ := c.O.2.1
  rcases in_or a1 (n := P) (by omega) with ⟨i, hi, rfl⟩ | hn
  · rcases in_rng a2 (lo := 0) (hi := 1) (by omega) (by omega) with ⟨q, -, hq, rfl⟩ | hn2
    · have : q = 0 ∨ q = 1 := by omega
      rcases this with rfl | rfl
      · obtain ⟨q1, -⟩ := pp_read (E := xH (mH g (x + 19) s t a) x v t b p ip r) c.Qx xh_dy
        refine st_10 (fx := fun h => fX5_pen N h (some x) (nI i) (nI 0)) (fm := fun h => fX6_pen N h (some (x + 19)) (nI i) (nI 0)) c (v' := v) (r' := r) (nI (φ (2 + i))) ?_ ?_ (fun _ _ => rfl) (fun _ _ => rfl) c.ca
        · simp only [fX5_pen, xh_O5, xh_O4, xh_O3, xh_O8, xh_g5_0, xh_g5_1, xh_g5_2, xh_g5_3, xh_g5_4, xh_g5_5, xh_g5_7, xh_g5_8, xh_g5_9, xh_g5_10, xh_g5_6, xh_g8_0, xh_g8_1, xh_g4_0, xh_g4_1, xh_g4_2, xh_g4_3, xh_g4_4, xh_g4_5, xh_g3_0, xh_g3_1, xh_g3_2, xh_p5_2, xh_p5_3, xh_p8_1, xh_p5_6, xh_p5_10, xh_p4_1, xh_p4_2, xh_p4_3, xh_p4_4, xh_p4_5, xh_p3_2, xh_rd2, xh_wr2, xh_rd4, xh_wr4, xh_rd5, xh_wr5, xh_rd15, xh_wr15, xh_len15, xh_rd16, xh_wr16, xh_len16, xh_rd17, xh_wr17, xh_len17, xh_rdA, xh_rdP, xh_wrA, xh_wrP, Option.bind_some, Option.bind_none, ↓reduceIte, if_true, if_false, isO_eq X.1, x_hasPen_y X B hi, q1, x_inkOf (N := N) (E := xH (mH g (x + 19) s t a) x v t b p ip r) B c.O c.Qx xh_dy hi]
          rw [if_neg (by decide), i_0, i_1, (w_y (N := N) (G := xH (mH g (x + 19) s t a) x v t b p ip r) (Nat.zero_le 0) hq (by omega)).1]
          rfl
        · simp (disch := omega) only [fX6_pen, mh_O, mh_gJ, mh_pJ, mh_gI0, mh_gI1, mh_gI2, mh_gI5, mh_gI6, mh_gI9, mh_gI14, mh_gI15, mh_gI16, mh_gI17, mh_gI18, mh_gI19, mh_gI24, mh_pI0, mh_pI1, mh_pI2, mh_pI5, mh_pI6, mh_pI9, mh_pI14, mh_pI15, mh_pI16, mh_pI17, mh_pI18, mh_pI19, mh_pI24, mh_gA3, mh_gA4, mh_gA7, mh_gA8, mh_gA10, mh_gA11, mh_gA13, mh_gA20, mh_gA21, mh_gA22, mh_gA23, mh_gA25, mh_gA26, mh_gA27, mh_gA28, mh_gA29, mh_rd1, mh_rd2, mh_rd3, mh_rd4, mh_rd5, mh_rd6, mh_rd7, mh_rd8, mh_rd9, mh_rd10, mh_rd11, mh_rd12, mh_rd13, mh_rd14, mh_rd15, mh_rd16, mh_wr1, mh_wr2, mh_wr3, mh_wr4, mh_wr5, mh_wr6, mh_wr7, mh_wr8, mh_wr9, mh_wr10, mh_wr11, mh_wr12, mh_wr13, mh_wr14, mh_wr15, mh_wr16, Option.bind_some, Option.bind_none, ↓reduceIte, if_true, if_false, m_isPen_y c.H.2.2.1 hP hi, c.J.2.2.1 i hi]
          rw [if_neg (by decide), i_0, i_1, (w_y (N := N) (G := mH (xH g x v t b p ip r) (x + 19) s t a) (Nat.zero_le 0) hq (by omega)).2]
          rfl
      · obtain ⟨f1, e1⟩ := x_pointsOfPen (G := mH g (x + 19) s t a) (x := x) (v := v) (t := t) (b := b) (p := p) (ip := ip) (r := r) (N := N) hN B c.O c.Qx (pn := i) (by omega)
        refine st_10 (fx := fun h => fX5_pen N h (some x) (nI i) (nI 1)) (fm := fun h => fX6_pen N h (some (x + 19)) (nI i) (nI 1)) c (v' := v) (r' := ua r 15 f1) (nI (sumN (fun i' => cnt (fun pt => penK T C φ (i' + 1) pt == nI i) 360) 9)) ?_ ?_ (fun _ _ => rfl) (ua_k (by omega)) (ca_ua (by omega) c.ca)
        · simp only [fX5_pen, xh_O5, xh_O4, xh_O3, xh_O8, xh_g5_0, xh_g5_1, xh_g5_2, xh_g5_3, xh_g5_4, xh_g5_5, xh_g5_7, xh_g5_8, xh_g5_9, xh_g5_10, xh_g5_6, xh_g8_0, xh_g8_1, xh_g4_0, xh_g4_1, xh_g4_2, xh_g4_3, xh_g4_4, xh_g4_5, xh_g3_0, xh_g3_1, xh_g3_2, xh_p5_2, xh_p5_3, xh_p8_1, xh_p5_6, xh_p5_10, xh_p4_1, xh_p4_2, xh_p4_3, xh_p4_4, xh_p4_5, xh_p3_2, xh_rd2, xh_wr2, xh_rd4, xh_wr4, xh_rd5, xh_wr5, xh_rd15, xh_wr15, xh_len15, xh_rd16, xh_wr16, xh_len16, xh_rd17, xh_wr17, xh_len17, xh_rdA, xh_rdP, xh_wrA, xh_wrP, Option.bind_some, Option.bind_none, ↓reduceIte, if_true, if_false, isO_eq X.1, x_hasPen_y X B hi, e1]
          rw [if_neg (by decide), i_0, i_1, (w_y (N := N) (G := xH (mH g (x + 19) s t a) x v t b p ip r) (Nat.zero_le 1) hq (by omega)).1]
          rfl
        · simp only [fX6_pen, mh_O, mh_gJ, mh_pJ, mh_gI0, mh_gI1, mh_gI2, mh_gI5, mh_gI6, mh_gI9, mh_gI14, mh_gI15, mh_gI16, mh_gI17, mh_gI18, mh_gI19, mh_gI24, mh_pI0, mh_pI1, mh_pI2, mh_pI5, mh_pI6, mh_pI9, mh_pI14, mh_pI15, mh_pI16, mh_pI17, mh_pI18, mh_pI19, mh_pI24, mh_gA3, mh_gA4, mh_gA7, mh_gA8, mh_gA10, mh_gA11, mh_gA13, mh_gA20, mh_gA21, mh_gA22, mh_gA23, mh_gA25, mh_gA26, mh_gA27, mh_gA28, mh_gA29, Option.bind_some, Option.bind_none, ↓reduceIte, if_true, if_false, m_isPen_y c.H.2.2.1 hP hi, m_penShown hN B c.H c.O c.J]
          rw [sum_swap (fun i' pt => penK T C φ (i' + 1) pt == nI i), if_neg (by decide), i_0, i_1, (w_y (N := N) (G := mH (xH g x v t b p ip (ua r 15 f1)) (x + 19) s t a) (Nat.zero_le 1) hq (by omega)).2]
          rfl
    · refine st_10 (fx := fun h => fX5_pen N h (some x) (nI i) a2) (fm := fun h => fX6_pen N h (some (x + 19)) (nI i) a2) c (v' := v) (r' := r) (-1) ?_ ?_ (fun _ _ => rfl) (fun _ _ => rfl) c.ca
      · simp only [fX5_pen, xh_O5, xh_O4, xh_O3, xh_O8, xh_g5_0, xh_g5_1, xh_g5_2, xh_g5_3, xh_g5_4, xh_g5_5, xh_g5_7, xh_g5_8, xh_g5_9, xh_g5_10, xh_g5_6, xh_g8_0, xh_g8_1, xh_g4_0, xh_g4_1, xh_g4_2, xh_g4_3, xh_g4_4, xh_g4_5, xh_g3_0, xh_g3_1, xh_g3_2, xh_p5_2, xh_p5_3, xh_p8_1, xh_p5_6, xh_p5_10, xh_p4_1, xh_p4_2, xh_p4_3, xh_p4_4, xh_p4_5, xh_p3_2, xh_rd2, xh_wr2, xh_rd4, xh_wr4, xh_rd5, xh_wr5, xh_rd15, xh_wr15, xh_len15, xh_rd16, xh_wr16, xh_len16, xh_rd17, xh_wr17, xh_len17, xh_rdA, xh_rdP, xh_wrA, xh_wrP, Option.bind_some, Option.bind_none, ↓reduceIte, if_true, if_false, isO_eq X.1, x_hasPen_y X B hi]
        rw [if_neg (by decide), i_0, i_1, x_in_n hn2]
        rfl
      · simp only [fX6_pen, mh_O, mh_gJ, mh_pJ, mh_gI0, mh_gI1, mh_gI2, mh_gI5, mh_gI6, mh_gI9, mh_gI14, mh_gI15, mh_gI16, mh_gI17, mh_gI18, mh_gI19, mh_gI24, mh_pI0, mh_pI1, mh_pI2, mh_pI5, mh_pI6, mh_pI9, mh_pI14, mh_pI15, mh_pI16, mh_pI17, mh_pI18, mh_pI19, mh_pI24, mh_gA3, mh_gA4, mh_gA7, mh_gA8, mh_gA10, mh_gA11, mh_gA13, mh_gA20, mh_gA21, mh_gA22, mh_gA23, mh_gA25, mh_gA26, mh_gA27, mh_gA28, mh_gA29, Option.bind_some, Option.bind_none, ↓reduceIte, if_true, if_false, m_isPen_y c.H.2.2.1 hP hi]
        rw [if_neg (by decide), i_0, i_1, m_in_n hn2]
        rfl
  · refine st_10 (fx := fun h => fX5_pen N h (some x) a1 a2) (fm := fun h => fX6_pen N h (some (x + 19)) a1 a2) c (v' := v) (r' := r) (-1) ?_ ?_ (fun _ _ => rfl) (fun _ _ => rfl) c.ca
    · simp only [fX5_pen, xh_O5, xh_O4, xh_O3, xh_O8, xh_g5_0, xh_g5_1, xh_g5_2, xh_g5_3, xh_g5_4, xh_g5_5, xh_g5_7, xh_g5_8, xh_g5_9, xh_g5_10, xh_g5_6, xh_g8_0, xh_g8_1, xh_g4_0, xh_g4_1, xh_g4_2, xh_g4_3, xh_g4_4, xh_g4_5, xh_g3_0, xh_g3_1, xh_g3_2, xh_p5_2, xh_p5_3, xh_p8_1, xh_p5_6, xh_p5_10, xh_p4_1, xh_p4_2, xh_p4_3, xh_p4_4, xh_p4_5, xh_p3_2, xh_rd2, xh_wr2, xh_rd4, xh_wr4, xh_rd5, xh_wr5, xh_rd15, xh_wr15, xh_len15, xh_rd16, xh_wr16, xh_len16, xh_rd17, xh_wr17, xh_len17, xh_rdA, xh_rdP, xh_wrA, xh_wrP, Option.bind_some, Option.bind_none, ↓reduceIte, if_true, if_false, isO_eq X.1, x_hasPen_n X B hn]
    · simp only [fX6_pen, mh_O, mh_gJ, mh_pJ, mh_gI0, mh_gI1, mh_gI2, mh_gI5, mh_gI6, mh_gI9, mh_gI14, mh_gI15, mh_gI16, mh_gI17, mh_gI18, mh_gI19, mh_gI24, mh_pI0, mh_pI1, mh_pI2, mh_pI5, mh_pI6, mh_pI9, mh_pI14, mh_pI15, mh_pI16, mh_pI17, mh_pI18, mh_pI19, mh_pI24, mh_gA3, mh_gA4, mh_gA7, mh_gA8, mh_gA10, mh_gA11, mh_gA13, mh_gA20, mh_gA21, mh_gA22, mh_gA23, mh_gA25, mh_gA26, mh_gA27, mh_gA28, mh_gA29, Option.bind_some, Option.bind_none, ↓reduceIte, if_true, if_false, m_isPen_n c.H.2.2.1 hP hn]
theorem s_now (hN : 2000 ≤ N) : ∀ (h : Hp) (sz : Nat) (a1 : Int32), IV x h sz → ∃ (r : Int32) (h1 : Hp) (sz1 : Nat) (h2 : Hp), (fX5_now N h (some x) a1 = some (r, h1) ∧ sz1 = sz) ∧ isO h1 (some (x + 19)) 6 = true ∧ fX6_now N h1 (some (x + 19)) a1 = some (r, h2) ∧ IV x h2 sz1 := by
  rintro h sz a1 ⟨g, v, t, b, p, ip, r, s, a, R, W, P, T, C, φ, sn, tt, tp, L, U, ψ, c⟩
  have X := c.XX
  have B := c.B
  have hR := B.1
  have hW := B.2.1
  have hP := B.2.2.1
  have hφ := c.O.2.1
  obtain ⟨q1, q2, ia, ca, fi, fc, q3, q4, q6, q7, q8, q9⟩ := pp_read (E := xH (mH g (x + 19) s t a) x v t b p ip r) c.Qx xh_dy
  have ql : aL (xH (mH g (x + 19) s t a) x v t b p ip r) (some ca) = some (nI (φ 1)) := aL_A q8 (Or.inl rfl)
  rcases in_rng a1 (lo := 0) (hi := 3) (by omega) (by omega) with ⟨q, -, hq, rfl⟩ | hn
  · have : q = 0 ∨ q = 1 ∨ q = 2 ∨ q = 3 := by omega
    rcases this with rfl | rfl | rfl | rfl
    · refine st_11 (fx := fun h => fX5_now N h (some x) (nI 0)) (fm := fun h => fX6_now N h (some (x + 19)) (nI 0)) c (v' := v) (r' := r) (t' := t) (s' := s) (a' := a) (nI (φ 0)) ?_ ?_ (fun _ _ => rfl) (fun _ _ => rfl) (fun _ _ => rfl) (fun _ _ => rfl) c.ca
      · simp only [fX5_now, xh_O5, xh_O4, xh_O3, xh_O8, xh_g5_0, xh_g5_1, xh_g5_2, xh_g5_3, xh_g5_4, xh_g5_5, xh_g5_7, xh_g5_8, xh_g5_9, xh_g5_10, xh_g5_6, xh_g8_0, xh_g8_1, xh_g4_0, xh_g4_1, xh_g4_2, xh_g4_3, xh_g4_4, xh_g4_5, xh_g3_0, xh_g3_1, xh_g3_2, xh_p5_2, xh_p5_3, xh_p8_1, xh_p5_6, xh_p5_10, xh_p4_1, xh_p4_2, xh_p4_3, xh_p4_4, xh_p4_5, xh_p3_2, xh_rd2, xh_wr2, xh_rd4, xh_wr4, xh_rd5, xh_wr5, xh_rd15, xh_wr15, xh_len15, xh_rd16, xh_wr16, xh_len16, xh_rd17, xh_wr17, xh_len17, xh_rdA, xh_rdP, xh_wrA, xh_wrP, Option.bind_some, Option.bind_none, ↓reduceIte, if_true, if_false, q2]
        rfl
      · simp only [fX6_now, mh_O, mh_gJ, mh_pJ, mh_gI0, mh_gI1, mh_gI2, mh_gI5, mh_gI6, mh_gI9, mh_gI14, mh_gI15, mh_gI16, mh_gI17, mh_gI18, mh_gI19, mh_gI24, mh_pI0, mh_pI1, mh_pI2, mh_pI5, mh_pI6, mh_pI9, mh_pI14, mh_pI15, mh_pI16, mh_pI17, mh_pI18, mh_pI19, mh_pI24, mh_gA3, mh_gA4, mh_gA7, mh_gA8, mh_gA10, mh_gA11, mh_gA13, mh_gA20, mh_gA21, mh_gA22, mh_gA23, mh_gA25, mh_gA26, mh_gA27, mh_gA28, mh_gA29, Option.bind_some, Option.bind_none, ↓reduceIte, if_true, if_false, c.J.1]
        rw [i_0, i_3, (w_y (N := N) (G := mH (xH g x v t b p ip r) (x + 19) s t a) (Nat.zero_le 0) hq (by omega)).2]
        rfl
    · refine st_11 (fx := fun h => fX5_now N h (some x) (nI 1)) (fm := fun h => fX6_now N h (some (x + 19)) (nI 1)) c (v' := v) (r' := r) (t' := t) (s' := s) (a' := a) (nI (φ 1)) ?_ ?_ (fun _ _ => rfl) (fun _ _ => rfl) (fun _ _ => rfl) (fun _ _ => rfl) c.ca
      · simp only [fX5_now, xh_O5, xh_O4, xh_O3, xh_O8, xh_g5_0, xh_g5_1, xh_g5_2, xh_g5_3, xh_g5_4, xh_g5_5, xh_g5_7, xh_g5_8, xh_g5_9, xh_g5_10, xh_g5_6, xh_g8_0, xh_g8_1, xh_g4_0, xh_g4_1, xh_g4_2, xh_g4_3, xh_g4_4, xh_g4_5, xh_g3_0, xh_g3_1, xh_g3_2, xh_p5_2, xh_p5_3, xh_p8_1, xh_p5_6, xh_p5_10, xh_p4_1, xh_p4_2, xh_p4_3, xh_p4_4, xh_p4_5, xh_p3_2, xh_rd2, xh_wr2, xh_rd4, xh_wr4, xh_rd5, xh_wr5, xh_rd15, xh_wr15, xh_len15, xh_rd16, xh_wr16, xh_len16, xh_rd17, xh_wr17, xh_len17, xh_rdA, xh_rdP, xh_wrA, xh_wrP, Option.bind_some, Option.bind_none, ↓reduceIte, if_true, if_false, q4, ql]
        rfl
      · simp only [fX6_now, mh_O, mh_gJ, mh_pJ, mh_gI0, mh_gI1, mh_gI2, mh_gI5, mh_gI6, mh_gI9, mh_gI14, mh_gI15, mh_gI16, mh_gI17, mh_gI18, mh_gI19, mh_gI24, mh_pI0, mh_pI1, mh_pI2, mh_pI5, mh_pI6, mh_pI9, mh_pI14, mh_pI15, mh_pI16, mh_pI17, mh_pI18, mh_pI19, mh_pI24, mh_gA3, mh_gA4, mh_gA7, mh_gA8, mh_gA10, mh_gA11, mh_gA13, mh_gA20, mh_gA21, mh_gA22, mh_gA23, mh_gA25, mh_gA26, mh_gA27, mh_gA28, mh_gA29, Option.bind_some, Option.bind_none, ↓reduceIte, if_true, if_false, c.J.2.1]
        rw [i_0, i_3, (w_y (N := N) (G := mH (xH g x v t b p ip r) (x + 19) s t a) (Nat.zero_le 1) hq (by omega)).2]
        rfl
    · obtain ⟨f1, e1⟩ := x_pointsShown (G := mH g (x + 19) s t a) (x := x) (v := v) (t := t) (b := b) (p := p) (ip := ip) (r := r) (N := N) hN B c.O c.Qx
      refine st_11 (fx := fun h => fX5_now N h (some x) (nI 2)) (fm := fun h => fX6_now N h (some (x + 19)) (nI 2)) c (v' := v) (r' := ua r 15 f1) (t' := t) (s' := s) (a' := a) (nI (sumN (fun i => cnt (fun pt => !(lastK (tipL T C φ (i + 1) pt) (φ 1) == -9)) 360) 9)) ?_ ?_ (fun _ _ => rfl) (ua_k (by omega)) (fun _ _ => rfl) (fun _ _ => rfl) (ca_ua (by omega) c.ca)
      · simp only [fX5_now, xh_O5, xh_O4, xh_O3, xh_O8, xh_g5_0, xh_g5_1, xh_g5_2, xh_g5_3, xh_g5_4, xh_g5_5, xh_g5_7, xh_g5_8, xh_g5_9, xh_g5_10, xh_g5_6, xh_g8_0, xh_g8_1, xh_g4_0, xh_g4_1, xh_g4_2, xh_g4_3, xh_g4_4, xh_g4_5, xh_g3_0, xh_g3_1, xh_g3_2, xh_p5_2, xh_p5_3, xh_p8_1, xh_p5_6, xh_p5_10, xh_p4_1, xh_p4_2, xh_p4_3, xh_p4_4, xh_p4_5, xh_p3_2, xh_rd2, xh_wr2, xh_rd4, xh_wr4, xh_rd5, xh_wr5, xh_rd15, xh_wr15, xh_len15, xh_rd16, xh_wr16, xh_len16, xh_rd17, xh_wr17, xh_len17, xh_rdA, xh_rdP, xh_wrA, xh_wrP, Option.bind_some, Option.bind_none, ↓reduceIte, if_true, if_false, e1]
        rfl
      · simp only [fX6_now, mh_O, mh_gJ, mh_pJ, mh_gI0, mh_gI1, mh_gI2, mh_gI5, mh_gI6, mh_gI9, mh_gI14, mh_gI15, mh_gI16, mh_gI17, mh_gI18, mh_gI19, mh_gI24, mh_pI0, mh_pI1, mh_pI2, mh_pI5, mh_pI6, mh_pI9, mh_pI14, mh_pI15, mh_pI16, mh_pI17, mh_pI18, mh_pI19, mh_pI24, mh_gA3, mh_gA4, mh_gA7, mh_gA8, mh_gA10, mh_gA11, mh_gA13, mh_gA20, mh_gA21, mh_gA22, mh_gA23, mh_gA25, mh_gA26, mh_gA27, mh_gA28, mh_gA29, Option.bind_some, Option.bind_none, ↓reduceIte, if_true, if_false, m_shownMany hN B c.H c.O c.J]
        rw [i_0, i_3, (w_y (N := N) (G := mH (xH g x v t b p ip (ua r 15 f1)) (x + 19) s t a) (Nat.zero_le 2) hq (by omega)).2, sum_swap (fun i pt => !(lastK (tipL T C φ (i + 1) pt) (φ 1) == -9))]
        rfl
    · obtain ⟨f1, e1⟩ := x_like (G := mH g (x + 19) s t a) (x := x) (v := v) (t := t) (b := b) (p := p) (ip := ip) (r := r) (N := N) hN B c.O c.Qx
      have e2 := m_like (g := xH g x v t b p ip (ua r 15 f1)) (m := x + 19) (s := s) (t := t) (a := a) (N := N) hN B c.H c.O c.J
      rw [like_eq] at e2
      refine st_11 (fx := fun h => fX5_now N h (some x) (nI 3)) (fm := fun h => fX6_now N h (some (x + 19)) (nI 3)) c (v' := v) (r' := ua r 15 f1) (t' := t) (s' := s) (a' := ua a 12 (fillF (a 12) (picV T C φ) 3240)) (nI (gL T C φ 9)) ?_ ?_ (fun _ _ => rfl) (ua_k (by omega)) (fun _ _ => rfl) (ua_m (by omega) (by omega)) (ca_ua (by omega) c.ca)
      · simp only [fX5_now, xh_O5, xh_O4, xh_O3, xh_O8, xh_g5_0, xh_g5_1, xh_g5_2, xh_g5_3, xh_g5_4, xh_g5_5, xh_g5_7, xh_g5_8, xh_g5_9, xh_g5_10, xh_g5_6, xh_g8_0, xh_g8_1, xh_g4_0, xh_g4_1, xh_g4_2, xh_g4_3, xh_g4_4, xh_g4_5, xh_g3_0, xh_g3_1, xh_g3_2, xh_p5_2, xh_p5_3, xh_p8_1, xh_p5_6, xh_p5_10, xh_p4_1, xh_p4_2, xh_p4_3, xh_p4_4, xh_p4_5, xh_p3_2, xh_rd2, xh_wr2, xh_rd4, xh_wr4, xh_rd5, xh_wr5, xh_rd15, xh_wr15, xh_len15, xh_rd16, xh_wr16, xh_len16, xh_rd17, xh_wr17, xh_len17, xh_rdA, xh_rdP, xh_wrA, xh_wrP, Option.bind_some, Option.bind_none, ↓reduceIte, if_true, if_false, e1]
        rfl
      · simp only [fX6_now, mh_O, mh_gJ, mh_pJ, mh_gI0, mh_gI1, mh_gI2, mh_gI5, mh_gI6, mh_gI9, mh_gI14, mh_gI15, mh_gI16, mh_gI17, mh_gI18, mh_gI19, mh_gI24, mh_pI0, mh_pI1, mh_pI2, mh_pI5, mh_pI6, mh_pI9, mh_pI14, mh_pI15, mh_pI16, mh_pI17, mh_pI18, mh_pI19, mh_pI24, mh_gA3, mh_gA4, mh_gA7, mh_gA8, mh_gA10, mh_gA11, mh_gA13, mh_gA20, mh_gA21, mh_gA22, mh_gA23, mh_gA25, mh_gA26, mh_gA27, mh_gA28, mh_gA29, Option.bind_some, Option.bind_none, ↓reduceIte, if_true, if_false, e2]
        rw [i_0, i_3, (w_y (N := N) (G := mH (xH g x v t b p ip (ua r 15 f1)) (x + 19) s t a) (Nat.zero_le 3) hq (by omega)).2]
        rfl
  · refine st_11 (fx := fun h => fX5_now N h (some x) a1) (fm := fun h => fX6_now N h (some (x + 19)) a1) c (v' := v) (r' := r) (t' := t) (s' := s) (a' := a) (-1) ?_ ?_ (fun _ _ => rfl) (fun _ _ => rfl) (fun _ _ => rfl) (fun _ _ => rfl) c.ca
    · have hz (k : Nat) (hk : k ≤ 3) : ¬ a1 = nI k := fun z => hn (by rw [z]; exact ⟨nI_le (by omega) (by omega), nI_le hk (by omega)⟩)
      simp only [fX5_now]
      rw [if_neg (show ¬ a1 = 0 from hz 0 (by omega)), if_neg (show ¬ a1 = 1 from hz 1 (by omega)), if_neg (show ¬ a1 = 2 from hz 2 (by omega)), if_neg (show ¬ a1 = 3 from hz 3 (by omega))]
    · simp only [fX6_now]
      rw [i_0, i_3, m_in_n hn]
      rfl
end SB
