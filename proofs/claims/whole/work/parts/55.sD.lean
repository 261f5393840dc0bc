section SD
variable {x : Nat} {N : Nat}
theorem mn_at {s : Nat → Int32} {a : Nat → Nat → Int32} {P : Nat} {φ : Nat → Nat} (J : mN s a P φ) {k f : Nat} (hk : k < φ 1) (hf : f < 6) : a 4 (6 * k + f) = nI (cF φ k f) := by
  rw [J.2.2.2 (6 * k + f) (by omega)]
theorem s_curve (hN : 2000 ≤ N) : ∀ (h : Hp) (sz : Nat) (a1 : Int32) (a2 : Int32), IV x h sz → ∃ (r : Int32) (h1 : Hp) (sz1 : Nat) (h2 : Hp), (fX5_curve N h (some x) a1 a2 = some (r, h1) ∧ sz1 = sz) ∧ isO h1 (some (x + 19)) 6 = true ∧ (fX6_curve N h1 (some (x + 19)) a1 a2 = some r ∧ h2 = h1) ∧ IV x h2 sz1 := by
  rintro h sz a1 a2 ⟨g, v, t, b, p, ip, r, s, a, R, W, P, T, C, φ, sn, tt, tp, L, U, ψ, c⟩
  have X := c.XX
  have B := c.B
  have hR := B.1
  have hW := B.2.1
  have hP := B.2.2.1
  have hφ := c.O.2.1
  obtain ⟨q1, -⟩ := pp_read (E := xH (mH g (x + 19) s t a) x v t b p ip r) c.Qx xh_dy
  rcases in_or a1 (n := φ 1) (by omega) with ⟨i, hi, rfl⟩ | hn
  · obtain ⟨ci, i1, i2, i3⟩ := x_curveAt_y (N := N) (E := xH (mH g (x + 19) s t a) x v t b p ip r) c.O c.Qx xh_dy hi
    have hO := c.O.2.2.2 i hi
    have h9 : cF φ i 2 ≤ 9 := hO.2.2.2.2.1
    have g0 : gI (xH (mH g (x + 19) s t a) x v t b p ip r) (some ci) 1 0 = some (nI (cF φ i 0)) := gI_eq i3 rfl
    have g1 : gI (xH (mH g (x + 19) s t a) x v t b p ip r) (some ci) 1 1 = some (nI (cF φ i 1)) := gI_eq i3 rfl
    have g2 : gI (xH (mH g (x + 19) s t a) x v t b p ip r) (some ci) 1 2 = some (nI (cF φ i 2)) := gI_eq i3 rfl
    have g3 : gI (xH (mH g (x + 19) s t a) x v t b p ip r) (some ci) 1 3 = some (nI (cF φ i 3)) := gI_eq i3 rfl
    have g4 : gI (xH (mH g (x + 19) s t a) x v t b p ip r) (some ci) 1 4 = some (nI (cF φ i 4)) := gI_eq i3 rfl
    have g5 : gI (xH (mH g (x + 19) s t a) x v t b p ip r) (some ci) 1 5 = some (nI (cF φ i 5)) := gI_eq i3 rfl
    rcases in_rng a2 (lo := 0) (hi := 6) (by omega) (by omega) with ⟨q, -, hq, rfl⟩ | hn2
    · by_cases c6 : q = 6
      · subst c6
        obtain ⟨f1, e1⟩ := x_tipsShown (G := mH g (x + 19) s t a) (x := x) (v := v) (t := t) (b := b) (p := p) (ip := ip) (r := r) (N := N) hN B c.O c.Qx (k := i) (show cF φ i 2 < 10 by omega)
        refine st_10 (fx := fun h => fX5_curve N h (some x) (nI i) (nI 6)) (fm := fun h => fX6_curve N h (some (x + 19)) (nI i) (nI 6)) c (v' := v) (r' := ua r 15 f1) (nI (cnt (fun pt => lastK (tipL T C φ (cF φ i 2) pt) (φ 1) == nI i) 360)) ?_ ?_ (fun _ _ => rfl) (ua_k (by omega)) (ca_ua (by omega) c.ca)
        · simp only [fX5_curve, xh_O5, xh_O4, xh_O3, xh_O8, xh_g5_0, xh_g5_1, xh_g5_2, xh_g5_3, xh_g5_4, xh_g5_5, xh_g5_7, xh_g5_8, xh_g5_9, xh_g5_10, xh_g5_6, xh_g8_0, xh_g8_1, xh_g4_0, xh_g4_1, xh_g4_2, xh_g4_3, xh_g4_4, xh_g4_5, xh_g3_0, xh_g3_1, xh_g3_2, xh_p5_2, xh_p5_3, xh_p8_1, xh_p5_6, xh_p5_10, xh_p4_1, xh_p4_2, xh_p4_3, xh_p4_4, xh_p4_5, xh_p3_2, xh_rd2, xh_wr2, xh_rd4, xh_wr4, xh_rd5, xh_wr5, xh_rd15, xh_wr15, xh_len15, xh_rd16, xh_wr16, xh_len16, xh_rd17, xh_wr17, xh_len17, xh_rdA, xh_rdP, xh_wrA, xh_wrP, Option.bind_some, Option.bind_none, ↓reduceIte, if_true, if_false, q1, i1, reduceCtorEq, g2, e1]
          rfl
        · simp only [fX6_curve, mh_O, mh_gJ, mh_pJ, mh_gI0, mh_gI1, mh_gI2, mh_gI5, mh_gI6, mh_gI9, mh_gI14, mh_gI15, mh_gI16, mh_gI17, mh_gI18, mh_gI19, mh_gI24, mh_pI0, mh_pI1, mh_pI2, mh_pI5, mh_pI6, mh_pI9, mh_pI14, mh_pI15, mh_pI16, mh_pI17, mh_pI18, mh_pI19, mh_pI24, mh_gA3, mh_gA4, mh_gA7, mh_gA8, mh_gA10, mh_gA11, mh_gA13, mh_gA20, mh_gA21, mh_gA22, mh_gA23, mh_gA25, mh_gA26, mh_gA27, mh_gA28, mh_gA29, Option.bind_some, Option.bind_none, ↓reduceIte, if_true, if_false, m_isCurve_y c.J.2.1 hφ hi, m_curveShown hN B c.H c.O c.J hi]
          rw [if_neg (by decide), i_0, i_6, (w_y (N := N) (G := mH (xH g x v t b p ip (ua r 15 f1)) (x + 19) s t a) (Nat.zero_le 6) hq (by omega)).2]
          rfl
      · refine st_10 (fx := fun h => fX5_curve N h (some x) (nI i) (nI q)) (fm := fun h => fX6_curve N h (some (x + 19)) (nI i) (nI q)) c (v' := v) (r' := r) (nI (cF φ i q)) ?_ ?_ (fun _ _ => rfl) (fun _ _ => rfl) c.ca
        · simp only [fX5_curve, xh_O5, xh_O4, xh_O3, xh_O8, xh_g5_0, xh_g5_1, xh_g5_2, xh_g5_3, xh_g5_4, xh_g5_5, xh_g5_7, xh_g5_8, xh_g5_9, xh_g5_10, xh_g5_6, xh_g8_0, xh_g8_1, xh_g4_0, xh_g4_1, xh_g4_2, xh_g4_3, xh_g4_4, xh_g4_5, xh_g3_0, xh_g3_1, xh_g3_2, xh_p5_2, xh_p5_3, xh_p8_1, xh_p5_6, xh_p5_10, xh_p4_1, xh_p4_2, xh_p4_3, xh_p4_4, xh_p4_5, xh_p3_2, xh_rd2, xh_wr2, xh_rd4, xh_wr4, xh_rd5, xh_wr5, xh_rd15, xh_wr15, xh_len15, xh_rd16, xh_wr16, xh_len16, xh_rd17, xh_wr17, xh_len17, xh_rdA, xh_rdP, xh_wrA, xh_wrP, Option.bind_some, Option.bind_none, ↓reduceIte, if_true, if_false, q1, i1, reduceCtorEq, g0, g1, g2, g3, g4, g5]
          have : q = 0 ∨ q = 1 ∨ q = 2 ∨ q = 3 ∨ q = 4 ∨ q = 5 := by omega
          rcases this with rfl | rfl | rfl | rfl | rfl | rfl <;> rfl
        · simp only [fX6_curve, mh_O, mh_gJ, mh_pJ, mh_gI0, mh_gI1, mh_gI2, mh_gI5, mh_gI6, mh_gI9, mh_gI14, mh_gI15, mh_gI16, mh_gI17, mh_gI18, mh_gI19, mh_gI24, mh_pI0, mh_pI1, mh_pI2, mh_pI5, mh_pI6, mh_pI9, mh_pI14, mh_pI15, mh_pI16, mh_pI17, mh_pI18, mh_pI19, mh_pI24, mh_gA3, mh_gA4, mh_gA7, mh_gA8, mh_gA10, mh_gA11, mh_gA13, mh_gA20, mh_gA21, mh_gA22, mh_gA23, mh_gA25, mh_gA26, mh_gA27, mh_gA28, mh_gA29, Option.bind_some, Option.bind_none, ↓reduceIte, if_true, if_false, m_isCurve_y c.J.2.1 hφ hi]
          rw [if_neg (by decide), i_0, i_6, (w_y (N := N) (G := mH (xH g x v t b p ip r) (x + 19) s t a) (Nat.zero_le q) hq (by omega)).2, pk_mul, nI_add]
          simp (disch := omega) only [mh_O, mh_gJ, mh_pJ, mh_gI0, mh_gI1, mh_gI2, mh_gI5, mh_gI6, mh_gI9, mh_gI14, mh_gI15, mh_gI16, mh_gI17, mh_gI18, mh_gI19, mh_gI24, mh_pI0, mh_pI1, mh_pI2, mh_pI5, mh_pI6, mh_pI9, mh_pI14, mh_pI15, mh_pI16, mh_pI17, mh_pI18, mh_pI19, mh_pI24, mh_gA3, mh_gA4, mh_gA7, mh_gA8, mh_gA10, mh_gA11, mh_gA13, mh_gA20, mh_gA21, mh_gA22, mh_gA23, mh_gA25, mh_gA26, mh_gA27, mh_gA28, mh_gA29, mh_rd1, mh_rd2, mh_rd3, mh_rd4, mh_rd5, mh_rd6, mh_rd7, mh_rd8, mh_rd9, mh_rd10, mh_rd11, mh_rd12, mh_rd13, mh_rd14, mh_rd15, mh_rd16, mh_wr1, mh_wr2, mh_wr3, mh_wr4, mh_wr5, mh_wr6, mh_wr7, mh_wr8, mh_wr9, mh_wr10, mh_wr11, mh_wr12, mh_wr13, mh_wr14, mh_wr15, mh_wr16, Option.bind_some, Option.bind_none, ↓reduceIte, if_true, if_false, mn_at c.J hi (show q < 6 by omega)]
          rw [if_neg (by decide), if_neg (nI_ge (by omega) (by omega))]
    · refine st_10 (fx := fun h => fX5_curve N h (some x) (nI i) a2) (fm := fun h => fX6_curve N h (some (x + 19)) (nI i) a2) c (v' := v) (r' := r) (-1) ?_ ?_ (fun _ _ => rfl) (fun _ _ => rfl) c.ca
      · have hz (k : Nat) (hk : k ≤ 6) : ¬ a2 = nI k := fun z => hn2 (by rw [z]; exact ⟨nI_le (by omega) (by omega), nI_le hk (by omega)⟩)
        simp only [fX5_curve, xh_O5, xh_O4, xh_O3, xh_O8, xh_g5_0, xh_g5_1, xh_g5_2, xh_g5_3, xh_g5_4, xh_g5_5, xh_g5_7, xh_g5_8, xh_g5_9, xh_g5_10, xh_g5_6, xh_g8_0, xh_g8_1, xh_g4_0, xh_g4_1, xh_g4_2, xh_g4_3, xh_g4_4, xh_g4_5, xh_g3_0, xh_g3_1, xh_g3_2, xh_p5_2, xh_p5_3, xh_p8_1, xh_p5_6, xh_p5_10, xh_p4_1, xh_p4_2, xh_p4_3, xh_p4_4, xh_p4_5, xh_p3_2, xh_rd2, xh_wr2, xh_rd4, xh_wr4, xh_rd5, xh_wr5, xh_rd15, xh_wr15, xh_len15, xh_rd16, xh_wr16, xh_len16, xh_rd17, xh_wr17, xh_len17, xh_rdA, xh_rdP, xh_wrA, xh_wrP, Option.bind_some, Option.bind_none, ↓reduceIte, if_true, if_false, q1, i1, reduceCtorEq]
        rw [if_neg (show ¬ a2 = 0 from hz 0 (by omega)), if_neg (show ¬ a2 = 1 from hz 1 (by omega)), if_neg (show ¬ a2 = 2 from hz 2 (by omega)), if_neg (show ¬ a2 = 3 from hz 3 (by omega)), if_neg (show ¬ a2 = 4 from hz 4 (by omega)), if_neg (show ¬ a2 = 5 from hz 5 (by omega)), if_neg (show ¬ a2 = 6 from hz 6 (by omega))]
      · simp only [fX6_curve, mh_O, mh_gJ, mh_pJ, mh_gI0, mh_gI1, mh_gI2, mh_gI5, mh_gI6, mh_gI9, mh_gI14, mh_gI15, mh_gI16, mh_gI17, mh_gI18, mh_gI19, mh_gI24, mh_pI0, mh_pI1, mh_pI2, mh_pI5, mh_pI6, mh_pI9, mh_pI14, mh_pI15, mh_pI16, mh_pI17, mh_pI18, mh_pI19, mh_pI24, mh_gA3, mh_gA4, mh_gA7, mh_gA8, mh_gA10, mh_gA11, mh_gA13, mh_gA20, mh_gA21, mh_gA22, mh_gA23, mh_gA25, mh_gA26, mh_gA27, mh_gA28, mh_gA29, Option.bind_some, Option.bind_none, ↓reduceIte, if_true, if_false, m_isCurve_y c.J.2.1 hφ hi]
        rw [if_neg (by decide), i_0, i_6, m_in_n hn2]
        rfl
  · refine st_10 (fx := fun h => fX5_curve N h (some x) a1 a2) (fm := fun h => fX6_curve N h (some (x + 19)) a1 a2) c (v' := v) (r' := r) (-1) ?_ ?_ (fun _ _ => rfl) (fun _ _ => rfl) c.ca
    · simp only [fX5_curve, xh_O5, xh_O4, xh_O3, xh_O8, xh_g5_0, xh_g5_1, xh_g5_2, xh_g5_3, xh_g5_4, xh_g5_5, xh_g5_7, xh_g5_8, xh_g5_9, xh_g5_10, xh_g5_6, xh_g8_0, xh_g8_1, xh_g4_0, xh_g4_1, xh_g4_2, xh_g4_3, xh_g4_4, xh_g4_5, xh_g3_0, xh_g3_1, xh_g3_2, xh_p5_2, xh_p5_3, xh_p8_1, xh_p5_6, xh_p5_10, xh_p4_1, xh_p4_2, xh_p4_3, xh_p4_4, xh_p4_5, xh_p3_2, xh_rd2, xh_wr2, xh_rd4, xh_wr4, xh_rd5, xh_wr5, xh_rd15, xh_wr15, xh_len15, xh_rd16, xh_wr16, xh_len16, xh_rd17, xh_wr17, xh_len17, xh_rdA, xh_rdP, xh_wrA, xh_wrP, Option.bind_some, Option.bind_none, ↓reduceIte, if_true, if_false, q1, x_curveAt_n (N := N) (E := xH (mH g (x + 19) s t a) x v t b p ip r) c.O c.Qx xh_dy hn]
    · simp only [fX6_curve, mh_O, mh_gJ, mh_pJ, mh_gI0, mh_gI1, mh_gI2, mh_gI5, mh_gI6, mh_gI9, mh_gI14, mh_gI15, mh_gI16, mh_gI17, mh_gI18, mh_gI19, mh_gI24, mh_pI0, mh_pI1, mh_pI2, mh_pI5, mh_pI6, mh_pI9, mh_pI14, mh_pI15, mh_pI16, mh_pI17, mh_pI18, mh_pI19, mh_pI24, mh_gA3, mh_gA4, mh_gA7, mh_gA8, mh_gA10, mh_gA11, mh_gA13, mh_gA20, mh_gA21, mh_gA22, mh_gA23, mh_gA25, mh_gA26, mh_gA27, mh_gA28, mh_gA29, Option.bind_some, Option.bind_none, ↓reduceIte, if_true, if_false, m_isCurve_n c.J.2.1 hφ hn]
theorem CI.keep2 {h : Hp} {sz : Nat} {g : Hp} {v : Nat → Int32} {t : Int64} {b p : Nat} {ip : Nat → Option Nat} {r : Nat → Nat → Int32} {s : Nat → Int32} {a : Nat → Nat → Int32} {R W P : Nat} {T C φ : Nat → Nat} {sn : Nat} {tt tp : Nat → Nat} {L U : Nat} {ψ : Nat → Nat → Nat} {v' : Nat → Int32} {t' : Int64} {r' : Nat → Nat → Int32} {s' : Nat → Int32} {a' : Nat → Nat → Int32} {sn' L' : Nat} {tt' tp' : Nat → Nat} (c : CI x h sz g v t b p ip r s a R W P T C φ sn tt tp L U ψ) (hv : v' 0 = v 0) (hs : ∀ i, (i = 0 ∨ i = 1 ∨ i = 2 ∨ i = 5 ∨ i = 6 ∨ i = 24) → s' i = s i) (ha : ∀ k, (k = 1 ∨ k = 2 ∨ k = 3 ∨ k = 4 ∨ k = 11 ∨ k = 16) → a' k = a k) (hc : v' 1 = 0 ∨ ∀ i, i < 1000 → r' 17 i = nI (xR T C W (fun _ => 0) R i)) (S : mS s' a' sn' tt' tp') (Y : xS v' r' sn' tt' tp') (tl : L' ≤ 100) (tm : s' 14 = nI L') (tx : v' 2 = nI L') (te : ∀ i, i < L' → a' 7 i = r' 2 i ∧ ∃ k, k ≤ 255 ∧ a' 7 i = nI k) : IV x (mH (xH g x v' t' b p ip r') (x + 19) s' t' a') sz := by
  refine (CI.mk (U := U) (ψ := ψ) (φ := φ) rfl c.B ?_ c.X c.O ?_ c.Q S Y hc tl tm tx te c.ul ?_ ?_ c.ch ?_ ?_ c.fr c.sx).iv
  · have H := c.H
    unfold mB at H ⊢
    rw [hs 0 (by decide), hs 1 (by decide), hs 2 (by decide), ha 1 (by decide), ha 2 (by decide)]
    exact H
  · have J := c.J
    unfold mN at J ⊢
    rw [hs 5 (by decide), hs 6 (by decide), ha 3 (by decide), ha 4 (by decide)]
    exact J
  · rw [hs 24 (by decide)]; exact c.um
  · rw [hv]; exact c.ux
  · rw [ha 11 (by decide)]; exact c.cm
  · rw [ha 16 (by decide)]; exact c.im
theorem s_clear (hN : 2000 ≤ N) : ∀ (h : Hp) (sz : Nat), IV x h sz → ∃ (r : Int32) (h1 : Hp) (sz1 : Nat) (h2 : Hp), (fX5_clear N h (some x) = some (r, h1) ∧ sz1 = sz) ∧ isO h1 (some (x + 19)) 6 = true ∧ fX6_clear N h1 (some (x + 19)) = some (r, h2) ∧ IV x h2 sz1 := by
  rintro h sz ⟨g, v, t, b, p, ip, r, s, a, R, W, P, T, C, φ, sn, tt, tp, L, U, ψ, c⟩
  have X := c.XX
  have B := c.B
  have hR := B.1
  have hW := B.2.1
  have hP := B.2.2.1
  have hφ := c.O.2.1
  refine ⟨nI L, mH (xH g x (upd v 2 0) t b p ip r) (x + 19) s t a, sz, mH (xH g x (upd v 2 0) t b p ip r) (x + 19) (upd s 14 0) t a, ⟨?_, rfl⟩, mh_O, ?_, ?_⟩
  · rw [c.hx, xh_mh rfl]
    simp only [fX5_clear, fX4_empties, xh_O5, xh_O4, xh_O3, xh_O8, xh_g5_0, xh_g5_1, xh_g5_2, xh_g5_3, xh_g5_4, xh_g5_5, xh_g5_7, xh_g5_8, xh_g5_9, xh_g5_10, xh_g5_6, xh_g8_0, xh_g8_1, xh_g4_0, xh_g4_1, xh_g4_2, xh_g4_3, xh_g4_4, xh_g4_5, xh_g3_0, xh_g3_1, xh_g3_2, xh_p5_2, xh_p5_3, xh_p8_1, xh_p5_6, xh_p5_10, xh_p4_1, xh_p4_2, xh_p4_3, xh_p4_4, xh_p4_5, xh_p3_2, xh_rd2, xh_wr2, xh_rd4, xh_wr4, xh_rd5, xh_wr5, xh_rd15, xh_wr15, xh_len15, xh_rd16, xh_wr16, xh_len16, xh_rd17, xh_wr17, xh_len17, xh_rdA, xh_rdP, xh_wrA, xh_wrP, Option.bind_some, Option.bind_none, ↓reduceIte, if_true, if_false, c.tx]
  · simp only [fX6_clear, mh_O, mh_gJ, mh_pJ, mh_gI0, mh_gI1, mh_gI2, mh_gI5, mh_gI6, mh_gI9, mh_gI14, mh_gI15, mh_gI16, mh_gI17, mh_gI18, mh_gI19, mh_gI24, mh_pI0, mh_pI1, mh_pI2, mh_pI5, mh_pI6, mh_pI9, mh_pI14, mh_pI15, mh_pI16, mh_pI17, mh_pI18, mh_pI19, mh_pI24, mh_gA3, mh_gA4, mh_gA7, mh_gA8, mh_gA10, mh_gA11, mh_gA13, mh_gA20, mh_gA21, mh_gA22, mh_gA23, mh_gA25, mh_gA26, mh_gA27, mh_gA28, mh_gA29, Option.bind_some, Option.bind_none, ↓reduceIte, if_true, if_false, c.tm]
  · refine c.keep2 (L' := 0) (sn' := sn) (tt' := tt) (tp' := tp) (pk_un (by omega)) (fun i hi => pk_un (by omega)) (fun _ _ => rfl) ?_ ?_ ?_ (Nat.zero_le 100) pk_us pk_us (fun i hi => by omega)
    · rw [pk_un (by omega)]; exact c.ca
    · unfold mS; rw [pk_un (by omega)]; exact c.S
    · unfold xS; rw [pk_un (by omega)]; exact c.Y
theorem s_forget (hN : 2000 ≤ N) : ∀ (h : Hp) (sz : Nat), IV x h sz → ∃ (r : Int32) (h1 : Hp) (sz1 : Nat) (h2 : Hp), (fX5_forget N h (some x) = some (r, h1) ∧ sz1 = sz) ∧ isO h1 (some (x + 19)) 6 = true ∧ fX6_forget N h1 (some (x + 19)) = some (r, h2) ∧ IV x h2 sz1 := by
  rintro h sz ⟨g, v, t, b, p, ip, r, s, a, R, W, P, T, C, φ, sn, tt, tp, L, U, ψ, c⟩
  have X := c.XX
  have B := c.B
  have hR := B.1
  have hW := B.2.1
  have hP := B.2.2.1
  have hφ := c.O.2.1
  refine ⟨nI sn, mH (xH g x (upd v 7 0) t b p ip r) (x + 19) s t a, sz, mH (xH g x (upd v 7 0) t b p ip r) (x + 19) (upd s 9 0) t a, ⟨?_, rfl⟩, mh_O, ?_, ?_⟩
  · rw [c.hx, xh_mh rfl]
    simp only [fX5_forget, fX3_empties, xh_O5, xh_O4, xh_O3, xh_O8, xh_g5_0, xh_g5_1, xh_g5_2, xh_g5_3, xh_g5_4, xh_g5_5, xh_g5_7, xh_g5_8, xh_g5_9, xh_g5_10, xh_g5_6, xh_g8_0, xh_g8_1, xh_g4_0, xh_g4_1, xh_g4_2, xh_g4_3, xh_g4_4, xh_g4_5, xh_g3_0, xh_g3_1, xh_g3_2, xh_p5_2, xh_p5_3, xh_p8_1, xh_p5_6, xh_p5_10, xh_p4_1, xh_p4_2, xh_p4_3, xh_p4_4, xh_p4_5, xh_p3_2, xh_rd2, xh_wr2, xh_rd4, xh_wr4, xh_rd5, xh_wr5, xh_rd15, xh_wr15, xh_len15, xh_rd16, xh_wr16, xh_len16, xh_rd17, xh_wr17, xh_len17, xh_rdA, xh_rdP, xh_wrA, xh_wrP, Option.bind_some, Option.bind_none, ↓reduceIte, if_true, if_false, c.Y.1]
  · simp only [fX6_forget, mh_O, mh_gJ, mh_pJ, mh_gI0, mh_gI1, mh_gI2, mh_gI5, mh_gI6, mh_gI9, mh_gI14, mh_gI15, mh_gI16, mh_gI17, mh_gI18, mh_gI19, mh_gI24, mh_pI0, mh_pI1, mh_pI2, mh_pI5, mh_pI6, mh_pI9, mh_pI14, mh_pI15, mh_pI16, mh_pI17, mh_pI18, mh_pI19, mh_pI24, mh_gA3, mh_gA4, mh_gA7, mh_gA8, mh_gA10, mh_gA11, mh_gA13, mh_gA20, mh_gA21, mh_gA22, mh_gA23, mh_gA25, mh_gA26, mh_gA27, mh_gA28, mh_gA29, Option.bind_some, Option.bind_none, ↓reduceIte, if_true, if_false, c.S.1]
  · refine c.keep2 (L' := L) (sn' := 0) (tt' := tt) (tp' := tp) (pk_un (by omega)) (fun i hi => pk_un (by omega)) (fun _ _ => rfl) ?_ ⟨pk_us, by omega, fun i hi => by omega⟩ ⟨pk_us, by omega, fun i hi => by omega⟩ c.tl ?_ ?_ c.te
    · rw [pk_un (by omega)]; exact c.ca
    · rw [pk_un (by omega)]; exact c.tm
    · rw [pk_un (by omega)]; exact c.tx
theorem s_type (hN : 2000 ≤ N) : ∀ (h : Hp) (sz : Nat) (a1 : Int32), IV x h sz → ∃ (r : Int32) (h1 : Hp) (sz1 : Nat) (h2 : Hp), (fX5_type N h (some x) a1 = some (r, h1) ∧ sz1 = sz) ∧ isO h1 (some (x + 19)) 6 = true ∧ fX6_type N h1 (some (x + 19)) a1 = some (r, h2) ∧ IV x h2 sz1 := by
  rintro h sz a1 ⟨g, v, t, b, p, ip, r, s, a, R, W, P, T, C, φ, sn, tt, tp, L, U, ψ, c⟩
  have X := c.XX
  have B := c.B
  have hR := B.1
  have hW := B.2.1
  have hP := B.2.2.1
  have hφ := c.O.2.1
  have tl := c.tl
  rcases in_rng a1 (lo := 0) (hi := 255) (by omega) (by omega) with ⟨k, -, hk, rfl⟩ | hn
  · by_cases cc : L = 100
    · refine st_11 (fx := fun h => fX5_type N h (some x) (nI k)) (fm := fun h => fX6_type N h (some (x + 19)) (nI k)) c (v' := v) (r' := r) (t' := t) (s' := s) (a' := a) (-3) ?_ ?_ (fun _ _ => rfl) (fun _ _ => rfl) (fun _ _ => rfl) (fun _ _ => rfl) c.ca
      · simp only [fX5_type, fX4_adds, xh_O5, xh_O4, xh_O3, xh_O8, xh_g5_0, xh_g5_1, xh_g5_2, xh_g5_3, xh_g5_4, xh_g5_5, xh_g5_7, xh_g5_8, xh_g5_9, xh_g5_10, xh_g5_6, xh_g8_0, xh_g8_1, xh_g4_0, xh_g4_1, xh_g4_2, xh_g4_3, xh_g4_4, xh_g4_5, xh_g3_0, xh_g3_1, xh_g3_2, xh_p5_2, xh_p5_3, xh_p8_1, xh_p5_6, xh_p5_10, xh_p4_1, xh_p4_2, xh_p4_3, xh_p4_4, xh_p4_5, xh_p3_2, xh_rd2, xh_wr2, xh_rd4, xh_wr4, xh_rd5, xh_wr5, xh_rd15, xh_wr15, xh_len15, xh_rd16, xh_wr16, xh_len16, xh_rd17, xh_wr17, xh_len17, xh_rdA, xh_rdP, xh_wrA, xh_wrP, Option.bind_some, Option.bind_none, ↓reduceIte, if_true, if_false, c.tx, i_0, i_255, (w_y (N := N) (G := xH (mH g (x + 19) s t a) x v t b p ip r) (Nat.zero_le k) hk (by omega)).1]
        rw [cc]
        rfl
      · simp only [fX6_type, mh_O, mh_gJ, mh_pJ, mh_gI0, mh_gI1, mh_gI2, mh_gI5, mh_gI6, mh_gI9, mh_gI14, mh_gI15, mh_gI16, mh_gI17, mh_gI18, mh_gI19, mh_gI24, mh_pI0, mh_pI1, mh_pI2, mh_pI5, mh_pI6, mh_pI9, mh_pI14, mh_pI15, mh_pI16, mh_pI17, mh_pI18, mh_pI19, mh_pI24, mh_gA3, mh_gA4, mh_gA7, mh_gA8, mh_gA10, mh_gA11, mh_gA13, mh_gA20, mh_gA21, mh_gA22, mh_gA23, mh_gA25, mh_gA26, mh_gA27, mh_gA28, mh_gA29, Option.bind_some, Option.bind_none, ↓reduceIte, if_true, if_false, c.tm, i_0, i_255, (w_y (N := N) (G := mH (xH g x v t b p ip r) (x + 19) s t a) (Nat.zero_le k) hk (by omega)).2]
        rw [cc]
        rfl
    · refine ⟨nI (L + 1), mH (xH g x (upd v 2 (nI (L + 1))) t b p ip (ua r 2 (upd (r 2) L (nI k)))) (x + 19) s t a, sz, mH (xH g x (upd v 2 (nI (L + 1))) t b p ip (ua r 2 (upd (r 2) L (nI k)))) (x + 19) (upd s 14 (nI (L + 1))) t (ua a 7 (upd (a 7) L (nI k))), ⟨?_, rfl⟩, mh_O, ?_, ?_⟩
      · rw [c.hx, xh_mh rfl]
        simp only [fX5_type, fX4_adds, xh_O5, xh_O4, xh_O3, xh_O8, xh_g5_0, xh_g5_1, xh_g5_2, xh_g5_3, xh_g5_4, xh_g5_5, xh_g5_7, xh_g5_8, xh_g5_9, xh_g5_10, xh_g5_6, xh_g8_0, xh_g8_1, xh_g4_0, xh_g4_1, xh_g4_2, xh_g4_3, xh_g4_4, xh_g4_5, xh_g3_0, xh_g3_1, xh_g3_2, xh_p5_2, xh_p5_3, xh_p8_1, xh_p5_6, xh_p5_10, xh_p4_1, xh_p4_2, xh_p4_3, xh_p4_4, xh_p4_5, xh_p3_2, xh_rd2, xh_wr2, xh_rd4, xh_wr4, xh_rd5, xh_wr5, xh_rd15, xh_wr15, xh_len15, xh_rd16, xh_wr16, xh_len16, xh_rd17, xh_wr17, xh_len17, xh_rdA, xh_rdP, xh_wrA, xh_wrP, Option.bind_some, Option.bind_none, ↓reduceIte, if_true, if_false, c.tx, i_0, i_255, (w_y (N := N) (G := xH (mH g (x + 19) s t a) x v t b p ip r) (Nat.zero_le k) hk (by omega)).1]
        rw [if_neg (by decide), if_pos (show nI L < 100 from nI_lt (b := 100) (by omega) (by omega))]
        simp (disch := omega) only [xh_O5, xh_O4, xh_O3, xh_O8, xh_g5_0, xh_g5_1, xh_g5_2, xh_g5_3, xh_g5_4, xh_g5_5, xh_g5_7, xh_g5_8, xh_g5_9, xh_g5_10, xh_g5_6, xh_g8_0, xh_g8_1, xh_g4_0, xh_g4_1, xh_g4_2, xh_g4_3, xh_g4_4, xh_g4_5, xh_g3_0, xh_g3_1, xh_g3_2, xh_p5_2, xh_p5_3, xh_p8_1, xh_p5_6, xh_p5_10, xh_p4_1, xh_p4_2, xh_p4_3, xh_p4_4, xh_p4_5, xh_p3_2, xh_rd2, xh_wr2, xh_rd4, xh_wr4, xh_rd5, xh_wr5, xh_rd15, xh_wr15, xh_len15, xh_rd16, xh_wr16, xh_len16, xh_rd17, xh_wr17, xh_len17, xh_rdA, xh_rdP, xh_wrA, xh_wrP, Option.bind_some, Option.bind_none, ↓reduceIte, if_true, if_false, c.tx, nI_1, pk_us]
        rfl
      · simp only [fX6_type, mh_O, mh_gJ, mh_pJ, mh_gI0, mh_gI1, mh_gI2, mh_gI5, mh_gI6, mh_gI9, mh_gI14, mh_gI15, mh_gI16, mh_gI17, mh_gI18, mh_gI19, mh_gI24, mh_pI0, mh_pI1, mh_pI2, mh_pI5, mh_pI6, mh_pI9, mh_pI14, mh_pI15, mh_pI16, mh_pI17, mh_pI18, mh_pI19, mh_pI24, mh_gA3, mh_gA4, mh_gA7, mh_gA8, mh_gA10, mh_gA11, mh_gA13, mh_gA20, mh_gA21, mh_gA22, mh_gA23, mh_gA25, mh_gA26, mh_gA27, mh_gA28, mh_gA29, Option.bind_some, Option.bind_none, ↓reduceIte, if_true, if_false, c.tm, i_0, i_255, (w_y (N := N) (G := mH (xH g x (upd v 2 (nI (L + 1))) t b p ip (ua r 2 (upd (r 2) L (nI k)))) (x + 19) s t a) (Nat.zero_le k) hk (by omega)).2]
        rw [if_neg (by decide), if_neg (show ¬ nI L = 100 from fun z => cc ((nI_eq (b := 100) (by omega) (by omega)).mp z))]
        simp (disch := omega) only [mh_O, mh_gJ, mh_pJ, mh_gI0, mh_gI1, mh_gI2, mh_gI5, mh_gI6, mh_gI9, mh_gI14, mh_gI15, mh_gI16, mh_gI17, mh_gI18, mh_gI19, mh_gI24, mh_pI0, mh_pI1, mh_pI2, mh_pI5, mh_pI6, mh_pI9, mh_pI14, mh_pI15, mh_pI16, mh_pI17, mh_pI18, mh_pI19, mh_pI24, mh_gA3, mh_gA4, mh_gA7, mh_gA8, mh_gA10, mh_gA11, mh_gA13, mh_gA20, mh_gA21, mh_gA22, mh_gA23, mh_gA25, mh_gA26, mh_gA27, mh_gA28, mh_gA29, mh_rd1, mh_rd2, mh_rd3, mh_rd4, mh_rd5, mh_rd6, mh_rd7, mh_rd8, mh_rd9, mh_rd10, mh_rd11, mh_rd12, mh_rd13, mh_rd14, mh_rd15, mh_rd16, mh_wr1, mh_wr2, mh_wr3, mh_wr4, mh_wr5, mh_wr6, mh_wr7, mh_wr8, mh_wr9, mh_wr10, mh_wr11, mh_wr12, mh_wr13, mh_wr14, mh_wr15, mh_wr16, Option.bind_some, Option.bind_none, ↓reduceIte, if_true, if_false, c.tm, nI_1, pk_us]
      · refine c.keep2 (L' := L + 1) (sn' := sn) (tt' := tt) (tp' := tp) (pk_un (by omega)) (fun i hi => pk_un (by omega)) (fun i hi => ua_n (by omega)) ?_ ?_ ?_ (by omega) pk_us pk_us (fun i hi => ?_)
        · rw [pk_un (by omega), ua_n (by omega)]; exact c.ca
        · unfold mS; rw [pk_un (by omega), ua_n (by omega), ua_n (by omega)]; exact c.S
        · unfold xS; rw [pk_un (by omega), ua_n (by omega), ua_n (by omega)]; exact c.Y
        · rw [ua_s, ua_s]
          by_cases ci : i = L
          · subst ci
            rw [pk_us, pk_us]
            exact ⟨rfl, k, hk, rfl⟩
          · rw [pk_un ci, pk_un ci]
            exact c.te i (by omega)
  · refine st_11 (fx := fun h => fX5_type N h (some x) a1) (fm := fun h => fX6_type N h (some (x + 19)) a1) c (v' := v) (r' := r) (t' := t) (s' := s) (a' := a) (-1) ?_ ?_ (fun _ _ => rfl) (fun _ _ => rfl) (fun _ _ => rfl) (fun _ _ => rfl) c.ca
    · simp only [fX5_type]
      rw [i_0, i_255, x_in_n hn]
      rfl
    · simp only [fX6_type]
      rw [i_0, i_255, m_in_n hn]
      rfl
theorem s_sees (hN : 2000 ≤ N) : ∀ (h : Hp) (sz : Nat) (a1 : Int32) (a2 : Int32), IV x h sz → ∃ (r : Int32) (h1 : Hp) (sz1 : Nat) (h2 : Hp), (fX5_sees N h (some x) a1 a2 = some (r, h1) ∧ sz1 = sz) ∧ isO h1 (some (x + 19)) 6 = true ∧ fX6_sees N h1 (some (x + 19)) a1 a2 = some (r, h2) ∧ IV x h2 sz1 := by
  rintro h sz a1 a2 ⟨g, v, t, b, p, ip, r, s, a, R, W, P, T, C, φ, sn, tt, tp, L, U, ψ, c⟩
  have X := c.XX
  have B := c.B
  have hR := B.1
  have hW := B.2.1
  have hP := B.2.2.1
  have hφ := c.O.2.1
  have sl := c.S.2.1
  rcases in_rng a1 (lo := 0) (hi := 119) (by omega) (by omega) with ⟨k, -, hk, rfl⟩ | hn
  · rcases in_rng a2 (lo := 0) (hi := 1) (by omega) (by omega) with ⟨q, -, hq, rfl⟩ | hn2
    · have hq' : q = 0 ∨ q = 1 := by omega
      by_cases cc : sn = 6
      · refine st_11 (fx := fun h => fX5_sees N h (some x) (nI k) (nI q)) (fm := fun h => fX6_sees N h (some (x + 19)) (nI k) (nI q)) c (v' := v) (r' := r) (t' := t) (s' := s) (a' := a) (-3) ?_ ?_ (fun _ _ => rfl) (fun _ _ => rfl) (fun _ _ => rfl) (fun _ _ => rfl) c.ca
        · simp only [fX5_sees, fX5_sees_j36, fX3_adds, xh_O5, xh_O4, xh_O3, xh_O8, xh_g5_0, xh_g5_1, xh_g5_2, xh_g5_3, xh_g5_4, xh_g5_5, xh_g5_7, xh_g5_8, xh_g5_9, xh_g5_10, xh_g5_6, xh_g8_0, xh_g8_1, xh_g4_0, xh_g4_1, xh_g4_2, xh_g4_3, xh_g4_4, xh_g4_5, xh_g3_0, xh_g3_1, xh_g3_2, xh_p5_2, xh_p5_3, xh_p8_1, xh_p5_6, xh_p5_10, xh_p4_1, xh_p4_2, xh_p4_3, xh_p4_4, xh_p4_5, xh_p3_2, xh_rd2, xh_wr2, xh_rd4, xh_wr4, xh_rd5, xh_wr5, xh_rd15, xh_wr15, xh_len15, xh_rd16, xh_wr16, xh_len16, xh_rd17, xh_wr17, xh_len17, xh_rdA, xh_rdP, xh_wrA, xh_wrP, Option.bind_some, Option.bind_none, ↓reduceIte, if_true, if_false, c.Y.1, i_0, i_1, i_119, (w_y (N := N) (G := xH (mH g (x + 19) s t a) x v t b p ip r) (Nat.zero_le k) hk (by omega)).1, (w_y (N := N) (G := xH (mH g (x + 19) s t a) x v t b p ip r) (Nat.zero_le q) hq (by omega)).1]
          rw [cc]
          rcases hq' with rfl | rfl <;> rfl
        · simp only [fX6_sees, mh_O, mh_gJ, mh_pJ, mh_gI0, mh_gI1, mh_gI2, mh_gI5, mh_gI6, mh_gI9, mh_gI14, mh_gI15, mh_gI16, mh_gI17, mh_gI18, mh_gI19, mh_gI24, mh_pI0, mh_pI1, mh_pI2, mh_pI5, mh_pI6, mh_pI9, mh_pI14, mh_pI15, mh_pI16, mh_pI17, mh_pI18, mh_pI19, mh_pI24, mh_gA3, mh_gA4, mh_gA7, mh_gA8, mh_gA10, mh_gA11, mh_gA13, mh_gA20, mh_gA21, mh_gA22, mh_gA23, mh_gA25, mh_gA26, mh_gA27, mh_gA28, mh_gA29, Option.bind_some, Option.bind_none, ↓reduceIte, if_true, if_false, c.S.1, i_0, i_1, i_119, (w_y (N := N) (G := mH (xH g x v t b p ip r) (x + 19) s t a) (Nat.zero_le k) hk (by omega)).2, (w_y (N := N) (G := mH (xH g x v t b p ip r) (x + 19) s t a) (Nat.zero_le q) hq (by omega)).2]
          rw [cc]
          rfl
      · have eb : vp_nar .boolean (nI q) = nI q := by rcases hq' with rfl | rfl <;> rfl
        refine ⟨nI (sn + 1), mH (xH g x (upd v 7 (nI (sn + 1))) t b p ip (ua (ua r 4 (upd (r 4) sn (nI k))) 5 (upd (r 5) sn (nI q)))) (x + 19) s t a, sz, mH (xH g x (upd v 7 (nI (sn + 1))) t b p ip (ua (ua r 4 (upd (r 4) sn (nI k))) 5 (upd (r 5) sn (nI q)))) (x + 19) (upd s 9 (nI (sn + 1))) t (ua (ua a 5 (upd (a 5) sn (nI k))) 6 (upd (a 6) sn (nI q))), ⟨?_, rfl⟩, mh_O, ?_, ?_⟩
        · rw [c.hx, xh_mh rfl]
          have key : fX5_sees_j36 N (xH (mH g (x + 19) s t a) x v t b p ip r) (some x) (nI q) (nI k) (some (x + 3)) = some (nI (sn + 1), xH (mH g (x + 19) s t a) x (upd v 7 (nI (sn + 1))) t b p ip (ua (ua r 4 (upd (r 4) sn (nI k))) 5 (upd (r 5) sn (nI q)))) := by
            simp only [fX5_sees_j36, fX3_adds, xh_O5, xh_O4, xh_O3, xh_O8, xh_g5_0, xh_g5_1, xh_g5_2, xh_g5_3, xh_g5_4, xh_g5_5, xh_g5_7, xh_g5_8, xh_g5_9, xh_g5_10, xh_g5_6, xh_g8_0, xh_g8_1, xh_g4_0, xh_g4_1, xh_g4_2, xh_g4_3, xh_g4_4, xh_g4_5, xh_g3_0, xh_g3_1, xh_g3_2, xh_p5_2, xh_p5_3, xh_p8_1, xh_p5_6, xh_p5_10, xh_p4_1, xh_p4_2, xh_p4_3, xh_p4_4, xh_p4_5, xh_p3_2, xh_rd2, xh_wr2, xh_rd4, xh_wr4, xh_rd5, xh_wr5, xh_rd15, xh_wr15, xh_len15, xh_rd16, xh_wr16, xh_len16, xh_rd17, xh_wr17, xh_len17, xh_rdA, xh_rdP, xh_wrA, xh_wrP, Option.bind_some, Option.bind_none, ↓reduceIte, if_true, if_false, c.Y.1]
            rw [if_pos (show nI sn < 6 from nI_lt (b := 6) (by omega) (by omega))]
            simp (disch := omega) only [xh_O5, xh_O4, xh_O3, xh_O8, xh_g5_0, xh_g5_1, xh_g5_2, xh_g5_3, xh_g5_4, xh_g5_5, xh_g5_7, xh_g5_8, xh_g5_9, xh_g5_10, xh_g5_6, xh_g8_0, xh_g8_1, xh_g4_0, xh_g4_1, xh_g4_2, xh_g4_3, xh_g4_4, xh_g4_5, xh_g3_0, xh_g3_1, xh_g3_2, xh_p5_2, xh_p5_3, xh_p8_1, xh_p5_6, xh_p5_10, xh_p4_1, xh_p4_2, xh_p4_3, xh_p4_4, xh_p4_5, xh_p3_2, xh_rd2, xh_wr2, xh_rd4, xh_wr4, xh_rd5, xh_wr5, xh_rd15, xh_wr15, xh_len15, xh_rd16, xh_wr16, xh_len16, xh_rd17, xh_wr17, xh_len17, xh_rdA, xh_rdP, xh_wrA, xh_wrP, Option.bind_some, Option.bind_none, ↓reduceIte, if_true, if_false, c.Y.1, eb, nI_1, pk_us, ua_n]
            rfl
          simp only [fX5_sees, xh_O5, xh_O4, xh_O3, xh_O8, xh_g5_0, xh_g5_1, xh_g5_2, xh_g5_3, xh_g5_4, xh_g5_5, xh_g5_7, xh_g5_8, xh_g5_9, xh_g5_10, xh_g5_6, xh_g8_0, xh_g8_1, xh_g4_0, xh_g4_1, xh_g4_2, xh_g4_3, xh_g4_4, xh_g4_5, xh_g3_0, xh_g3_1, xh_g3_2, xh_p5_2, xh_p5_3, xh_p8_1, xh_p5_6, xh_p5_10, xh_p4_1, xh_p4_2, xh_p4_3, xh_p4_4, xh_p4_5, xh_p3_2, xh_rd2, xh_wr2, xh_rd4, xh_wr4, xh_rd5, xh_wr5, xh_rd15, xh_wr15, xh_len15, xh_rd16, xh_wr16, xh_len16, xh_rd17, xh_wr17, xh_len17, xh_rdA, xh_rdP, xh_wrA, xh_wrP, Option.bind_some, Option.bind_none, ↓reduceIte, if_true, if_false]
          rw [i_0, i_1, i_119, (w_y (N := N) (G := xH (mH g (x + 19) s t a) x v t b p ip r) (Nat.zero_le k) hk (by omega)).1, (w_y (N := N) (G := xH (mH g (x + 19) s t a) x v t b p ip r) (Nat.zero_le q) hq (by omega)).1]
          rcases hq' with rfl | rfl
          · exact key
          · exact key
        · simp only [fX6_sees, mh_O, mh_gJ, mh_pJ, mh_gI0, mh_gI1, mh_gI2, mh_gI5, mh_gI6, mh_gI9, mh_gI14, mh_gI15, mh_gI16, mh_gI17, mh_gI18, mh_gI19, mh_gI24, mh_pI0, mh_pI1, mh_pI2, mh_pI5, mh_pI6, mh_pI9, mh_pI14, mh_pI15, mh_pI16, mh_pI17, mh_pI18, mh_pI19, mh_pI24, mh_gA3, mh_gA4, mh_gA7, mh_gA8, mh_gA10, mh_gA11, mh_gA13, mh_gA20, mh_gA21, mh_gA22, mh_gA23, mh_gA25, mh_gA26, mh_gA27, mh_gA28, mh_gA29, Option.bind_some, Option.bind_none, ↓reduceIte, if_true, if_false, c.S.1]
          rw [i_0, i_1, i_119, (w_y (N := N) (G := mH (xH g x (upd v 7 (nI (sn + 1))) t b p ip (ua (ua r 4 (upd (r 4) sn (nI k))) 5 (upd (r 5) sn (nI q)))) (x + 19) s t a) (Nat.zero_le k) hk (by omega)).2, (w_y (N := N) (G := mH (xH g x (upd v 7 (nI (sn + 1))) t b p ip (ua (ua r 4 (upd (r 4) sn (nI k))) 5 (upd (r 5) sn (nI q)))) (x + 19) s t a) (Nat.zero_le q) hq (by omega)).2]
          simp only [Option.bind_some, Option.bind_none, ↓reduceIte, if_true, if_false]
          rw [if_neg (by decide), if_neg (by decide), if_neg (show ¬ nI sn = 6 from fun z => cc ((nI_eq (b := 6) (by omega) (by omega)).mp z))]
          simp (disch := omega) only [mh_O, mh_gJ, mh_pJ, mh_gI0, mh_gI1, mh_gI2, mh_gI5, mh_gI6, mh_gI9, mh_gI14, mh_gI15, mh_gI16, mh_gI17, mh_gI18, mh_gI19, mh_gI24, mh_pI0, mh_pI1, mh_pI2, mh_pI5, mh_pI6, mh_pI9, mh_pI14, mh_pI15, mh_pI16, mh_pI17, mh_pI18, mh_pI19, mh_pI24, mh_gA3, mh_gA4, mh_gA7, mh_gA8, mh_gA10, mh_gA11, mh_gA13, mh_gA20, mh_gA21, mh_gA22, mh_gA23, mh_gA25, mh_gA26, mh_gA27, mh_gA28, mh_gA29, mh_rd1, mh_rd2, mh_rd3, mh_rd4, mh_rd5, mh_rd6, mh_rd7, mh_rd8, mh_rd9, mh_rd10, mh_rd11, mh_rd12, mh_rd13, mh_rd14, mh_rd15, mh_rd16, mh_wr1, mh_wr2, mh_wr3, mh_wr4, mh_wr5, mh_wr6, mh_wr7, mh_wr8, mh_wr9, mh_wr10, mh_wr11, mh_wr12, mh_wr13, mh_wr14, mh_wr15, mh_wr16, Option.bind_some, Option.bind_none, ↓reduceIte, if_true, if_false, c.S.1, nI_add, pk_us, ua_n]
        · refine c.keep2 (L' := L) (sn' := sn + 1) (tt' := fun i => if i = sn then k else tt i) (tp' := fun i => if i = sn then q else tp i) (pk_un (by omega)) (fun i hi => pk_un (by omega)) (fun i hi => by rw [ua_n (by omega), ua_n (by omega)]) ?_ ⟨pk_us, by omega, fun i hi => ?_⟩ ⟨pk_us, by omega, fun i hi => ?_⟩ c.tl ?_ ?_ ?_
          · rw [pk_un (by omega), ua_n (by omega), ua_n (by omega)]; exact c.ca
          · rw [ua_n (by omega), ua_s, ua_s]
            dsimp only
            by_cases ci : i = sn
            · subst ci
              rw [pk_us, pk_us, if_pos rfl, if_pos rfl]
              exact ⟨rfl, by omega, rfl, hq⟩
            · rw [pk_un ci, pk_un ci, if_neg ci, if_neg ci]
              exact c.S.2.2 i (by omega)
          · rw [ua_n (by omega), ua_s, ua_s]
            dsimp only
            by_cases ci : i = sn
            · subst ci
              rw [pk_us, pk_us, if_pos rfl, if_pos rfl]
              exact ⟨rfl, by omega, rfl, hq⟩
            · rw [pk_un ci, pk_un ci, if_neg ci, if_neg ci]
              exact c.Y.2.2 i (by omega)
          · rw [pk_un (by omega)]; exact c.tm
          · rw [pk_un (by omega)]; exact c.tx
          · rw [ua_n (by omega), ua_n (by omega), ua_n (by omega), ua_n (by omega)]; exact c.te
    · refine st_11 (fx := fun h => fX5_sees N h (some x) (nI k) a2) (fm := fun h => fX6_sees N h (some (x + 19)) (nI k) a2) c (v' := v) (r' := r) (t' := t) (s' := s) (a' := a) (-1) ?_ ?_ (fun _ _ => rfl) (fun _ _ => rfl) (fun _ _ => rfl) (fun _ _ => rfl) c.ca
      · simp only [fX5_sees, xh_O5, xh_O4, xh_O3, xh_O8, xh_g5_0, xh_g5_1, xh_g5_2, xh_g5_3, xh_g5_4, xh_g5_5, xh_g5_7, xh_g5_8, xh_g5_9, xh_g5_10, xh_g5_6, xh_g8_0, xh_g8_1, xh_g4_0, xh_g4_1, xh_g4_2, xh_g4_3, xh_g4_4, xh_g4_5, xh_g3_0, xh_g3_1, xh_g3_2, xh_p5_2, xh_p5_3, xh_p8_1, xh_p5_6, xh_p5_10, xh_p4_1, xh_p4_2, xh_p4_3, xh_p4_4, xh_p4_5, xh_p3_2, xh_rd2, xh_wr2, xh_rd4, xh_wr4, xh_rd5, xh_wr5, xh_rd15, xh_wr15, xh_len15, xh_rd16, xh_wr16, xh_len16, xh_rd17, xh_wr17, xh_len17, xh_rdA, xh_rdP, xh_wrA, xh_wrP, Option.bind_some, Option.bind_none, ↓reduceIte, if_true, if_false]
        rw [i_0, i_1, i_119, (w_y (N := N) (G := xH (mH g (x + 19) s t a) x v t b p ip r) (Nat.zero_le k) hk (by omega)).1, x_in_n hn2]
        rfl
      · simp only [fX6_sees, mh_O, mh_gJ, mh_pJ, mh_gI0, mh_gI1, mh_gI2, mh_gI5, mh_gI6, mh_gI9, mh_gI14, mh_gI15, mh_gI16, mh_gI17, mh_gI18, mh_gI19, mh_gI24, mh_pI0, mh_pI1, mh_pI2, mh_pI5, mh_pI6, mh_pI9, mh_pI14, mh_pI15, mh_pI16, mh_pI17, mh_pI18, mh_pI19, mh_pI24, mh_gA3, mh_gA4, mh_gA7, mh_gA8, mh_gA10, mh_gA11, mh_gA13, mh_gA20, mh_gA21, mh_gA22, mh_gA23, mh_gA25, mh_gA26, mh_gA27, mh_gA28, mh_gA29, Option.bind_some, Option.bind_none, ↓reduceIte, if_true, if_false]
        rw [i_0, i_1, i_119, (w_y (N := N) (G := mH (xH g x v t b p ip r) (x + 19) s t a) (Nat.zero_le k) hk (by omega)).2, m_in_n hn2]
        rfl
  · refine st_11 (fx := fun h => fX5_sees N h (some x) a1 a2) (fm := fun h => fX6_sees N h (some (x + 19)) a1 a2) c (v' := v) (r' := r) (t' := t) (s' := s) (a' := a) (-1) ?_ ?_ (fun _ _ => rfl) (fun _ _ => rfl) (fun _ _ => rfl) (fun _ _ => rfl) c.ca
    · simp only [fX5_sees]
      rw [i_0, i_119, x_in_n hn]
      rfl
    · simp only [fX6_sees]
      rw [i_0, i_119, m_in_n hn]
      rfl
end SD
