section SJ
variable {x : Nat} {N : Nat}
theorem clI_eq {h : Hp} {sz a n : Nat} {f : Nat → Int32} (e : h a = some (oI 0 n f)) (hn : n ≤ 16) : clI h sz (some a) = some (up h sz (oI 0 n f)) := by simp [clI, e, oI, hn]
theorem isI_eq {h : Hp} {a n : Nat} {f : Nat → Int32} (e : h a = some (oI 0 n f)) : isI h (some a) = true := by simp [isI, e, oI]
/-- ink laid anew -/
theorem x_inkWith {E : Hp} {sz p ia ca P i : Nat} {fi : Nat → Int32} {y z : Int32} (hp : E p = some (oO 2 [.int y, .ref ia, .ref ca])) (hi : E ia = some (oI 0 P fi)) (hP : P ≤ 4) (hk : i < P) : fX2_inkWith N E sz (some p) (nI i) z = some (some sz, up E sz (oI 0 P (upd fi i z)), sz + 1) := by
  have g1 : gA E (some p) 2 1 = some (some ia) := gA_eq (v := some ia) hp rfl
  simp only [fX2_inkWith, g1, clI_eq hi (show P ≤ 16 by omega), Option.bind_some, Option.bind_none, ↓reduceIte, if_true, if_false, isI_eq (up_s _ _ _), aL_I (up_s _ _ _) (show 0 < 2 by omega)]
  rw [if_neg (nI_neg (by omega)), if_neg (nI_ge (by omega) (by omega)), wI_eq (up_s _ _ _) hk (by omega)]
  simp only [Option.bind_some, Option.bind_none, ↓reduceIte, if_true, if_false, up_up]
theorem okN_ink {R W P i k : Nat} {T C φ φ' : Nat → Nat} (O : okN R W P T C φ) (hi : i < 4) (hk : k ≤ 999) (h0 : φ' (2 + i) = k) (h : ∀ q, q ≠ 2 + i → φ' q = φ q) : okN R W P T C φ' := by
  obtain ⟨h1, h2, h3, h4⟩ := O
  have ec (k f : Nat) : cF φ' k f = cF φ k f := h _ (by omega)
  refine ⟨by rw [h 0 (by omega)]; exact h1, by rw [h 1 (by omega)]; exact h2, fun p hp => ?_, fun k hk => ?_⟩
  · by_cases c : p = i
    · rw [c, h0]; exact hk
    · rw [h _ (by omega)]; exact h3 p hp
  · rw [h 1 (by omega)] at hk
    have := h4 k hk
    unfold okC at this ⊢
    simp only [ec]
    exact this
theorem s_fills (hN : 2000 ≤ N) : ∀ (h : Hp) (sz : Nat) (a1 : Int32) (a2 : Int32), IV x h sz → ∃ (r : Int32) (h1 : Hp) (sz1 : Nat) (h2 : Hp), (fX5_fills N h sz (some x) a1 a2 = some (r, h1, sz1)) ∧ isO h1 (some (x + 19)) 6 = true ∧ fX6_fills N h1 (some (x + 19)) a1 a2 = some (r, h2) ∧ IV x h2 sz1 := by
  rintro h sz a1 a2 ⟨g, v, t, b, p, ip, r, s, a, R, W, P, T, C, φ, sn, tt, tp, L, U, ψ, c⟩
  have X := c.XX
  have B := c.B
  have hR := B.1
  have hW := B.2.1
  have hP := B.2.2.1
  have hφ := c.O.2.1
  have ul := c.ul
  have sx := c.sx
  rcases in_or a1 (n := P) (by omega) with ⟨i, hi, rfl⟩ | hn
  · rcases in_rng a2 (lo := 1) (hi := 999) (by omega) (by omega) with ⟨k, hk1, hk, rfl⟩ | hn2
    · have h999 := c.O.2.2.1 i hi
      obtain ⟨p1, -⟩ := pp_read (E := xH (mH g (x + 19) s t a) x v t b p ip r) c.Qx xh_dy
      have eink := x_inkOf (N := N) (E := xH (mH g (x + 19) s t a) x v t b p ip r) B c.O c.Qx xh_dy hi
      by_cases cf : φ (2 + i) = 999
      · refine ⟨-2, h, sz, h, ?_, by rw [c.hh]; exact mh_O, ?_, c.iv⟩
        · rw [c.hx]
          simp only [fX5_fills, xh_O5, xh_O4, xh_O3, xh_O8, xh_g5_0, xh_g5_1, xh_g5_2, xh_g5_3, xh_g5_4, xh_g5_5, xh_g5_7, xh_g5_8, xh_g5_9, xh_g5_10, xh_g5_6, xh_g8_0, xh_g8_1, xh_g4_0, xh_g4_1, xh_g4_2, xh_g4_3, xh_g4_4, xh_g4_5, xh_g3_0, xh_g3_1, xh_g3_2, xh_p5_2, xh_p5_3, xh_p8_1, xh_p5_6, xh_p5_10, xh_p4_1, xh_p4_2, xh_p4_3, xh_p4_4, xh_p4_5, xh_p3_2, xh_rd2, xh_wr2, xh_rd4, xh_wr4, xh_rd5, xh_wr5, xh_rd15, xh_wr15, xh_len15, xh_rd16, xh_wr16, xh_len16, xh_rd17, xh_wr17, xh_len17, xh_rdA, xh_rdP, xh_wrA, xh_wrP, Option.bind_some, Option.bind_none, ↓reduceIte, if_true, if_false, isO_eq X.1, x_hasPen_y X B hi, p1, eink]
          rw [if_neg (by decide), i_1, i_999, (w_y (N := N) (G := xH (mH g (x + 19) s t a) x v t b p ip r) hk1 hk (by omega)).1, cf]
          rfl
        · rw [c.hh]
          simp (disch := omega) only [fX6_fills, mh_O, mh_gJ, mh_pJ, mh_gI0, mh_gI1, mh_gI2, mh_gI5, mh_gI6, mh_gI9, mh_gI14, mh_gI15, mh_gI16, mh_gI17, mh_gI18, mh_gI19, mh_gI24, mh_pI0, mh_pI1, mh_pI2, mh_pI5, mh_pI6, mh_pI9, mh_pI14, mh_pI15, mh_pI16, mh_pI17, mh_pI18, mh_pI19, mh_pI24, mh_gA3, mh_gA4, mh_gA7, mh_gA8, mh_gA10, mh_gA11, mh_gA13, mh_gA20, mh_gA21, mh_gA22, mh_gA23, mh_gA25, mh_gA26, mh_gA27, mh_gA28, mh_gA29, mh_rd1, mh_rd2, mh_rd3, mh_rd4, mh_rd5, mh_rd6, mh_rd7, mh_rd8, mh_rd9, mh_rd10, mh_rd11, mh_rd12, mh_rd13, mh_rd14, mh_rd15, mh_rd16, mh_wr1, mh_wr2, mh_wr3, mh_wr4, mh_wr5, mh_wr6, mh_wr7, mh_wr8, mh_wr9, mh_wr10, mh_wr11, mh_wr12, mh_wr13, mh_wr14, mh_wr15, mh_wr16, Option.bind_some, Option.bind_none, ↓reduceIte, if_true, if_false, m_isPen_y c.H.2.2.1 hP hi, c.J.2.2.1 i hi]
          rw [if_neg (by decide), i_1, i_999, (w_y (N := N) (G := mH (xH g x v t b p ip r) (x + 19) s t a) hk1 hk (by omega)).2, cf]
          rfl
      · obtain ⟨d0, ia, ca, hp, dia, ⟨fi, hia, hfi⟩, dca, fc, hca, hfc⟩ := c.Q
        have g0 : g sz = none := c.fr sz (Nat.le_refl _)
        have g1 : g (sz + 1) = none := c.fr (sz + 1) (by omega)
        have mvA := new_le (x := x) (g := g) (q := sz) (y := oI 0 P (upd fi i (nI (min (φ (2 + i) + k) 999)))) g0
        have gA1 : up g sz (oI 0 P (upd fi i (nI (min (φ (2 + i) + k) 999)))) (sz + 1) = none := by rw [up_n (by omega)]; exact g1
        have mvB0 := new_le (x := x) (g := up g sz (oI 0 P (upd fi i (nI (min (φ (2 + i) + k) 999))))) (q := sz + 1) (y := oO 2 [.int 0, .null, .null]) gA1
        have mvB := new_le (x := x) (g := up g sz (oI 0 P (upd fi i (nI (min (φ (2 + i) + k) 999))))) (q := sz + 1) (y := oO 2 [.int (nI (φ 0)), .ref sz, .ref ca]) gA1
        have mv : ∀ q, dy x q → ∀ y, g q = some y → up (up g sz (oI 0 P (upd fi i (nI (min (φ (2 + i) + k) 999))))) (sz + 1) (oO 2 [.int (nI (φ 0)), .ref sz, .ref ca]) q = some y := fun q dq y e => mvB q dq y (mvA q dq y e)
        obtain ⟨s', f', V, d, n1, n2, n3, n4, n5, n6, n7, n8, n9⟩ := m_notes (g := xH (up (up g sz (oI 0 P (upd fi i (nI (min (φ (2 + i) + k) 999))))) (sz + 1) (oO 2 [.int (nI (φ 0)), .ref sz, .ref ca])) x (upd v 0 (nI (min (U + 1) 10))) t b (sz + 1) (cip ip U p) r) (m := x + 19) (s := s) (t := t) (a := a) (N := N) hN c.um ul
        rw [← n4] at n5
        have hpE : xH (mH g (x + 19) s t a) x v t b p ip r p = some (oO 2 [.int (nI (φ 0)), .ref ia, .ref ca]) := by rw [xh_dy p d0, mh_dy d0]; exact hp
        have hiE : xH (mH g (x + 19) s t a) x v t b p ip r ia = some (oI 0 P fi) := by rw [xh_dy ia dia, mh_dy dia]; exact hia
        have hpE2 : xH (mH (up (up g sz (oI 0 P (upd fi i (nI (min (φ (2 + i) + k) 999))))) (sz + 1) (oO 2 [.int 0, .null, .null])) (x + 19) s t a) x v t b p ip r p = some (oO 2 [.int (nI (φ 0)), .ref ia, .ref ca]) := by rw [xh_dy p d0, mh_dy d0]; exact mvB0 _ d0 _ (mvA _ d0 _ hp)
        have e0 : gI (xH (mH (up (up g sz (oI 0 P (upd fi i (nI (min (φ (2 + i) + k) 999))))) (sz + 1) (oO 2 [.int 0, .null, .null])) (x + 19) s t a) x v t b p ip r) (some p) 2 0 = some (nI (φ 0)) := gI_eq hpE2 rfl
        have e2 : gA (xH (mH (up (up g sz (oI 0 P (upd fi i (nI (min (φ (2 + i) + k) 999))))) (sz + 1) (oO 2 [.int 0, .null, .null])) (x + 19) s t a) x v t b p ip r) (some p) 2 2 = some (some ca) := gA_eq (v := some ca) hpE2 rfl
        have ec (j f : Nat) : cF (fun q => if q = 2 + i then min (φ (2 + i) + k) 999 else φ q) j f = cF φ j f := if_neg (by omega)
        have hO := okN_ink (φ' := fun q => if q = 2 + i then min (φ (2 + i) + k) 999 else φ q) (i := i) (k := min (φ (2 + i) + k) 999) c.O (by omega) (by omega) (if_pos rfl) (fun q hq => if_neg hq)
        have hQ : PP x (up (up g sz (oI 0 P (upd fi i (nI (min (φ (2 + i) + k) 999))))) (sz + 1) (oO 2 [.int (nI (φ 0)), .ref sz, .ref ca])) P T C (sz + 1) (fun q => if q = 2 + i then min (φ (2 + i) + k) 999 else φ q) := by
          refine ⟨Or.inr (by omega), sz, ca, ?_, Or.inr sx, ⟨upd fi i (nI (min (φ (2 + i) + k) 999)), ?_, fun j hj => ?_⟩, dca, fc, ?_, fun j hj => ?_⟩
          · dsimp only
            rw [up_s, if_neg (by omega)]
          · rw [up_n (by omega), up_s]
          · dsimp only
            by_cases cj : j = i
            · rw [cj, pk_us, if_pos rfl]
            · rw [pk_un cj, if_neg (by omega)]; exact hfi j hj
          · dsimp only
            rw [if_neg (by omega)]; exact mv _ dca _ hca
          · dsimp only at hj
            rw [if_neg (by omega)] at hj
            obtain ⟨ck, c1, c2, c3⟩ := hfc j hj
            refine ⟨ck, c1, c2, ?_⟩
            rw [show cvL T C (fun q => if q = 2 + i then min (φ (2 + i) + k) 999 else φ q) j = cvL T C φ j by unfold cvL; simp only [ec]]
            exact mv _ c2 _ c3
        have hQx : PP x (mH (up (up g sz (oI 0 P (upd fi i (nI (min (φ (2 + i) + k) 999))))) (sz + 1) (oO 2 [.int (nI (φ 0)), .ref sz, .ref ca])) (x + 19) s t a) P T C (sz + 1) (fun q => if q = 2 + i then min (φ (2 + i) + k) 999 else φ q) := hQ.moved (fun q d y e => by rw [mh_dy d]; exact e)
        obtain ⟨o1, -⟩ := pp_read (E := xH (mH (up (up g sz (oI 0 P (upd fi i (nI (min (φ (2 + i) + k) 999))))) (sz + 1) (oO 2 [.int (nI (φ 0)), .ref sz, .ref ca])) (x + 19) s t a) x (upd v 0 (nI (V + 1))) t b (sz + 1) (cip ip U p) r) hQx xh_dy
        have einkN := x_inkOf (N := N) (E := xH (mH (up (up g sz (oI 0 P (upd fi i (nI (min (φ (2 + i) + k) 999))))) (sz + 1) (oO 2 [.int (nI (φ 0)), .ref sz, .ref ca])) (x + 19) s t a) x (upd v 0 (nI (V + 1))) t b (sz + 1) (cip ip U p) r) B hO hQx xh_dy hi
        rw [if_pos rfl] at einkN
        have ch := x_change (N := N) (G := mH (up (up g sz (oI 0 P (upd fi i (nI (min (φ (2 + i) + k) 999))))) (sz + 1) (oO 2 [.int (nI (φ 0)), .ref sz, .ref ca])) (x + 19) s t a) (x := x) (v := v) (t := t) (b := b) (p := p) (ip := ip) (r := r) (q := sz + 1) hN n1 n4 ul c.ux (c.oks mv)
        refine ⟨nI (min (φ (2 + i) + k) 999), mH (xH (up (up g sz (oI 0 P (upd fi i (nI (min (φ (2 + i) + k) 999))))) (sz + 1) (oO 2 [.int (nI (φ 0)), .ref sz, .ref ca])) x (upd v 0 (nI (V + 1))) t b (sz + 1) (cip ip U p) r) (x + 19) s t a, sz + 1 + 1, mH (xH (up (up g sz (oI 0 P (upd fi i (nI (min (φ (2 + i) + k) 999))))) (sz + 1) (oO 2 [.int (nI (φ 0)), .ref sz, .ref ca])) x (upd v 0 (nI (V + 1))) t b (sz + 1) (cip ip U p) r) (x + 19) s' t (ua (ua a 11 f') 3 (upd (a 3) i (nI (min (φ (2 + i) + k) 999)))), ?_, mh_O, ?_, ?_⟩
        · rw [c.hx, xh_mh rfl]
          simp only [fX5_fills, xh_O5, xh_O4, xh_O3, xh_O8, xh_g5_0, xh_g5_1, xh_g5_2, xh_g5_3, xh_g5_4, xh_g5_5, xh_g5_7, xh_g5_8, xh_g5_9, xh_g5_10, xh_g5_6, xh_g8_0, xh_g8_1, xh_g4_0, xh_g4_1, xh_g4_2, xh_g4_3, xh_g4_4, xh_g4_5, xh_g3_0, xh_g3_1, xh_g3_2, xh_p5_2, xh_p5_3, xh_p8_1, xh_p5_6, xh_p5_10, xh_p4_1, xh_p4_2, xh_p4_3, xh_p4_4, xh_p4_5, xh_p3_2, xh_rd2, xh_wr2, xh_rd4, xh_wr4, xh_rd5, xh_wr5, xh_rd15, xh_wr15, xh_len15, xh_rd16, xh_wr16, xh_len16, xh_rd17, xh_wr17, xh_len17, xh_rdA, xh_rdP, xh_wrA, xh_wrP, Option.bind_some, Option.bind_none, ↓reduceIte, if_true, if_false, isO_eq X.1, x_hasPen_y X B hi, p1, eink]
          rw [if_neg (by decide), i_1, i_999, (w_y (N := N) (G := xH (mH g (x + 19) s t a) x v t b p ip r) hk1 hk (by omega)).1]
          simp only [Option.bind_some, Option.bind_none, ↓reduceIte, if_true, if_false]
          rw [if_neg (by decide), if_pos (nI_lt (by omega) (by omega))]
          have et : fX2_filled N (xH (mH g (x + 19) s t a) x v t b p ip r) sz (some p) (nI i) (nI k) = some (some (sz + 1), xH (mH (up (up g sz (oI 0 P (upd fi i (nI (min (φ (2 + i) + k) 999))))) (sz + 1) (oO 2 [.int (nI (φ 0)), .ref sz, .ref ca])) (x + 19) s t a) x v t b p ip r, sz + 1 + 1) := by
            simp only [fX2_filled, p1, eink, Option.bind_some, Option.bind_none, ↓reduceIte, if_true, if_false, nI_add]
            rw [i_999, jmin_nI (by omega) (by omega), x_inkWith hpE hiE hP hi]
            simp only [Option.bind_some, Option.bind_none, ↓reduceIte, if_true, if_false, new_x sx, new_x (show x + 35 < sz + 1 by omega), e0, e2]
            rw [x_paper (new_at (show x + 35 < sz + 1 by omega))]
            simp only [Option.bind_some, Option.bind_none, ↓reduceIte, if_true, if_false, new_x (show x + 35 < sz + 1 by omega), up_up]
          simp only [et, xh_O5, xh_O4, xh_O3, xh_O8, xh_g5_0, xh_g5_1, xh_g5_2, xh_g5_3, xh_g5_4, xh_g5_5, xh_g5_7, xh_g5_8, xh_g5_9, xh_g5_10, xh_g5_6, xh_g8_0, xh_g8_1, xh_g4_0, xh_g4_1, xh_g4_2, xh_g4_3, xh_g4_4, xh_g4_5, xh_g3_0, xh_g3_1, xh_g3_2, xh_p5_2, xh_p5_3, xh_p8_1, xh_p5_6, xh_p5_10, xh_p4_1, xh_p4_2, xh_p4_3, xh_p4_4, xh_p4_5, xh_p3_2, xh_rd2, xh_wr2, xh_rd4, xh_wr4, xh_rd5, xh_wr5, xh_rd15, xh_wr15, xh_len15, xh_rd16, xh_wr16, xh_len16, xh_rd17, xh_wr17, xh_len17, xh_rdA, xh_rdP, xh_wrA, xh_wrP, Option.bind_some, Option.bind_none, ↓reduceIte, if_true, if_false, ch, o1, einkN]
        · have a3 : a 3 i = nI (φ (2 + i)) := c.J.2.2.1 i hi
          simp (disch := omega) only [fX6_fills, mh_O, mh_gJ, mh_pJ, mh_gI0, mh_gI1, mh_gI2, mh_gI5, mh_gI6, mh_gI9, mh_gI14, mh_gI15, mh_gI16, mh_gI17, mh_gI18, mh_gI19, mh_gI24, mh_pI0, mh_pI1, mh_pI2, mh_pI5, mh_pI6, mh_pI9, mh_pI14, mh_pI15, mh_pI16, mh_pI17, mh_pI18, mh_pI19, mh_pI24, mh_gA3, mh_gA4, mh_gA7, mh_gA8, mh_gA10, mh_gA11, mh_gA13, mh_gA20, mh_gA21, mh_gA22, mh_gA23, mh_gA25, mh_gA26, mh_gA27, mh_gA28, mh_gA29, mh_rd1, mh_rd2, mh_rd3, mh_rd4, mh_rd5, mh_rd6, mh_rd7, mh_rd8, mh_rd9, mh_rd10, mh_rd11, mh_rd12, mh_rd13, mh_rd14, mh_rd15, mh_rd16, mh_wr1, mh_wr2, mh_wr3, mh_wr4, mh_wr5, mh_wr6, mh_wr7, mh_wr8, mh_wr9, mh_wr10, mh_wr11, mh_wr12, mh_wr13, mh_wr14, mh_wr15, mh_wr16, Option.bind_some, Option.bind_none, ↓reduceIte, if_true, if_false, m_isPen_y c.H.2.2.1 hP hi, a3]
          rw [if_neg (by decide), i_1, i_999, (w_y (N := N) (G := mH (xH (up (up g sz (oI 0 P (upd fi i (nI (min (φ (2 + i) + k) 999))))) (sz + 1) (oO 2 [.int (nI (φ 0)), .ref sz, .ref ca])) x (upd v 0 (nI (V + 1))) t b (sz + 1) (cip ip U p) r) (x + 19) s t a) hk1 hk (by omega)).2, n5]
          simp only [Option.bind_some, Option.bind_none, ↓reduceIte, if_true, if_false]
          rw [if_neg (by decide), if_neg (fun z => cf ((nI_eq (by omega) (by omega)).mp z))]
          simp (disch := omega) only [mh_O, mh_gJ, mh_pJ, mh_gI0, mh_gI1, mh_gI2, mh_gI5, mh_gI6, mh_gI9, mh_gI14, mh_gI15, mh_gI16, mh_gI17, mh_gI18, mh_gI19, mh_gI24, mh_pI0, mh_pI1, mh_pI2, mh_pI5, mh_pI6, mh_pI9, mh_pI14, mh_pI15, mh_pI16, mh_pI17, mh_pI18, mh_pI19, mh_pI24, mh_gA3, mh_gA4, mh_gA7, mh_gA8, mh_gA10, mh_gA11, mh_gA13, mh_gA20, mh_gA21, mh_gA22, mh_gA23, mh_gA25, mh_gA26, mh_gA27, mh_gA28, mh_gA29, mh_rd1, mh_rd2, mh_rd3, mh_rd4, mh_rd5, mh_rd6, mh_rd7, mh_rd8, mh_rd9, mh_rd10, mh_rd11, mh_rd12, mh_rd13, mh_rd14, mh_rd15, mh_rd16, mh_wr1, mh_wr2, mh_wr3, mh_wr4, mh_wr5, mh_wr6, mh_wr7, mh_wr8, mh_wr9, mh_wr10, mh_wr11, mh_wr12, mh_wr13, mh_wr14, mh_wr15, mh_wr16, Option.bind_some, Option.bind_none, ↓reduceIte, if_true, if_false, ua_n, a3, nI_add]
          by_cases cl : φ (2 + i) + k ≤ 999
          · rw [if_pos (nI_le cl (by omega)), Nat.min_eq_left cl, ua_s, pk_us]
          · rw [if_neg (nI_ge (by omega) (by omega)), Nat.min_eq_right (by omega), ua_s, pk_us]
        · refine c.next (φ' := fun q => if q = 2 + i then min (φ (2 + i) + k) 999 else φ q) (V := V) (d := d) (f' := f') mv hO hQ n1 n2 n3 n4 n8 n9 ?_ (fun i hi => n7 i (by omega)) n6 (fun k hk => by rw [ua_n (by omega), ua_n (by omega)]) (by rw [ua_n (by omega), ua_s]) (new_fr (new_fr c.fr)) (by omega)
          obtain ⟨j1, j2, j3, j4⟩ := c.J
          refine ⟨?_, ?_, fun q hq => ?_, fun q hq => ?_⟩
          · rw [n7 5 (by omega), j1]; exact congrArg nI (if_neg (by omega)).symm
          · rw [n7 6 (by omega), j2]; exact congrArg nI (if_neg (by omega)).symm
          · rw [ua_s]
            dsimp only
            by_cases cq : q = i
            · rw [cq, pk_us, if_pos rfl]
            · rw [pk_un cq, if_neg (by omega)]; exact j3 q hq
          · dsimp only at hq
            rw [if_neg (by omega)] at hq
            rw [ua_n (by omega), ua_n (by omega), j4 q hq]; exact congrArg nI (if_neg (by omega)).symm
    · refine ⟨-1, h, sz, h, ?_, by rw [c.hh]; exact mh_O, ?_, c.iv⟩
      · rw [c.hx]
        simp only [fX5_fills, xh_O5, xh_O4, xh_O3, xh_O8, xh_g5_0, xh_g5_1, xh_g5_2, xh_g5_3, xh_g5_4, xh_g5_5, xh_g5_7, xh_g5_8, xh_g5_9, xh_g5_10, xh_g5_6, xh_g8_0, xh_g8_1, xh_g4_0, xh_g4_1, xh_g4_2, xh_g4_3, xh_g4_4, xh_g4_5, xh_g3_0, xh_g3_1, xh_g3_2, xh_p5_2, xh_p5_3, xh_p8_1, xh_p5_6, xh_p5_10, xh_p4_1, xh_p4_2, xh_p4_3, xh_p4_4, xh_p4_5, xh_p3_2, xh_rd2, xh_wr2, xh_rd4, xh_wr4, xh_rd5, xh_wr5, xh_rd15, xh_wr15, xh_len15, xh_rd16, xh_wr16, xh_len16, xh_rd17, xh_wr17, xh_len17, xh_rdA, xh_rdP, xh_wrA, xh_wrP, Option.bind_some, Option.bind_none, ↓reduceIte, if_true, if_false, isO_eq X.1, x_hasPen_y X B hi]
        rw [if_neg (by decide), i_1, i_999, x_in_n hn2]
        rfl
      · rw [c.hh]
        simp only [fX6_fills, mh_O, mh_gJ, mh_pJ, mh_gI0, mh_gI1, mh_gI2, mh_gI5, mh_gI6, mh_gI9, mh_gI14, mh_gI15, mh_gI16, mh_gI17, mh_gI18, mh_gI19, mh_gI24, mh_pI0, mh_pI1, mh_pI2, mh_pI5, mh_pI6, mh_pI9, mh_pI14, mh_pI15, mh_pI16, mh_pI17, mh_pI18, mh_pI19, mh_pI24, mh_gA3, mh_gA4, mh_gA7, mh_gA8, mh_gA10, mh_gA11, mh_gA13, mh_gA20, mh_gA21, mh_gA22, mh_gA23, mh_gA25, mh_gA26, mh_gA27, mh_gA28, mh_gA29, Option.bind_some, Option.bind_none, ↓reduceIte, if_true, if_false, m_isPen_y c.H.2.2.1 hP hi]
        rw [if_neg (by decide), i_1, i_999, m_in_n hn2]
        rfl
  · refine ⟨-1, h, sz, h, ?_, by rw [c.hh]; exact mh_O, ?_, c.iv⟩
    · rw [c.hx]
      simp only [fX5_fills, xh_O5, xh_O4, xh_O3, xh_O8, xh_g5_0, xh_g5_1, xh_g5_2, xh_g5_3, xh_g5_4, xh_g5_5, xh_g5_7, xh_g5_8, xh_g5_9, xh_g5_10, xh_g5_6, xh_g8_0, xh_g8_1, xh_g4_0, xh_g4_1, xh_g4_2, xh_g4_3, xh_g4_4, xh_g4_5, xh_g3_0, xh_g3_1, xh_g3_2, xh_p5_2, xh_p5_3, xh_p8_1, xh_p5_6, xh_p5_10, xh_p4_1, xh_p4_2, xh_p4_3, xh_p4_4, xh_p4_5, xh_p3_2, xh_rd2, xh_wr2, xh_rd4, xh_wr4, xh_rd5, xh_wr5, xh_rd15, xh_wr15, xh_len15, xh_rd16, xh_wr16, xh_len16, xh_rd17, xh_wr17, xh_len17, xh_rdA, xh_rdP, xh_wrA, xh_wrP, Option.bind_some, Option.bind_none, ↓reduceIte, if_true, if_false, isO_eq X.1, x_hasPen_n X B hn]
    · rw [c.hh]
      simp only [fX6_fills, mh_O, mh_gJ, mh_pJ, mh_gI0, mh_gI1, mh_gI2, mh_gI5, mh_gI6, mh_gI9, mh_gI14, mh_gI15, mh_gI16, mh_gI17, mh_gI18, mh_gI19, mh_gI24, mh_pI0, mh_pI1, mh_pI2, mh_pI5, mh_pI6, mh_pI9, mh_pI14, mh_pI15, mh_pI16, mh_pI17, mh_pI18, mh_pI19, mh_pI24, mh_gA3, mh_gA4, mh_gA7, mh_gA8, mh_gA10, mh_gA11, mh_gA13, mh_gA20, mh_gA21, mh_gA22, mh_gA23, mh_gA25, mh_gA26, mh_gA27, mh_gA28, mh_gA29, Option.bind_some, Option.bind_none, ↓reduceIte, if_true, if_false, m_isPen_n c.H.2.2.1 hP hn]
end SJ
