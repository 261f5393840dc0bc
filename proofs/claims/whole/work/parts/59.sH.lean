section SH
variable {x : Nat} {N : Nat}
theorem s_back (hN : 2000 ≤ N) : ∀ (h : Hp) (sz : Nat) (a1 : Int32), IV x h sz → ∃ (r : Int32) (h1 : Hp) (sz1 : Nat) (h2 : Hp), (fX5_back N h (some x) a1 = some (r, h1) ∧ sz1 = sz) ∧ isO h1 (some (x + 19)) 6 = true ∧ fX6_back N h1 (some (x + 19)) a1 = some (r, h2) ∧ IV x h2 sz1 := by
  rintro h sz a1 ⟨g, v, t, b, p, ip, r, s, a, R, W, P, T, C, φ, sn, tt, tp, L, U, ψ, c⟩
  have X := c.XX
  have B := c.B
  have hR := B.1
  have hW := B.2.1
  have hP := B.2.2.1
  have hφ := c.O.2.1
  have ul := c.ul
  rcases in_rng a1 (lo := 0) (hi := 1) (by omega) (by omega) with ⟨k, -, hk, rfl⟩ | hn
  · rcases c.im k (by omega) with ⟨h1, h2⟩ | ⟨i, ps, pa, q, φ', U', pp, ψ', ⟨a1, a2, a3, a4, a5, a6, a7⟩, h2, h4, h5, h6, h7, h8, h9, h10⟩
    · refine st_11 (fx := fun h => fX5_back N h (some x) (nI k)) (fm := fun h => fX6_back N h (some (x + 19)) (nI k)) c (v' := v) (r' := r) (t' := t) (s' := s) (a' := a) (-2) ?_ ?_ (fun _ _ => rfl) (fun _ _ => rfl) (fun _ _ => rfl) (fun _ _ => rfl) c.ca
      · simp only [fX5_back, xh_O5, xh_O4, xh_O3, xh_O8, xh_g5_0, xh_g5_1, xh_g5_2, xh_g5_3, xh_g5_4, xh_g5_5, xh_g5_7, xh_g5_8, xh_g5_9, xh_g5_10, xh_g5_6, xh_g8_0, xh_g8_1, xh_g4_0, xh_g4_1, xh_g4_2, xh_g4_3, xh_g4_4, xh_g4_5, xh_g3_0, xh_g3_1, xh_g3_2, xh_p5_2, xh_p5_3, xh_p8_1, xh_p5_6, xh_p5_10, xh_p4_1, xh_p4_2, xh_p4_3, xh_p4_4, xh_p4_5, xh_p3_2, xh_rd2, xh_wr2, xh_rd4, xh_wr4, xh_rd5, xh_wr5, xh_rd15, xh_wr15, xh_len15, xh_rd16, xh_wr16, xh_len16, xh_rd17, xh_wr17, xh_len17, xh_rdA, xh_rdP, xh_wrA, xh_wrP, Option.bind_some, Option.bind_none, ↓reduceIte, if_true, if_false]
        rw [i_0, i_1, (w_y (N := N) (G := xH (mH g (x + 19) s t a) x v t b p ip r) (Nat.zero_le k) hk (by omega)).1]
        simp (disch := omega) only [xh_O5, xh_O4, xh_O3, xh_O8, xh_g5_0, xh_g5_1, xh_g5_2, xh_g5_3, xh_g5_4, xh_g5_5, xh_g5_7, xh_g5_8, xh_g5_9, xh_g5_10, xh_g5_6, xh_g8_0, xh_g8_1, xh_g4_0, xh_g4_1, xh_g4_2, xh_g4_3, xh_g4_4, xh_g4_5, xh_g3_0, xh_g3_1, xh_g3_2, xh_p5_2, xh_p5_3, xh_p8_1, xh_p5_6, xh_p5_10, xh_p4_1, xh_p4_2, xh_p4_3, xh_p4_4, xh_p4_5, xh_p3_2, xh_rd2, xh_wr2, xh_rd4, xh_wr4, xh_rd5, xh_wr5, xh_rd15, xh_wr15, xh_len15, xh_rd16, xh_wr16, xh_len16, xh_rd17, xh_wr17, xh_len17, xh_rdA, xh_rdP, xh_wrA, xh_wrP, Option.bind_some, Option.bind_none, ↓reduceIte, if_true, if_false, h1]
        rfl
      · simp only [fX6_back, mh_O, mh_gJ, mh_pJ, mh_gI0, mh_gI1, mh_gI2, mh_gI5, mh_gI6, mh_gI9, mh_gI14, mh_gI15, mh_gI16, mh_gI17, mh_gI18, mh_gI19, mh_gI24, mh_pI0, mh_pI1, mh_pI2, mh_pI5, mh_pI6, mh_pI9, mh_pI14, mh_pI15, mh_pI16, mh_pI17, mh_pI18, mh_pI19, mh_pI24, mh_gA3, mh_gA4, mh_gA7, mh_gA8, mh_gA10, mh_gA11, mh_gA13, mh_gA20, mh_gA21, mh_gA22, mh_gA23, mh_gA25, mh_gA26, mh_gA27, mh_gA28, mh_gA29, Option.bind_some, Option.bind_none, ↓reduceIte, if_true, if_false]
        dsimp only at h2
        rw [Nat.add_zero] at h2
        rw [i_0, i_1, (w_y (N := N) (G := mH (xH g x v t b p ip r) (x + 19) s t a) (Nat.zero_le k) hk (by omega)).2, show (860 : Int32) * nI k = nI (860 * k) from pk_mul 860 k]
        simp (disch := omega) only [mh_O, mh_gJ, mh_pJ, mh_gI0, mh_gI1, mh_gI2, mh_gI5, mh_gI6, mh_gI9, mh_gI14, mh_gI15, mh_gI16, mh_gI17, mh_gI18, mh_gI19, mh_gI24, mh_pI0, mh_pI1, mh_pI2, mh_pI5, mh_pI6, mh_pI9, mh_pI14, mh_pI15, mh_pI16, mh_pI17, mh_pI18, mh_pI19, mh_pI24, mh_gA3, mh_gA4, mh_gA7, mh_gA8, mh_gA10, mh_gA11, mh_gA13, mh_gA20, mh_gA21, mh_gA22, mh_gA23, mh_gA25, mh_gA26, mh_gA27, mh_gA28, mh_gA29, mh_rd1, mh_rd2, mh_rd3, mh_rd4, mh_rd5, mh_rd6, mh_rd7, mh_rd8, mh_rd9, mh_rd10, mh_rd11, mh_rd12, mh_rd13, mh_rd14, mh_rd15, mh_rd16, mh_wr1, mh_wr2, mh_wr3, mh_wr4, mh_wr5, mh_wr6, mh_wr7, mh_wr8, mh_wr9, mh_wr10, mh_wr11, mh_wr12, mh_wr13, mh_wr14, mh_wr15, mh_wr16, Option.bind_some, Option.bind_none, ↓reduceIte, if_true, if_false, h2]
        rfl
    · have hφ' := h6.2.1
      have h7x : PP x (mH g (x + 19) s t a) P T C q φ' := h7.moved (fun q d y e => by rw [mh_dy d]; exact e)
      have hmv : ∀ q, dy x q → ∀ y, g q = some y → mH g (x + 19) s t a q = some y := fun q d y e => by rw [mh_dy d]; exact e
      have i3 (p0 : Nat) : xH (mH g (x + 19) s t a) x v t b p0 ip r i = some (oO 7 [.ref q, .ref ps]) := by rw [xh_dy i a2]; exact hmv _ a2 _ a3
      have i0 (p0 : Nat) : gA (xH (mH g (x + 19) s t a) x v t b p0 ip r) (some i) 7 0 = some (some q) := gA_eq (v := some q) (i3 p0) rfl
      have i1 (p0 : Nat) : gA (xH (mH g (x + 19) s t a) x v t b p0 ip r) (some i) 7 1 = some (some ps) := gA_eq (v := some ps) (i3 p0) rfl
      have eB := x_becomes (N := N) (G := mH g (x + 19) s t a) (x := x) (v := v) (t := t) (b := b) (p := q) (ip := ip) (r := r) hN a4 (hmv _ a4 _ a5) a6 (hmv _ a6 _ a7) (fun j hj => (h9.moved hmv).op j hj)
      obtain ⟨q1, q2, ia, ca, fi, fc, q3, q4, q6, q7, q8, q9⟩ := pp_read (E := xH (mH g (x + 19) s t a) x (upd v 0 (nI U')) t b q (bip ip pp) r) h7x xh_dy
      have ql : aL (xH (mH g (x + 19) s t a) x (upd v 0 (nI U')) t b q (bip ip pp) r) (some ca) = some (nI (φ' 1)) := aL_A q8 (Or.inl rfl)
      dsimp only at h2 h4 h8
      rw [Nat.add_zero] at h2
      obtain ⟨f3, f4, et, e3, e4⟩ := m_takes (g := xH g x (upd v 0 (nI U')) t b q (bip ip pp) r) (m := x + 19) (s := upd s 24 (nI U')) (t := t) (a := a) (N := N) hN (k := 16) (o := 860 * k + 2) (by omega) (by omega) (by show 860 * k + 2 + 78 ≤ 1720; omega) (by show 1720 ≤ 2000; omega)
      obtain ⟨fb, eb, hb⟩ := m_bkL (g := xH g x (upd v 0 (nI U')) t b q (bip ip pp) r) (m := x + 19) (s := upd (upd (upd s 24 (nI U')) 5 (a 16 (860 * k + 2))) 6 (a 16 (860 * k + 2 + 1))) (t := t) (a := ua (ua a 3 f3) 4 f4) (N := N) (o := 860 * k) (by omega) (K := fun h l0 => (gI h l0 6 6).bind fun v85 => some (v85, h)) N 780 0 (ua (ua a 3 f3) 4 f4 11) (by omega) (by omega) (fun i hi => by omega)
      rw [ua_id] at eb
      rw [ua_n (by omega), ua_n (by omega)] at hb
      have h8' : nF (fun i => a 16 (860 * k + 2 + i)) P φ' := nF_congr hP hφ' h8 (fun i hi => by rw [Nat.add_assoc])
      have e6 : a 16 (860 * k + 2 + 1) = nI (φ' 1) := h8'.2.1
      refine ⟨nI (φ' 1), mH (xH g x (upd v 0 (nI U')) t b q (bip ip pp) r) (x + 19) s t a, sz, mH (xH g x (upd v 0 (nI U')) t b q (bip ip pp) r) (x + 19) (upd (upd (upd s 24 (nI U')) 5 (a 16 (860 * k + 2))) 6 (a 16 (860 * k + 2 + 1))) t (ua (ua (ua a 3 f3) 4 f4) 11 fb), ⟨?_, rfl⟩, mh_O, ?_, ?_⟩
      · rw [c.hx, xh_mh rfl]
        simp only [fX5_back, xh_O5, xh_O4, xh_O3, xh_O8, xh_g5_0, xh_g5_1, xh_g5_2, xh_g5_3, xh_g5_4, xh_g5_5, xh_g5_7, xh_g5_8, xh_g5_9, xh_g5_10, xh_g5_6, xh_g8_0, xh_g8_1, xh_g4_0, xh_g4_1, xh_g4_2, xh_g4_3, xh_g4_4, xh_g4_5, xh_g3_0, xh_g3_1, xh_g3_2, xh_p5_2, xh_p5_3, xh_p8_1, xh_p5_6, xh_p5_10, xh_p4_1, xh_p4_2, xh_p4_3, xh_p4_4, xh_p4_5, xh_p3_2, xh_rd2, xh_wr2, xh_rd4, xh_wr4, xh_rd5, xh_wr5, xh_rd15, xh_wr15, xh_len15, xh_rd16, xh_wr16, xh_len16, xh_rd17, xh_wr17, xh_len17, xh_rdA, xh_rdP, xh_wrA, xh_wrP, Option.bind_some, Option.bind_none, ↓reduceIte, if_true, if_false]
        rw [i_0, i_1, (w_y (N := N) (G := xH (mH g (x + 19) s t a) x v t b p ip r) (Nat.zero_le k) hk (by omega)).1]
        simp (disch := omega) only [xh_O5, xh_O4, xh_O3, xh_O8, xh_g5_0, xh_g5_1, xh_g5_2, xh_g5_3, xh_g5_4, xh_g5_5, xh_g5_7, xh_g5_8, xh_g5_9, xh_g5_10, xh_g5_6, xh_g8_0, xh_g8_1, xh_g4_0, xh_g4_1, xh_g4_2, xh_g4_3, xh_g4_4, xh_g4_5, xh_g3_0, xh_g3_1, xh_g3_2, xh_p5_2, xh_p5_3, xh_p8_1, xh_p5_6, xh_p5_10, xh_p4_1, xh_p4_2, xh_p4_3, xh_p4_4, xh_p4_5, xh_p3_2, xh_rd2, xh_wr2, xh_rd4, xh_wr4, xh_rd5, xh_wr5, xh_rd15, xh_wr15, xh_len15, xh_rd16, xh_wr16, xh_len16, xh_rd17, xh_wr17, xh_len17, xh_rdA, xh_rdP, xh_wrA, xh_wrP, Option.bind_some, Option.bind_none, ↓reduceIte, if_true, if_false, a1, reduceCtorEq, i0 p, i1 q, eB, q4, ql]
        rw [if_neg (by decide)]
      · simp only [fX6_back, mh_O, mh_gJ, mh_pJ, mh_gI0, mh_gI1, mh_gI2, mh_gI5, mh_gI6, mh_gI9, mh_gI14, mh_gI15, mh_gI16, mh_gI17, mh_gI18, mh_gI19, mh_gI24, mh_pI0, mh_pI1, mh_pI2, mh_pI5, mh_pI6, mh_pI9, mh_pI14, mh_pI15, mh_pI16, mh_pI17, mh_pI18, mh_pI19, mh_pI24, mh_gA3, mh_gA4, mh_gA7, mh_gA8, mh_gA10, mh_gA11, mh_gA13, mh_gA20, mh_gA21, mh_gA22, mh_gA23, mh_gA25, mh_gA26, mh_gA27, mh_gA28, mh_gA29, Option.bind_some, Option.bind_none, ↓reduceIte, if_true, if_false]
        rw [i_0, i_1, (w_y (N := N) (G := mH (xH g x (upd v 0 (nI U')) t b q (bip ip pp) r) (x + 19) s t a) (Nat.zero_le k) hk (by omega)).2, show (860 : Int32) * nI k = nI (860 * k) from pk_mul 860 k, nI_add, show nI (860 * k) + 2 = nI (860 * k + 2) from nI_add (860 * k) 2]
        simp (disch := omega) only [mh_O, mh_gJ, mh_pJ, mh_gI0, mh_gI1, mh_gI2, mh_gI5, mh_gI6, mh_gI9, mh_gI14, mh_gI15, mh_gI16, mh_gI17, mh_gI18, mh_gI19, mh_gI24, mh_pI0, mh_pI1, mh_pI2, mh_pI5, mh_pI6, mh_pI9, mh_pI14, mh_pI15, mh_pI16, mh_pI17, mh_pI18, mh_pI19, mh_pI24, mh_gA3, mh_gA4, mh_gA7, mh_gA8, mh_gA10, mh_gA11, mh_gA13, mh_gA20, mh_gA21, mh_gA22, mh_gA23, mh_gA25, mh_gA26, mh_gA27, mh_gA28, mh_gA29, mh_rd1, mh_rd2, mh_rd3, mh_rd4, mh_rd5, mh_rd6, mh_rd7, mh_rd8, mh_rd9, mh_rd10, mh_rd11, mh_rd12, mh_rd13, mh_rd14, mh_rd15, mh_rd16, mh_wr1, mh_wr2, mh_wr3, mh_wr4, mh_wr5, mh_wr6, mh_wr7, mh_wr8, mh_wr9, mh_wr10, mh_wr11, mh_wr12, mh_wr13, mh_wr14, mh_wr15, mh_wr16, Option.bind_some, Option.bind_none, ↓reduceIte, if_true, if_false, h2, h4]
        rw [if_neg (by decide), if_neg (by decide), et]
        simp only [Option.bind_some, Option.bind_none, ↓reduceIte, if_true, if_false]
        refine eb.trans ?_
        simp only [mh_O, mh_gJ, mh_pJ, mh_gI0, mh_gI1, mh_gI2, mh_gI5, mh_gI6, mh_gI9, mh_gI14, mh_gI15, mh_gI16, mh_gI17, mh_gI18, mh_gI19, mh_gI24, mh_pI0, mh_pI1, mh_pI2, mh_pI5, mh_pI6, mh_pI9, mh_pI14, mh_pI15, mh_pI16, mh_pI17, mh_pI18, mh_pI19, mh_pI24, mh_gA3, mh_gA4, mh_gA7, mh_gA8, mh_gA10, mh_gA11, mh_gA13, mh_gA20, mh_gA21, mh_gA22, mh_gA23, mh_gA25, mh_gA26, mh_gA27, mh_gA28, mh_gA29, Option.bind_some, Option.bind_none, ↓reduceIte, if_true, if_false, pk_us, e6]
      · refine c.keep3 (U' := U') (ψ' := ψ') (φ' := φ') (fun i hi => pk_un hi) (fun _ => rfl) (fun i hi => by rw [pk_un (by omega), pk_un (by omega), pk_un (by omega)]) (fun k hk => by rw [ua_n (by omega), ua_n (by omega), ua_n (by omega)]) (fun _ _ _ e => e) h6 ?_ h7 h5 (by rw [pk_un (by omega), pk_un (by omega), pk_us]) pk_us (h9.row h5 (fun j hj => by unfold bip; rw [if_neg (by omega), if_pos (by omega), Nat.add_sub_cancel])) (fun j hj => ?_) (fun k hk => ?_) c.fr c.sx
        · have J := nF_mN (s := upd s 24 (nI U')) hP hφ' h8' e3 e4
          unfold mN at J ⊢
          rw [ua_n (by omega), ua_n (by omega)]
          exact J
        · rw [ua_s]
          refine nF_congr hP (CH.ok h9 j hj).2.1 (h10 j hj) (fun i hi => ?_)
          dsimp only
          rw [hb _ (by omega), show 860 * k + 80 + (78 * j + i) = 860 * k + (80 + 78 * j + i) by omega]
        · rw [ua_n (by omega), ua_n (by omega), ua_n (by omega), show bip ip pp k = ip k from if_pos hk]
          exact c.im k hk
  · refine st_11 (fx := fun h => fX5_back N h (some x) a1) (fm := fun h => fX6_back N h (some (x + 19)) a1) c (v' := v) (r' := r) (t' := t) (s' := s) (a' := a) (-1) ?_ ?_ (fun _ _ => rfl) (fun _ _ => rfl) (fun _ _ => rfl) (fun _ _ => rfl) c.ca
    · simp only [fX5_back]
      rw [i_0, i_1, x_in_n hn]
      rfl
    · simp only [fX6_back]
      rw [i_0, i_1, m_in_n hn]
      rfl
end SH
