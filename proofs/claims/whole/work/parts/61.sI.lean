section SI
variable {x : Nat} {N : Nat}
theorem okN_0 {R W P : Nat} {T C φ φ' : Nat → Nat} (O : okN R W P T C φ) (h0 : φ' 0 < 360) (h : ∀ i, i ≠ 0 → φ' i = φ i) : okN R W P T C φ' := by
  obtain ⟨h1, h2, h3, h4⟩ := O
  have ec (k f : Nat) : cF φ' k f = cF φ k f := h _ (by omega)
  refine ⟨h0, by rw [h 1 (by omega)]; exact h2, fun p hp => by rw [h _ (by omega)]; exact h3 p hp, fun k hk => ?_⟩
  rw [h 1 (by omega)] at hk
  have := h4 k hk
  unfold okC at this ⊢
  simp only [ec]
  exact this
theorem s_spins (hN : 2000 ≤ N) : ∀ (h : Hp) (sz : Nat) (a1 : Int32), IV x h sz → ∃ (r : Int32) (h1 : Hp) (sz1 : Nat) (h2 : Hp), (fX5_spins N h sz (some x) a1 = some (r, h1, sz1)) ∧ isO h1 (some (x + 19)) 6 = true ∧ fX6_spins N h1 (some (x + 19)) a1 = some (r, h2) ∧ IV x h2 sz1 := by
  rintro h sz a1 ⟨g, v, t, b, p, ip, r, s, a, R, W, P, T, C, φ, sn, tt, tp, L, U, ψ, c⟩
  have X := c.XX
  have B := c.B
  have hR := B.1
  have hW := B.2.1
  have hP := B.2.2.1
  have hφ := c.O.2.1
  have ul := c.ul
  have sx := c.sx
  rcases in_rng a1 (lo := 1) (hi := 359) (by omega) (by omega) with ⟨k, hk1, hk, rfl⟩ | hn
  · have hφ0 := c.O.1
    obtain ⟨d0, ia, ca, hp, dia, ⟨fi, hia, hfi⟩, dca, fc, hca, hfc⟩ := c.Q
    obtain ⟨s', f', V, d, n1, n2, n3, n4, n5, n6, n7, n8, n9⟩ := m_notes (g := xH (up g sz (oO 2 [.int (nI ((φ 0 + k) % 360)), .ref ia, .ref ca])) x (upd v 0 (nI (min (U + 1) 10))) t b sz (cip ip U p) r) (m := x + 19) (s := s) (t := t) (a := a) (N := N) hN c.um ul
    rw [← n4] at n5
    have g0 : g sz = none := c.fr sz (Nat.le_refl _)
    have mv := new_le (x := x) (g := g) (q := sz) (y := oO 2 [.int (nI ((φ 0 + k) % 360)), .ref ia, .ref ca]) g0
    have mv1 := new_le (x := x) (g := g) (q := sz) (y := oO 2 [.int 0, .null, .null]) g0
    have Q1 : PP x (mH (up g sz (oO 2 [.int 0, .null, .null])) (x + 19) s t a) P T C p φ := (c.Q.moved mv1).moved (fun q d y e => by rw [mh_dy d]; exact e)
    have hmod : (φ 0 + k) % 360 < 360 := Nat.mod_lt _ (by decide)
    have ec (j f : Nat) : cF (fun i => if i = 0 then (φ 0 + k) % 360 else φ i) j f = cF φ j f := if_neg (by omega)
    have hO := okN_0 (φ' := fun i => if i = 0 then (φ 0 + k) % 360 else φ i) c.O hmod (fun i hi => if_neg hi)
    have hQ : PP x (up g sz (oO 2 [.int (nI ((φ 0 + k) % 360)), .ref ia, .ref ca])) P T C sz (fun i => if i = 0 then (φ 0 + k) % 360 else φ i) := by
      refine ⟨Or.inr sx, ia, ca, up_s _ _ _, dia, ⟨fi, mv _ dia _ hia, fun j hj => (hfi j hj).trans (congrArg nI (if_neg (by omega)).symm)⟩, dca, fc, mv _ dca _ hca, fun j hj => ?_⟩
      obtain ⟨ck, c1, c2, c3⟩ := hfc j hj
      refine ⟨ck, c1, c2, ?_⟩
      rw [show cvL T C (fun i => if i = 0 then (φ 0 + k) % 360 else φ i) j = cvL T C φ j by unfold cvL; simp only [ec]]
      exact mv _ c2 _ c3
    obtain ⟨q1, q2, ia', ca', fi', fc', q3, q4, -⟩ := pp_read (E := xH (mH (up g sz (oO 2 [.int 0, .null, .null])) (x + 19) s t a) x v t b p ip r) Q1 xh_dy
    have hpE : xH (mH (up g sz (oO 2 [.int 0, .null, .null])) (x + 19) s t a) x v t b p ip r p = some (oO 2 [.int (nI (φ 0)), .ref ia, .ref ca]) := by
      rw [xh_dy p d0, mh_dy d0]
      exact mv1 _ d0 _ hp
    have g1 : gA (xH (mH (up g sz (oO 2 [.int 0, .null, .null])) (x + 19) s t a) x v t b p ip r) (some p) 2 1 = some (some ia) := gA_eq (v := some ia) hpE rfl
    have g2 : gA (xH (mH (up g sz (oO 2 [.int 0, .null, .null])) (x + 19) s t a) x v t b p ip r) (some p) 2 2 = some (some ca) := gA_eq (v := some ca) hpE rfl
    obtain ⟨p1, -⟩ := pp_read (E := xH (mH g (x + 19) s t a) x v t b p ip r) c.Qx xh_dy
    have ch := x_change (N := N) (G := mH (up g sz (oO 2 [.int (nI ((φ 0 + k) % 360)), .ref ia, .ref ca])) (x + 19) s t a) (x := x) (v := v) (t := t) (b := b) (p := p) (ip := ip) (r := r) (q := sz) hN n1 n4 ul c.ux (c.oks mv)
    have gz : gI (xH (mH (up g sz (oO 2 [.int (nI ((φ 0 + k) % 360)), .ref ia, .ref ca])) (x + 19) s t a) x (upd v 0 (nI (V + 1))) t b sz (cip ip U p) r) (some sz) 2 0 = some (nI ((φ 0 + k) % 360)) := gI_eq (new_at sx) rfl
    refine ⟨nI ((φ 0 + k) % 360), mH (xH (up g sz (oO 2 [.int (nI ((φ 0 + k) % 360)), .ref ia, .ref ca])) x (upd v 0 (nI (V + 1))) t b sz (cip ip U p) r) (x + 19) s t a, sz + 1, mH (xH (up g sz (oO 2 [.int (nI ((φ 0 + k) % 360)), .ref ia, .ref ca])) x (upd v 0 (nI (V + 1))) t b sz (cip ip U p) r) (x + 19) (upd s' 5 (nI ((φ 0 + k) % 360))) t (ua a 11 f'), ?_, mh_O, ?_, ?_⟩
    · rw [c.hx, xh_mh rfl]
      simp only [fX5_spins, xh_O5, xh_O4, xh_O3, xh_O8, xh_g5_0, xh_g5_1, xh_g5_2, xh_g5_3, xh_g5_4, xh_g5_5, xh_g5_7, xh_g5_8, xh_g5_9, xh_g5_10, xh_g5_6, xh_g8_0, xh_g8_1, xh_g4_0, xh_g4_1, xh_g4_2, xh_g4_3, xh_g4_4, xh_g4_5, xh_g3_0, xh_g3_1, xh_g3_2, xh_p5_2, xh_p5_3, xh_p8_1, xh_p5_6, xh_p5_10, xh_p4_1, xh_p4_2, xh_p4_3, xh_p4_4, xh_p4_5, xh_p3_2, xh_rd2, xh_wr2, xh_rd4, xh_wr4, xh_rd5, xh_wr5, xh_rd15, xh_wr15, xh_len15, xh_rd16, xh_wr16, xh_len16, xh_rd17, xh_wr17, xh_len17, xh_rdA, xh_rdP, xh_wrA, xh_wrP, Option.bind_some, Option.bind_none, ↓reduceIte, if_true, if_false]
      rw [i_1, i_359, (w_y (N := N) (G := xH (mH g (x + 19) s t a) x v t b p ip r) hk1 hk (by omega)).1]
      simp only [Option.bind_some, Option.bind_none, ↓reduceIte, if_true, if_false, p1]
      rw [if_neg (by decide)]
      have et : fX2_turned N (xH (mH g (x + 19) s t a) x v t b p ip r) sz (some p) (nI k) = some (some sz, xH (mH (up g sz (oO 2 [.int (nI ((φ 0 + k) % 360)), .ref ia, .ref ca])) (x + 19) s t a) x v t b p ip r, sz + 1) := by
        simp only [fX2_turned, new_x sx, q2, g1, g2, Option.bind_some, Option.bind_none, ↓reduceIte, if_true, if_false, nI_add]
        rw [i_360, x_restN (by omega) (by omega) (by omega)]
        simp only [Option.bind_some, Option.bind_none, ↓reduceIte, if_true, if_false]
        rw [x_paper (new_at sx)]
        simp only [Option.bind_some, Option.bind_none, ↓reduceIte, if_true, if_false, new_x sx, up_up]
      simp only [et, xh_O5, xh_O4, xh_O3, xh_O8, xh_g5_0, xh_g5_1, xh_g5_2, xh_g5_3, xh_g5_4, xh_g5_5, xh_g5_7, xh_g5_8, xh_g5_9, xh_g5_10, xh_g5_6, xh_g8_0, xh_g8_1, xh_g4_0, xh_g4_1, xh_g4_2, xh_g4_3, xh_g4_4, xh_g4_5, xh_g3_0, xh_g3_1, xh_g3_2, xh_p5_2, xh_p5_3, xh_p8_1, xh_p5_6, xh_p5_10, xh_p4_1, xh_p4_2, xh_p4_3, xh_p4_4, xh_p4_5, xh_p3_2, xh_rd2, xh_wr2, xh_rd4, xh_wr4, xh_rd5, xh_wr5, xh_rd15, xh_wr15, xh_len15, xh_rd16, xh_wr16, xh_len16, xh_rd17, xh_wr17, xh_len17, xh_rdA, xh_rdP, xh_wrA, xh_wrP, Option.bind_some, Option.bind_none, ↓reduceIte, if_true, if_false, ch, gz]
    · simp only [fX6_spins, mh_O, mh_gJ, mh_pJ, mh_gI0, mh_gI1, mh_gI2, mh_gI5, mh_gI6, mh_gI9, mh_gI14, mh_gI15, mh_gI16, mh_gI17, mh_gI18, mh_gI19, mh_gI24, mh_pI0, mh_pI1, mh_pI2, mh_pI5, mh_pI6, mh_pI9, mh_pI14, mh_pI15, mh_pI16, mh_pI17, mh_pI18, mh_pI19, mh_pI24, mh_gA3, mh_gA4, mh_gA7, mh_gA8, mh_gA10, mh_gA11, mh_gA13, mh_gA20, mh_gA21, mh_gA22, mh_gA23, mh_gA25, mh_gA26, mh_gA27, mh_gA28, mh_gA29, Option.bind_some, Option.bind_none, ↓reduceIte, if_true, if_false]
      rw [i_1, i_359, (w_y (N := N) (G := mH (xH (up g sz (oO 2 [.int (nI ((φ 0 + k) % 360)), .ref ia, .ref ca])) x (upd v 0 (nI (V + 1))) t b sz (cip ip U p) r) (x + 19) s t a) hk1 hk (by omega)).2, n5]
      simp only [mh_O, mh_gJ, mh_pJ, mh_gI0, mh_gI1, mh_gI2, mh_gI5, mh_gI6, mh_gI9, mh_gI14, mh_gI15, mh_gI16, mh_gI17, mh_gI18, mh_gI19, mh_gI24, mh_pI0, mh_pI1, mh_pI2, mh_pI5, mh_pI6, mh_pI9, mh_pI14, mh_pI15, mh_pI16, mh_pI17, mh_pI18, mh_pI19, mh_pI24, mh_gA3, mh_gA4, mh_gA7, mh_gA8, mh_gA10, mh_gA11, mh_gA13, mh_gA20, mh_gA21, mh_gA22, mh_gA23, mh_gA25, mh_gA26, mh_gA27, mh_gA28, mh_gA29, Option.bind_some, Option.bind_none, ↓reduceIte, if_true, if_false]
      rw [if_neg (by decide), n7 5 (by omega), c.J.1, nI_add, i_360, jrem_nI (by omega) (by omega) (by omega)]
      simp only [mh_O, mh_gJ, mh_pJ, mh_gI0, mh_gI1, mh_gI2, mh_gI5, mh_gI6, mh_gI9, mh_gI14, mh_gI15, mh_gI16, mh_gI17, mh_gI18, mh_gI19, mh_gI24, mh_pI0, mh_pI1, mh_pI2, mh_pI5, mh_pI6, mh_pI9, mh_pI14, mh_pI15, mh_pI16, mh_pI17, mh_pI18, mh_pI19, mh_pI24, mh_gA3, mh_gA4, mh_gA7, mh_gA8, mh_gA10, mh_gA11, mh_gA13, mh_gA20, mh_gA21, mh_gA22, mh_gA23, mh_gA25, mh_gA26, mh_gA27, mh_gA28, mh_gA29, Option.bind_some, Option.bind_none, ↓reduceIte, if_true, if_false, pk_us]
    · refine c.next (φ' := fun i => if i = 0 then (φ 0 + k) % 360 else φ i) (V := V) (d := d) (f' := f') mv hO hQ n1 n2 n3 n4 n8 n9 ?_ (fun i hi => by rw [pk_un (by omega), n7 i (by omega)]) (by rw [pk_un (by omega)]; exact n6) (fun k hk => ua_n (by omega)) (by rw [ua_s]) (new_fr c.fr) (by omega)
      obtain ⟨j1, j2, j3, j4⟩ := c.J
      refine ⟨?_, ?_, fun q hq => ?_, fun q hq => ?_⟩
      · rw [pk_us]; rfl
      · rw [pk_un (by omega), n7 6 (by omega)]; exact j2
      · rw [ua_n (by omega), j3 q hq]; exact congrArg nI (if_neg (by omega)).symm
      · rw [ua_n (by omega), j4 q hq]; exact congrArg nI (if_neg (by omega)).symm
  · refine ⟨-1, h, sz, h, ?_, by rw [c.hh]; exact mh_O, ?_, c.iv⟩
    · simp only [fX5_spins]
      rw [i_1, i_359, x_in_n hn]
      rfl
    · simp only [fX6_spins]
      rw [i_1, i_359, m_in_n hn]
      rfl
end SI
