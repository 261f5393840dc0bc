section SL
variable {x : Nat} {N : Nat}
def rubF (φ : Nat → Nat) (k : Nat) : Nat → Nat := fun q => if q = 1 then φ 1 - 1 else if 6 + 6 * k ≤ q then φ (q + 6) else φ q
theorem rub_c {φ : Nat → Nat} {k j f : Nat} (hf : f < 6) : cF (rubF φ k) j f = cF φ (if k ≤ j then j + 1 else j) f := by
  unfold cF rubF
  rw [if_neg (by omega)]
  by_cases c : k ≤ j
  · rw [if_pos (by omega), if_pos c]
    congr 1
    omega
  · rw [if_neg (by omega), if_neg c]
theorem rub_6 {φ : Nat → Nat} {k q : Nat} : rubF φ k (6 + q) = if 6 * k ≤ q then φ (6 + (q + 6)) else φ (6 + q) := by
  unfold rubF
  rw [if_neg (by omega)]
  by_cases c : 6 * k ≤ q
  · rw [if_pos (by omega), if_pos c, Nat.add_assoc]
  · rw [if_neg (by omega), if_neg c]
theorem rub_ok {R W P k : Nat} {T C φ : Nat → Nat} (O : okN R W P T C φ) (hP : P ≤ 4) (hk : k < φ 1) : okN R W P T C (rubF φ k) := by
  obtain ⟨h1, h2, h3, h4⟩ := O
  have e1 : rubF φ k 1 = φ 1 - 1 := if_pos rfl
  refine ⟨?_, by rw [e1]; omega, fun p hp => ?_, fun j hj => ?_⟩
  · unfold rubF; rw [if_neg (by omega), if_neg (by omega)]; exact h1
  · unfold rubF; rw [if_neg (by omega), if_neg (by omega)]; exact h3 p hp
  · rw [e1] at hj
    have := h4 (if k ≤ j then j + 1 else j) (by split <;> omega)
    unfold okC at this ⊢
    rw [rub_c (by omega), rub_c (by omega), rub_c (by omega), rub_c (by omega), rub_c (by omega), rub_c (by omega)]
    exact this
theorem rub_cv {T C φ : Nat → Nat} {k j : Nat} : cvL T C (rubF φ k) j = cvL T C φ (if k ≤ j then j + 1 else j) := by
  unfold cvL
  rw [rub_c (by omega), rub_c (by omega), rub_c (by omega), rub_c (by omega), rub_c (by omega), rub_c (by omega)]
theorem s_rubs (hN : 2000 ≤ N) : ∀ (h : Hp) (sz : Nat) (a1 : Int32), IV x h sz → ∃ (r : Int32) (h1 : Hp) (sz1 : Nat) (h2 : Hp), (fX5_rubs N h sz (some x) a1 = some (r, h1, sz1)) ∧ isO h1 (some (x + 19)) 6 = true ∧ fX6_rubs N h1 (some (x + 19)) a1 = some (r, h2) ∧ IV x h2 sz1 := by
  rintro h sz a1 ⟨g, v, t, b, p, ip, r, s, a, R, W, P, T, C, φ, sn, tt, tp, L, U, ψ, c⟩
  have X := c.XX
  have B := c.B
  have hR := B.1
  have hW := B.2.1
  have hP := B.2.2.1
  have hφ := c.O.2.1
  have ul := c.ul
  have sx := c.sx
  obtain ⟨p1, -⟩ := pp_read (E := xH (mH g (x + 19) s t a) x v t b p ip r) c.Qx xh_dy
  rcases in_or a1 (n := φ 1) (by omega) with ⟨k, hk, rfl⟩ | hn
  · obtain ⟨ci, i1, -⟩ := x_curveAt_y (N := N) (E := xH (mH g (x + 19) s t a) x v t b p ip r) c.O c.Qx xh_dy hk
    obtain ⟨d0, ia, ca, hp, dia, ⟨fi, hia, hfi⟩, dca, fc, hca, hfc⟩ := c.Q
    have g0 : g sz = none := c.fr sz (Nat.le_refl _)
    have g1 : g (sz + 1) = none := c.fr (sz + 1) (by omega)
    have mvA (u : Nat → Option Nat) := new_le (x := x) (g := g) (q := sz) (y := oA 2 (φ 1 - 1) u) g0
    have gA1 (u : Nat → Option Nat) : up g sz (oA 2 (φ 1 - 1) u) (sz + 1) = none := by rw [up_n (by omega)]; exact g1
    have atp (u : Nat → Option Nat) (q : Nat) (dq : dy x q) (y : AE) (e : g q = some y) : xH (mH (up g sz (oA 2 (φ 1 - 1) u)) (x + 19) s t a) x v t b p ip r q = some y := by rw [xh_dy q dq, mh_dy dq]; exact mvA u q dq y e
    obtain ⟨u', eL, hu'⟩ := x_rubL (N := N) (E := fun u => xH (mH (up g sz (oA 2 (φ 1 - 1) u)) (x + 19) s t a) x v t b p ip r) (sz := sz) (sz1 := sz + 1) (p := p) (ca := ca) (k := k) (n := φ 1 - 1) (m := φ 1) (fc := fc) (by omega) (by omega) hk (fun u => new_at sx) (fun u u' => by rw [new_x sx, up_up]) (fun u => gA_eq (v := some ca) (atp u p d0 _ hp) rfl) (fun u => atp u ca dca _ hca) (fun u j hj => by obtain ⟨ck, c1, c2, c3⟩ := hfc j hj; rw [c1]; exact isO_eq (atp u ck c2 _ c3)) (K := fun h sz l0 l2 => (gI (up h sz (oO 2 [.int 0, .null, .null])) l0 2 0).bind fun v54 => (gA (up h sz (oO 2 [.int 0, .null, .null])) l0 2 1).bind fun v58 => (fX2_init N (up h sz (oO 2 [.int 0, .null, .null])) (some sz) v54 v58 l2).bind fun z62 => some (some sz, z62, sz + 1)) N (φ 1 - 1) 0 (fun _ => none) (by omega) (by omega) (fun i hi => by omega)
    have mvB0 := new_le (x := x) (g := up g sz (oA 2 (φ 1 - 1) u')) (q := sz + 1) (y := oO 2 [.int 0, .null, .null]) (gA1 u')
    have mvB := new_le (x := x) (g := up g sz (oA 2 (φ 1 - 1) u')) (q := sz + 1) (y := oO 2 [.int (nI (φ 0)), .ref ia, .ref sz]) (gA1 u')
    have mv : ∀ q, dy x q → ∀ y, g q = some y → up (up g sz (oA 2 (φ 1 - 1) u')) (sz + 1) (oO 2 [.int (nI (φ 0)), .ref ia, .ref sz]) q = some y := fun q dq y e => mvB q dq y (mvA u' q dq y e)
    obtain ⟨s', f', V, d, n1, n2, n3, n4, n5, n6, n7, n8, n9⟩ := m_notes (g := xH (up (up g sz (oA 2 (φ 1 - 1) u')) (sz + 1) (oO 2 [.int (nI (φ 0)), .ref ia, .ref sz])) x (upd v 0 (nI (min (U + 1) 10))) t b (sz + 1) (cip ip U p) r) (m := x + 19) (s := s) (t := t) (a := a) (N := N) hN c.um ul
    rw [← n4] at n5
    have hpE2 : xH (mH (up (up g sz (oA 2 (φ 1 - 1) u')) (sz + 1) (oO 2 [.int 0, .null, .null])) (x + 19) s t a) x v t b p ip r p = some (oO 2 [.int (nI (φ 0)), .ref ia, .ref ca]) := by rw [xh_dy p d0, mh_dy d0]; exact mvB0 _ d0 _ (mvA u' _ d0 _ hp)
    have e0 : gI (xH (mH (up (up g sz (oA 2 (φ 1 - 1) u')) (sz + 1) (oO 2 [.int 0, .null, .null])) (x + 19) s t a) x v t b p ip r) (some p) 2 0 = some (nI (φ 0)) := gI_eq hpE2 rfl
    have e2 : gA (xH (mH (up (up g sz (oA 2 (φ 1 - 1) u')) (sz + 1) (oO 2 [.int 0, .null, .null])) (x + 19) s t a) x v t b p ip r) (some p) 2 1 = some (some ia) := gA_eq (v := some ia) hpE2 rfl
    have r0 : rubF φ k 0 = φ 0 := by unfold rubF; rw [if_neg (by omega), if_neg (by omega)]
    have r1 : rubF φ k 1 = φ 1 - 1 := if_pos rfl
    have r2 (j : Nat) (hj : j < P) : rubF φ k (2 + j) = φ (2 + j) := by unfold rubF; rw [if_neg (by omega), if_neg (by omega)]
    have hO := rub_ok c.O hP hk
    have hQ : PP x (up (up g sz (oA 2 (φ 1 - 1) u')) (sz + 1) (oO 2 [.int (nI (φ 0)), .ref ia, .ref sz])) P T C (sz + 1) (rubF φ k) := by
      refine ⟨Or.inr (by omega), ia, sz, ?_, dia, ⟨fi, mv _ dia _ hia, fun j hj => ?_⟩, Or.inr sx, u', ?_, fun j hj => ?_⟩
      · rw [up_s, r0]
      · rw [r2 j hj]; exact hfi j hj
      · rw [up_n (by omega), up_s, r1]
      · rw [r1] at hj
        obtain ⟨ck, c1, c2, c3⟩ := hfc (if k ≤ j then j + 1 else j) (by split <;> omega)
        refine ⟨ck, by rw [hu' j hj]; exact c1, c2, ?_⟩
        rw [rub_cv]
        exact mv _ c2 _ c3
    have ch := x_change (N := N) (G := mH (up (up g sz (oA 2 (φ 1 - 1) u')) (sz + 1) (oO 2 [.int (nI (φ 0)), .ref ia, .ref sz])) (x + 19) s t a) (x := x) (v := v) (t := t) (b := b) (p := p) (ip := ip) (r := r) (q := sz + 1) hN n1 n4 ul c.ux (c.oks mv)
    have gz : gA (xH (mH (up (up g sz (oA 2 (φ 1 - 1) u')) (sz + 1) (oO 2 [.int (nI (φ 0)), .ref ia, .ref sz])) (x + 19) s t a) x (upd v 0 (nI (V + 1))) t b (sz + 1) (cip ip U p) r) (some (sz + 1)) 2 2 = some (some sz) := gA_eq (v := some sz) (new_at (by omega)) rfl
    have gl : aL (xH (mH (up (up g sz (oA 2 (φ 1 - 1) u')) (sz + 1) (oO 2 [.int (nI (φ 0)), .ref ia, .ref sz])) (x + 19) s t a) x (upd v 0 (nI (V + 1))) t b (sz + 1) (cip ip U p) r) (some sz) = some (nI (φ 1 - 1)) := aL_A (f := u') (by rw [xh_dy sz (Or.inr sx), mh_dy (Or.inr sx), up_n (by omega), up_s]) (Or.inl rfl)
    have em : nI (φ 1) - 1 = nI (φ 1 - 1) := pk_sub (a := φ 1) (b := 1) (by omega)
    obtain ⟨f4, e4, h4⟩ := m_rubL (N := N) (g := xH (up (up g sz (oA 2 (φ 1 - 1) u')) (sz + 1) (oO 2 [.int (nI (φ 0)), .ref ia, .ref sz])) x (upd v 0 (nI (V + 1))) t b (sz + 1) (cip ip U p) r) (m := x + 19) (s := upd s' 6 (nI (φ 1 - 1))) (t := t) (a := ua a 11 f') (n := φ 1 - 1) (k := k) (by omega) pk_us (K := fun h l0 => (gI h l0 6 6).bind fun v62 => some (v62, h)) N (6 * (φ 1 - 1) - 6 * k) (6 * k) (ua a 11 f' 4) (by omega) (by omega) (by omega) (fun i => by rw [if_neg (by omega)])
    rw [ua_id] at e4
    rw [ua_n (by omega)] at h4
    refine ⟨nI (φ 1 - 1), mH (xH (up (up g sz (oA 2 (φ 1 - 1) u')) (sz + 1) (oO 2 [.int (nI (φ 0)), .ref ia, .ref sz])) x (upd v 0 (nI (V + 1))) t b (sz + 1) (cip ip U p) r) (x + 19) s t a, sz + 1 + 1, mH (xH (up (up g sz (oA 2 (φ 1 - 1) u')) (sz + 1) (oO 2 [.int (nI (φ 0)), .ref ia, .ref sz])) x (upd v 0 (nI (V + 1))) t b (sz + 1) (cip ip U p) r) (x + 19) (upd s' 6 (nI (φ 1 - 1))) t (ua (ua a 11 f') 4 f4), ?_, mh_O, ?_, ?_⟩
    · rw [c.hx, xh_mh rfl]
      have qca : gA (xH (mH g (x + 19) s t a) x v t b p ip r) (some p) 2 2 = some (some ca) := gA_eq (v := some ca) (by rw [xh_dy p d0, mh_dy d0]; exact hp) rfl
      have ql : aL (xH (mH g (x + 19) s t a) x v t b p ip r) (some ca) = some (nI (φ 1)) := aL_A (f := fc) (by rw [xh_dy ca dca, mh_dy dca]; exact hca) (Or.inl rfl)
      have et : fX2_rubbed N (xH (mH g (x + 19) s t a) x v t b p ip r) sz (some p) (nI k) = some (some (sz + 1), xH (mH (up (up g sz (oA 2 (φ 1 - 1) u')) (sz + 1) (oO 2 [.int (nI (φ 0)), .ref ia, .ref sz])) (x + 19) s t a) x v t b p ip r, sz + 1 + 1) := by
        simp only [fX2_rubbed, qca, ql, Option.bind_some, Option.bind_none, ↓reduceIte, if_true, if_false, em]
        rw [i_0, jmax_nI (by omega) (by omega), Nat.max_eq_left (by omega), nI_clamp (by omega), if_pos ⟨nI_neg (by omega), by omega⟩, new_x sx]
        refine eL.trans ?_
        simp only [new_x (show x + 35 < sz + 1 by omega), e0, e2, Option.bind_some, Option.bind_none, ↓reduceIte, if_true, if_false]
        rw [x_paper (new_at (show x + 35 < sz + 1 by omega))]
        simp only [Option.bind_some, Option.bind_none, ↓reduceIte, if_true, if_false, new_x (show x + 35 < sz + 1 by omega), up_up]
      simp only [fX5_rubs, xh_O5, xh_O4, xh_O3, xh_O8, xh_g5_0, xh_g5_1, xh_g5_2, xh_g5_3, xh_g5_4, xh_g5_5, xh_g5_7, xh_g5_8, xh_g5_9, xh_g5_10, xh_g5_6, xh_g8_0, xh_g8_1, xh_g4_0, xh_g4_1, xh_g4_2, xh_g4_3, xh_g4_4, xh_g4_5, xh_g3_0, xh_g3_1, xh_g3_2, xh_p5_2, xh_p5_3, xh_p8_1, xh_p5_6, xh_p5_10, xh_p4_1, xh_p4_2, xh_p4_3, xh_p4_4, xh_p4_5, xh_p3_2, xh_rd2, xh_wr2, xh_rd4, xh_wr4, xh_rd5, xh_wr5, xh_rd15, xh_wr15, xh_len15, xh_rd16, xh_wr16, xh_len16, xh_rd17, xh_wr17, xh_len17, xh_rdA, xh_rdP, xh_wrA, xh_wrP, Option.bind_some, Option.bind_none, ↓reduceIte, if_true, if_false, p1, i1, reduceCtorEq, et, ch, gz, gl]
    · simp only [fX6_rubs, mh_O, mh_gJ, mh_pJ, mh_gI0, mh_gI1, mh_gI2, mh_gI5, mh_gI6, mh_gI9, mh_gI14, mh_gI15, mh_gI16, mh_gI17, mh_gI18, mh_gI19, mh_gI24, mh_pI0, mh_pI1, mh_pI2, mh_pI5, mh_pI6, mh_pI9, mh_pI14, mh_pI15, mh_pI16, mh_pI17, mh_pI18, mh_pI19, mh_pI24, mh_gA3, mh_gA4, mh_gA7, mh_gA8, mh_gA10, mh_gA11, mh_gA13, mh_gA20, mh_gA21, mh_gA22, mh_gA23, mh_gA25, mh_gA26, mh_gA27, mh_gA28, mh_gA29, Option.bind_some, Option.bind_none, ↓reduceIte, if_true, if_false, m_isCurve_y c.J.2.1 hφ hk, n5]
      rw [if_neg (by decide), n7 6 (by omega), c.J.2.1, em, show (6 : Int32) * nI k = nI (6 * k) from pk_mul 6 k]
      refine e4.trans ?_
      simp only [mh_O, mh_gJ, mh_pJ, mh_gI0, mh_gI1, mh_gI2, mh_gI5, mh_gI6, mh_gI9, mh_gI14, mh_gI15, mh_gI16, mh_gI17, mh_gI18, mh_gI19, mh_gI24, mh_pI0, mh_pI1, mh_pI2, mh_pI5, mh_pI6, mh_pI9, mh_pI14, mh_pI15, mh_pI16, mh_pI17, mh_pI18, mh_pI19, mh_pI24, mh_gA3, mh_gA4, mh_gA7, mh_gA8, mh_gA10, mh_gA11, mh_gA13, mh_gA20, mh_gA21, mh_gA22, mh_gA23, mh_gA25, mh_gA26, mh_gA27, mh_gA28, mh_gA29, Option.bind_some, Option.bind_none, ↓reduceIte, if_true, if_false, pk_us]
    · refine c.next (φ' := rubF φ k) (V := V) (d := d) (f' := f') mv hO hQ n1 n2 n3 n4 n8 n9 ?_ (fun i hi => by rw [pk_un (by omega), n7 i (by omega)]) (by rw [pk_un (by omega)]; exact n6) (fun k hk => by rw [ua_n (by omega), ua_n (by omega)]) (by rw [ua_n (by omega), ua_s]) (new_fr (new_fr c.fr)) (by omega)
      obtain ⟨j1, j2, j3, j4⟩ := c.J
      refine ⟨?_, ?_, fun q hq => ?_, fun q hq => ?_⟩
      · rw [pk_un (by omega), n7 5 (by omega), j1, r0]
      · rw [pk_us, r1]
      · rw [ua_n (by omega), ua_n (by omega), j3 q hq, r2 q hq]
      · rw [r1] at hq
        rw [ua_s, h4 q, rub_6]
        by_cases cq : 6 * k ≤ q
        · rw [if_pos ⟨cq, hq⟩, if_pos cq, j4 (q + 6) (by omega)]
        · rw [if_neg (fun z => cq z.1), if_neg cq, j4 q (by omega)]
  · refine ⟨-1, h, sz, h, ?_, by rw [c.hh]; exact mh_O, ?_, c.iv⟩
    · rw [c.hx]
      simp only [fX5_rubs, xh_O5, xh_O4, xh_O3, xh_O8, xh_g5_0, xh_g5_1, xh_g5_2, xh_g5_3, xh_g5_4, xh_g5_5, xh_g5_7, xh_g5_8, xh_g5_9, xh_g5_10, xh_g5_6, xh_g8_0, xh_g8_1, xh_g4_0, xh_g4_1, xh_g4_2, xh_g4_3, xh_g4_4, xh_g4_5, xh_g3_0, xh_g3_1, xh_g3_2, xh_p5_2, xh_p5_3, xh_p8_1, xh_p5_6, xh_p5_10, xh_p4_1, xh_p4_2, xh_p4_3, xh_p4_4, xh_p4_5, xh_p3_2, xh_rd2, xh_wr2, xh_rd4, xh_wr4, xh_rd5, xh_wr5, xh_rd15, xh_wr15, xh_len15, xh_rd16, xh_wr16, xh_len16, xh_rd17, xh_wr17, xh_len17, xh_rdA, xh_rdP, xh_wrA, xh_wrP, Option.bind_some, Option.bind_none, ↓reduceIte, if_true, if_false, p1, x_curveAt_n (N := N) (E := xH (mH g (x + 19) s t a) x v t b p ip r) c.O c.Qx xh_dy hn]
    · rw [c.hh]
      simp only [fX6_rubs, mh_O, mh_gJ, mh_pJ, mh_gI0, mh_gI1, mh_gI2, mh_gI5, mh_gI6, mh_gI9, mh_gI14, mh_gI15, mh_gI16, mh_gI17, mh_gI18, mh_gI19, mh_gI24, mh_pI0, mh_pI1, mh_pI2, mh_pI5, mh_pI6, mh_pI9, mh_pI14, mh_pI15, mh_pI16, mh_pI17, mh_pI18, mh_pI19, mh_pI24, mh_gA3, mh_gA4, mh_gA7, mh_gA8, mh_gA10, mh_gA11, mh_gA13, mh_gA20, mh_gA21, mh_gA22, mh_gA23, mh_gA25, mh_gA26, mh_gA27, mh_gA28, mh_gA29, Option.bind_some, Option.bind_none, ↓reduceIte, if_true, if_false, m_isCurve_n c.J.2.1 hφ hn]
end SL
