section BK
variable {x : Nat} {N : Nat}
/-- the text, read by both -/
theorem box_read {g : Hp} {z : Nat} {t : Int64} {b p : Nat} {ip : Nat → Option Nat} {r : Nat → Nat → Int32} {s : Nat → Int32} {a : Nat → Nat → Int32} {tb : Nat → Nat} {L m : Nat} {v s1 : Nat → Int32} {a1 : Nat → Nat → Int32} (hN : 2000 ≤ N) (hz : x + 35 < z) (hL : L ≤ 100) (ht : ∀ i, i < L → r 2 i = nI (tb i) ∧ tb i ≤ 255) (h2 : v 2 = nI L) (h14 : s1 14 = nI L) (ha7 : ∀ i, i < L → a1 7 i = nI (tb i) ∧ tb i ≤ 255) : ∃ (R' W' P' : Nat) (v' fT' fC' fI' s' : Nat → Int32) (a' : Nat → Nat → Int32), (∀ i, i ≠ 3 → i ≠ 4 → i ≠ 5 → i ≠ 6 → v' i = v i) ∧ (∀ i, i ≠ 15 → i ≠ 16 → i ≠ 17 → i ≠ 18 → i ≠ 19 → s' i = s1 i) ∧ (∀ k, k ≠ 8 → k ≠ 9 → k ≠ 10 → a' k = a1 k) ∧ ((∃ f, f ≤ L ∧ fX4_faultIn N (xH (mH (bxH g z 0 0 0 (fun _ => 0) (fun _ => 0) (fun _ => 0)) (x + 19) s t a) x v t b p ip r) (some (x + 1)) (some z) = some (nI f, xH (mH (bxH g z R' W' P' fT' fC' fI') (x + 19) s t a) x v' t b p ip r) ∧ (∀ G : Hp, fX6_box N (mH G m s1 t a1) (some m) = some ((-10 : Int32) - nI f, mH G m s' t a'))) ∨ (fX4_faultIn N (xH (mH (bxH g z 0 0 0 (fun _ => 0) (fun _ => 0) (fun _ => 0)) (x + 19) s t a) x v t b p ip r) (some (x + 1)) (some z) = some (-1, xH (mH (bxH g z R' W' P' fT' fC' fI') (x + 19) s t a) x v' t b p ip r) ∧ (∀ G : Hp, fX6_box N (mH G m s1 t a1) (some m) = boxK N (mH G m s' t a') (some m) (nI (R' + W' + P'))) ∧ s' 16 = nI R' ∧ s' 17 = nI W' ∧ s' 18 = nI P' ∧ R' ≤ 4 ∧ W' ≤ 6 ∧ P' ≤ 4 ∧ okT fT' R' ∧ okW fC' W' ∧ okP fI' P' ∧ (∀ i, i < R' → a' 8 i = fT' i) ∧ (∀ i, i < W' → a' 9 i = fC' i) ∧ (∀ i, i < P' → a' 10 i = fI' i))) := by
  have k2 : upd v 4 0 2 = nI L := by rw [pk_un (by omega), h2]
  obtain ⟨v1, w1, w2, w3⟩ := x_token (N := N) (G := mH (bxH g z 0 0 0 (fun _ => 0) (fun _ => 0) (fun _ => 0)) (x + 19) s t a) (x := x) (t := t) (b := b) (p := p) (ip := ip) (v := upd v 4 0) (p0 := 0) hN k2 hL ht pk_us (Nat.zero_le _)
  have hq := rn_le (f := bln tb) (L := L) (p := 0) (Nat.zero_le _)
  generalize hs2 : upd (upd (upd (upd s1 15 0) 16 0) 17 0) 18 0 = s2
  have j14 : s2 14 = nI L := by rw [← hs2, pk_un (by omega), pk_un (by omega), pk_un (by omega), pk_un (by omega), h14]
  have j15 : s2 15 = nI 0 := by rw [← hs2, pk_un (by omega), pk_un (by omega), pk_un (by omega), pk_us]; rfl
  have j16 : s2 16 = nI 0 := by rw [← hs2, pk_un (by omega), pk_un (by omega), pk_us]; rfl
  have j17 : s2 17 = nI 0 := by rw [← hs2, pk_un (by omega), pk_us]; rfl
  have j18 : s2 18 = nI 0 := by rw [← hs2, pk_us]; rfl
  obtain ⟨R', W', P', v', fT', fC', fI', s', a', i1, i2, i3, i4⟩ := box_loop (N := N) (g := g) (z := z) (x := x) (t := t) (b := b) (p := p) (ip := ip) (r := r) (s := s) (a := a) (tb := tb) (L := L) (m := m) hN hz hL ht (K := fun h l0 => (gI h l0 4 2).bind fun v46 => some (v46, h)) (K0 := fun h => some ((-1 : Int32), h)) (M := fun h l0 => (gI h l0 6 15).bind fun v47 => some ((-10 : Int32) - v47, h)) (M0 := boxK N) N (rn (bln tb) L 0) 0 0 0 v1 (fun _ => 0) (fun _ => 0) (fun _ => 0) (upd s2 15 (nI (rn (bln tb) L 0))) a1 hq (by omega) (by omega) (by omega) (by omega) (fun i hi => by omega) (fun i hi => by omega) (fun i hi => by omega) (by rw [w3 2 (by omega) (by omega) (by omega) (by omega), k2]) w2 (by rw [pk_un (by omega), j14]) pk_us (by rw [pk_un (by omega), j16]) (by rw [pk_un (by omega), j17]) (by rw [pk_un (by omega), j18]) ha7 (fun i hi => by omega) (fun i hi => by omega) (fun i hi => by omega)
  refine ⟨R', W', P', v', fT', fC', fI', s', a', fun i a b c d => by rw [i1 i a b c d, w3 i a b c d, pk_un b], fun i a b c d e => by rw [i2 i a b c d e, pk_un a, ← hs2, pk_un d, pk_un c, pk_un b, pk_un a], i3, ?_⟩
  have eX : fX4_faultIn N (xH (mH (bxH g z 0 0 0 (fun _ => 0) (fun _ => 0) (fun _ => 0)) (x + 19) s t a) x v t b p ip r) (some (x + 1)) (some z) = fX4_faultIn_L11 N (fun h l0 => (gI h l0 4 2).bind fun v46 => some (v46, h)) (fun h l0 => (gI h l0 4 2).bind fun v46 => some (v46, h)) (fun h l0 => (gI h l0 4 2).bind fun v46 => some (v46, h)) (fun h => some ((-1 : Int32), h)) N (xH (mH (bxH g z 0 0 0 (fun _ => 0) (fun _ => 0) (fun _ => 0)) (x + 19) s t a) x v1 t b p ip r) (some (x + 1)) (some z) (nI (0 + 0 + 0)) := by
    simp only [fX4_faultIn, xh_O5, xh_O4, xh_O3, xh_O8, xh_g5_0, xh_g5_1, xh_g5_2, xh_g5_3, xh_g5_4, xh_g5_5, xh_g5_7, xh_g5_8, xh_g5_9, xh_g5_10, xh_g5_6, xh_g8_0, xh_g8_1, xh_g4_0, xh_g4_1, xh_g4_2, xh_g4_3, xh_g4_4, xh_g4_5, xh_g3_0, xh_g3_1, xh_g3_2, xh_p5_2, xh_p5_3, xh_p8_1, xh_p5_6, xh_p5_10, xh_p4_1, xh_p4_2, xh_p4_3, xh_p4_4, xh_p4_5, xh_p3_2, xh_rd2, xh_wr2, xh_rd4, xh_wr4, xh_rd5, xh_wr5, xh_rd15, xh_wr15, xh_len15, xh_rd16, xh_wr16, xh_len16, xh_rd17, xh_wr17, xh_len17, xh_rdA, xh_rdP, xh_wrA, xh_wrP, Option.bind_some, Option.bind_none, ↓reduceIte, if_true, if_false, w1]
    rfl
  have eM : ∀ G : Hp, fX6_box N (mH G m s1 t a1) (some m) = fX6_box_L26 N (fun h l0 => (gI h l0 6 15).bind fun v47 => some ((-10 : Int32) - v47, h)) (boxK N) N (mH G m (upd s2 15 (nI (rn (bln tb) L 0))) t a1) (some m) (nI (0 + 0 + 0)) := by
    intro G
    simp only [fX6_box, mh_O, mh_gJ, mh_pJ, mh_gI0, mh_gI1, mh_gI2, mh_gI5, mh_gI6, mh_gI9, mh_gI14, mh_gI15, mh_gI16, mh_gI17, mh_gI18, mh_gI19, mh_gI24, mh_pI0, mh_pI1, mh_pI2, mh_pI5, mh_pI6, mh_pI9, mh_pI14, mh_pI15, mh_pI16, mh_pI17, mh_pI18, mh_pI19, mh_pI24, mh_gA3, mh_gA4, mh_gA7, mh_gA8, mh_gA10, mh_gA11, mh_gA13, mh_gA20, mh_gA21, mh_gA22, mh_gA23, mh_gA25, mh_gA26, mh_gA27, mh_gA28, mh_gA29, Option.bind_some, Option.bind_none, ↓reduceIte, if_true, if_false, hs2, m_skip hN j14 j15 hL ha7 (Nat.zero_le _)]
    rfl
  rcases i4 with ⟨f, f1, f2, f3, f4, f5⟩ | ⟨f2, f4, rest⟩
  · refine Or.inl ⟨f, f1, eX.trans (f2.trans ?_), fun G => (eM G).trans ((f4 G).trans ?_)⟩
    · simp only [xh_O5, xh_O4, xh_O3, xh_O8, xh_g5_0, xh_g5_1, xh_g5_2, xh_g5_3, xh_g5_4, xh_g5_5, xh_g5_7, xh_g5_8, xh_g5_9, xh_g5_10, xh_g5_6, xh_g8_0, xh_g8_1, xh_g4_0, xh_g4_1, xh_g4_2, xh_g4_3, xh_g4_4, xh_g4_5, xh_g3_0, xh_g3_1, xh_g3_2, xh_p5_2, xh_p5_3, xh_p8_1, xh_p5_6, xh_p5_10, xh_p4_1, xh_p4_2, xh_p4_3, xh_p4_4, xh_p4_5, xh_p3_2, xh_rd2, xh_wr2, xh_rd4, xh_wr4, xh_rd5, xh_wr5, xh_rd15, xh_wr15, xh_len15, xh_rd16, xh_wr16, xh_len16, xh_rd17, xh_wr17, xh_len17, xh_rdA, xh_rdP, xh_wrA, xh_wrP, Option.bind_some, Option.bind_none, ↓reduceIte, if_true, if_false, f3]
    · simp only [mh_O, mh_gJ, mh_pJ, mh_gI0, mh_gI1, mh_gI2, mh_gI5, mh_gI6, mh_gI9, mh_gI14, mh_gI15, mh_gI16, mh_gI17, mh_gI18, mh_gI19, mh_gI24, mh_pI0, mh_pI1, mh_pI2, mh_pI5, mh_pI6, mh_pI9, mh_pI14, mh_pI15, mh_pI16, mh_pI17, mh_pI18, mh_pI19, mh_pI24, mh_gA3, mh_gA4, mh_gA7, mh_gA8, mh_gA10, mh_gA11, mh_gA13, mh_gA20, mh_gA21, mh_gA22, mh_gA23, mh_gA25, mh_gA26, mh_gA27, mh_gA28, mh_gA29, Option.bind_some, Option.bind_none, ↓reduceIte, if_true, if_false, f5]
  · exact Or.inr ⟨eX.trans f2, fun G => (eM G).trans (f4 G), rest⟩
set_option maxHeartbeats 1000000 in
theorem s_box (hN : 2000 ≤ N) : ∀ (h : Hp) (sz : Nat), IV x h sz → ∃ (r : Int32) (h1 : Hp) (sz1 : Nat) (h2 : Hp), (fX5_box N h sz (some x) = some (r, h1, sz1)) ∧ isO h1 (some (x + 19)) 6 = true ∧ fX6_box N h1 (some (x + 19)) = some (r, h2) ∧ IV x h2 sz1 := by
  rintro h sz ⟨g, v, t, b, p, ip, r, s, a, R, W, P, T, C, φ, sn, tt, tp, L, U, ψ, c⟩
  have X := c.XX
  have B := c.B
  have hR := B.1
  have hW := B.2.1
  have hP := B.2.2.1
  have hφ := c.O.2.1
  have sx := c.sx
  have hL := c.tl
  have ht : ∀ i, i < L → r 2 i = nI ((r 2 i).toNatClampNeg) ∧ (r 2 i).toNatClampNeg ≤ 255 := by
    intro i hi
    obtain ⟨e, k, hk, e2⟩ := c.te i hi
    rw [← e, e2, nI_clamp (by omega)]
    exact ⟨rfl, hk⟩
  have ha7 : ∀ i, i < L → a 7 i = nI ((r 2 i).toNatClampNeg) ∧ (r 2 i).toNatClampNeg ≤ 255 := by
    intro i hi
    rw [(c.te i hi).1]
    exact ht i hi
  obtain ⟨R', W', P', v', fT', fC', fI', s', a', kv, ks, ka, res⟩ := box_read (N := N) (x := x) (g := g) (z := sz) (t := t) (b := b) (p := p) (ip := ip) (r := r) (s := s) (a := a) (tb := fun i => (r 2 i).toNatClampNeg) (L := L) (m := x + 19) (v := v) (s1 := s) (a1 := a) hN sx hL ht c.tx c.tm ha7
  have eB := x_box0 (N := N) (g := g) (z := sz) (x := x) (t := t) (b := b) (p := p) (ip := ip) (r := r) (s := s) (a := a) (v := v) sx
  rcases res with ⟨f, hf, e1, e2⟩ | ⟨e1, e2, h16, h17, h18, hR', hW', hP', oT, oW, oP, h8, h9, h10⟩
  · have mv : ∀ q, dy x q → ∀ y, g q = some y → bxH g sz R' W' P' fT' fC' fI' q = some y := by
      intro q _ y e
      by_cases cq : q < sz
      · rw [bx_lt cq]; exact e
      · rw [c.fr q (by omega)] at e; cases e
    refine ⟨(-10 : Int32) - nI f, mH (xH (bxH g sz R' W' P' fT' fC' fI') x v' t b p ip r) (x + 19) s t a, sz + 4, mH (xH (bxH g sz R' W' P' fT' fC' fI') x v' t b p ip r) (x + 19) s' t a', ?_, mh_O, e2 _, ?_⟩
    · rw [c.hx, xh_mh rfl]
      simp only [fX5_box, new_x sx, eB, xh_O5, xh_O4, xh_O3, xh_O8, xh_g5_0, xh_g5_1, xh_g5_2, xh_g5_3, xh_g5_4, xh_g5_5, xh_g5_7, xh_g5_8, xh_g5_9, xh_g5_10, xh_g5_6, xh_g8_0, xh_g8_1, xh_g4_0, xh_g4_1, xh_g4_2, xh_g4_3, xh_g4_4, xh_g4_5, xh_g3_0, xh_g3_1, xh_g3_2, xh_p5_2, xh_p5_3, xh_p8_1, xh_p5_6, xh_p5_10, xh_p4_1, xh_p4_2, xh_p4_3, xh_p4_4, xh_p4_5, xh_p3_2, xh_rd2, xh_wr2, xh_rd4, xh_wr4, xh_rd5, xh_wr5, xh_rd15, xh_wr15, xh_len15, xh_rd16, xh_wr16, xh_len16, xh_rd17, xh_wr17, xh_len17, xh_rdA, xh_rdP, xh_wrA, xh_wrP, Option.bind_some, Option.bind_none, ↓reduceIte, if_true, if_false, e1, nI_m1' (show f ≤ 1000 by omega)]
    · refine (CI.mk (sn := sn) (tt := tt) (tp := tp) (L := L) (U := U) (ψ := ψ) (φ := φ) (T := T) (C := C) rfl c.B ?_ (c.X.moved mv) c.O ?_ (c.Q.moved mv) ?_ ?_ ?_ c.tl ?_ ?_ ?_ c.ul ?_ ?_ (c.ch.moved mv) ?_ ?_ ?_ (by omega)).iv
      · have H := c.H
        unfold mB at H ⊢
        rw [ks 0 (by decide) (by decide) (by decide) (by decide) (by decide), ks 1 (by decide) (by decide) (by decide) (by decide) (by decide), ks 2 (by decide) (by decide) (by decide) (by decide) (by decide), ka 1 (by decide) (by decide) (by decide), ka 2 (by decide) (by decide) (by decide)]
        exact H
      · have J := c.J
        unfold mN at J ⊢
        rw [ks 5 (by decide) (by decide) (by decide) (by decide) (by decide), ks 6 (by decide) (by decide) (by decide) (by decide) (by decide), ka 3 (by decide) (by decide) (by decide), ka 4 (by decide) (by decide) (by decide)]
        exact J
      · have S := c.S
        unfold mS at S ⊢
        rw [ks 9 (by decide) (by decide) (by decide) (by decide) (by decide), ka 5 (by decide) (by decide) (by decide), ka 6 (by decide) (by decide) (by decide)]
        exact S
      · have Y := c.Y
        unfold xS at Y ⊢
        rw [kv 7 (by decide) (by decide) (by decide) (by decide)]
        exact Y
      · rw [kv 1 (by decide) (by decide) (by decide) (by decide)]; exact c.ca
      · rw [ks 14 (by decide) (by decide) (by decide) (by decide) (by decide)]; exact c.tm
      · rw [kv 2 (by decide) (by decide) (by decide) (by decide)]; exact c.tx
      · rw [ka 7 (by decide) (by decide) (by decide)]; exact c.te
      · rw [ks 24 (by decide) (by decide) (by decide) (by decide) (by decide)]; exact c.um
      · rw [kv 0 (by decide) (by decide) (by decide) (by decide)]; exact c.ux
      · rw [ka 11 (by decide) (by decide) (by decide)]; exact c.cm
      · rw [ka 16 (by decide) (by decide) (by decide)]
        exact fun k hk => (c.im k hk).moved mv
      · intro q hq
        rw [bx_gt (by omega)]
        exact c.fr q (by omega)
  · obtain ⟨gN, fK, fA, eN, n4, n5, hK, n6, nlt, ngt⟩ := x_anew (N := N) (g := g) (z := sz) (x := x) (t := t) (b := b) (p := p) (ip := ip) (r := r) (s := s) (a := a) (v := upd v' 2 0) (R := R') (W := W') (P := P') (fT := fT') (fC := fC') (fI := fI') hN sx hP'
    obtain ⟨s2, a2, eK, q0, q1, q2, q5, q6, q9, q14, q24, qa1, qa2, qa3, qi0, qi1⟩ := m_boxK (N := N) (m := x + 19) (t := t) (a := a') (l1 := nI (R' + W' + P')) hN h16 h17 h18 hR' hW' hP'
    have tT : ∀ i, i < R' → fT' i = nI ((fT' i).toNatClampNeg) ∧ 12 ≤ (fT' i).toNatClampNeg ∧ (fT' i).toNatClampNeg ≤ 120 ∧ (fT' i).toNatClampNeg ∣ 360 := by
      intro i hi
      obtain ⟨w, e, w1, w2, w3⟩ := oT i hi
      rw [e, nI_clamp (by omega)]
      exact ⟨rfl, w1, w2, Nat.dvd_of_mod_eq_zero w3⟩
    have tC : ∀ i, i < W' → fC' i = nI ((fC' i).toNatClampNeg) ∧ 3 ≤ (fC' i).toNatClampNeg ∧ (fC' i).toNatClampNeg ≤ 99 := by
      intro i hi
      obtain ⟨w, e, w1, w2⟩ := oW i hi
      rw [e, nI_clamp (by omega)]
      exact ⟨rfl, w1, w2⟩
    have tI : ∀ i, i < P' → fI' i = nI ((fI' i).toNatClampNeg) ∧ (fI' i).toNatClampNeg ≤ 999 := by
      intro i hi
      obtain ⟨w, e, w1⟩ := oP i hi
      rw [e, nI_clamp (by omega)]
      exact ⟨rfl, w1⟩
    have X0 : gN sz = some (oO 0 [.ref (sz + 1), .ref (sz + 2), .ref (sz + 3), .int (nI R'), .int (nI W'), .int (nI P')]) := by rw [nlt _ (by omega), bx_0]
    have eI (vv : Nat → Int32) (ipp : Nat → Option Nat) (rr : Nat → Nat → Int32) : (xH (mH gN (x + 19) s t a) x vv t sz (sz + 4) ipp rr) sz = some (oO 0 [.ref (sz + 1), .ref (sz + 2), .ref (sz + 3), .int (nI R'), .int (nI W'), .int (nI P')]) := by rw [xh_dy sz (Or.inr sx), mh_dy (Or.inr sx), X0]
    refine ⟨nI (R' + W' + P'), mH (xH gN x (upd (upd (upd (upd v' 2 0) 0 0) 1 0) 7 0) t sz (sz + 4) (va_up (va_up (eip ip 10) 0 none) 1 none) r) (x + 19) s t a, sz + 7, mH (xH gN x (upd (upd (upd (upd v' 2 0) 0 0) 1 0) 7 0) t sz (sz + 4) (va_up (va_up (eip ip 10) 0 none) 1 none) r) (x + 19) s2 t a2, ?_, mh_O, (e2 _).trans (eK _), ?_⟩
    · rw [c.hx, xh_mh rfl]
      simp only [fX5_box, new_x sx, eB, xh_O5, xh_O4, xh_O3, xh_O8, xh_g5_0, xh_g5_1, xh_g5_2, xh_g5_3, xh_g5_4, xh_g5_5, xh_g5_7, xh_g5_8, xh_g5_9, xh_g5_10, xh_g5_6, xh_g8_0, xh_g8_1, xh_g4_0, xh_g4_1, xh_g4_2, xh_g4_3, xh_g4_4, xh_g4_5, xh_g3_0, xh_g3_1, xh_g3_2, xh_p5_2, xh_p5_3, xh_p8_1, xh_p5_6, xh_p5_10, xh_p4_1, xh_p4_2, xh_p4_3, xh_p4_4, xh_p4_5, xh_p3_2, xh_rd2, xh_wr2, xh_rd4, xh_wr4, xh_rd5, xh_wr5, xh_rd15, xh_wr15, xh_len15, xh_rd16, xh_wr16, xh_len16, xh_rd17, xh_wr17, xh_len17, xh_rdA, xh_rdP, xh_wrA, xh_wrP, Option.bind_some, Option.bind_none, ↓reduceIte, if_true, if_false, e1, fX4_empties, eN, isO_eq (eI _ _ _), fX0_items, gI_eq (j := 3) (eI _ _ _) rfl, gI_eq (j := 4) (eI _ _ _) rfl, gI_eq (j := 5) (eI _ _ _) rfl, nI_add]
    · refine (CI.mk (sn := 0) (tt := tt) (tp := tp) (L := 0) (U := 0) (ψ := ψ) (φ := fun q => if 2 ≤ q ∧ q < 6 then (fI' (q - 2)).toNatClampNeg else 0) (T := fun i => (fT' i).toNatClampNeg) (C := fun i => (fC' i).toNatClampNeg) (R := R') (W := W') (P := P') rfl ⟨hR', hW', hP', fun i hi => (tT i hi).2, fun i hi => (tC i hi).2⟩ ?_ ?_ ?_ ?_ ?_ ?_ ?_ (Or.inl ?_) (by omega) q14 ?_ (fun i hi => by omega) (by omega) q24 ?_ ⟨fun j hj => absurd hj (Nat.not_lt_zero j), fun j _ hj => by dsimp only; unfold va_up eip; rw [if_neg (by omega), if_neg (by omega), if_pos (by omega)]⟩ (fun j hj => by omega) ?_ ?_ (by omega)).iv
      · exact ⟨q0, q1, q2, fun i hi => by rw [qa1 i hi, h8 i hi]; exact (tT i hi).1, fun i hi => by rw [qa2 i hi, h9 i hi]; exact (tC i hi).1⟩
      · exact ⟨⟨X0, ⟨fT', by rw [nlt _ (by omega), bx_1], fun i hi => (tT i hi).1⟩, ⟨fC', by rw [nlt _ (by omega), bx_2], fun i hi => (tC i hi).1⟩⟩, Or.inr sx, Or.inr (by omega), Or.inr (by omega)⟩
      · refine ⟨?_, ?_, fun q hq => ?_, fun k hk => ?_⟩
        · dsimp only; rw [if_neg (by omega)]; omega
        · dsimp only; rw [if_neg (by omega)]; omega
        · dsimp only
          rw [if_pos ⟨by omega, by omega⟩, Nat.add_sub_cancel_left]
          exact (tI q hq).2
        · dsimp only at hk; rw [if_neg (by omega)] at hk; omega
      · refine ⟨?_, ?_, fun q hq => ?_, fun q hq => ?_⟩
        · dsimp only; rw [if_neg (by omega), q5]; rfl
        · dsimp only; rw [if_neg (by omega), q6]; rfl
        · dsimp only
          rw [if_pos ⟨by omega, by omega⟩, Nat.add_sub_cancel_left, qa3 q hq, h10 q hq]
          exact (tI q hq).1
        · dsimp only at hq; rw [if_neg (by omega)] at hq; omega
      · refine ⟨Or.inr (by omega), sz + 5, sz + 6, ?_, Or.inr (by omega), ⟨fK, n5, fun j hj => ?_⟩, Or.inr (by omega), fA, ?_, fun k hk => ?_⟩
        · dsimp only; rw [if_neg (by omega)]; exact n4
        · dsimp only
          rw [if_pos ⟨by omega, by omega⟩, Nat.add_sub_cancel_left, hK j hj]
          exact (tI j hj).1
        · dsimp only; rw [if_neg (by omega)]; exact n6
        · dsimp only at hk; rw [if_neg (by omega)] at hk; omega
      · exact ⟨q9, by omega, fun i hi => by omega⟩
      · exact ⟨pk_us, by omega, fun i hi => by omega⟩
      · rw [pk_un (by omega), pk_us]
      · rw [pk_un (by omega), pk_un (by omega), pk_un (by omega), pk_us]; rfl
      · rw [pk_un (by omega), pk_un (by omega), pk_us]; rfl
      · intro k hk
        refine Or.inl ⟨?_, ?_⟩
        · have : k = 0 ∨ k = 1 := by omega
          rcases this with rfl | rfl <;> simp [va_up]
        · have : k = 0 ∨ k = 1 := by omega
          rcases this with rfl | rfl
          · exact qi0
          · exact qi1
      · intro q hq
        rw [ngt q hq]
        exact c.fr q (by omega)
end BK
