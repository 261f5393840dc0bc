section KP
variable {g : Hp} {z : Nat} {x : Nat} {N U : Nat} {t : Int64} {b p : Nat} {ip : Nat → Option Nat} {r : Nat → Nat → Int32} {s : Nat → Int32} {a : Nat → Nat → Int32} {v : Nat → Int32} {f7 f8 : List Value} {u : Nat → Option Nat}
/-- an image laid behind all: itself, its past, its row of papers -/
def kpH (g : Hp) (z : Nat) (f7 f8 : List Value) (u : Nat → Option Nat) : Hp := up (up (up g z (oO 7 f7)) (z + 1) (oO 8 f8)) (z + 2) (oA 3 10 u)
theorem kp_0 : kpH g z f7 f8 u z = some (oO 7 f7) := by
  unfold kpH
  rw [up_n (by omega), up_n (by omega), up_s]
theorem kp_1 : kpH g z f7 f8 u (z + 1) = some (oO 8 f8) := by
  unfold kpH
  rw [up_n (by omega), up_s]
theorem kp_2 : kpH g z f7 f8 u (z + 2) = some (oA 3 10 u) := by
  unfold kpH
  rw [up_s]
theorem kp_n {q : Nat} (h : q < z ∨ z + 3 ≤ q) : kpH g z f7 f8 u q = g q := by
  unfold kpH
  rw [up_n (by omega), up_n (by omega), up_n (by omega)]
theorem kp_w {q : Nat} {y : AE} {f7' f8' : List Value} {u' : Nat → Option Nat} (hq : q = z ∨ q = z + 1 ∨ q = z + 2) (h0 : up (kpH g z f7 f8 u) q y z = some (oO 7 f7')) (h1 : up (kpH g z f7 f8 u) q y (z + 1) = some (oO 8 f8')) (h2 : up (kpH g z f7 f8 u) q y (z + 2) = some (oA 3 10 u')) : up (kpH g z f7 f8 u) q y = kpH g z f7' f8' u' := by
  funext k
  by_cases c0 : k = z
  · rw [c0, h0, kp_0]
  · by_cases c1 : k = z + 1
    · rw [c1, h1, kp_1]
    · by_cases c2 : k = z + 2
      · rw [c2, h2, kp_2]
      · rw [up_n (by omega), kp_n (by omega), kp_n (by omega)]
theorem kp_w0 {f7' : List Value} : up (kpH g z f7 f8 u) z (oO 7 f7') = kpH g z f7' f8 u := kp_w (Or.inl rfl) (up_s _ _ _) (by rw [up_n (by omega), kp_1]) (by rw [up_n (by omega), kp_2])
theorem kp_w1 {f8' : List Value} : up (kpH g z f7 f8 u) (z + 1) (oO 8 f8') = kpH g z f7 f8' u := kp_w (Or.inr (Or.inl rfl)) (by rw [up_n (by omega), kp_0]) (up_s _ _ _) (by rw [up_n (by omega), kp_2])
theorem kp_w2 {u' : Nat → Option Nat} : up (kpH g z f7 f8 u) (z + 2) (oA 3 10 u') = kpH g z f7 f8 u' := kp_w (Or.inr (Or.inr rfl)) (by rw [up_n (by omega), kp_0]) (by rw [up_n (by omega), kp_1]) (up_s _ _ _)
theorem kx_0 (hz : x + 35 < z) : xH (mH (kpH g z f7 f8 u) (x + 19) s t a) x v t b p ip r z = some (oO 7 f7) := by rw [xh_dy z (Or.inr hz), mh_dy (Or.inr hz), kp_0]
theorem kx_1 (hz : x + 35 < z) : xH (mH (kpH g z f7 f8 u) (x + 19) s t a) x v t b p ip r (z + 1) = some (oO 8 f8) := by rw [xh_dy (z + 1) (Or.inr (by omega)), mh_dy (Or.inr (by omega)), kp_1]
theorem kx_2 (hz : x + 35 < z) : xH (mH (kpH g z f7 f8 u) (x + 19) s t a) x v t b p ip r (z + 2) = some (oA 3 10 u) := by rw [xh_dy (z + 2) (Or.inr (by omega)), mh_dy (Or.inr (by omega)), kp_2]
theorem kx_p7 (hz : x + 35 < z) {j : Nat} {w : Value} (hj : j < f7.length) : pV (xH (mH (kpH g z f7 f8 u) (x + 19) s t a) x v t b p ip r) (some z) 7 j w = some (xH (mH (kpH g z (f7.set j w) f8 u) (x + 19) s t a) x v t b p ip r) := by
  rw [pV_eq (kx_0 hz) hj, new_x hz, kp_w0]
theorem kx_p8 (hz : x + 35 < z) {j : Nat} {w : Value} (hj : j < f8.length) : pV (xH (mH (kpH g z f7 f8 u) (x + 19) s t a) x v t b p ip r) (some (z + 1)) 8 j w = some (xH (mH (kpH g z f7 (f8.set j w) u) (x + 19) s t a) x v t b p ip r) := by
  rw [pV_eq (kx_1 hz) hj, new_x (by omega), kp_w1]
theorem kx_w (hz : x + 35 < z) {j : Nat} {o : Option Nat} (hj : j < 10) (ho : opP x (mH (kpH g z f7 f8 u) (x + 19) s t a) o) : wA (xH (mH (kpH g z f7 f8 u) (x + 19) s t a) x v t b p ip r) (some (z + 2)) 3 (nI j) o = some (xH (mH (kpH g z f7 f8 (va_up u j o)) (x + 19) s t a) x v t b p ip r) := by
  rw [wA_eq (kx_2 hz) hj (by omega) ho.lay, new_x (by omega), kp_w2]
theorem cpr_0 {w u : Nat → Option Nat} : cpr w u 0 = u := by
  funext j
  unfold cpr
  rw [if_neg (by omega)]
/-- an image of now -/
theorem x_kinit (hN : 2000 ≤ N) (hz : x + 35 < z) (hv : v 0 = nI U) (hO : ∀ f7 f8 u j, j < 10 → opP x (mH (kpH g z f7 f8 u) (x + 19) s t a) (ip (j + 2))) : fX7_init N (xH (mH (up g z (oO 7 [.null, .null])) (x + 19) s t a) x v t b p ip r) (z + 1) (some z) (some p) (some (x + 13)) = some (xH (mH (kpH g z [.ref p, .ref (z + 1)] [.ref (z + 2), .int (nI U)] (cpr (fun j => ip (j + 2)) (fun _ => none) 10)) (x + 19) s t a) x v t b p ip r, z + 3) := by
  have e8 : fX8_init N (up (xH (mH (up g z (oO 7 [.null, .null])) (x + 19) s t a) x v t b p ip r) (z + 1) (oO 8 [.null, .int 0])) (z + 1 + 1) (some (z + 1)) = some (xH (mH (kpH g z [.null, .null] [.ref (z + 2), .int 0] (fun _ => none)) (x + 19) s t a) x v t b p ip r, z + 3) := by
    unfold fX8_init
    rw [if_neg (by simp), new_x (by omega), show z + 1 + 1 = z + 2 from rfl, new_x (by omega)]
    show (pV (xH (mH (kpH g z [.null, .null] [.null, .int 0] (fun _ => none)) (x + 19) s t a) x v t b p ip r) (some (z + 1)) 8 0 (va_rf (some (z + 2)))).bind _ = _
    rw [kx_p8 hz (by simp)]
    simp only [Option.bind_some, Option.bind_none, ↓reduceIte, if_true, if_false]
    rw [kx_p8 hz (by simp)]
    simp only [Option.bind_some, Option.bind_none, ↓reduceIte, if_true, if_false]
    rfl
  have eL := x_becL (N := N) (E := fun u => xH (mH (kpH g z [.ref p, .ref (z + 1)] [.ref (z + 2), .int 0] u) (x + 19) s t a) x v t b p ip r) (l0 := z + 1) (l1 := x + 13) (ta := z + 2) (sa := x + 14) (w := fun j => ip (j + 2)) (u := fun _ => none) (fun u => gA_eq (v := some (z + 2)) (kx_1 hz) rfl) (fun u => xh_g8_0) (fun u j hj => xh_rdP hj) (fun u j hj => kx_w hz hj (hO _ _ _ j hj)) (K := fun h l0 l1 => (gI h l1 8 1).bind fun v28 => (pV h l0 8 1 (.int v28)).bind fun h31 => some h31) N 10 0 (by omega) (by omega)
  rw [cpr_0] at eL
  have eB : fX8_becomes N (xH (mH (kpH g z [.ref p, .ref (z + 1)] [.ref (z + 2), .int 0] (fun _ => none)) (x + 19) s t a) x v t b p ip r) (some (z + 1)) (some (x + 13)) = some (xH (mH (kpH g z [.ref p, .ref (z + 1)] [.ref (z + 2), .int (nI U)] (cpr (fun j => ip (j + 2)) (fun _ => none) 10)) (x + 19) s t a) x v t b p ip r) := by
    rw [fX8_becomes]
    refine eL.trans ?_
    simp only [xh_g8_1, hv, Option.bind_some, Option.bind_none, ↓reduceIte, if_true, if_false]
    rw [kx_p8 hz (by simp)]
    simp only [Option.bind_some, Option.bind_none, ↓reduceIte, if_true, if_false]
    rfl
  unfold fX7_init
  rw [if_neg (by simp), e8]
  simp only [Option.bind_some, Option.bind_none, ↓reduceIte, if_true, if_false]
  rw [kx_p7 hz (by simp)]
  simp only [Option.bind_some, Option.bind_none, ↓reduceIte, if_true, if_false]
  rw [kx_p7 hz (by simp)]
  simp only [Option.bind_some, Option.bind_none, ↓reduceIte, if_true, if_false, List.set_cons_zero, List.set_cons_succ, va_rf]
  rw [gA_eq (v := some (z + 1)) (kx_0 hz) rfl]
  simp only [Option.bind_some, Option.bind_none, ↓reduceIte, if_true, if_false, isO_eq (kx_1 hz), eB]
end KP
section SG2
variable {x : Nat} {N : Nat}
theorem s_keep (hN : 2000 ≤ N) : ∀ (h : Hp) (sz : Nat) (a1 : Int32), IV x h sz → ∃ (r : Int32) (h1 : Hp) (sz1 : Nat) (h2 : Hp), (fX5_keep N h sz (some x) a1 = some (r, h1, sz1)) ∧ isO h1 (some (x + 19)) 6 = true ∧ fX6_keep N h1 (some (x + 19)) a1 = some (r, h2) ∧ IV x h2 sz1 := by
  rintro h sz a1 ⟨g, v, t, b, p, ip, r, s, a, R, W, P, T, C, φ, sn, tt, tp, L, U, ψ, c⟩
  have X := c.XX
  have B := c.B
  have hR := B.1
  have hW := B.2.1
  have hP := B.2.2.1
  have hφ := c.O.2.1
  have ul := c.ul
  have sx := c.sx
  rcases in_rng a1 (lo := 0) (hi := 1) (by omega) (by omega) with ⟨k, -, hk, rfl⟩ | hn
  · have mv (f7 f8 : List Value) (u : Nat → Option Nat) : ∀ q, dy x q → ∀ y, g q = some y → kpH g sz f7 f8 u q = some y := by
      intro q _ y e
      by_cases cq : q < sz
      · rw [kp_n (Or.inl cq)]; exact e
      · rw [c.fr q (by omega)] at e; cases e
    have eI := x_kinit (N := N) (g := g) (z := sz) (x := x) (U := U) (t := t) (b := b) (p := p) (ip := ip) (r := r) (s := s) (a := a) (v := v) hN sx c.ux (fun f7 f8 u j hj => (c.oks (mv f7 f8 u)).2 j hj)
    have mv := mv [.ref p, .ref (sz + 1)] [.ref (sz + 2), .int (nI U)] (cpr (fun j => ip (j + 2)) (fun _ => none) 10)
    have h0 : kpH g sz [.ref p, .ref (sz + 1)] [.ref (sz + 2), .int (nI U)] (cpr (fun j => ip (j + 2)) (fun _ => none) 10) sz = some (oO 7 [.ref p, .ref (sz + 1)]) := kp_0
    have h1 : kpH g sz [.ref p, .ref (sz + 1)] [.ref (sz + 2), .int (nI U)] (cpr (fun j => ip (j + 2)) (fun _ => none) 10) (sz + 1) = some (oO 8 [.ref (sz + 2), .int (nI U)]) := kp_1
    have h2 : kpH g sz [.ref p, .ref (sz + 1)] [.ref (sz + 2), .int (nI U)] (cpr (fun j => ip (j + 2)) (fun _ => none) 10) (sz + 2) = some (oA 3 10 (cpr (fun j => ip (j + 2)) (fun _ => none) 10)) := kp_2
    have h3 : ∀ q, sz + 3 ≤ q → kpH g sz [.ref p, .ref (sz + 1)] [.ref (sz + 2), .int (nI U)] (cpr (fun j => ip (j + 2)) (fun _ => none) 10) q = none := fun q hq => by
      rw [kp_n (Or.inr hq)]
      exact c.fr q (by omega)
    have hw : isO (xH (mH (kpH g sz [.ref p, .ref (sz + 1)] [.ref (sz + 2), .int (nI U)] (cpr (fun j => ip (j + 2)) (fun _ => none) 10)) (x + 19) s t a) x v t b p ip r) (some sz) (8 - 1) = true := isO_eq (kx_0 sx)
    generalize kpH g sz [.ref p, .ref (sz + 1)] [.ref (sz + 2), .int (nI U)] (cpr (fun j => ip (j + 2)) (fun _ => none) 10) = g' at eI mv h0 h1 h2 h3 hw
    have Qx : PP x (mH g' (x + 19) s t a) P T C p φ := (c.Q.moved mv).moved (fun q d y e => by rw [mh_dy d]; exact e)
    obtain ⟨q1, q2, ia, ca, fi, fc, q3, q4, q6, q7, q8, q9⟩ := pp_read (E := xH (mH g' (x + 19) s t a) x v t b p (va_up ip k (some sz)) r) Qx xh_dy
    have ql : aL (xH (mH g' (x + 19) s t a) x v t b p (va_up ip k (some sz)) r) (some ca) = some (nI (φ 1)) := aL_A q8 (Or.inl rfl)
    obtain ⟨fl, el, hl⟩ := m_lays (g := xH g' x v t b p (va_up ip k (some sz)) r) (m := x + 19) (s := s) (t := t) (a := ua a 16 (upd (upd (a 16) (860 * k) (nI 1)) (860 * k + 1) (nI U))) (N := N) hN (k := 16) (o := 860 * k + 2) (by omega) (by omega) (by show 860 * k + 2 + 78 ≤ 1720; omega) (by show 1720 ≤ 2000; omega)
    rw [ua_ua] at el
    simp only [ua_s, curF_ua (show 5 ≤ 16 by omega)] at hl
    obtain ⟨fk, ek, hkk⟩ := m_kpL (g := xH g' x v t b p (va_up ip k (some sz)) r) (m := x + 19) (s := s) (t := t) (a := ua a 16 fl) (N := N) (o := 860 * k) (by omega) (K := fun h l0 => (gI h l0 6 6).bind fun v80 => some (v80, h)) N 780 0 fl (by omega) (by omega) (fun i => by rw [ua_s, if_neg (by omega)])
    simp only [ua_ua] at ek
    rw [ua_s, ua_n (by omega)] at hkk
    refine ⟨nI (φ 1), mH (xH g' x v t b p (va_up ip k (some sz)) r) (x + 19) s t a, sz + 3, mH (xH g' x v t b p (va_up ip k (some sz)) r) (x + 19) s t (ua a 16 fk), ?_, mh_O, ?_, ?_⟩
    · rw [c.hx, xh_mh rfl]
      simp only [fX5_keep, xh_O5, xh_O4, xh_O3, xh_O8, xh_g5_0, xh_g5_1, xh_g5_2, xh_g5_3, xh_g5_4, xh_g5_5, xh_g5_7, xh_g5_8, xh_g5_9, xh_g5_10, xh_g5_6, xh_g8_0, xh_g8_1, xh_g4_0, xh_g4_1, xh_g4_2, xh_g4_3, xh_g4_4, xh_g4_5, xh_g3_0, xh_g3_1, xh_g3_2, xh_p5_2, xh_p5_3, xh_p8_1, xh_p5_6, xh_p5_10, xh_p4_1, xh_p4_2, xh_p4_3, xh_p4_4, xh_p4_5, xh_p3_2, xh_rd2, xh_wr2, xh_rd4, xh_wr4, xh_rd5, xh_wr5, xh_rd15, xh_wr15, xh_len15, xh_rd16, xh_wr16, xh_len16, xh_rd17, xh_wr17, xh_len17, xh_rdA, xh_rdP, xh_wrA, xh_wrP, Option.bind_some, Option.bind_none, ↓reduceIte, if_true, if_false]
      rw [i_0, i_1, (w_y (N := N) (G := xH (mH g (x + 19) s t a) x v t b p ip r) (Nat.zero_le k) hk (by omega)).1]
      simp only [xh_O5, xh_O4, xh_O3, xh_O8, xh_g5_0, xh_g5_1, xh_g5_2, xh_g5_3, xh_g5_4, xh_g5_5, xh_g5_7, xh_g5_8, xh_g5_9, xh_g5_10, xh_g5_6, xh_g8_0, xh_g8_1, xh_g4_0, xh_g4_1, xh_g4_2, xh_g4_3, xh_g4_4, xh_g4_5, xh_g3_0, xh_g3_1, xh_g3_2, xh_p5_2, xh_p5_3, xh_p8_1, xh_p5_6, xh_p5_10, xh_p4_1, xh_p4_2, xh_p4_3, xh_p4_4, xh_p4_5, xh_p3_2, xh_rd2, xh_wr2, xh_rd4, xh_wr4, xh_rd5, xh_wr5, xh_rd15, xh_wr15, xh_len15, xh_rd16, xh_wr16, xh_len16, xh_rd17, xh_wr17, xh_len17, xh_rdA, xh_rdP, xh_wrA, xh_wrP, Option.bind_some, Option.bind_none, ↓reduceIte, if_true, if_false, new_x sx, eI]
      rw [if_neg (by decide), xh_wrA (by omega) (Or.inr hw)]
      simp only [xh_O5, xh_O4, xh_O3, xh_O8, xh_g5_0, xh_g5_1, xh_g5_2, xh_g5_3, xh_g5_4, xh_g5_5, xh_g5_7, xh_g5_8, xh_g5_9, xh_g5_10, xh_g5_6, xh_g8_0, xh_g8_1, xh_g4_0, xh_g4_1, xh_g4_2, xh_g4_3, xh_g4_4, xh_g4_5, xh_g3_0, xh_g3_1, xh_g3_2, xh_p5_2, xh_p5_3, xh_p8_1, xh_p5_6, xh_p5_10, xh_p4_1, xh_p4_2, xh_p4_3, xh_p4_4, xh_p4_5, xh_p3_2, xh_rd2, xh_wr2, xh_rd4, xh_wr4, xh_rd5, xh_wr5, xh_rd15, xh_wr15, xh_len15, xh_rd16, xh_wr16, xh_len16, xh_rd17, xh_wr17, xh_len17, xh_rdA, xh_rdP, xh_wrA, xh_wrP, Option.bind_some, Option.bind_none, ↓reduceIte, if_true, if_false, q4, ql]
    · simp only [fX6_keep, mh_O, mh_gJ, mh_pJ, mh_gI0, mh_gI1, mh_gI2, mh_gI5, mh_gI6, mh_gI9, mh_gI14, mh_gI15, mh_gI16, mh_gI17, mh_gI18, mh_gI19, mh_gI24, mh_pI0, mh_pI1, mh_pI2, mh_pI5, mh_pI6, mh_pI9, mh_pI14, mh_pI15, mh_pI16, mh_pI17, mh_pI18, mh_pI19, mh_pI24, mh_gA3, mh_gA4, mh_gA7, mh_gA8, mh_gA10, mh_gA11, mh_gA13, mh_gA20, mh_gA21, mh_gA22, mh_gA23, mh_gA25, mh_gA26, mh_gA27, mh_gA28, mh_gA29, Option.bind_some, Option.bind_none, ↓reduceIte, if_true, if_false]
      rw [i_0, i_1, (w_y (N := N) (G := mH (xH g' x v t b p (va_up ip k (some sz)) r) (x + 19) s t a) (Nat.zero_le k) hk (by omega)).2, show (860 : Int32) * nI k = nI (860 * k) from pk_mul 860 k, nI_add, show nI (860 * k) + 2 = nI (860 * k + 2) from nI_add (860 * k) 2]
      simp (disch := omega) only [mh_O, mh_gJ, mh_pJ, mh_gI0, mh_gI1, mh_gI2, mh_gI5, mh_gI6, mh_gI9, mh_gI14, mh_gI15, mh_gI16, mh_gI17, mh_gI18, mh_gI19, mh_gI24, mh_pI0, mh_pI1, mh_pI2, mh_pI5, mh_pI6, mh_pI9, mh_pI14, mh_pI15, mh_pI16, mh_pI17, mh_pI18, mh_pI19, mh_pI24, mh_gA3, mh_gA4, mh_gA7, mh_gA8, mh_gA10, mh_gA11, mh_gA13, mh_gA20, mh_gA21, mh_gA22, mh_gA23, mh_gA25, mh_gA26, mh_gA27, mh_gA28, mh_gA29, mh_rd1, mh_rd2, mh_rd3, mh_rd4, mh_rd5, mh_rd6, mh_rd7, mh_rd8, mh_rd9, mh_rd10, mh_rd11, mh_rd12, mh_rd13, mh_rd14, mh_rd15, mh_rd16, mh_wr1, mh_wr2, mh_wr3, mh_wr4, mh_wr5, mh_wr6, mh_wr7, mh_wr8, mh_wr9, mh_wr10, mh_wr11, mh_wr12, mh_wr13, mh_wr14, mh_wr15, mh_wr16, Option.bind_some, Option.bind_none, ↓reduceIte, if_true, if_false, c.um, ua_s, ua_ua]
      rw [if_neg (by decide), el]
      simp only [mh_O, mh_gJ, mh_pJ, mh_gI0, mh_gI1, mh_gI2, mh_gI5, mh_gI6, mh_gI9, mh_gI14, mh_gI15, mh_gI16, mh_gI17, mh_gI18, mh_gI19, mh_gI24, mh_pI0, mh_pI1, mh_pI2, mh_pI5, mh_pI6, mh_pI9, mh_pI14, mh_pI15, mh_pI16, mh_pI17, mh_pI18, mh_pI19, mh_pI24, mh_gA3, mh_gA4, mh_gA7, mh_gA8, mh_gA10, mh_gA11, mh_gA13, mh_gA20, mh_gA21, mh_gA22, mh_gA23, mh_gA25, mh_gA26, mh_gA27, mh_gA28, mh_gA29, Option.bind_some, Option.bind_none, ↓reduceIte, if_true, if_false]
      refine ek.trans ?_
      simp only [mh_O, mh_gJ, mh_pJ, mh_gI0, mh_gI1, mh_gI2, mh_gI5, mh_gI6, mh_gI9, mh_gI14, mh_gI15, mh_gI16, mh_gI17, mh_gI18, mh_gI19, mh_gI24, mh_pI0, mh_pI1, mh_pI2, mh_pI5, mh_pI6, mh_pI9, mh_pI14, mh_pI15, mh_pI16, mh_pI17, mh_pI18, mh_pI19, mh_pI24, mh_gA3, mh_gA4, mh_gA7, mh_gA8, mh_gA10, mh_gA11, mh_gA13, mh_gA20, mh_gA21, mh_gA22, mh_gA23, mh_gA25, mh_gA26, mh_gA27, mh_gA28, mh_gA29, Option.bind_some, Option.bind_none, ↓reduceIte, if_true, if_false, c.J.2.1]
    · have hf (i : Nat) : fk i = if 860 * k + 80 ≤ i ∧ i < 860 * k + 860 then a 11 (i - (860 * k + 80)) else if 860 * k + 2 ≤ i ∧ i < 860 * k + 2 + 78 then curF s a (i - (860 * k + 2)) else upd (upd (a 16) (860 * k) (nI 1)) (860 * k + 1) (nI U) i := by
        rw [hkk i, hl i]
      refine c.keep3 (U' := U) (ψ' := ψ) (φ' := φ) (fun _ _ => rfl) (fun _ => rfl) (fun _ _ => rfl) (fun i hi => ua_n (by omega)) mv c.O ?_ (c.Q.moved mv) c.ul c.um c.ux ((c.ch.moved mv).row c.ul (fun j hj => ?_)) ?_ (fun k' hk' => ?_) h3 (by omega)
      · have J := c.J
        unfold mN at J ⊢
        rw [ua_n (by omega), ua_n (by omega)]
        exact J
      · unfold va_up
        rw [if_neg (by omega)]
      · rw [ua_n (by omega)]; exact c.cm
      · rw [ua_s]
        by_cases ck : k' = k
        · subst ck
          refine Or.inr ⟨sz, sz + 1, sz + 2, p, φ, U, _, ψ, ⟨?_, Or.inr sx, h0, Or.inr (by omega), h1, Or.inr (by omega), h2⟩, ?_, ?_, c.ul, c.O, c.Q.moved mv, ?_, (c.ch.moved mv).row c.ul (fun j hj => ?_), fun j hj => ?_⟩
          · unfold va_up; simp
          · dsimp only
            rw [hf, if_neg (by omega), if_neg (by omega), pk_un (by omega)]
            exact pk_us
          · dsimp only
            rw [hf, if_neg (by omega), if_neg (by omega), pk_us]
          · refine nF_congr hP hφ (nF_cur hP c.J) (fun i hi => ?_)
            dsimp only
            rw [hf, if_neg (by omega), if_pos (by omega), show 860 * k' + (2 + i) - (860 * k' + 2) = i by omega]
          · unfold cpr
            rw [if_pos hj]
          · refine nF_congr hP (CH.ok c.ch j hj).2.1 (c.cm j hj) (fun i hi => ?_)
            dsimp only
            rw [hf, if_pos (by omega), show 860 * k' + (80 + 78 * j + i) - (860 * k' + 80) = 78 * j + i by omega]
        · have e1 : va_up ip k (some sz) k' = ip k' := by unfold va_up; simp [ck]
          rw [e1]
          refine IMG.congr hP ((c.im k' hk').moved mv) (fun i hi => ?_)
          rw [hf, if_neg (by omega), if_neg (by omega), pk_un (by omega), pk_un (by omega)]
  · refine ⟨-1, h, sz, h, ?_, by rw [c.hh]; exact mh_O, ?_, c.iv⟩
    · simp only [fX5_keep]
      rw [i_0, i_1, x_in_n hn]
      rfl
    · simp only [fX6_keep]
      rw [i_0, i_1, m_in_n hn]
      rfl
end SG2
