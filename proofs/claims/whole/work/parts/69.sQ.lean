section SQ
variable {x : Nat} {N : Nat}
set_option maxHeartbeats 1000000 in
theorem s_draws (hN : 2000 ≤ N) : ∀ (h : Hp) (sz : Nat) (a1 : Int32) (a2 : Int32) (a3 : Int32) (a4 : Int32) (a5 : Int32), IV x h sz → ∃ (r : Int32) (h1 : Hp) (sz1 : Nat) (h2 : Hp), (fX5_draws N h sz (some x) a1 a2 a3 a4 a5 = some (r, h1, sz1)) ∧ isO h1 (some (x + 19)) 6 = true ∧ fX6_draws N h1 (some (x + 19)) a1 a2 a3 a4 a5 = some (r, h2) ∧ IV x h2 sz1 := by
  rintro h sz a1 a2 a3 a4 a5 ⟨g, v, t, b, p, ip, r, s, a, R, W, P, T, C, φ, sn, tt, tp, L, U, ψ, c⟩
  have X := c.XX
  have B := c.B
  have hR := B.1
  have hW := B.2.1
  have hP := B.2.2.1
  have hφ := c.O.2.1
  have ul := c.ul
  have sx := c.sx
  obtain ⟨p1, p2, ia0, ca0, fi0, fc0, p3, p4, -, -, p8, -⟩ := pp_read (E := xH (mH g (x + 19) s t a) x v t b p ip r) c.Qx xh_dy
  have ql : aL (xH (mH g (x + 19) s t a) x v t b p ip r) (some ca0) = some (nI (φ 1)) := aL_A p8 (Or.inl rfl)
  rcases in_or a1 (n := R) (by omega) with ⟨i, hi, rfl⟩ | n1
  · rcases in_or a2 (n := W) (by omega) with ⟨w, hw, rfl⟩ | n2
    · have hT := B.2.2.2.1 i hi
      have hC := B.2.2.2.2 w hw
      have xR := x_hasRing_y (N := N) X B hi
      have xW := x_hasWheel_y (N := N) X B hw
      have mR := m_isRing_y (N := N) (g := xH g x v t b p ip r) (m := x + 19) (t := t) (a := a) c.H.1 hR hi
      have mW := m_isWheel_y (N := N) (g := xH g x v t b p ip r) (m := x + 19) (t := t) (a := a) c.H.2.1 hW hw
      have a1i : a 1 i = nI (T i) := c.H.2.2.2.1 i hi
      have xT := x_teethOf (N := N) X B hi
      rcases in_rng a3 (lo := 1) (hi := 9) (by omega) (by omega) with ⟨l, hl1, hl, rfl⟩ | n3
      · have w3 := w_y (N := N) (G := xH (mH g (x + 19) s t a) x v t b p ip r) hl1 hl (by omega)
        have w3' := w_y (N := N) (G := mH (xH g x v t b p ip r) (x + 19) s t a) hl1 hl (by omega)
        rw [← i_1, ← i_9] at w3 w3'
        rcases in_or a4 (n := T i) (by omega) with ⟨st, hst, rfl⟩ | n4
        · have v4 := (ix_iff (r := nI st) (R := T i) (by omega)).mpr (vp_in_nI hst (by omega))
          have w4 := x_in_y (N := N) (h := xH (mH g (x + 19) s t a) x v t b p ip r) v4.1 v4.2
          have w4' := m_in_y (N := N) (h := mH (xH g x v t b p ip r) (x + 19) s t a) v4.1 v4.2
          rcases in_or a5 (n := P) (by omega) with ⟨pn, hpn, rfl⟩ | n5
          · have hO3 := c.O.2.2.1 pn hpn
            have hg : 0 < Nat.gcd (T i) (C w) := Nat.gcd_pos_of_pos_left _ (by omega)
            have hlg : T i * (C w / Nat.gcd (T i) (C w)) ≤ 120 * 99 := Nat.mul_le_mul hT.2.1 (Nat.le_trans (Nat.div_le_self _ _) hC.2)
            have xP := x_hasPen_y (N := N) X B hpn
            have mP := m_isPen_y (N := N) (g := xH g x v t b p ip r) (m := x + 19) (t := t) (a := a) c.H.2.2.1 hP hpn
            have xF := x_fits (N := N) X B hi hw
            have mF := m_fits (N := N) (g := xH g x v t b p ip r) (m := x + 19) (t := t) B c.H hi hw
            have xL := x_longOf (N := N) hN X B hi hw
            have mL := m_longOf (N := N) (g := xH g x v t b p ip r) (m := x + 19) (t := t) hN B c.H hi hw
            have xI := x_inkOf (N := N) (E := xH (mH g (x + 19) s t a) x v t b p ip r) B c.O c.Qx xh_dy hpn
            have a3p : a 3 pn = nI (φ (2 + pn)) := c.J.2.2.1 pn hpn
            generalize hLG : T i * (C w / Nat.gcd (T i) (C w)) = lg at hlg xL mL
            by_cases cf : C w < T i
            · rw [if_pos cf] at xF mF
              by_cases cl : lg ≤ φ (2 + pn)
              · have cl1 : (nI lg ≤ nI (φ (2 + pn))) = True := eq_true (nI_le cl (by omega))
                by_cases ck : φ 1 < 12
                · obtain ⟨d0, ia, ca, hp, dia, ⟨fi, hia, hfi⟩, dca, fc, hca, hfc⟩ := c.Q
                  have g0 : g sz = none := c.fr sz (Nat.le_refl _)
                  generalize hcv : ([.int (nI i), .int (nI w), .int (nI l), .int (nI st), .int (nI pn), .int (nI (φ 0)), .int (nI (T i / Nat.gcd (T i) (C w))), .int (nI (C w / Nat.gcd (T i) (C w))), .int (nI (360 / (T i / Nat.gcd (T i) (C w)))), .int (nI (360 / T i * st + φ 0))] : List Value) = cv
                  have mvA (y : AE) := new_le (x := x) (g := g) (q := sz) (y := y) g0
                  have XY (y : AE) : BX (xH (mH (up g sz y) (x + 19) s t a) x v t b p ip r) b R W P T C := ((c.X.moved (mvA y)).moved (fun q d y e => by rw [mh_dy d]; exact e)).at xh_dy
                  have QY (y : AE) : PP x (mH (up g sz y) (x + 19) s t a) P T C p φ := (c.Q.moved (mvA y)).moved (fun q d y e => by rw [mh_dy d]; exact e)
                  have o0 := pp_read (E := xH (mH (up g sz (oO 1 [.int 0, .int 0, .int 0, .int 0, .int 0, .int 0, .int 0, .int 0, .int 0, .int 0])) (x + 19) s t a) x v t b p ip r) (QY _) xh_dy
                  have o1 := pp_read (E := xH (mH (up g sz (oO 1 cv)) (x + 19) s t a) x v t b p ip r) (QY _) xh_dy
                  have eC := x_curve0 (N := N) (E := xH (mH (up g sz (oO 1 [.int 0, .int 0, .int 0, .int 0, .int 0, .int 0, .int 0, .int 0, .int 0, .int 0])) (x + 19) s t a) x v t b p ip r) (q := sz) (b := b) (l := l) (st := st) (pn := pn) (lay := φ 0) hN B hi hw (by omega) (new_at sx) (fun y => by rw [new_x sx, up_up]; exact XY y)
                  rw [hcv, new_x sx, up_up] at eC
                  have xL1 := x_longOf (N := N) hN (XY (oO 1 cv)) B hi hw
                  rw [hLG] at xL1
                  obtain ⟨g', u, eD, gz0, gz1, gz2, glt, gfr, hu, hun⟩ := x_drawn2 (N := N) (x := x) (g := up g sz (oO 1 cv)) (z := sz + 1) (q := sz) (p := p) (ia := ia) (ca := ca) (P := P) (pn := pn) (lg := lg) (n0 := φ 1) (m0 := φ (2 + pn)) (v := v) (t := t) (b := b) (ip := ip) (r := r) (s := s) (a := a) (fi := fi) (fc := fc) (cl := cv) hN (by omega) d0 dia dca (Or.inr sx) (by omega) hP hpn (fun k hk => new_fr c.fr k hk) (mvA _ _ d0 _ hp) (mvA _ _ dia _ hia) (mvA _ _ dca _ hca) (fun k hk => by obtain ⟨ck, c1, c2, c3⟩ := hfc k hk; exact ⟨ck, c1, c2, _, mvA _ _ c2 _ c3⟩) (up_s _ _ _) (by rw [← hcv]; rfl) (hfi pn hpn) cl
                  have mv : ∀ q, dy x q → ∀ y, g q = some y → g' q = some y := fun q dq y e => by
                    by_cases cq : q < sz + 1
                    · rw [glt q cq]; exact mvA _ q dq y e
                    · rw [c.fr q (by omega)] at e; cases e
                  have gsz : g' sz = some (oO 1 cv) := by rw [glt sz (by omega), up_s]
                  obtain ⟨s', f', V, d, n1, n2, n3, n4, n5, n6, n7, n8, n9⟩ := m_notes (g := xH g' x (upd v 0 (nI (min (U + 1) 10))) t b (sz + 1 + 1) (cip ip U p) r) (m := x + 19) (s := s) (t := t) (a := a) (N := N) hN c.um ul
                  rw [← n4] at n5
                  have ch := x_change (N := N) (G := mH g' (x + 19) s t a) (x := x) (v := v) (t := t) (b := b) (p := p) (ip := ip) (r := r) (q := sz + 1 + 1) hN n1 n4 ul c.ux (c.oks mv)
                  have hO := drw_ok (i := i) (w := w) (l := l) (st := st) (pn := pn) (n := φ (2 + pn) - lg) c.O hP ck hi hw cf hl1 hl hst hpn (by omega)
                  have hQ : PP x g' P T C (sz + 1 + 1) (drwF φ i w l st pn (φ (2 + pn) - lg) (φ 1)) := by
                    refine ⟨Or.inr (by omega), sz + 1 + 2, sz + 1, ?_, Or.inr (by omega), ⟨_, gz2, fun j hj => ?_⟩, Or.inr (by omega), u, ?_, fun j hj => ?_⟩
                    · rw [drw_0]; exact gz1
                    · rw [drw_p (by omega)]
                      by_cases cj : j = pn
                      · rw [cj, pk_us, if_pos rfl]
                      · rw [pk_un cj, if_neg cj]; exact hfi j hj
                    · rw [drw_1]; exact gz0
                    · rw [drw_1] at hj
                      by_cases cj : j < φ 1
                      · obtain ⟨ck', c1, c2, c3⟩ := hfc j cj
                        refine ⟨ck', by rw [hu j cj]; exact c1, c2, ?_⟩
                        rw [drw_cv (by omega) cj]
                        exact mv _ c2 _ c3
                      · have ej : j = φ 1 := by omega
                        subst ej
                        refine ⟨sz, hun, Or.inr sx, ?_⟩
                        rw [drw_cvn (by omega), hcv]
                        exact gsz
                  have H' (f4 : Nat → Int32) : mB s' (ua (ua a 11 f') 4 f4) R W P T C := by
                    have H := c.H
                    unfold mB at H ⊢
                    rw [n7 0 (by omega), n7 1 (by omega), n7 2 (by omega), ua_n (by omega), ua_n (by omega), ua_n (by omega), ua_n (by omega)]
                    exact H
                  have mL1 (f4 : Nat → Int32) := m_longOf (N := N) (g := xH g' x (upd v 0 (nI (V + 1))) t b (sz + 1 + 1) (cip ip U p) r) (m := x + 19) (t := t) hN B (H' f4) hi hw
                  rw [hLG] at mL1
                  have mR' := m_isRing_y (N := N) (g := xH g' x (upd v 0 (nI (V + 1))) t b (sz + 1 + 1) (cip ip U p) r) (m := x + 19) (t := t) (a := a) c.H.1 hR hi
                  have mW' := m_isWheel_y (N := N) (g := xH g' x (upd v 0 (nI (V + 1))) t b (sz + 1 + 1) (cip ip U p) r) (m := x + 19) (t := t) (a := a) c.H.2.1 hW hw
                  have mP' := m_isPen_y (N := N) (g := xH g' x (upd v 0 (nI (V + 1))) t b (sz + 1 + 1) (cip ip U p) r) (m := x + 19) (t := t) (a := a) c.H.2.2.1 hP hpn
                  have mF' := m_fits (N := N) (g := xH g' x (upd v 0 (nI (V + 1))) t b (sz + 1 + 1) (cip ip U p) r) (m := x + 19) (t := t) B c.H hi hw
                  rw [if_pos cf] at mF'
                  have mL' := m_longOf (N := N) (g := xH g' x (upd v 0 (nI (V + 1))) t b (sz + 1 + 1) (cip ip U p) r) (m := x + 19) (t := t) hN B c.H hi hw
                  rw [hLG] at mL'
                  have w3'' := w_y (N := N) (G := mH (xH g' x (upd v 0 (nI (V + 1))) t b (sz + 1 + 1) (cip ip U p) r) (x + 19) s t a) hl1 hl (by omega)
                  rw [← i_1, ← i_9] at w3''
                  have w4'' := m_in_y (N := N) (h := mH (xH g' x (upd v 0 (nI (V + 1))) t b (sz + 1 + 1) (cip ip U p) r) (x + 19) s t a) v4.1 v4.2
                  have s6 : s 6 = nI (φ 1) := c.J.2.1
                  have c12 : (nI (φ 1) < (12 : Int32)) = True := eq_true (nI_lt (b := 12) ck (by omega))
                  have d12 : (nI (φ 1) = (12 : Int32)) = False := eq_false (fun z => by have := (nI_eq (b := 12) (by omega) (by omega)).mp z; omega)
                  have e6 : (6 : Int32) * nI (φ 1) = nI (6 * φ 1) := pk_mul 6 _
                  have e61 : nI (6 * φ 1) + (1 : Int32) = nI (6 * φ 1 + 1) := nI_add _ 1
                  have e62 : nI (6 * φ 1) + (2 : Int32) = nI (6 * φ 1 + 2) := nI_add _ 2
                  have e63 : nI (6 * φ 1) + (3 : Int32) = nI (6 * φ 1 + 3) := nI_add _ 3
                  have e64 : nI (6 * φ 1) + (4 : Int32) = nI (6 * φ 1 + 4) := nI_add _ 4
                  have e65 : nI (6 * φ 1) + (5 : Int32) = nI (6 * φ 1 + 5) := nI_add _ 5
                  have s56 : s' 6 = nI (φ 1) := by rw [n7 6 (by omega), s6]
                  have s55 : s' 5 = nI (φ 0) := by rw [n7 5 (by omega), c.J.1]
                  have em : nI (φ 1 + 1) - (1 : Int32) = nI (φ 1) := pk_sub (a := φ 1 + 1) (b := 1) (by omega)
                  refine ⟨nI (φ 1), mH (xH g' x (upd v 0 (nI (V + 1))) t b (sz + 1 + 1) (cip ip U p) r) (x + 19) s t a, sz + 1 + 3, mH (xH g' x (upd v 0 (nI (V + 1))) t b (sz + 1 + 1) (cip ip U p) r) (x + 19) (upd s' 6 (nI (φ 1 + 1))) t (ua (ua (ua a 11 f') 4 (upd (upd (upd (upd (upd (upd (a 4) (6 * φ 1) (nI i)) (6 * φ 1 + 1) (nI w)) (6 * φ 1 + 2) (nI l)) (6 * φ 1 + 3) (nI st)) (6 * φ 1 + 4) (nI pn)) (6 * φ 1 + 5) (nI (φ 0)))) 3 (upd (a 3) pn (nI (φ (2 + pn) - lg)))), ?_, mh_O, ?_, ?_⟩
                  · rw [c.hx, xh_mh rfl]
                    simp only [fX5_draws, xh_O5, xh_O4, xh_O3, xh_O8, xh_g5_0, xh_g5_1, xh_g5_2, xh_g5_3, xh_g5_4, xh_g5_5, xh_g5_7, xh_g5_8, xh_g5_9, xh_g5_10, xh_g5_6, xh_g8_0, xh_g8_1, xh_g4_0, xh_g4_1, xh_g4_2, xh_g4_3, xh_g4_4, xh_g4_5, xh_g3_0, xh_g3_1, xh_g3_2, xh_p5_2, xh_p5_3, xh_p8_1, xh_p5_6, xh_p5_10, xh_p4_1, xh_p4_2, xh_p4_3, xh_p4_4, xh_p4_5, xh_p3_2, xh_rd2, xh_wr2, xh_rd4, xh_wr4, xh_rd5, xh_wr5, xh_rd15, xh_wr15, xh_len15, xh_rd16, xh_wr16, xh_len16, xh_rd17, xh_wr17, xh_len17, xh_rdA, xh_rdP, xh_wrA, xh_wrP, Option.bind_some, Option.bind_none, ↓reduceIte, if_true, if_false, isO_eq X.1, xR, xW, xP, w3.1, xT, w4, xF, p1, xI, xL, cl1, p4, ql, c12, i10, i00, new_x sx, o0.2.1, eC, isO_eq (XY (oO 1 cv)).1, xL1, o1.1, eD, ch]
                  · simp (disch := omega) only [fX6_draws, mh_O, mh_gJ, mh_pJ, mh_gI0, mh_gI1, mh_gI2, mh_gI5, mh_gI6, mh_gI9, mh_gI14, mh_gI15, mh_gI16, mh_gI17, mh_gI18, mh_gI19, mh_gI24, mh_pI0, mh_pI1, mh_pI2, mh_pI5, mh_pI6, mh_pI9, mh_pI14, mh_pI15, mh_pI16, mh_pI17, mh_pI18, mh_pI19, mh_pI24, mh_gA3, mh_gA4, mh_gA7, mh_gA8, mh_gA10, mh_gA11, mh_gA13, mh_gA20, mh_gA21, mh_gA22, mh_gA23, mh_gA25, mh_gA26, mh_gA27, mh_gA28, mh_gA29, mh_rd1, mh_rd2, mh_rd3, mh_rd4, mh_rd5, mh_rd6, mh_rd7, mh_rd8, mh_rd9, mh_rd10, mh_rd11, mh_rd12, mh_rd13, mh_rd14, mh_rd15, mh_rd16, mh_wr1, mh_wr2, mh_wr3, mh_wr4, mh_wr5, mh_wr6, mh_wr7, mh_wr8, mh_wr9, mh_wr10, mh_wr11, mh_wr12, mh_wr13, mh_wr14, mh_wr15, mh_wr16, Option.bind_some, Option.bind_none, ↓reduceIte, if_true, if_false, mR', mW', w3''.2, a1i, w4'', mP', mF', mL', a3p, cl1, s6, d12, i10, i00, n5, s56, s55, e6, e61, e62, e63, e64, e65, ua_ua, ua_s, ua_n, mL1, pk_sub cl, nI_1, pk_us, em]
                  · refine c.next (φ' := drwF φ i w l st pn (φ (2 + pn) - lg) (φ 1)) (V := V) (d := d) (f' := f') mv hO hQ n1 n2 n3 n4 n8 n9 ?_ (fun i hi => by rw [pk_un (by omega), n7 i (by omega)]) (by rw [pk_un (by omega)]; exact n6) (fun k hk => by rw [ua_n (by omega), ua_n (by omega), ua_n (by omega)]) (by rw [ua_n (by omega), ua_n (by omega), ua_s]) (fun q hq => gfr q (by omega)) (by omega)
                    obtain ⟨j1, j2, j3, j4⟩ := c.J
                    refine ⟨?_, ?_, fun q hq => ?_, fun q hq => ?_⟩
                    · rw [pk_un (by omega), s55, drw_0]
                    · rw [pk_us, drw_1]
                    · rw [ua_s, drw_p (by omega)]
                      by_cases cq : q = pn
                      · rw [cq, pk_us, if_pos rfl]
                      · rw [pk_un cq, if_neg cq]; exact j3 q hq
                    · rw [drw_1] at hq
                      rw [ua_n (by omega), ua_s]
                      exact drw_q (by omega) (a 4) j4 hq
                · have e12 : φ 1 = 12 := by omega
                  rw [e12] at ql
                  have s6 : s 6 = nI 12 := by rw [c.J.2.1, e12]
                  have c12 : (nI 12 < (12 : Int32)) = False := eq_false (by decide)
                  have d12 : (nI 12 = (12 : Int32)) = True := eq_true (by decide)
                  refine ⟨-3, h, sz, h, ?_, by rw [c.hh]; exact mh_O, ?_, c.iv⟩
                  · rw [c.hx]
                    simp only [fX5_draws, xh_O5, xh_O4, xh_O3, xh_O8, xh_g5_0, xh_g5_1, xh_g5_2, xh_g5_3, xh_g5_4, xh_g5_5, xh_g5_7, xh_g5_8, xh_g5_9, xh_g5_10, xh_g5_6, xh_g8_0, xh_g8_1, xh_g4_0, xh_g4_1, xh_g4_2, xh_g4_3, xh_g4_4, xh_g4_5, xh_g3_0, xh_g3_1, xh_g3_2, xh_p5_2, xh_p5_3, xh_p8_1, xh_p5_6, xh_p5_10, xh_p4_1, xh_p4_2, xh_p4_3, xh_p4_4, xh_p4_5, xh_p3_2, xh_rd2, xh_wr2, xh_rd4, xh_wr4, xh_rd5, xh_wr5, xh_rd15, xh_wr15, xh_len15, xh_rd16, xh_wr16, xh_len16, xh_rd17, xh_wr17, xh_len17, xh_rdA, xh_rdP, xh_wrA, xh_wrP, Option.bind_some, Option.bind_none, ↓reduceIte, if_true, if_false, isO_eq X.1, xR, xW, xP, w3.1, xT, w4, xF, p1, xI, xL, cl1, p4, ql, c12, i10, i00]
                  · rw [c.hh]
                    simp (disch := omega) only [fX6_draws, mh_O, mh_gJ, mh_pJ, mh_gI0, mh_gI1, mh_gI2, mh_gI5, mh_gI6, mh_gI9, mh_gI14, mh_gI15, mh_gI16, mh_gI17, mh_gI18, mh_gI19, mh_gI24, mh_pI0, mh_pI1, mh_pI2, mh_pI5, mh_pI6, mh_pI9, mh_pI14, mh_pI15, mh_pI16, mh_pI17, mh_pI18, mh_pI19, mh_pI24, mh_gA3, mh_gA4, mh_gA7, mh_gA8, mh_gA10, mh_gA11, mh_gA13, mh_gA20, mh_gA21, mh_gA22, mh_gA23, mh_gA25, mh_gA26, mh_gA27, mh_gA28, mh_gA29, mh_rd1, mh_rd2, mh_rd3, mh_rd4, mh_rd5, mh_rd6, mh_rd7, mh_rd8, mh_rd9, mh_rd10, mh_rd11, mh_rd12, mh_rd13, mh_rd14, mh_rd15, mh_rd16, mh_wr1, mh_wr2, mh_wr3, mh_wr4, mh_wr5, mh_wr6, mh_wr7, mh_wr8, mh_wr9, mh_wr10, mh_wr11, mh_wr12, mh_wr13, mh_wr14, mh_wr15, mh_wr16, Option.bind_some, Option.bind_none, ↓reduceIte, if_true, if_false, mR, mW, w3'.2, a1i, w4', mP, mF, mL, a3p, cl1, s6, d12, i10, i00]
              · have cl1 : (nI lg ≤ nI (φ (2 + pn))) = False := eq_false (nI_ge (by omega) (by omega))
                refine ⟨-2, h, sz, h, ?_, by rw [c.hh]; exact mh_O, ?_, c.iv⟩
                · rw [c.hx]
                  simp only [fX5_draws, xh_O5, xh_O4, xh_O3, xh_O8, xh_g5_0, xh_g5_1, xh_g5_2, xh_g5_3, xh_g5_4, xh_g5_5, xh_g5_7, xh_g5_8, xh_g5_9, xh_g5_10, xh_g5_6, xh_g8_0, xh_g8_1, xh_g4_0, xh_g4_1, xh_g4_2, xh_g4_3, xh_g4_4, xh_g4_5, xh_g3_0, xh_g3_1, xh_g3_2, xh_p5_2, xh_p5_3, xh_p8_1, xh_p5_6, xh_p5_10, xh_p4_1, xh_p4_2, xh_p4_3, xh_p4_4, xh_p4_5, xh_p3_2, xh_rd2, xh_wr2, xh_rd4, xh_wr4, xh_rd5, xh_wr5, xh_rd15, xh_wr15, xh_len15, xh_rd16, xh_wr16, xh_len16, xh_rd17, xh_wr17, xh_len17, xh_rdA, xh_rdP, xh_wrA, xh_wrP, Option.bind_some, Option.bind_none, ↓reduceIte, if_true, if_false, isO_eq X.1, xR, xW, xP, w3.1, xT, w4, xF, p1, xI, xL, cl1, i10, i00]
                · rw [c.hh]
                  simp (disch := omega) only [fX6_draws, mh_O, mh_gJ, mh_pJ, mh_gI0, mh_gI1, mh_gI2, mh_gI5, mh_gI6, mh_gI9, mh_gI14, mh_gI15, mh_gI16, mh_gI17, mh_gI18, mh_gI19, mh_gI24, mh_pI0, mh_pI1, mh_pI2, mh_pI5, mh_pI6, mh_pI9, mh_pI14, mh_pI15, mh_pI16, mh_pI17, mh_pI18, mh_pI19, mh_pI24, mh_gA3, mh_gA4, mh_gA7, mh_gA8, mh_gA10, mh_gA11, mh_gA13, mh_gA20, mh_gA21, mh_gA22, mh_gA23, mh_gA25, mh_gA26, mh_gA27, mh_gA28, mh_gA29, mh_rd1, mh_rd2, mh_rd3, mh_rd4, mh_rd5, mh_rd6, mh_rd7, mh_rd8, mh_rd9, mh_rd10, mh_rd11, mh_rd12, mh_rd13, mh_rd14, mh_rd15, mh_rd16, mh_wr1, mh_wr2, mh_wr3, mh_wr4, mh_wr5, mh_wr6, mh_wr7, mh_wr8, mh_wr9, mh_wr10, mh_wr11, mh_wr12, mh_wr13, mh_wr14, mh_wr15, mh_wr16, Option.bind_some, Option.bind_none, ↓reduceIte, if_true, if_false, mR, mW, w3'.2, a1i, w4', mP, mF, mL, a3p, cl1, i10, i00]
            · rw [if_neg cf] at xF mF
              refine ⟨-2, h, sz, h, ?_, by rw [c.hh]; exact mh_O, ?_, c.iv⟩
              · rw [c.hx]
                simp only [fX5_draws, xh_O5, xh_O4, xh_O3, xh_O8, xh_g5_0, xh_g5_1, xh_g5_2, xh_g5_3, xh_g5_4, xh_g5_5, xh_g5_7, xh_g5_8, xh_g5_9, xh_g5_10, xh_g5_6, xh_g8_0, xh_g8_1, xh_g4_0, xh_g4_1, xh_g4_2, xh_g4_3, xh_g4_4, xh_g4_5, xh_g3_0, xh_g3_1, xh_g3_2, xh_p5_2, xh_p5_3, xh_p8_1, xh_p5_6, xh_p5_10, xh_p4_1, xh_p4_2, xh_p4_3, xh_p4_4, xh_p4_5, xh_p3_2, xh_rd2, xh_wr2, xh_rd4, xh_wr4, xh_rd5, xh_wr5, xh_rd15, xh_wr15, xh_len15, xh_rd16, xh_wr16, xh_len16, xh_rd17, xh_wr17, xh_len17, xh_rdA, xh_rdP, xh_wrA, xh_wrP, Option.bind_some, Option.bind_none, ↓reduceIte, if_true, if_false, isO_eq X.1, xR, xW, xP, w3.1, xT, w4, xF, i10, i00]
              · rw [c.hh]
                simp (disch := omega) only [fX6_draws, mh_O, mh_gJ, mh_pJ, mh_gI0, mh_gI1, mh_gI2, mh_gI5, mh_gI6, mh_gI9, mh_gI14, mh_gI15, mh_gI16, mh_gI17, mh_gI18, mh_gI19, mh_gI24, mh_pI0, mh_pI1, mh_pI2, mh_pI5, mh_pI6, mh_pI9, mh_pI14, mh_pI15, mh_pI16, mh_pI17, mh_pI18, mh_pI19, mh_pI24, mh_gA3, mh_gA4, mh_gA7, mh_gA8, mh_gA10, mh_gA11, mh_gA13, mh_gA20, mh_gA21, mh_gA22, mh_gA23, mh_gA25, mh_gA26, mh_gA27, mh_gA28, mh_gA29, mh_rd1, mh_rd2, mh_rd3, mh_rd4, mh_rd5, mh_rd6, mh_rd7, mh_rd8, mh_rd9, mh_rd10, mh_rd11, mh_rd12, mh_rd13, mh_rd14, mh_rd15, mh_rd16, mh_wr1, mh_wr2, mh_wr3, mh_wr4, mh_wr5, mh_wr6, mh_wr7, mh_wr8, mh_wr9, mh_wr10, mh_wr11, mh_wr12, mh_wr13, mh_wr14, mh_wr15, mh_wr16, Option.bind_some, Option.bind_none, ↓reduceIte, if_true, if_false, mR, mW, w3'.2, a1i, w4', mP, mF, i10, i00]
          · refine ⟨-1, h, sz, h, ?_, by rw [c.hh]; exact mh_O, ?_, c.iv⟩
            · rw [c.hx]
              simp only [fX5_draws, xh_O5, xh_O4, xh_O3, xh_O8, xh_g5_0, xh_g5_1, xh_g5_2, xh_g5_3, xh_g5_4, xh_g5_5, xh_g5_7, xh_g5_8, xh_g5_9, xh_g5_10, xh_g5_6, xh_g8_0, xh_g8_1, xh_g4_0, xh_g4_1, xh_g4_2, xh_g4_3, xh_g4_4, xh_g4_5, xh_g3_0, xh_g3_1, xh_g3_2, xh_p5_2, xh_p5_3, xh_p8_1, xh_p5_6, xh_p5_10, xh_p4_1, xh_p4_2, xh_p4_3, xh_p4_4, xh_p4_5, xh_p3_2, xh_rd2, xh_wr2, xh_rd4, xh_wr4, xh_rd5, xh_wr5, xh_rd15, xh_wr15, xh_len15, xh_rd16, xh_wr16, xh_len16, xh_rd17, xh_wr17, xh_len17, xh_rdA, xh_rdP, xh_wrA, xh_wrP, Option.bind_some, Option.bind_none, ↓reduceIte, if_true, if_false, isO_eq X.1, xR, xW, x_hasPen_n X B n5, i10, i00]
            · rw [c.hh]
              simp (disch := omega) only [fX6_draws, mh_O, mh_gJ, mh_pJ, mh_gI0, mh_gI1, mh_gI2, mh_gI5, mh_gI6, mh_gI9, mh_gI14, mh_gI15, mh_gI16, mh_gI17, mh_gI18, mh_gI19, mh_gI24, mh_pI0, mh_pI1, mh_pI2, mh_pI5, mh_pI6, mh_pI9, mh_pI14, mh_pI15, mh_pI16, mh_pI17, mh_pI18, mh_pI19, mh_pI24, mh_gA3, mh_gA4, mh_gA7, mh_gA8, mh_gA10, mh_gA11, mh_gA13, mh_gA20, mh_gA21, mh_gA22, mh_gA23, mh_gA25, mh_gA26, mh_gA27, mh_gA28, mh_gA29, mh_rd1, mh_rd2, mh_rd3, mh_rd4, mh_rd5, mh_rd6, mh_rd7, mh_rd8, mh_rd9, mh_rd10, mh_rd11, mh_rd12, mh_rd13, mh_rd14, mh_rd15, mh_rd16, mh_wr1, mh_wr2, mh_wr3, mh_wr4, mh_wr5, mh_wr6, mh_wr7, mh_wr8, mh_wr9, mh_wr10, mh_wr11, mh_wr12, mh_wr13, mh_wr14, mh_wr15, mh_wr16, Option.bind_some, Option.bind_none, ↓reduceIte, if_true, if_false, mR, mW, w3'.2, a1i, w4', m_isPen_n c.H.2.2.1 hP n5, i10, i00]
        · have v4 : ¬ ((0 : Int32) ≤ a4 ∧ a4 ≤ nI (T i) - 1) := fun z => n4 ((ix_iff (by omega)).mp z)
          refine ⟨-1, h, sz, h, ?_, by rw [c.hh]; exact mh_O, ?_, c.iv⟩
          · rw [c.hx]
            rcases in_or a5 (n := P) (by omega) with ⟨pn, hpn, rfl⟩ | n5
            · simp only [fX5_draws, xh_O5, xh_O4, xh_O3, xh_O8, xh_g5_0, xh_g5_1, xh_g5_2, xh_g5_3, xh_g5_4, xh_g5_5, xh_g5_7, xh_g5_8, xh_g5_9, xh_g5_10, xh_g5_6, xh_g8_0, xh_g8_1, xh_g4_0, xh_g4_1, xh_g4_2, xh_g4_3, xh_g4_4, xh_g4_5, xh_g3_0, xh_g3_1, xh_g3_2, xh_p5_2, xh_p5_3, xh_p8_1, xh_p5_6, xh_p5_10, xh_p4_1, xh_p4_2, xh_p4_3, xh_p4_4, xh_p4_5, xh_p3_2, xh_rd2, xh_wr2, xh_rd4, xh_wr4, xh_rd5, xh_wr5, xh_rd15, xh_wr15, xh_len15, xh_rd16, xh_wr16, xh_len16, xh_rd17, xh_wr17, xh_len17, xh_rdA, xh_rdP, xh_wrA, xh_wrP, Option.bind_some, Option.bind_none, ↓reduceIte, if_true, if_false, isO_eq X.1, xR, xW, x_hasPen_y X B hpn, w3.1, xT, x_in_n v4, i10, i00]
            · simp only [fX5_draws, xh_O5, xh_O4, xh_O3, xh_O8, xh_g5_0, xh_g5_1, xh_g5_2, xh_g5_3, xh_g5_4, xh_g5_5, xh_g5_7, xh_g5_8, xh_g5_9, xh_g5_10, xh_g5_6, xh_g8_0, xh_g8_1, xh_g4_0, xh_g4_1, xh_g4_2, xh_g4_3, xh_g4_4, xh_g4_5, xh_g3_0, xh_g3_1, xh_g3_2, xh_p5_2, xh_p5_3, xh_p8_1, xh_p5_6, xh_p5_10, xh_p4_1, xh_p4_2, xh_p4_3, xh_p4_4, xh_p4_5, xh_p3_2, xh_rd2, xh_wr2, xh_rd4, xh_wr4, xh_rd5, xh_wr5, xh_rd15, xh_wr15, xh_len15, xh_rd16, xh_wr16, xh_len16, xh_rd17, xh_wr17, xh_len17, xh_rdA, xh_rdP, xh_wrA, xh_wrP, Option.bind_some, Option.bind_none, ↓reduceIte, if_true, if_false, isO_eq X.1, xR, xW, x_hasPen_n X B n5, i10, i00]
          · rw [c.hh]
            simp (config := { maxSteps := 2000000 }) (disch := omega) only [fX6_draws, mh_O, mh_gJ, mh_pJ, mh_gI0, mh_gI1, mh_gI2, mh_gI5, mh_gI6, mh_gI9, mh_gI14, mh_gI15, mh_gI16, mh_gI17, mh_gI18, mh_gI19, mh_gI24, mh_pI0, mh_pI1, mh_pI2, mh_pI5, mh_pI6, mh_pI9, mh_pI14, mh_pI15, mh_pI16, mh_pI17, mh_pI18, mh_pI19, mh_pI24, mh_gA3, mh_gA4, mh_gA7, mh_gA8, mh_gA10, mh_gA11, mh_gA13, mh_gA20, mh_gA21, mh_gA22, mh_gA23, mh_gA25, mh_gA26, mh_gA27, mh_gA28, mh_gA29, mh_rd1, mh_rd2, mh_rd3, mh_rd4, mh_rd5, mh_rd6, mh_rd7, mh_rd8, mh_rd9, mh_rd10, mh_rd11, mh_rd12, mh_rd13, mh_rd14, mh_rd15, mh_rd16, mh_wr1, mh_wr2, mh_wr3, mh_wr4, mh_wr5, mh_wr6, mh_wr7, mh_wr8, mh_wr9, mh_wr10, mh_wr11, mh_wr12, mh_wr13, mh_wr14, mh_wr15, mh_wr16, Option.bind_some, Option.bind_none, ↓reduceIte, if_true, if_false, mR, mW, w3'.2, a1i, m_in_n v4, i10, i00]
      · refine ⟨-1, h, sz, h, ?_, by rw [c.hh]; exact mh_O, ?_, c.iv⟩
        · rw [← i_1, ← i_9] at n3
          rw [c.hx]
          rcases in_or a5 (n := P) (by omega) with ⟨pn, hpn, rfl⟩ | n5
          · simp only [fX5_draws, xh_O5, xh_O4, xh_O3, xh_O8, xh_g5_0, xh_g5_1, xh_g5_2, xh_g5_3, xh_g5_4, xh_g5_5, xh_g5_7, xh_g5_8, xh_g5_9, xh_g5_10, xh_g5_6, xh_g8_0, xh_g8_1, xh_g4_0, xh_g4_1, xh_g4_2, xh_g4_3, xh_g4_4, xh_g4_5, xh_g3_0, xh_g3_1, xh_g3_2, xh_p5_2, xh_p5_3, xh_p8_1, xh_p5_6, xh_p5_10, xh_p4_1, xh_p4_2, xh_p4_3, xh_p4_4, xh_p4_5, xh_p3_2, xh_rd2, xh_wr2, xh_rd4, xh_wr4, xh_rd5, xh_wr5, xh_rd15, xh_wr15, xh_len15, xh_rd16, xh_wr16, xh_len16, xh_rd17, xh_wr17, xh_len17, xh_rdA, xh_rdP, xh_wrA, xh_wrP, Option.bind_some, Option.bind_none, ↓reduceIte, if_true, if_false, isO_eq X.1, xR, xW, x_hasPen_y X B hpn, x_in_n n3, i10, i00]
          · simp only [fX5_draws, xh_O5, xh_O4, xh_O3, xh_O8, xh_g5_0, xh_g5_1, xh_g5_2, xh_g5_3, xh_g5_4, xh_g5_5, xh_g5_7, xh_g5_8, xh_g5_9, xh_g5_10, xh_g5_6, xh_g8_0, xh_g8_1, xh_g4_0, xh_g4_1, xh_g4_2, xh_g4_3, xh_g4_4, xh_g4_5, xh_g3_0, xh_g3_1, xh_g3_2, xh_p5_2, xh_p5_3, xh_p8_1, xh_p5_6, xh_p5_10, xh_p4_1, xh_p4_2, xh_p4_3, xh_p4_4, xh_p4_5, xh_p3_2, xh_rd2, xh_wr2, xh_rd4, xh_wr4, xh_rd5, xh_wr5, xh_rd15, xh_wr15, xh_len15, xh_rd16, xh_wr16, xh_len16, xh_rd17, xh_wr17, xh_len17, xh_rdA, xh_rdP, xh_wrA, xh_wrP, Option.bind_some, Option.bind_none, ↓reduceIte, if_true, if_false, isO_eq X.1, xR, xW, x_hasPen_n X B n5, i10, i00]
        · rw [← i_1, ← i_9] at n3
          rw [c.hh]
          simp only [fX6_draws, mh_O, mh_gJ, mh_pJ, mh_gI0, mh_gI1, mh_gI2, mh_gI5, mh_gI6, mh_gI9, mh_gI14, mh_gI15, mh_gI16, mh_gI17, mh_gI18, mh_gI19, mh_gI24, mh_pI0, mh_pI1, mh_pI2, mh_pI5, mh_pI6, mh_pI9, mh_pI14, mh_pI15, mh_pI16, mh_pI17, mh_pI18, mh_pI19, mh_pI24, mh_gA3, mh_gA4, mh_gA7, mh_gA8, mh_gA10, mh_gA11, mh_gA13, mh_gA20, mh_gA21, mh_gA22, mh_gA23, mh_gA25, mh_gA26, mh_gA27, mh_gA28, mh_gA29, Option.bind_some, Option.bind_none, ↓reduceIte, if_true, if_false, mR, mW, m_in_n n3, i10, i00]
    · refine ⟨-1, h, sz, h, ?_, by rw [c.hh]; exact mh_O, ?_, c.iv⟩
      · rw [c.hx]
        simp only [fX5_draws, xh_O5, xh_O4, xh_O3, xh_O8, xh_g5_0, xh_g5_1, xh_g5_2, xh_g5_3, xh_g5_4, xh_g5_5, xh_g5_7, xh_g5_8, xh_g5_9, xh_g5_10, xh_g5_6, xh_g8_0, xh_g8_1, xh_g4_0, xh_g4_1, xh_g4_2, xh_g4_3, xh_g4_4, xh_g4_5, xh_g3_0, xh_g3_1, xh_g3_2, xh_p5_2, xh_p5_3, xh_p8_1, xh_p5_6, xh_p5_10, xh_p4_1, xh_p4_2, xh_p4_3, xh_p4_4, xh_p4_5, xh_p3_2, xh_rd2, xh_wr2, xh_rd4, xh_wr4, xh_rd5, xh_wr5, xh_rd15, xh_wr15, xh_len15, xh_rd16, xh_wr16, xh_len16, xh_rd17, xh_wr17, xh_len17, xh_rdA, xh_rdP, xh_wrA, xh_wrP, Option.bind_some, Option.bind_none, ↓reduceIte, if_true, if_false, isO_eq X.1, x_hasRing_y X B hi, x_hasWheel_n X B n2, i10, i00]
      · rw [c.hh]
        simp only [fX6_draws, mh_O, mh_gJ, mh_pJ, mh_gI0, mh_gI1, mh_gI2, mh_gI5, mh_gI6, mh_gI9, mh_gI14, mh_gI15, mh_gI16, mh_gI17, mh_gI18, mh_gI19, mh_gI24, mh_pI0, mh_pI1, mh_pI2, mh_pI5, mh_pI6, mh_pI9, mh_pI14, mh_pI15, mh_pI16, mh_pI17, mh_pI18, mh_pI19, mh_pI24, mh_gA3, mh_gA4, mh_gA7, mh_gA8, mh_gA10, mh_gA11, mh_gA13, mh_gA20, mh_gA21, mh_gA22, mh_gA23, mh_gA25, mh_gA26, mh_gA27, mh_gA28, mh_gA29, Option.bind_some, Option.bind_none, ↓reduceIte, if_true, if_false, m_isRing_y c.H.1 hR hi, m_isWheel_n c.H.2.1 hW n2, i10, i00]
  · refine ⟨-1, h, sz, h, ?_, by rw [c.hh]; exact mh_O, ?_, c.iv⟩
    · rw [c.hx]
      simp only [fX5_draws, xh_O5, xh_O4, xh_O3, xh_O8, xh_g5_0, xh_g5_1, xh_g5_2, xh_g5_3, xh_g5_4, xh_g5_5, xh_g5_7, xh_g5_8, xh_g5_9, xh_g5_10, xh_g5_6, xh_g8_0, xh_g8_1, xh_g4_0, xh_g4_1, xh_g4_2, xh_g4_3, xh_g4_4, xh_g4_5, xh_g3_0, xh_g3_1, xh_g3_2, xh_p5_2, xh_p5_3, xh_p8_1, xh_p5_6, xh_p5_10, xh_p4_1, xh_p4_2, xh_p4_3, xh_p4_4, xh_p4_5, xh_p3_2, xh_rd2, xh_wr2, xh_rd4, xh_wr4, xh_rd5, xh_wr5, xh_rd15, xh_wr15, xh_len15, xh_rd16, xh_wr16, xh_len16, xh_rd17, xh_wr17, xh_len17, xh_rdA, xh_rdP, xh_wrA, xh_wrP, Option.bind_some, Option.bind_none, ↓reduceIte, if_true, if_false, isO_eq X.1, x_hasRing_n X B n1, i00]
    · rw [c.hh]
      simp only [fX6_draws, mh_O, mh_gJ, mh_pJ, mh_gI0, mh_gI1, mh_gI2, mh_gI5, mh_gI6, mh_gI9, mh_gI14, mh_gI15, mh_gI16, mh_gI17, mh_gI18, mh_gI19, mh_gI24, mh_pI0, mh_pI1, mh_pI2, mh_pI5, mh_pI6, mh_pI9, mh_pI14, mh_pI15, mh_pI16, mh_pI17, mh_pI18, mh_pI19, mh_pI24, mh_gA3, mh_gA4, mh_gA7, mh_gA8, mh_gA10, mh_gA11, mh_gA13, mh_gA20, mh_gA21, mh_gA22, mh_gA23, mh_gA25, mh_gA26, mh_gA27, mh_gA28, mh_gA29, Option.bind_some, Option.bind_none, ↓reduceIte, if_true, if_false, m_isRing_n c.H.1 hR n1, i00]
end SQ
