section SG
variable {x : Nat} {N : Nat}
theorem curF_ua {s : Nat → Int32} {a : Nat → Nat → Int32} {k : Nat} {f : Nat → Int32} (hk : 5 ≤ k) (i : Nat) : curF s (ua a k f) i = curF s a i := by
  unfold curF
  rw [ua_n (by omega), ua_n (by omega)]
theorem CH.ok {g : Hp} {R W P : Nat} {T C : Nat → Nat} : ∀ {U : Nat} {bf : Option Nat} {ψ : Nat → Nat → Nat}, CH x g R W P T C U bf ψ → ∀ j, j < U → okN R W P T C (ψ j) := by
  intro U
  induction U with
  | zero => intro _ _ _ j hj; omega
  | succ U ih =>
    rintro bf ψ ⟨q, bf', h1, h2, h3, h4⟩ j hj
    rcases Nat.lt_or_ge j U with d | d
    · exact ih h4 j d
    · rw [show j = U by omega]; exact h2
theorem IMG.congr {g : Hp} {R W P : Nat} {T C : Nat → Nat} {ik : Option Nat} {uk : Int32} {f f' : Nat → Int32} (hP : P ≤ 4) (h : IMG x g R W P T C ik uk f) (e : ∀ i, i < 860 → f' i = f i) : IMG x g R W P T C ik uk f' := by
  rcases h with ⟨h1, h2⟩ | ⟨q, φ, bf, U, ψ, h1, h2, h3, h4, h5, h6, h7, h8, h9, h10⟩
  · exact Or.inl ⟨h1, by rw [e 0 (by omega)]; exact h2⟩
  · refine Or.inr ⟨q, φ, bf, U, ψ, h1, by rw [e 0 (by omega)]; exact h2, h3, by rw [e 1 (by omega)]; exact h4, h5, h6, h7, nF_congr hP h6.2.1 h8 (fun i hi => e _ (by omega)), h9, fun j hj => nF_congr hP (CH.ok h9 j hj).2.1 (h10 j hj) (fun i hi => e _ (by omega))⟩
theorem m_kpL {g : Hp} {m : Nat} {s : Nat → Int32} {t : Int64} {a : Nat → Nat → Int32} {o : Nat} (ho : o + 860 ≤ 1720) {α : Type} {K : Hp → Option Nat → Option α} : ∀ (n d j : Nat) (f : Nat → Int32), j + d = 780 → d < n → (∀ i, f i = if o + 80 ≤ i ∧ i < o + 80 + j then a 11 (i - (o + 80)) else a 16 i) → ∃ f', fX6_keep_L49 N K n (mH g m s t (ua a 16 f)) (some m) (nI o) (nI j) = K (mH g m s t (ua a 16 f')) (some m) ∧ ∀ i, f' i = if o + 80 ≤ i ∧ i < o + 860 then a 11 (i - (o + 80)) else a 16 i := by
  intro n
  induction n with
  | zero => intro d j f _ h; omega
  | succ n ih =>
    intro d j f hj hd hf
    rw [fX6_keep_L49]
    cases d with
    | zero =>
      have : j = 780 := by omega
      subst this
      exact ⟨f, if_pos (nI_le (a := 780) (by omega) (by omega)), hf⟩
    | succ d =>
      rw [if_neg (show ¬ (780 : Int32) ≤ nI j from nI_ge (a := j) (b := 780) (by omega) (by omega)), show nI o + 80 = nI (o + 80) from nI_add o 80, nI_add, nI_1]
      simp (disch := omega) only [mh_O, mh_gJ, mh_pJ, mh_gI0, mh_gI1, mh_gI2, mh_gI5, mh_gI6, mh_gI9, mh_gI14, mh_gI15, mh_gI16, mh_gI17, mh_gI18, mh_gI19, mh_gI24, mh_pI0, mh_pI1, mh_pI2, mh_pI5, mh_pI6, mh_pI9, mh_pI14, mh_pI15, mh_pI16, mh_pI17, mh_pI18, mh_pI19, mh_pI24, mh_gA3, mh_gA4, mh_gA7, mh_gA8, mh_gA10, mh_gA11, mh_gA13, mh_gA20, mh_gA21, mh_gA22, mh_gA23, mh_gA25, mh_gA26, mh_gA27, mh_gA28, mh_gA29, mh_rd1, mh_rd2, mh_rd3, mh_rd4, mh_rd5, mh_rd6, mh_rd7, mh_rd8, mh_rd9, mh_rd10, mh_rd11, mh_rd12, mh_rd13, mh_rd14, mh_rd15, mh_rd16, mh_wr1, mh_wr2, mh_wr3, mh_wr4, mh_wr5, mh_wr6, mh_wr7, mh_wr8, mh_wr9, mh_wr10, mh_wr11, mh_wr12, mh_wr13, mh_wr14, mh_wr15, mh_wr16, Option.bind_some, Option.bind_none, ↓reduceIte, if_true, if_false, ua_n, ua_s, ua_ua]
      refine ih d (j + 1) _ (by omega) (by omega) (fun i => ?_)
      by_cases c : i = o + 80 + j
      · subst c
        rw [pk_us, if_pos (by omega), show o + 80 + j - (o + 80) = j by omega]
      · rw [pk_un c, hf i]
        by_cases c2 : o + 80 ≤ i ∧ i < o + 80 + j
        · rw [if_pos c2, if_pos (by omega)]
        · rw [if_neg c2, if_neg (by omega)]
theorem m_bkL {g : Hp} {m : Nat} {s : Nat → Int32} {t : Int64} {a : Nat → Nat → Int32} {o : Nat} (ho : o + 860 ≤ 1720) {α : Type} {K : Hp → Option Nat → Option α} : ∀ (n d j : Nat) (f : Nat → Int32), j + d = 780 → d < n → (∀ i, i < j → f i = a 16 (o + 80 + i)) → ∃ f', fX6_back_L54 N K n (mH g m s t (ua a 11 f)) (some m) (nI o) (nI j) = K (mH g m s t (ua a 11 f')) (some m) ∧ ∀ i, i < 780 → f' i = a 16 (o + 80 + i) := by
  intro n
  induction n with
  | zero => intro d j f _ h; omega
  | succ n ih =>
    intro d j f hj hd hf
    rw [fX6_back_L54]
    cases d with
    | zero =>
      have : j = 780 := by omega
      subst this
      exact ⟨f, if_pos (nI_le (a := 780) (by omega) (by omega)), hf⟩
    | succ d =>
      rw [if_neg (show ¬ (780 : Int32) ≤ nI j from nI_ge (a := j) (b := 780) (by omega) (by omega)), show nI o + 80 = nI (o + 80) from nI_add o 80, nI_add, nI_1]
      simp (disch := omega) only [mh_O, mh_gJ, mh_pJ, mh_gI0, mh_gI1, mh_gI2, mh_gI5, mh_gI6, mh_gI9, mh_gI14, mh_gI15, mh_gI16, mh_gI17, mh_gI18, mh_gI19, mh_gI24, mh_pI0, mh_pI1, mh_pI2, mh_pI5, mh_pI6, mh_pI9, mh_pI14, mh_pI15, mh_pI16, mh_pI17, mh_pI18, mh_pI19, mh_pI24, mh_gA3, mh_gA4, mh_gA7, mh_gA8, mh_gA10, mh_gA11, mh_gA13, mh_gA20, mh_gA21, mh_gA22, mh_gA23, mh_gA25, mh_gA26, mh_gA27, mh_gA28, mh_gA29, mh_rd1, mh_rd2, mh_rd3, mh_rd4, mh_rd5, mh_rd6, mh_rd7, mh_rd8, mh_rd9, mh_rd10, mh_rd11, mh_rd12, mh_rd13, mh_rd14, mh_rd15, mh_rd16, mh_wr1, mh_wr2, mh_wr3, mh_wr4, mh_wr5, mh_wr6, mh_wr7, mh_wr8, mh_wr9, mh_wr10, mh_wr11, mh_wr12, mh_wr13, mh_wr14, mh_wr15, mh_wr16, Option.bind_some, Option.bind_none, ↓reduceIte, if_true, if_false, ua_n, ua_s, ua_ua]
      refine ih d (j + 1) _ (by omega) (by omega) (fun i hi => ?_)
      by_cases c : i = j
      · subst c
        rw [pk_us]
      · rw [pk_un c]
        exact hf i (by omega)
theorem s_keep (hN : 2000 ≤ N) : ∀ (h : Hp) (sz : Nat) (a1 : Int32), IV x h sz → ∃ (r : Int32) (h1 : Hp) (sz1 : Nat) (h2 : Hp), (fX5_keep N h (some x) a1 = some (r, h1) ∧ sz1 = sz) ∧ isO h1 (some (x + 18)) 6 = true ∧ fX6_keep N h1 (some (x + 18)) a1 = some (r, h2) ∧ IV x h2 sz1 := by
  rintro h sz a1 ⟨g, v, t, b, p, ip, r, s, a, R, W, P, T, C, φ, bf, sn, tt, tp, L, U, ψ, c⟩
  have X := c.XX
  have B := c.B
  have hR := B.1
  have hW := B.2.1
  have hP := B.2.2.1
  have hφ := c.O.2.1
  have ul := c.ul
  rcases in_rng a1 (lo := 0) (hi := 1) (by omega) (by omega) with ⟨k, -, hk, rfl⟩ | hn
  · obtain ⟨q1, q2, ia, ca, fi, fc, q3, q4, q5, q6, q7, q8, q9⟩ := pp_read (E := xH (mH g (x + 18) s t a) x v t b p (va_up ip k (some p)) (ua r 14 (upd (r 14) k (nI U)))) c.Qx xh_dy
    have ql : aL (xH (mH g (x + 18) s t a) x v t b p (va_up ip k (some p)) (ua r 14 (upd (r 14) k (nI U)))) (some ca) = some (nI (φ 1)) := aL_A q8 (Or.inl rfl)
    obtain ⟨p1, -⟩ := pp_read (E := xH (mH g (x + 18) s t a) x v t b p ip r) c.Qx xh_dy
    obtain ⟨fl, el, hl⟩ := m_lays (g := xH g x v t b p (va_up ip k (some p)) (ua r 14 (upd (r 14) k (nI U)))) (m := x + 18) (s := s) (t := t) (a := ua a 16 (upd (upd (a 16) (860 * k) (nI 1)) (860 * k + 1) (nI U))) (N := N) hN (k := 16) (o := 860 * k + 2) (by omega) (by omega) (by show 860 * k + 2 + 78 ≤ 1720; omega) (by show 1720 ≤ 2000; omega)
    rw [ua_ua] at el
    simp only [ua_s, curF_ua (show 5 ≤ 16 by omega)] at hl
    obtain ⟨fk, ek, hkk⟩ := m_kpL (g := xH g x v t b p (va_up ip k (some p)) (ua r 14 (upd (r 14) k (nI U)))) (m := x + 18) (s := s) (t := t) (a := ua a 16 fl) (N := N) (o := 860 * k) (by omega) (K := fun h l0 => (gI h l0 6 6).bind fun v80 => some (v80, h)) N 780 0 fl (by omega) (by omega) (fun i => by rw [ua_s, if_neg (by omega)])
    simp only [ua_ua] at ek
    rw [ua_s, ua_n (by omega)] at hkk
    refine ⟨nI (φ 1), mH (xH g x v t b p (va_up ip k (some p)) (ua r 14 (upd (r 14) k (nI U)))) (x + 18) s t a, sz, mH (xH g x v t b p (va_up ip k (some p)) (ua r 14 (upd (r 14) k (nI U)))) (x + 18) s t (ua a 16 fk), ⟨?_, rfl⟩, mh_O, ?_, ?_⟩
    · rw [c.hx, xh_mh rfl]
      simp only [fX5_keep, xh_O5, xh_O4, xh_O3, xh_g5_0, xh_g5_1, xh_g5_2, xh_g5_3, xh_g5_5, xh_g5_6, xh_g5_8, xh_g5_9, xh_g5_10, xh_g5_4, xh_g5_11, xh_g5_7, xh_g4_0, xh_g4_1, xh_g4_2, xh_g4_3, xh_g4_4, xh_g4_5, xh_g3_0, xh_g3_1, xh_g3_2, xh_p5_2, xh_p5_3, xh_p5_4, xh_p5_7, xh_p5_11, xh_p4_1, xh_p4_2, xh_p4_3, xh_p4_4, xh_p4_5, xh_p3_2, xh_rd2, xh_wr2, xh_rd4, xh_wr4, xh_rd5, xh_wr5, xh_rd14, xh_wr14, xh_rd15, xh_wr15, xh_len15, xh_rd16, xh_wr16, xh_len16, xh_rd17, xh_wr17, xh_len17, xh_rdA, xh_wrA, Option.bind_some, Option.bind_none, ↓reduceIte, if_true, if_false]
      rw [i_0, i_1, (w_y (N := N) (G := xH (mH g (x + 18) s t a) x v t b p ip r) (Nat.zero_le k) hk (by omega)).1]
      simp only [Option.bind_some, Option.bind_none, ↓reduceIte, if_true, if_false]
      rw [if_neg (by decide), xh_wrA (by omega) (Or.inr p1)]
      simp (disch := omega) only [xh_O5, xh_O4, xh_O3, xh_g5_0, xh_g5_1, xh_g5_2, xh_g5_3, xh_g5_5, xh_g5_6, xh_g5_8, xh_g5_9, xh_g5_10, xh_g5_4, xh_g5_11, xh_g5_7, xh_g4_0, xh_g4_1, xh_g4_2, xh_g4_3, xh_g4_4, xh_g4_5, xh_g3_0, xh_g3_1, xh_g3_2, xh_p5_2, xh_p5_3, xh_p5_4, xh_p5_7, xh_p5_11, xh_p4_1, xh_p4_2, xh_p4_3, xh_p4_4, xh_p4_5, xh_p3_2, xh_rd2, xh_wr2, xh_rd4, xh_wr4, xh_rd5, xh_wr5, xh_rd14, xh_wr14, xh_rd15, xh_wr15, xh_len15, xh_rd16, xh_wr16, xh_len16, xh_rd17, xh_wr17, xh_len17, xh_rdA, xh_wrA, Option.bind_some, Option.bind_none, ↓reduceIte, if_true, if_false, c.ux, q4, ql]
    · simp only [fX6_keep, mh_O, mh_gJ, mh_pJ, mh_gI0, mh_gI1, mh_gI2, mh_gI5, mh_gI6, mh_gI9, mh_gI14, mh_gI15, mh_gI16, mh_gI17, mh_gI18, mh_gI19, mh_gI24, mh_pI0, mh_pI1, mh_pI2, mh_pI5, mh_pI6, mh_pI9, mh_pI14, mh_pI15, mh_pI16, mh_pI17, mh_pI18, mh_pI19, mh_pI24, mh_gA3, mh_gA4, mh_gA7, mh_gA8, mh_gA10, mh_gA11, mh_gA13, mh_gA20, mh_gA21, mh_gA22, mh_gA23, mh_gA25, mh_gA26, mh_gA27, mh_gA28, mh_gA29, Option.bind_some, Option.bind_none, ↓reduceIte, if_true, if_false]
      rw [i_0, i_1, (w_y (N := N) (G := mH (xH g x v t b p (va_up ip k (some p)) (ua r 14 (upd (r 14) k (nI U)))) (x + 18) s t a) (Nat.zero_le k) hk (by omega)).2, show (860 : Int32) * nI k = nI (860 * k) from pk_mul 860 k, nI_add, show nI (860 * k) + 2 = nI (860 * k + 2) from nI_add (860 * k) 2]
      simp (disch := omega) only [mh_O, mh_gJ, mh_pJ, mh_gI0, mh_gI1, mh_gI2, mh_gI5, mh_gI6, mh_gI9, mh_gI14, mh_gI15, mh_gI16, mh_gI17, mh_gI18, mh_gI19, mh_gI24, mh_pI0, mh_pI1, mh_pI2, mh_pI5, mh_pI6, mh_pI9, mh_pI14, mh_pI15, mh_pI16, mh_pI17, mh_pI18, mh_pI19, mh_pI24, mh_gA3, mh_gA4, mh_gA7, mh_gA8, mh_gA10, mh_gA11, mh_gA13, mh_gA20, mh_gA21, mh_gA22, mh_gA23, mh_gA25, mh_gA26, mh_gA27, mh_gA28, mh_gA29, mh_rd1, mh_rd2, mh_rd3, mh_rd4, mh_rd5, mh_rd6, mh_rd7, mh_rd8, mh_rd9, mh_rd10, mh_rd11, mh_rd12, mh_rd13, mh_rd14, mh_rd15, mh_rd16, mh_wr1, mh_wr2, mh_wr3, mh_wr4, mh_wr5, mh_wr6, mh_wr7, mh_wr8, mh_wr9, mh_wr10, mh_wr11, mh_wr12, mh_wr13, mh_wr14, mh_wr15, mh_wr16, Option.bind_some, Option.bind_none, ↓reduceIte, if_true, if_false, c.um, ua_s, ua_ua]
      rw [if_neg (by decide), el]
      simp only [mh_O, mh_gJ, mh_pJ, mh_gI0, mh_gI1, mh_gI2, mh_gI5, mh_gI6, mh_gI9, mh_gI14, mh_gI15, mh_gI16, mh_gI17, mh_gI18, mh_gI19, mh_gI24, mh_pI0, mh_pI1, mh_pI2, mh_pI5, mh_pI6, mh_pI9, mh_pI14, mh_pI15, mh_pI16, mh_pI17, mh_pI18, mh_pI19, mh_pI24, mh_gA3, mh_gA4, mh_gA7, mh_gA8, mh_gA10, mh_gA11, mh_gA13, mh_gA20, mh_gA21, mh_gA22, mh_gA23, mh_gA25, mh_gA26, mh_gA27, mh_gA28, mh_gA29, Option.bind_some, Option.bind_none, ↓reduceIte, if_true, if_false]
      refine ek.trans ?_
      simp only [mh_O, mh_gJ, mh_pJ, mh_gI0, mh_gI1, mh_gI2, mh_gI5, mh_gI6, mh_gI9, mh_gI14, mh_gI15, mh_gI16, mh_gI17, mh_gI18, mh_gI19, mh_gI24, mh_pI0, mh_pI1, mh_pI2, mh_pI5, mh_pI6, mh_pI9, mh_pI14, mh_pI15, mh_pI16, mh_pI17, mh_pI18, mh_pI19, mh_pI24, mh_gA3, mh_gA4, mh_gA7, mh_gA8, mh_gA10, mh_gA11, mh_gA13, mh_gA20, mh_gA21, mh_gA22, mh_gA23, mh_gA25, mh_gA26, mh_gA27, mh_gA28, mh_gA29, Option.bind_some, Option.bind_none, ↓reduceIte, if_true, if_false, c.J.2.1]
    · have hf (i : Nat) : fk i = if 860 * k + 80 ≤ i ∧ i < 860 * k + 860 then a 11 (i - (860 * k + 80)) else if 860 * k + 2 ≤ i ∧ i < 860 * k + 2 + 78 then curF s a (i - (860 * k + 2)) else upd (upd (a 16) (860 * k) (nI 1)) (860 * k + 1) (nI U) i := by
        rw [hkk i, hl i]
      refine c.keep3 (U' := U) (ψ' := ψ) (φ' := φ) (bf' := bf) (fun _ _ => rfl) (fun i hi => ua_n hi) (fun _ _ => rfl) (fun i hi => ua_n (by omega)) (fun _ _ _ e => e) c.O ?_ c.Q c.ul c.um c.ux c.ch ?_ (fun k' hk' => ?_) c.fr c.sx
      · have J := c.J
        unfold mN at J ⊢
        rw [ua_n (by omega), ua_n (by omega)]
        exact J
      · rw [ua_n (by omega)]; exact c.cm
      · rw [ua_s, ua_s]
        by_cases ck : k' = k
        · subst ck
          refine Or.inr ⟨p, φ, bf, U, ψ, ?_, ?_, pk_us, ?_, c.ul, c.O, c.Q, ?_, c.ch, fun j hj => ?_⟩
          · unfold va_up; simp
          · dsimp only
            rw [hf, if_neg (by omega), if_neg (by omega), pk_un (by omega)]
            exact pk_us
          · dsimp only
            rw [hf, if_neg (by omega), if_neg (by omega), pk_us]
          · refine nF_congr hP hφ (nF_cur hP c.J) (fun i hi => ?_)
            dsimp only
            rw [hf, if_neg (by omega), if_pos (by omega), show 860 * k' + (2 + i) - (860 * k' + 2) = i by omega]
          · refine nF_congr hP (CH.ok c.ch j hj).2.1 (c.cm j hj) (fun i hi => ?_)
            dsimp only
            rw [hf, if_pos (by omega), show 860 * k' + (80 + 78 * j + i) - (860 * k' + 80) = 78 * j + i by omega]
        · have e1 : va_up ip k (some p) k' = ip k' := by unfold va_up; simp [ck]
          rw [e1, pk_un ck]
          refine IMG.congr hP (c.im k' hk') (fun i hi => ?_)
          rw [hf, if_neg (by omega), if_neg (by omega), pk_un (by omega), pk_un (by omega)]
  · refine st_11 (fx := fun h => fX5_keep N h (some x) a1) (fm := fun h => fX6_keep N h (some (x + 18)) a1) c (v' := v) (r' := r) (t' := t) (s' := s) (a' := a) (-1) ?_ ?_ (fun _ _ => rfl) (fun _ _ => rfl) (fun _ _ => rfl) (fun _ _ => rfl) c.ca
    · simp only [fX5_keep]
      rw [i_0, i_1, x_in_n hn]
      rfl
    · simp only [fX6_keep]
      rw [i_0, i_1, m_in_n hn]
      rfl
end SG
