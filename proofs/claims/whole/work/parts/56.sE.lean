section SE
variable {x : Nat} {N : Nat}
theorem t_sw (t a b : Int64) : t + a + b = t + b + a := by rw [Int64.add_assoc, Int64.add_comm a b, ← Int64.add_assoc]
/-- all anew but text and sights -/
theorem CI.keep3 {h : Hp} {sz : Nat} {g : Hp} {v : Nat → Int32} {t : Int64} {b p : Nat} {ip : Nat → Option Nat} {r : Nat → Nat → Int32} {s : Nat → Int32} {a : Nat → Nat → Int32} {R W P : Nat} {T C φ : Nat → Nat} {sn : Nat} {tt tp : Nat → Nat} {L U : Nat} {ψ : Nat → Nat → Nat} {g' : Hp} {sz' p' : Nat} {ip' : Nat → Option Nat} {v' : Nat → Int32} {r' : Nat → Nat → Int32} {s' : Nat → Int32} {a' : Nat → Nat → Int32} {φ' : Nat → Nat} {U' : Nat} {ψ' : Nat → Nat → Nat} (c : CI x h sz g v t b p ip r s a R W P T C φ sn tt tp L U ψ) (hv : ∀ i, i ≠ 0 → v' i = v i) (hr : ∀ k, r' k = r k) (hs : ∀ i, (i = 0 ∨ i = 1 ∨ i = 2 ∨ i = 9 ∨ i = 14) → s' i = s i) (ha : ∀ k, (k = 1 ∨ k = 2 ∨ k = 5 ∨ k = 6 ∨ k = 7) → a' k = a k) (hg : ∀ q, dy x q → ∀ y, g q = some y → g' q = some y) (O : okN R W P T C φ') (J : mN s' a' P φ') (Q : PP x g' P T C p' φ') (ul : U' ≤ 10) (um : s' 24 = nI U') (ux : v' 0 = nI U') (ch : CH x g' R W P T C U' (fun j => ip' (j + 2)) ψ') (cm : ∀ j, j < U' → nF (fun i => a' 11 (78 * j + i)) P (ψ' j)) (im : ∀ k, k < 2 → IMG x g' R W P T C (ip' k) (fun i => a' 16 (860 * k + i))) (fr : ∀ q, sz' ≤ q → g' q = none) (sx : x + 35 < sz') : IV x (mH (xH g' x v' t b p' ip' r') (x + 19) s' t a') sz' := by
  refine (CI.mk (sn := sn) (tt := tt) (tp := tp) (L := L) (T := T) (C := C) rfl c.B ?_ (c.X.moved hg) O J Q ?_ ?_ ?_ c.tl ?_ ?_ ?_ ul um ux ch cm im fr sx).iv
  · have H := c.H
    unfold mB at H ⊢
    rw [hs 0 (by decide), hs 1 (by decide), hs 2 (by decide), ha 1 (by decide), ha 2 (by decide)]
    exact H
  · have S := c.S
    unfold mS at S ⊢
    rw [hs 9 (by decide), ha 5 (by decide), ha 6 (by decide)]
    exact S
  · have Y := c.Y
    unfold xS at Y ⊢
    rw [hv 7 (by decide), hr 4, hr 5]
    exact Y
  · rw [hv 1 (by decide), hr 17]; exact c.ca
  · rw [hs 14 (by decide)]; exact c.tm
  · rw [hv 2 (by decide)]; exact c.tx
  · rw [ha 7 (by decide), hr 2]; exact c.te
/-- a note taken again from a row -/
theorem nF_mN {s : Nat → Int32} {a : Nat → Nat → Int32} {P o k : Nat} {φ : Nat → Nat} {f3 f4 : Nat → Int32} (hP : P ≤ 4) (hφ : φ 1 ≤ 12) (h : nF (fun i => a k (o + i)) P φ) (h3 : ∀ i, i < 4 → f3 i = a k (o + 2 + i)) (h4 : ∀ i, i < 72 → f4 i = a k (o + 6 + i)) : mN (upd (upd s 5 (a k o)) 6 (a k (o + 1))) (ua (ua a 3 f3) 4 f4) P φ := by
  obtain ⟨n1, n2, n3, n4⟩ := h
  refine ⟨?_, ?_, fun i hi => ?_, fun q hq => ?_⟩
  · rw [pk_un (by omega), pk_us]; exact n1
  · rw [pk_us]; exact n2
  · rw [ua_n (by omega), ua_s, h3 i (by omega), ← n3 i hi]
    dsimp only
    rw [Nat.add_assoc]
  · rw [ua_s, h4 q (by omega), ← n4 q hq]
    dsimp only
    rw [Nat.add_assoc]
theorem s_undo (hN : 2000 ≤ N) : ∀ (h : Hp) (sz : Nat), IV x h sz → ∃ (r : Int32) (h1 : Hp) (sz1 : Nat) (h2 : Hp), (fX5_undo N h (some x) = some (r, h1) ∧ sz1 = sz) ∧ isO h1 (some (x + 19)) 6 = true ∧ fX6_undo N h1 (some (x + 19)) = some (r, h2) ∧ IV x h2 sz1 := by
  rintro h sz ⟨g, v, t, b, p, ip, r, s, a, R, W, P, T, C, φ, sn, tt, tp, L, U, ψ, c⟩
  have X := c.XX
  have B := c.B
  have hR := B.1
  have hW := B.2.1
  have hP := B.2.2.1
  have hφ := c.O.2.1
  have ul := c.ul
  by_cases cu : U = 0
  · refine st_11 (fx := fun h => fX5_undo N h (some x)) (fm := fun h => fX6_undo N h (some (x + 19))) c (v' := v) (r' := r) (t' := t) (s' := s) (a' := a) (-2) ?_ ?_ (fun _ _ => rfl) (fun _ _ => rfl) (fun _ _ => rfl) (fun _ _ => rfl) c.ca
    · have e0 : v 0 = nI 0 := by rw [c.ux, cu]
      simp only [fX5_undo, xh_O5, xh_O4, xh_O3, xh_O8, xh_g5_0, xh_g5_1, xh_g5_2, xh_g5_3, xh_g5_4, xh_g5_5, xh_g5_7, xh_g5_8, xh_g5_9, xh_g5_10, xh_g5_6, xh_g8_0, xh_g8_1, xh_g4_0, xh_g4_1, xh_g4_2, xh_g4_3, xh_g4_4, xh_g4_5, xh_g3_0, xh_g3_1, xh_g3_2, xh_p5_2, xh_p5_3, xh_p8_1, xh_p5_6, xh_p5_10, xh_p4_1, xh_p4_2, xh_p4_3, xh_p4_4, xh_p4_5, xh_p3_2, xh_rd2, xh_wr2, xh_rd4, xh_wr4, xh_rd5, xh_wr5, xh_rd15, xh_wr15, xh_len15, xh_rd16, xh_wr16, xh_len16, xh_rd17, xh_wr17, xh_len17, xh_rdA, xh_rdP, xh_wrA, xh_wrP, Option.bind_some, Option.bind_none, ↓reduceIte, if_true, if_false, x_takes0 e0]
    · simp only [fX6_undo, mh_O, mh_gJ, mh_pJ, mh_gI0, mh_gI1, mh_gI2, mh_gI5, mh_gI6, mh_gI9, mh_gI14, mh_gI15, mh_gI16, mh_gI17, mh_gI18, mh_gI19, mh_gI24, mh_pI0, mh_pI1, mh_pI2, mh_pI5, mh_pI6, mh_pI9, mh_pI14, mh_pI15, mh_pI16, mh_pI17, mh_pI18, mh_pI19, mh_pI24, mh_gA3, mh_gA4, mh_gA7, mh_gA8, mh_gA10, mh_gA11, mh_gA13, mh_gA20, mh_gA21, mh_gA22, mh_gA23, mh_gA25, mh_gA26, mh_gA27, mh_gA28, mh_gA29, Option.bind_some, Option.bind_none, ↓reduceIte, if_true, if_false, c.um]
      rw [cu]
      rfl
  · obtain ⟨V, rfl⟩ : ∃ V, U = V + 1 := ⟨U - 1, by omega⟩
    have hch := c.ch
    obtain ⟨q, hb, hO, hQ⟩ := hch.1 V (by omega)
    dsimp only at hb
    have e1 : nI (V + 1) - 1 = nI V := by rw [← nI_1]; grind
    obtain ⟨f3, f4, et, h3, h4⟩ := m_takes (g := xH g x (upd v 0 (nI V)) t b q (va_up ip (V + 2) none) r) (m := x + 19) (s := upd s 24 (nI V)) (t := t) (a := a) (N := N) hN (k := 11) (o := 78 * V) (by omega) (by omega) (by show 78 * V + 78 ≤ 780; omega) (by show 780 ≤ 2000; omega)
    have hφ' := hO.2.1
    have ev (k : Nat) (hk : k ≠ V + 2) : va_up ip (V + 2) none k = ip k := by unfold va_up; rw [if_neg hk]
    refine ⟨nI V, mH (xH g x (upd v 0 (nI V)) t b q (va_up ip (V + 2) none) r) (x + 19) s t a, sz, mH (xH g x (upd v 0 (nI V)) t b q (va_up ip (V + 2) none) r) (x + 19) (upd (upd (upd s 24 (nI V)) 5 (a 11 (78 * V))) 6 (a 11 (78 * V + 1))) t (ua (ua a 3 f3) 4 f4), ⟨?_, rfl⟩, mh_O, ?_, ?_⟩
    · rw [c.hx, xh_mh rfl]
      simp only [fX5_undo, xh_O5, xh_O4, xh_O3, xh_O8, xh_g5_0, xh_g5_1, xh_g5_2, xh_g5_3, xh_g5_4, xh_g5_5, xh_g5_7, xh_g5_8, xh_g5_9, xh_g5_10, xh_g5_6, xh_g8_0, xh_g8_1, xh_g4_0, xh_g4_1, xh_g4_2, xh_g4_3, xh_g4_4, xh_g4_5, xh_g3_0, xh_g3_1, xh_g3_2, xh_p5_2, xh_p5_3, xh_p8_1, xh_p5_6, xh_p5_10, xh_p4_1, xh_p4_2, xh_p4_3, xh_p4_4, xh_p4_5, xh_p3_2, xh_rd2, xh_wr2, xh_rd4, xh_wr4, xh_rd5, xh_wr5, xh_rd15, xh_wr15, xh_len15, xh_rd16, xh_wr16, xh_len16, xh_rd17, xh_wr17, xh_len17, xh_rdA, xh_rdP, xh_wrA, xh_wrP, Option.bind_some, Option.bind_none, ↓reduceIte, if_true, if_false, x_takes (show V < 10 by omega) c.ux, hb, reduceCtorEq, pk_us]
    · simp only [fX6_undo, mh_O, mh_gJ, mh_pJ, mh_gI0, mh_gI1, mh_gI2, mh_gI5, mh_gI6, mh_gI9, mh_gI14, mh_gI15, mh_gI16, mh_gI17, mh_gI18, mh_gI19, mh_gI24, mh_pI0, mh_pI1, mh_pI2, mh_pI5, mh_pI6, mh_pI9, mh_pI14, mh_pI15, mh_pI16, mh_pI17, mh_pI18, mh_pI19, mh_pI24, mh_gA3, mh_gA4, mh_gA7, mh_gA8, mh_gA10, mh_gA11, mh_gA13, mh_gA20, mh_gA21, mh_gA22, mh_gA23, mh_gA25, mh_gA26, mh_gA27, mh_gA28, mh_gA29, Option.bind_some, Option.bind_none, ↓reduceIte, if_true, if_false, c.um, e1, pk_us]
      rw [if_neg (show ¬ nI (V + 1) = 0 from fun z => by have := (nI_eq (b := 0) (by omega) (by omega)).mp z; omega), show (78 : Int32) * nI V = nI (78 * V) from pk_mul 78 V, et]
      simp only [mh_O, mh_gJ, mh_pJ, mh_gI0, mh_gI1, mh_gI2, mh_gI5, mh_gI6, mh_gI9, mh_gI14, mh_gI15, mh_gI16, mh_gI17, mh_gI18, mh_gI19, mh_gI24, mh_pI0, mh_pI1, mh_pI2, mh_pI5, mh_pI6, mh_pI9, mh_pI14, mh_pI15, mh_pI16, mh_pI17, mh_pI18, mh_pI19, mh_pI24, mh_gA3, mh_gA4, mh_gA7, mh_gA8, mh_gA10, mh_gA11, mh_gA13, mh_gA20, mh_gA21, mh_gA22, mh_gA23, mh_gA25, mh_gA26, mh_gA27, mh_gA28, mh_gA29, Option.bind_some, Option.bind_none, ↓reduceIte, if_true, if_false]
      rw [pk_un (by omega), pk_un (by omega), pk_us]
    · refine c.keep3 (U' := V) (ψ' := ψ) (φ' := ψ V) (fun i hi => pk_un hi) (fun _ => rfl) (fun i hi => by rw [pk_un (by omega), pk_un (by omega), pk_un (by omega)]) (fun k hk => by rw [ua_n (by omega), ua_n (by omega)]) (fun _ _ _ e => e) hO (nF_mN (s := upd s 24 (nI V)) hP hφ' (c.cm V (by omega)) h3 h4) hQ (by omega) (by rw [pk_un (by omega), pk_un (by omega), pk_us]) pk_us ⟨fun j hj => ?_, fun j h1 h2 => ?_⟩ (fun j hj => ?_) (fun k hk => ?_) c.fr c.sx
      · dsimp only
        rw [ev _ (by omega)]
        exact hch.1 j (by omega)
      · dsimp only
        by_cases cj : j = V
        · subst cj
          unfold va_up
          rw [if_pos rfl]
        · rw [ev _ (by omega)]
          exact hch.2 j (by omega) h2
      · rw [ua_n (by omega), ua_n (by omega)]
        exact c.cm j (by omega)
      · rw [ua_n (by omega), ua_n (by omega), ev _ (by omega)]
        exact c.im k hk
end SE
