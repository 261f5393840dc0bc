section XE
variable {G : Hp} {x : Nat} {v : Nat → Int32} {t : Int64} {b p : Nat} {ip : Nat → Option Nat} {r : Nat → Nat → Int32} {N R W P : Nat} {T C φ : Nat → Nat}
theorem x_curveAt_y {E : Hp} (O : okN R W P T C φ) (Q : PP x G P T C p φ) (hE : ∀ q, dy x q → E q = G q) {k : Nat} (hk : k < φ 1) : ∃ ck, fX2_curveAt N E (some p) (nI k) = some (some ck) ∧ dy x ck ∧ E ck = some (oO 1 (cvL T C φ k)) := by
  have hφ := O.2.1
  obtain ⟨q1, q2, ia, ca, fi, fc, q3, q4, q6, q7, q8, q9⟩ := pp_read (E := E) Q hE
  have ql : aL E (some ca) = some (nI (φ 1)) := aL_A q8 (Or.inl rfl)
  obtain ⟨ck, c1, c2, c3⟩ := q9 k hk
  have ra : rA E (some ca) 2 (nI k) = some (some ck) := by rw [rA_eq q8 (by omega) (by omega), c1]
  refine ⟨ck, ?_, c2, c3⟩
  simp only [fX2_curveAt, q4, ql, ra, Option.bind_some, Option.bind_none, ↓reduceIte, if_true, if_false]
  rw [if_neg (nI_neg (by omega)), if_neg (nI_ge (by omega) (by omega))]
theorem x_curveAt_n {E : Hp} (O : okN R W P T C φ) (Q : PP x G P T C p φ) (hE : ∀ q, dy x q → E q = G q) {k : Int32} (hk : ¬ vp_in k (φ 1)) : fX2_curveAt N E (some p) k = some none := by
  have hφ := O.2.1
  obtain ⟨q1, q2, ia, ca, fi, fc, q3, q4, q6, q7, q8, q9⟩ := pp_read (E := E) Q hE
  have ql : aL E (some ca) = some (nI (φ 1)) := aL_A q8 (Or.inl rfl)
  simp only [fX2_curveAt, q4, ql, Option.bind_some, Option.bind_none, ↓reduceIte, if_true, if_false]
  rcases nvp hk with c | ⟨c, d⟩ | c
  · rw [if_pos c]
  · rw [if_neg c, if_pos d]
  · omega
theorem x_inkOf {E : Hp} (B : okB R W P T C) (O : okN R W P T C φ) (Q : PP x G P T C p φ) (hE : ∀ q, dy x q → E q = G q) {k : Nat} (hk : k < P) : fX2_inkOf N E (some p) (nI k) = some (nI (φ (2 + k))) := by
  have hP := B.2.2.1
  obtain ⟨q1, q2, ia, ca, fi, fc, q3, q4, q6, q7, q8, q9⟩ := pp_read (E := E) Q hE
  have ql : aL E (some ia) = some (nI P) := aL_I q6 (by decide)
  have ra : rI E (some ia) 0 (nI k) = some (nI (φ (2 + k))) := by rw [rI_eq q6 (by omega) (by omega), q7 k hk]
  simp only [fX2_inkOf, q3, ql, ra, Option.bind_some, Option.bind_none, ↓reduceIte, if_true, if_false]
  rw [if_neg (nI_neg (by omega)), if_neg (nI_ge (by omega) (by omega))]
theorem x_tipsShown (hN : 2000 ≤ N) (B : okB R W P T C) (O : okN R W P T C φ) (Q : PP x G P T C p φ) {k line : Nat} (hl : line < 10) : ∃ f', fX5_tipsShown N (xH G x v t b p ip r) (some x) (nI k) (nI line) = some (nI (cnt (fun pt => lastK (tipL T C φ line pt) (φ 1) == nI k) 360), xH G x v t b p ip (ua r 15 f')) := by
  obtain ⟨f1, e1, h1⟩ := x_noteShown (G := G) (x := x) (v := v) (t := t) (b := b) (p := p) (ip := ip) (r := r) (N := N) hN B O Q hl
  have e2 := x_pointsNoted (G := G) (x := x) (v := v) (t := t) (b := b) (p := p) (ip := ip) (r := ua r 15 f1) hN (as := nI k)
  rw [ua_s, cnt_congr (q := fun pt => lastK (tipL T C φ line pt) (φ 1) == nI k) (fun pt hp => by rw [h1 pt hp])] at e2
  refine ⟨f1, ?_⟩
  simp only [fX5_tipsShown, xh_O5, xh_O4, xh_O3, xh_O8, xh_g5_0, xh_g5_1, xh_g5_2, xh_g5_3, xh_g5_4, xh_g5_5, xh_g5_7, xh_g5_8, xh_g5_9, xh_g5_10, xh_g5_6, xh_g8_0, xh_g8_1, xh_g4_0, xh_g4_1, xh_g4_2, xh_g4_3, xh_g4_4, xh_g4_5, xh_g3_0, xh_g3_1, xh_g3_2, xh_p5_2, xh_p5_3, xh_p8_1, xh_p5_6, xh_p5_10, xh_p4_1, xh_p4_2, xh_p4_3, xh_p4_4, xh_p4_5, xh_p3_2, xh_rd2, xh_wr2, xh_rd4, xh_wr4, xh_rd5, xh_wr5, xh_rd15, xh_wr15, xh_len15, xh_rd16, xh_wr16, xh_len16, xh_rd17, xh_wr17, xh_len17, xh_rdA, xh_rdP, xh_wrA, xh_wrP, Option.bind_some, Option.bind_none, ↓reduceIte, if_true, if_false, e1, e2]
theorem x_shL (hN : 2000 ≤ N) (B : okB R W P T C) (O : okN R W P T C φ) (Q : PP x G P T C p φ) {pt line : Nat} (hp : pt < 360) (hl : line < 10) {α : Type} {K : Int32 → Option α} {K' : Option α} (hK : K (-9) = K') : ∀ (n k : Nat), k ≤ φ 1 → k < n → fX5_shown_L34 N (xH G x v t b p ip r) K K' n (some x) (nI pt) (nI line) (nI k - 1) = K (lastK (tipL T C φ line pt) k) := by
  have hφ := O.2.1
  obtain ⟨q1, q2, ia, ca, fi, fc, q3, q4, q6, q7, q8, q9⟩ := pp_read (E := xH G x v t b p ip r) Q xh_dy
  intro n
  induction n with
  | zero => intro k _ h; omega
  | succ n ih =>
    intro k hk hn
    rw [fX5_shown_L34]
    cases k with
    | zero =>
      rw [if_pos (by decide)]
      exact hK.symm
    | succ k =>
      obtain ⟨ck, c1, c2, c3⟩ := q9 k (by omega)
      have ra : rA (xH G x v t b p ip r) (some ca) 2 (nI k) = some (some ck) := by rw [rA_eq q8 (by omega) (by omega), c1]
      have ql : aL (xH G x v t b p ip r) (some ca) = some (nI (φ 1)) := aL_A q8 (Or.inl rfl)
      have ec : fX2_curveAt N (xH G x v t b p ip r) (some p) (nI k) = some (some ck) := by
        simp only [fX2_curveAt, q4, ql, ra, Option.bind_some, Option.bind_none, ↓reduceIte, if_true, if_false]
        rw [if_neg (nI_neg (by omega)), if_neg (nI_ge (by omega) (by omega))]
      have e1 : nI (k + 1) - 1 = nI k := by rw [← nI_1]; grind
      rw [e1, if_neg (nI_neg (by omega))]
      simp (disch := omega) only [xh_O5, xh_O4, xh_O3, xh_O8, xh_g5_0, xh_g5_1, xh_g5_2, xh_g5_3, xh_g5_4, xh_g5_5, xh_g5_7, xh_g5_8, xh_g5_9, xh_g5_10, xh_g5_6, xh_g8_0, xh_g8_1, xh_g4_0, xh_g4_1, xh_g4_2, xh_g4_3, xh_g4_4, xh_g4_5, xh_g3_0, xh_g3_1, xh_g3_2, xh_p5_2, xh_p5_3, xh_p8_1, xh_p5_6, xh_p5_10, xh_p4_1, xh_p4_2, xh_p4_3, xh_p4_4, xh_p4_5, xh_p3_2, xh_rd2, xh_wr2, xh_rd4, xh_wr4, xh_rd5, xh_wr5, xh_rd15, xh_wr15, xh_len15, xh_rd16, xh_wr16, xh_len16, xh_rd17, xh_wr17, xh_len17, xh_rdA, xh_rdP, xh_wrA, xh_wrP, Option.bind_some, Option.bind_none, ↓reduceIte, if_true, if_false, q1, ec, reduceCtorEq, isO_eq c3, x_hasTip B (O.2.2.2 k (by omega)) c3 hp hl]
      show _ = K (if tipL T C φ line pt k = true then nI k else lastK (tipL T C φ line pt) k)
      by_cases c : tipL T C φ line pt k = true
      · rw [if_pos c, if_neg (by decide), if_pos c]
      · rw [if_neg c, if_pos rfl, if_neg c]
        have := ih k (by omega) (by omega)
        rw [show nI k + -1 = nI k - 1 by grind]
        exact this
theorem x_petL (hN : 2000 ≤ N) (B : okB R W P T C) (X : BX (xH G x v t b p ip r) b R W P T C) {q0 q : Nat} (hr : q0 < R) (hq : q ≤ 120) {α : Type} {K : Int32 → Option α} {K' : Option α} : ∀ (n d w : Nat), w + d = W → d < n → fX5_petals_L25 N (xH G x v t b p ip r) K K' n (some x) (nI q0) (nI q) (nI w) = if findU (fun w => fitB T C q0 w && (T q0 / Nat.gcd (T q0) (C w) == q)) d w = -9 then K' else K (findU (fun w => fitB T C q0 w && (T q0 / Nat.gcd (T q0) (C w) == q)) d w) := by
  have hW := B.2.1
  intro n
  induction n with
  | zero => intro d w _ h; omega
  | succ n ih =>
    intro d w hw hd
    have e4 : gI (xH G x v t b p ip r) (some b) 0 4 = some (nI W) := gI_eq X.1 rfl
    rw [fX5_petals_L25]
    simp only [xh_O5, xh_O4, xh_O3, xh_O8, xh_g5_0, xh_g5_1, xh_g5_2, xh_g5_3, xh_g5_4, xh_g5_5, xh_g5_7, xh_g5_8, xh_g5_9, xh_g5_10, xh_g5_6, xh_g8_0, xh_g8_1, xh_g4_0, xh_g4_1, xh_g4_2, xh_g4_3, xh_g4_4, xh_g4_5, xh_g3_0, xh_g3_1, xh_g3_2, xh_p5_2, xh_p5_3, xh_p8_1, xh_p5_6, xh_p5_10, xh_p4_1, xh_p4_2, xh_p4_3, xh_p4_4, xh_p4_5, xh_p3_2, xh_rd2, xh_wr2, xh_rd4, xh_wr4, xh_rd5, xh_wr5, xh_rd15, xh_wr15, xh_len15, xh_rd16, xh_wr16, xh_len16, xh_rd17, xh_wr17, xh_len17, xh_rdA, xh_rdP, xh_wrA, xh_wrP, Option.bind_some, Option.bind_none, ↓reduceIte, if_true, if_false, e4]
    cases d with
    | zero =>
      rw [if_pos (nI_le (by omega) (by omega))]
      exact (if_pos rfl).symm
    | succ d =>
      have hp : T q0 / Nat.gcd (T q0) (C w) ≤ 120 := Nat.le_trans (Nat.div_le_self _ _) (B.2.2.2.1 q0 hr).2.1
      rw [if_neg (nI_ge (by omega) (by omega))]
      simp (disch := omega) only [isO_eq X.1, xh_O5, xh_O4, xh_O3, xh_O8, xh_g5_0, xh_g5_1, xh_g5_2, xh_g5_3, xh_g5_4, xh_g5_5, xh_g5_7, xh_g5_8, xh_g5_9, xh_g5_10, xh_g5_6, xh_g8_0, xh_g8_1, xh_g4_0, xh_g4_1, xh_g4_2, xh_g4_3, xh_g4_4, xh_g4_5, xh_g3_0, xh_g3_1, xh_g3_2, xh_p5_2, xh_p5_3, xh_p8_1, xh_p5_6, xh_p5_10, xh_p4_1, xh_p4_2, xh_p4_3, xh_p4_4, xh_p4_5, xh_p3_2, xh_rd2, xh_wr2, xh_rd4, xh_wr4, xh_rd5, xh_wr5, xh_rd15, xh_wr15, xh_len15, xh_rd16, xh_wr16, xh_len16, xh_rd17, xh_wr17, xh_len17, xh_rdA, xh_rdP, xh_wrA, xh_wrP, Option.bind_some, Option.bind_none, ↓reduceIte, if_true, if_false, x_fits X B hr (show w < W by omega), x_petalsOf hN X B hr (show w < W by omega), nI_eq, nI_1]
      have ih' := ih d (w + 1) (by omega) (by omega)
      by_cases c : C w < T q0
      · rw [if_pos c, if_neg (by decide)]
        by_cases c2 : T q0 / Nat.gcd (T q0) (C w) = q
        · have e : findU (fun w => fitB T C q0 w && (T q0 / Nat.gcd (T q0) (C w) == q)) (d + 1) w = nI w := if_pos (by simp [fitB, c, c2])
          rw [if_pos c2, e, if_neg (nI_neg9 (by omega))]
        · have e : findU (fun w => fitB T C q0 w && (T q0 / Nat.gcd (T q0) (C w) == q)) (d + 1) w = findU (fun w => fitB T C q0 w && (T q0 / Nat.gcd (T q0) (C w) == q)) d (w + 1) := if_neg (by simp [fitB, c, c2])
          rw [if_neg c2, e, ih']
      · have e : findU (fun w => fitB T C q0 w && (T q0 / Nat.gcd (T q0) (C w) == q)) (d + 1) w = findU (fun w => fitB T C q0 w && (T q0 / Nat.gcd (T q0) (C w) == q)) d (w + 1) := if_neg (by simp [fitB, c])
        rw [if_neg c, if_pos rfl, e, ih']
end XE
