def sameR (f : Nat → Int32) (n : Nat) : Bool := allN (fun pt => f pt == f ((pt + n) % 360)) 360
def likeR (f : Nat → Int32) : Nat := findD (fun n => (360 % n == 0) && sameR f (360 / n)) 360
theorem sameR_congr {f f' : Nat → Int32} (h : ∀ pt, pt < 360 → f pt = f' pt) (n : Nat) : sameR f n = sameR f' n := by
  unfold sameR
  refine allN_congr (fun pt hp => ?_)
  rw [h pt hp, h _ (Nat.mod_lt _ (by decide))]
theorem likeR_congr {f f' : Nat → Int32} (h : ∀ pt, pt < 360 → f pt = f' pt) : likeR f = likeR f' := by
  unfold likeR
  simp only [sameR_congr h]
theorem sameR_360 (f : Nat → Int32) : sameR f 360 = true := by
  unfold sameR
  rw [allN_iff]
  intro pt hp
  rw [show (pt + 360) % 360 = pt by omega]
  simp
theorem findD_in {p : Nat → Bool} {n : Nat} : findD p n ≤ n := by
  induction n with
  | zero => exact Nat.le_refl _
  | succ n ih => unfold findD; split <;> omega
theorem findD_1 {p : Nat → Bool} (h : p 1 = true) : ∀ n, 1 ≤ n → 1 ≤ findD p n ∧ p (findD p n) = true ∧ ∀ k, k ≤ n → p k = true → k ≤ findD p n := by
  intro n
  induction n with
  | zero => intro h; omega
  | succ n ih =>
    intro _
    show 1 ≤ (if p (n + 1) = true then n + 1 else findD p n) ∧ p (if p (n + 1) = true then n + 1 else findD p n) = true ∧ ∀ k, k ≤ n + 1 → p k = true → k ≤ (if p (n + 1) = true then n + 1 else findD p n)
    by_cases c : p (n + 1) = true
    · rw [if_pos c]
      exact ⟨by omega, c, fun k hk _ => hk⟩
    · rw [if_neg c]
      have hn : 1 ≤ n := by
        rcases Nat.eq_zero_or_pos n with z | z
        · subst z; exact absurd h c
        · exact z
      obtain ⟨i1, i2, i3⟩ := ih hn
      refine ⟨i1, i2, fun k hk hp => ?_⟩
      rcases Nat.lt_or_ge k (n + 1) with d | d
      · exact i3 k (by omega) hp
      · rw [show k = n + 1 by omega] at hp
        exact absurd hp c
section XD
variable {G : Hp} {x : Nat} {v : Nat → Int32} {t : Int64} {b p : Nat} {ip : Nat → Option Nat} {r : Nat → Nat → Int32} {N R W P : Nat} {T C φ : Nat → Nat}
theorem x_hcL (O : okN R W P T C φ) (Q : PP x G P T C p φ) {line : Nat} (hl : line < 10) {α : Type} {K K' : Option α} : ∀ (n d k : Nat), k + d = φ 1 → d < n → (∀ j, j < k → ¬ cF φ j 2 = line) → (fX2_hasCurveIn_L2 N (xH G x v t b p ip r) K K' n (some p) (nI line) (nI k) = K ∧ ∃ j, j < φ 1 ∧ cF φ j 2 = line) ∨ (fX2_hasCurveIn_L2 N (xH G x v t b p ip r) K K' n (some p) (nI line) (nI k) = K' ∧ ∀ j, j < φ 1 → ¬ cF φ j 2 = line) := by
  have hφ := O.2.1
  obtain ⟨q1, q2, ia, ca, fi, fc, q3, q4, q6, q7, q8, q9⟩ := pp_read (E := xH G x v t b p ip r) Q xh_dy
  have ql : aL (xH G x v t b p ip r) (some ca) = some (nI (φ 1)) := aL_A q8 (Or.inl rfl)
  intro n
  induction n with
  | zero => intro d k _ h; omega
  | succ n ih =>
    intro d k hk hd hf
    rw [fX2_hasCurveIn_L2]
    simp only [q4, ql, Option.bind_some, Option.bind_none, ↓reduceIte, if_true, if_false]
    cases d with
    | zero =>
      rw [if_pos (nI_le (by omega) (by omega))]
      exact Or.inr ⟨rfl, fun j hj => hf j (by omega)⟩
    | succ d =>
      obtain ⟨ck, c1, c2, c3⟩ := q9 k (by omega)
      have h9 : cF φ k 2 ≤ 9 := (O.2.2.2 k (by omega)).2.2.2.2.1
      have ra : rA (xH G x v t b p ip r) (some ca) 2 (nI k) = some (some ck) := by rw [rA_eq q8 (by omega) (by omega), c1]
      have e2 : gI (xH G x v t b p ip r) (some ck) 1 2 = some (nI (cF φ k 2)) := gI_eq c3 rfl
      have ec : fX2_curveAt N (xH G x v t b p ip r) (some p) (nI k) = some (some ck) := by
        simp only [fX2_curveAt, q4, ql, ra, Option.bind_some, Option.bind_none, ↓reduceIte, if_true, if_false]
        rw [if_neg (nI_neg (by omega)), if_neg (nI_ge (by omega) (by omega))]
      rw [if_neg (nI_ge (by omega) (by omega))]
      simp (disch := omega) only [q1, ec, e2, reduceCtorEq, Option.bind_some, Option.bind_none, ↓reduceIte, if_true, if_false, nI_eq, nI_1]
      by_cases c : cF φ k 2 = line
      · rw [if_pos c]
        exact Or.inl ⟨rfl, k, by omega, c⟩
      · rw [if_neg c]
        refine ih d (k + 1) (by omega) (by omega) (fun j hj => ?_)
        rcases Nat.lt_or_ge j k with z | z
        · exact hf j z
        · rw [show j = k by omega]; exact c
theorem x_hasCurveIn (hN : 2000 ≤ N) (O : okN R W P T C φ) (Q : PP x G P T C p φ) {line : Nat} (hl : line < 10) : (fX2_hasCurveIn N (xH G x v t b p ip r) (some p) (nI line) = some 1 ∧ ∃ j, j < φ 1 ∧ cF φ j 2 = line) ∨ (fX2_hasCurveIn N (xH G x v t b p ip r) (some p) (nI line) = some 0 ∧ ∀ j, j < φ 1 → ¬ cF φ j 2 = line) := by
  have hφ := O.2.1
  simp only [fX2_hasCurveIn]
  exact x_hcL O Q hl N (φ 1) 0 (by omega) (by omega) (fun j hj => by omega)
theorem no_curve {line : Nat} (h : ∀ j, j < φ 1 → ¬ cF φ j 2 = line) (pt : Nat) : lastK (tipL T C φ line pt) (φ 1) = -9 ∧ penK T C φ line pt = -9 := by
  rcases lastK_cases (tipL T C φ line pt) (fun k => cF φ k 4) (φ 1) with ⟨h1, h2, -⟩ | ⟨k, h1, -, -, h4, -⟩
  · exact ⟨h1, h2⟩
  · simp only [tipL, Bool.and_eq_true, beq_iff_eq] at h4
    exact absurd h4.1 (h k h1)
theorem cnt_none {q : Nat → Bool} {n : Nat} (h : ∀ i, i < n → ¬ q i = true) : cnt q n = 0 := by
  induction n with
  | zero => rfl
  | succ n ih => rw [cnt_f (h n (by omega)), ih (fun i hi => h i (by omega))]
theorem cnt_not {q : Nat → Bool} {n : Nat} : cnt (fun i => !q i) n = n - cnt q n := by
  induction n with
  | zero => rfl
  | succ n ih =>
    have := cnt_le q n
    by_cases c : q n = true
    · rw [cnt_t c, cnt_f (by simp [c]), ih]; omega
    · rw [cnt_f c, cnt_t (by simpa using c), ih]; omega
theorem x_popL (hN : 2000 ≤ N) (B : okB R W P T C) (O : okN R W P T C φ) (Q : PP x G P T C p φ) {pn : Nat} (hpn : pn < 100) {α : Type} {K : Hp → Int32 → Option α} : ∀ (n d i : Nat) (r : Nat → Nat → Int32), i + d = 9 → d < n → ∃ f', fX5_pointsOfPen_L4 N K n (xH G x v t b p ip r) (some x) (nI pn) (nI (sumN (fun i => cnt (fun pt => penK T C φ (i + 1) pt == nI pn) 360) i)) (nI (i + 1)) = K (xH G x v t b p ip (ua r 15 f')) (nI (sumN (fun i => cnt (fun pt => penK T C φ (i + 1) pt == nI pn) 360) 9)) := by
  intro n
  induction n with
  | zero => intro d i r _ h; omega
  | succ n ih =>
    intro d i r hi hd
    obtain ⟨q1, -⟩ := pp_read (E := xH G x v t b p ip r) Q xh_dy
    rw [fX5_pointsOfPen_L4]
    cases d with
    | zero =>
      have : i = 9 := by omega
      subst this
      refine ⟨r 15, ?_⟩
      rw [if_pos (show (9 : Int32) < nI (9 + 1) from nI_lt (a := 9) (by omega) (by omega)), ua_id]
    | succ d =>
      rw [if_neg (show ¬ (9 : Int32) < nI (i + 1) from nI_nlt (a := 9) (by omega) (by omega))]
      simp only [xh_O5, xh_O4, xh_O3, xh_O8, xh_g5_0, xh_g5_1, xh_g5_2, xh_g5_3, xh_g5_4, xh_g5_5, xh_g5_7, xh_g5_8, xh_g5_9, xh_g5_10, xh_g5_6, xh_g8_0, xh_g8_1, xh_g4_0, xh_g4_1, xh_g4_2, xh_g4_3, xh_g4_4, xh_g4_5, xh_g3_0, xh_g3_1, xh_g3_2, xh_p5_2, xh_p5_3, xh_p8_1, xh_p5_6, xh_p5_10, xh_p4_1, xh_p4_2, xh_p4_3, xh_p4_4, xh_p4_5, xh_p3_2, xh_rd2, xh_wr2, xh_rd4, xh_wr4, xh_rd5, xh_wr5, xh_rd15, xh_wr15, xh_len15, xh_rd16, xh_wr16, xh_len16, xh_rd17, xh_wr17, xh_len17, xh_rdA, xh_rdP, xh_wrA, xh_wrP, Option.bind_some, Option.bind_none, ↓reduceIte, if_true, if_false, q1]
      rcases x_hasCurveIn (G := G) (x := x) (v := v) (t := t) (b := b) (p := p) (ip := ip) (r := r) hN O Q (line := i + 1) (by omega) with ⟨e, -⟩ | ⟨e, h0⟩
      · obtain ⟨f1, e1, h1⟩ := x_notePens (G := G) (x := x) (v := v) (t := t) (b := b) (p := p) (ip := ip) (r := r) (N := N) hN B O Q (line := i + 1) (by omega)
        have e2 := x_pointsNoted (G := G) (x := x) (v := v) (t := t) (b := b) (p := p) (ip := ip) (r := ua r 15 f1) hN (as := nI pn)
        rw [ua_s, cnt_congr (q := fun pt => penK T C φ (i + 1) pt == nI pn) (fun pt hp => by rw [h1 pt hp])] at e2
        simp only [e, xh_O5, xh_O4, xh_O3, xh_O8, xh_g5_0, xh_g5_1, xh_g5_2, xh_g5_3, xh_g5_4, xh_g5_5, xh_g5_7, xh_g5_8, xh_g5_9, xh_g5_10, xh_g5_6, xh_g8_0, xh_g8_1, xh_g4_0, xh_g4_1, xh_g4_2, xh_g4_3, xh_g4_4, xh_g4_5, xh_g3_0, xh_g3_1, xh_g3_2, xh_p5_2, xh_p5_3, xh_p8_1, xh_p5_6, xh_p5_10, xh_p4_1, xh_p4_2, xh_p4_3, xh_p4_4, xh_p4_5, xh_p3_2, xh_rd2, xh_wr2, xh_rd4, xh_wr4, xh_rd5, xh_wr5, xh_rd15, xh_wr15, xh_len15, xh_rd16, xh_wr16, xh_len16, xh_rd17, xh_wr17, xh_len17, xh_rdA, xh_rdP, xh_wrA, xh_wrP, Option.bind_some, Option.bind_none, ↓reduceIte, if_true, if_false]
        rw [if_neg (by decide)]
        simp only [xh_O5, xh_O4, xh_O3, xh_O8, xh_g5_0, xh_g5_1, xh_g5_2, xh_g5_3, xh_g5_4, xh_g5_5, xh_g5_7, xh_g5_8, xh_g5_9, xh_g5_10, xh_g5_6, xh_g8_0, xh_g8_1, xh_g4_0, xh_g4_1, xh_g4_2, xh_g4_3, xh_g4_4, xh_g4_5, xh_g3_0, xh_g3_1, xh_g3_2, xh_p5_2, xh_p5_3, xh_p8_1, xh_p5_6, xh_p5_10, xh_p4_1, xh_p4_2, xh_p4_3, xh_p4_4, xh_p4_5, xh_p3_2, xh_rd2, xh_wr2, xh_rd4, xh_wr4, xh_rd5, xh_wr5, xh_rd15, xh_wr15, xh_len15, xh_rd16, xh_wr16, xh_len16, xh_rd17, xh_wr17, xh_len17, xh_rdA, xh_rdP, xh_wrA, xh_wrP, Option.bind_some, Option.bind_none, ↓reduceIte, if_true, if_false, e1, e2, nI_add, nI_1]
        obtain ⟨f2, e3⟩ := ih d (i + 1) (ua r 15 f1) (by omega) (by omega)
        rw [ua_ua] at e3
        exact ⟨f2, e3⟩
      · simp only [e, Option.bind_some, Option.bind_none, ↓reduceIte, if_true, if_false, nI_1]
        obtain ⟨f2, e3⟩ := ih d (i + 1) r (by omega) (by omega)
        refine ⟨f2, ?_⟩
        rw [show sumN (fun i => cnt (fun pt => penK T C φ (i + 1) pt == nI pn) 360) (i + 1) = sumN (fun i => cnt (fun pt => penK T C φ (i + 1) pt == nI pn) 360) i + cnt (fun pt => penK T C φ (i + 1) pt == nI pn) 360 from rfl, cnt_none (fun pt hp => by
          rw [(no_curve (T := T) (C := C) h0 pt).2]
          simp only [beq_iff_eq]
          exact fun z => nI_neg9 (by omega) z.symm)] at e3
        exact e3
theorem x_pointsOfPen (hN : 2000 ≤ N) (B : okB R W P T C) (O : okN R W P T C φ) (Q : PP x G P T C p φ) {pn : Nat} (hpn : pn < 100) : ∃ f', fX5_pointsOfPen N (xH G x v t b p ip r) (some x) (nI pn) = some (nI (sumN (fun i => cnt (fun pt => penK T C φ (i + 1) pt == nI pn) 360) 9), xH G x v t b p ip (ua r 15 f')) := by
  simp only [fX5_pointsOfPen]
  exact x_popL hN B O Q hpn (K := fun h l2 => some (l2, h)) N 9 0 r (by omega) (by omega)
theorem x_pshL (hN : 2000 ≤ N) (B : okB R W P T C) (O : okN R W P T C φ) (Q : PP x G P T C p φ) {α : Type} {K : Hp → Int32 → Option α} : ∀ (n d i : Nat) (r : Nat → Nat → Int32), i + d = 9 → d < n → ∃ f', fX5_pointsShown_L4 N K n (xH G x v t b p ip r) (some x) (nI (sumN (fun i => cnt (fun pt => !(lastK (tipL T C φ (i + 1) pt) (φ 1) == -9)) 360) i)) (nI (i + 1)) = K (xH G x v t b p ip (ua r 15 f')) (nI (sumN (fun i => cnt (fun pt => !(lastK (tipL T C φ (i + 1) pt) (φ 1) == -9)) 360) 9)) := by
  intro n
  induction n with
  | zero => intro d i r _ h; omega
  | succ n ih =>
    intro d i r hi hd
    obtain ⟨q1, -⟩ := pp_read (E := xH G x v t b p ip r) Q xh_dy
    rw [fX5_pointsShown_L4]
    cases d with
    | zero =>
      have : i = 9 := by omega
      subst this
      refine ⟨r 15, ?_⟩
      rw [if_pos (show (9 : Int32) < nI (9 + 1) from nI_lt (a := 9) (by omega) (by omega)), ua_id]
    | succ d =>
      rw [if_neg (show ¬ (9 : Int32) < nI (i + 1) from nI_nlt (a := 9) (by omega) (by omega))]
      simp only [xh_O5, xh_O4, xh_O3, xh_O8, xh_g5_0, xh_g5_1, xh_g5_2, xh_g5_3, xh_g5_4, xh_g5_5, xh_g5_7, xh_g5_8, xh_g5_9, xh_g5_10, xh_g5_6, xh_g8_0, xh_g8_1, xh_g4_0, xh_g4_1, xh_g4_2, xh_g4_3, xh_g4_4, xh_g4_5, xh_g3_0, xh_g3_1, xh_g3_2, xh_p5_2, xh_p5_3, xh_p8_1, xh_p5_6, xh_p5_10, xh_p4_1, xh_p4_2, xh_p4_3, xh_p4_4, xh_p4_5, xh_p3_2, xh_rd2, xh_wr2, xh_rd4, xh_wr4, xh_rd5, xh_wr5, xh_rd15, xh_wr15, xh_len15, xh_rd16, xh_wr16, xh_len16, xh_rd17, xh_wr17, xh_len17, xh_rdA, xh_rdP, xh_wrA, xh_wrP, Option.bind_some, Option.bind_none, ↓reduceIte, if_true, if_false, q1]
      rcases x_hasCurveIn (G := G) (x := x) (v := v) (t := t) (b := b) (p := p) (ip := ip) (r := r) hN O Q (line := i + 1) (by omega) with ⟨e, -⟩ | ⟨e, h0⟩
      · obtain ⟨f1, e1, h1⟩ := x_noteShown (G := G) (x := x) (v := v) (t := t) (b := b) (p := p) (ip := ip) (r := r) (N := N) hN B O Q (line := i + 1) (by omega)
        have e2 := x_pointsNoted (G := G) (x := x) (v := v) (t := t) (b := b) (p := p) (ip := ip) (r := ua r 15 f1) hN (as := -9)
        rw [ua_s, cnt_congr (q := fun pt => lastK (tipL T C φ (i + 1) pt) (φ 1) == -9) (fun pt hp => by rw [h1 pt hp])] at e2
        have hc := cnt_le (fun pt => lastK (tipL T C φ (i + 1) pt) (φ 1) == -9) 360
        simp only [e, xh_O5, xh_O4, xh_O3, xh_O8, xh_g5_0, xh_g5_1, xh_g5_2, xh_g5_3, xh_g5_4, xh_g5_5, xh_g5_7, xh_g5_8, xh_g5_9, xh_g5_10, xh_g5_6, xh_g8_0, xh_g8_1, xh_g4_0, xh_g4_1, xh_g4_2, xh_g4_3, xh_g4_4, xh_g4_5, xh_g3_0, xh_g3_1, xh_g3_2, xh_p5_2, xh_p5_3, xh_p8_1, xh_p5_6, xh_p5_10, xh_p4_1, xh_p4_2, xh_p4_3, xh_p4_4, xh_p4_5, xh_p3_2, xh_rd2, xh_wr2, xh_rd4, xh_wr4, xh_rd5, xh_wr5, xh_rd15, xh_wr15, xh_len15, xh_rd16, xh_wr16, xh_len16, xh_rd17, xh_wr17, xh_len17, xh_rdA, xh_rdP, xh_wrA, xh_wrP, Option.bind_some, Option.bind_none, ↓reduceIte, if_true, if_false]
        rw [if_neg (by decide)]
        simp only [xh_O5, xh_O4, xh_O3, xh_O8, xh_g5_0, xh_g5_1, xh_g5_2, xh_g5_3, xh_g5_4, xh_g5_5, xh_g5_7, xh_g5_8, xh_g5_9, xh_g5_10, xh_g5_6, xh_g8_0, xh_g8_1, xh_g4_0, xh_g4_1, xh_g4_2, xh_g4_3, xh_g4_4, xh_g4_5, xh_g3_0, xh_g3_1, xh_g3_2, xh_p5_2, xh_p5_3, xh_p8_1, xh_p5_6, xh_p5_10, xh_p4_1, xh_p4_2, xh_p4_3, xh_p4_4, xh_p4_5, xh_p3_2, xh_rd2, xh_wr2, xh_rd4, xh_wr4, xh_rd5, xh_wr5, xh_rd15, xh_wr15, xh_len15, xh_rd16, xh_wr16, xh_len16, xh_rd17, xh_wr17, xh_len17, xh_rdA, xh_rdP, xh_wrA, xh_wrP, Option.bind_some, Option.bind_none, ↓reduceIte, if_true, if_false, e1, e2, nI_1, show (360 : Int32) = nI 360 from rfl]
        rw [pk_sub hc, nI_add]
        obtain ⟨f2, e3⟩ := ih d (i + 1) (ua r 15 f1) (by omega) (by omega)
        rw [ua_ua] at e3
        refine ⟨f2, ?_⟩
        rw [show sumN (fun i => cnt (fun pt => !(lastK (tipL T C φ (i + 1) pt) (φ 1) == -9)) 360) (i + 1) = sumN (fun i => cnt (fun pt => !(lastK (tipL T C φ (i + 1) pt) (φ 1) == -9)) 360) i + cnt (fun pt => !(lastK (tipL T C φ (i + 1) pt) (φ 1) == -9)) 360 from rfl, cnt_not] at e3
        exact e3
      · simp only [e, Option.bind_some, Option.bind_none, ↓reduceIte, if_true, if_false, nI_1]
        obtain ⟨f2, e3⟩ := ih d (i + 1) r (by omega) (by omega)
        refine ⟨f2, ?_⟩
        rw [show sumN (fun i => cnt (fun pt => !(lastK (tipL T C φ (i + 1) pt) (φ 1) == -9)) 360) (i + 1) = sumN (fun i => cnt (fun pt => !(lastK (tipL T C φ (i + 1) pt) (φ 1) == -9)) 360) i + cnt (fun pt => !(lastK (tipL T C φ (i + 1) pt) (φ 1) == -9)) 360 from rfl, cnt_none (fun pt hp => by
          rw [(no_curve (T := T) (C := C) h0 pt).1]
          simp)] at e3
        exact e3
theorem x_pointsShown (hN : 2000 ≤ N) (B : okB R W P T C) (O : okN R W P T C φ) (Q : PP x G P T C p φ) : ∃ f', fX5_pointsShown N (xH G x v t b p ip r) (some x) = some (nI (sumN (fun i => cnt (fun pt => !(lastK (tipL T C φ (i + 1) pt) (φ 1) == -9)) 360) 9), xH G x v t b p ip (ua r 15 f')) := by
  simp only [fX5_pointsShown]
  exact x_pshL hN B O Q (K := fun h l2 => some (l2, h)) N 9 0 r (by omega) (by omega)
theorem x_sameL {n0 : Nat} (hn0 : n0 ≤ 360) {α : Type} {K K' : Option α} : ∀ (n d j : Nat), j + d = 360 → d < n → allN (fun pt => r 15 pt == r 15 ((pt + n0) % 360)) j = true → fX5_isSameTurned_L2 N (xH G x v t b p ip r) K K' n (some x) (nI n0) (nI j) = if sameR (r 15) n0 = true then K' else K := by
  intro n
  induction n with
  | zero => intro d j _ h; omega
  | succ n ih =>
    intro d j hj hd hf
    rw [fX5_isSameTurned_L2]
    cases d with
    | zero =>
      have : j = 360 := by omega
      subst this
      rw [i_360, if_pos (nI_le (by omega) (by omega))]
      exact (if_pos hf).symm
    | succ d =>
      have hm : (j + n0) % 360 < 360 := Nat.mod_lt _ (by decide)
      rw [i_360, if_neg (nI_ge (by omega) (by omega))]
      simp (disch := omega) only [xh_O5, xh_O4, xh_O3, xh_O8, xh_g5_0, xh_g5_1, xh_g5_2, xh_g5_3, xh_g5_4, xh_g5_5, xh_g5_7, xh_g5_8, xh_g5_9, xh_g5_10, xh_g5_6, xh_g8_0, xh_g8_1, xh_g4_0, xh_g4_1, xh_g4_2, xh_g4_3, xh_g4_4, xh_g4_5, xh_g3_0, xh_g3_1, xh_g3_2, xh_p5_2, xh_p5_3, xh_p8_1, xh_p5_6, xh_p5_10, xh_p4_1, xh_p4_2, xh_p4_3, xh_p4_4, xh_p4_5, xh_p3_2, xh_rd2, xh_wr2, xh_rd4, xh_wr4, xh_rd5, xh_wr5, xh_rd15, xh_wr15, xh_len15, xh_rd16, xh_wr16, xh_len16, xh_rd17, xh_wr17, xh_len17, xh_rdA, xh_rdP, xh_wrA, xh_wrP, Option.bind_some, Option.bind_none, ↓reduceIte, if_true, if_false, nI_add, x_restN, nI_1]
      by_cases c : r 15 j = r 15 ((j + n0) % 360)
      · rw [if_pos c]
        refine ih d (j + 1) (by omega) (by omega) ?_
        show (allN _ j && _) = true
        rw [hf]
        simpa using c
      · rw [if_neg c, if_neg]
        intro z
        unfold sameR at z
        rw [allN_iff] at z
        exact c (by simpa using z j (by omega))
theorem x_isSame {n0 : Nat} (hN : 2000 ≤ N) (hn0 : n0 ≤ 360) : fX5_isSameTurned N (xH G x v t b p ip r) (some x) (nI n0) = some (bI (sameR (r 15) n0)) := by
  simp only [fX5_isSameTurned]
  rw [show (0 : Int32) = nI 0 from rfl, x_sameL hn0 N 360 0 (by omega) (by omega) rfl]
  cases sameR (r 15) n0 <;> rfl
theorem x_lrL (hN : 2000 ≤ N) {α : Type} {K : Int32 → Option α} {K' : Option α} : ∀ (n d : Nat), 1 ≤ d → d ≤ 360 → d < n → fX5_likeOfRow_L4 N (xH G x v t b p ip r) K K' n (some x) (nI d) = if findD (fun n => (360 % n == 0) && sameR (r 15) (360 / n)) d = 1 then K' else K (nI (findD (fun n => (360 % n == 0) && sameR (r 15) (360 / n)) d)) := by
  have h1 : ((360 % 1 == 0) && sameR (r 15) (360 / 1)) = true := by simp [sameR_360]
  intro n
  induction n with
  | zero => intro d _ _ h; omega
  | succ n ih =>
    intro d hd1 hd2 hd
    rw [fX5_likeOfRow_L4]
    obtain ⟨e, rfl⟩ : ∃ e, d = e + 1 := ⟨d - 1, by omega⟩
    have ed : nI (e + 1) + (-1) = nI e := pk_m1 e
    by_cases c0 : e = 0
    · subst c0
      rw [if_pos (by decide)]
      have : findD (fun n => (360 % n == 0) && sameR (r 15) (360 / n)) (0 + 1) = 1 := if_pos h1
      rw [this, if_pos rfl]
    · have hm : 360 % (e + 1) < e + 1 := Nat.mod_lt _ (by omega)
      have hq : 360 / (e + 1) ≤ 360 := Nat.div_le_self _ _
      rw [if_neg (show ¬ nI (e + 1) ≤ (1 : Int32) from nI_ge (a := 1) (by omega) (by omega)), if_neg (nI_ne0 (by omega) (by omega)), i_360, jrem_nI (by omega) (by omega) (by omega)]
      have ih' := ih e (by omega) (by omega) (by omega)
      by_cases c : 360 % (e + 1) = 0
      · rw [c, if_pos nI_0, if_neg (nI_ne0 (by omega) (by omega)), pk_div (by omega) (by omega) (by omega)]
        simp only [xh_O5, xh_O4, xh_O3, xh_O8, xh_g5_0, xh_g5_1, xh_g5_2, xh_g5_3, xh_g5_4, xh_g5_5, xh_g5_7, xh_g5_8, xh_g5_9, xh_g5_10, xh_g5_6, xh_g8_0, xh_g8_1, xh_g4_0, xh_g4_1, xh_g4_2, xh_g4_3, xh_g4_4, xh_g4_5, xh_g3_0, xh_g3_1, xh_g3_2, xh_p5_2, xh_p5_3, xh_p8_1, xh_p5_6, xh_p5_10, xh_p4_1, xh_p4_2, xh_p4_3, xh_p4_4, xh_p4_5, xh_p3_2, xh_rd2, xh_wr2, xh_rd4, xh_wr4, xh_rd5, xh_wr5, xh_rd15, xh_wr15, xh_len15, xh_rd16, xh_wr16, xh_len16, xh_rd17, xh_wr17, xh_len17, xh_rdA, xh_rdP, xh_wrA, xh_wrP, Option.bind_some, Option.bind_none, ↓reduceIte, if_true, if_false, x_isSame hN hq, bI_0]
        by_cases cs : sameR (r 15) (360 / (e + 1)) = true
        · have ef : findD (fun n => (360 % n == 0) && sameR (r 15) (360 / n)) (e + 1) = e + 1 := if_pos (by simp [c, cs])
          rw [if_neg (by simp [cs]), ef, if_neg (by omega)]
        · have ef : findD (fun n => (360 % n == 0) && sameR (r 15) (360 / n)) (e + 1) = findD (fun n => (360 % n == 0) && sameR (r 15) (360 / n)) e := if_neg (by simp [cs])
          rw [if_pos cs, ef, ed]
          exact ih'
      · have ef : findD (fun n => (360 % n == 0) && sameR (r 15) (360 / n)) (e + 1) = findD (fun n => (360 % n == 0) && sameR (r 15) (360 / n)) e := if_neg (by simp [c])
        rw [if_neg (nI_ne0 (by omega) (by omega)), ef, ed]
        exact ih'
theorem x_likeOfRow (hN : 2000 ≤ N) : fX5_likeOfRow N (xH G x v t b p ip r) (some x) = some (nI (likeR (r 15))) := by
  simp only [fX5_likeOfRow]
  rw [show (360 : Int32) = nI 360 from rfl, x_lrL hN N 360 (by omega) (by omega) (by omega)]
  unfold likeR
  by_cases c : findD (fun n => (360 % n == 0) && sameR (r 15) (360 / n)) 360 = 1
  · rw [if_pos c, c]; rfl
  · rw [if_neg c]
def gL (T C φ : Nat → Nat) : Nat → Nat
  | 0 => 360
  | i + 1 => Nat.gcd (gL T C φ i) (likeR (penK T C φ (i + 1)))
theorem gL_dvd (T C φ : Nat → Nat) (i : Nat) : gL T C φ i ∣ 360 := by
  induction i with
  | zero => exact ⟨1, rfl⟩
  | succ i ih => exact Nat.dvd_trans (Nat.gcd_dvd_left _ _) ih
theorem x_lkL (hN : 2000 ≤ N) (B : okB R W P T C) (O : okN R W P T C φ) (Q : PP x G P T C p φ) {α : Type} {K : Hp → Int32 → Option α} : ∀ (n d i : Nat) (r : Nat → Nat → Int32), i + d = 9 → d < n → ∃ f', fX5_like_L6 N K n (xH G x v t b p ip r) (some x) (nI (gL T C φ i)) (nI (i + 1)) = K (xH G x v t b p ip (ua r 15 f')) (nI (gL T C φ 9)) := by
  intro n
  induction n with
  | zero => intro d i r _ h; omega
  | succ n ih =>
    intro d i r hi hd
    obtain ⟨q1, -⟩ := pp_read (E := xH G x v t b p ip r) Q xh_dy
    have hg := Nat.le_of_dvd (by decide) (gL_dvd T C φ i)
    rw [fX5_like_L6]
    cases d with
    | zero =>
      have : i = 9 := by omega
      subst this
      refine ⟨r 15, ?_⟩
      rw [if_pos (show (9 : Int32) < nI (9 + 1) from nI_lt (a := 9) (by omega) (by omega)), ua_id]
    | succ d =>
      rw [if_neg (show ¬ (9 : Int32) < nI (i + 1) from nI_nlt (a := 9) (by omega) (by omega))]
      simp only [xh_O5, xh_O4, xh_O3, xh_O8, xh_g5_0, xh_g5_1, xh_g5_2, xh_g5_3, xh_g5_4, xh_g5_5, xh_g5_7, xh_g5_8, xh_g5_9, xh_g5_10, xh_g5_6, xh_g8_0, xh_g8_1, xh_g4_0, xh_g4_1, xh_g4_2, xh_g4_3, xh_g4_4, xh_g4_5, xh_g3_0, xh_g3_1, xh_g3_2, xh_p5_2, xh_p5_3, xh_p8_1, xh_p5_6, xh_p5_10, xh_p4_1, xh_p4_2, xh_p4_3, xh_p4_4, xh_p4_5, xh_p3_2, xh_rd2, xh_wr2, xh_rd4, xh_wr4, xh_rd5, xh_wr5, xh_rd15, xh_wr15, xh_len15, xh_rd16, xh_wr16, xh_len16, xh_rd17, xh_wr17, xh_len17, xh_rdA, xh_rdP, xh_wrA, xh_wrP, Option.bind_some, Option.bind_none, ↓reduceIte, if_true, if_false, q1]
      rcases x_hasCurveIn (G := G) (x := x) (v := v) (t := t) (b := b) (p := p) (ip := ip) (r := r) hN O Q (line := i + 1) (by omega) with ⟨e, -⟩ | ⟨e, h0⟩
      · obtain ⟨f1, e1, h1⟩ := x_notePens (G := G) (x := x) (v := v) (t := t) (b := b) (p := p) (ip := ip) (r := r) (N := N) hN B O Q (line := i + 1) (by omega)
        have e2 := x_likeOfRow (G := G) (x := x) (v := v) (t := t) (b := b) (p := p) (ip := ip) (r := ua r 15 f1) hN
        rw [ua_s, likeR_congr h1] at e2
        have hl : likeR (penK T C φ (i + 1)) ≤ 360 := findD_in
        simp only [e, xh_O5, xh_O4, xh_O3, xh_O8, xh_g5_0, xh_g5_1, xh_g5_2, xh_g5_3, xh_g5_4, xh_g5_5, xh_g5_7, xh_g5_8, xh_g5_9, xh_g5_10, xh_g5_6, xh_g8_0, xh_g8_1, xh_g4_0, xh_g4_1, xh_g4_2, xh_g4_3, xh_g4_4, xh_g4_5, xh_g3_0, xh_g3_1, xh_g3_2, xh_p5_2, xh_p5_3, xh_p8_1, xh_p5_6, xh_p5_10, xh_p4_1, xh_p4_2, xh_p4_3, xh_p4_4, xh_p4_5, xh_p3_2, xh_rd2, xh_wr2, xh_rd4, xh_wr4, xh_rd5, xh_wr5, xh_rd15, xh_wr15, xh_len15, xh_rd16, xh_wr16, xh_len16, xh_rd17, xh_wr17, xh_len17, xh_rdA, xh_rdP, xh_wrA, xh_wrP, Option.bind_some, Option.bind_none, ↓reduceIte, if_true, if_false]
        rw [if_neg (by decide)]
        simp (disch := omega) only [xh_O5, xh_O4, xh_O3, xh_O8, xh_g5_0, xh_g5_1, xh_g5_2, xh_g5_3, xh_g5_4, xh_g5_5, xh_g5_7, xh_g5_8, xh_g5_9, xh_g5_10, xh_g5_6, xh_g8_0, xh_g8_1, xh_g4_0, xh_g4_1, xh_g4_2, xh_g4_3, xh_g4_4, xh_g4_5, xh_g3_0, xh_g3_1, xh_g3_2, xh_p5_2, xh_p5_3, xh_p8_1, xh_p5_6, xh_p5_10, xh_p4_1, xh_p4_2, xh_p4_3, xh_p4_4, xh_p4_5, xh_p3_2, xh_rd2, xh_wr2, xh_rd4, xh_wr4, xh_rd5, xh_wr5, xh_rd15, xh_wr15, xh_len15, xh_rd16, xh_wr16, xh_len16, xh_rd17, xh_wr17, xh_len17, xh_rdA, xh_rdP, xh_wrA, xh_wrP, Option.bind_some, Option.bind_none, ↓reduceIte, if_true, if_false, e1, e2, nI_1, x_gd]
        obtain ⟨f2, e3⟩ := ih d (i + 1) (ua r 15 f1) (by omega) (by omega)
        rw [ua_ua] at e3
        exact ⟨f2, e3⟩
      · simp only [e, Option.bind_some, Option.bind_none, ↓reduceIte, if_true, if_false, nI_1]
        obtain ⟨f2, e3⟩ := ih d (i + 1) r (by omega) (by omega)
        refine ⟨f2, ?_⟩
        have el : likeR (penK T C φ (i + 1)) = 360 := by
          unfold likeR
          refine if_pos ?_
          have : sameR (penK T C φ (i + 1)) (360 / (359 + 1)) = true := by
            unfold sameR
            rw [allN_iff]
            intro pt _
            rw [(no_curve (T := T) (C := C) h0 pt).2, (no_curve (T := T) (C := C) h0 _).2]
            rfl
          show ((360 % (359 + 1) == 0) && sameR (penK T C φ (i + 1)) (360 / (359 + 1))) = true
          rw [this]; rfl
        rw [show gL T C φ (i + 1) = Nat.gcd (gL T C φ i) (likeR (penK T C φ (i + 1))) from rfl, el, Nat.gcd_eq_left (gL_dvd T C φ i)] at e3
        exact e3
theorem x_like (hN : 2000 ≤ N) (B : okB R W P T C) (O : okN R W P T C φ) (Q : PP x G P T C p φ) : ∃ f', fX5_like N (xH G x v t b p ip r) (some x) = some (nI (gL T C φ 9), xH G x v t b p ip (ua r 15 f')) := by
  simp only [fX5_like]
  exact x_lkL hN B O Q (K := fun h l2 => some (l2, h)) N 9 0 r (by omega) (by omega)
end XD
