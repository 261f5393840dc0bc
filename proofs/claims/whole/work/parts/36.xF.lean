/-- the box, where the class may have it -/
def BXX (x : Nat) (G : Hp) (b R W P : Nat) (T C : Nat → Nat) : Prop := BX G b R W P T C ∧ dy x b ∧ dy x (b + 1) ∧ dy x (b + 2)
theorem BXX.at {x : Nat} {G E : Hp} {b R W P : Nat} {T C : Nat → Nat} (X : BXX x G b R W P T C) (hE : ∀ q, dy x q → E q = G q) : BX E b R W P T C := by
  obtain ⟨⟨h1, ⟨f, h2, h3⟩, ⟨f', h4, h5⟩⟩, d0, d1, d2⟩ := X
  exact ⟨by rw [hE _ d0]; exact h1, ⟨f, by rw [hE _ d1]; exact h2, h3⟩, ⟨f', by rw [hE _ d2]; exact h4, h5⟩⟩
section XF
variable {G : Hp} {x : Nat} {v : Nat → Int32} {t : Int64} {b p : Nat} {ip : Nat → Option Nat} {r : Nat → Nat → Int32} {N R W P : Nat} {T C φ : Nat → Nat}
theorem x_nbL (hN : 2000 ≤ N) (B : okB R W P T C) (X : BXX x G b R W P T C) (O : okN R W P T C φ) (Q : PP x G P T C p φ) {q line : Nat} (hq : q < R) (h15 : ∀ pt, pt < 360 → r 15 pt = lastK (tipL T C φ line pt) (φ 1)) {α : Type} {K : Hp → Int32 → Option α} : ∀ (n d j : Nat) (f : Nat → Int32), j + d = T q → d < n → (∀ i, i < j → f i = bI (bareT T C φ q line i)) → ∃ f', fX5_noteBareTeeth_L20 N K n (xH G x v t b p ip (ua r 16 f)) (some x) (nI q) (nI (360 / T q)) (nI (cnt (bareT T C φ q line) j)) (nI j) = K (xH G x v t b p ip (ua r 16 f')) (nI (cnt (bareT T C φ q line) (T q))) ∧ ∀ i, i < T q → f' i = bI (bareT T C φ q line i) := by
  have hT := B.2.2.2.1 q hq
  have hφ := O.1
  intro n
  induction n with
  | zero => intro d j f _ h; omega
  | succ n ih =>
    intro d j f hj hd hf
    have X' := X.at (xh_dy (G := G) (x := x) (v := v) (t := t) (b := b) (p := p) (ip := ip) (r := ua r 16 f))
    obtain ⟨q1, q2, -⟩ := pp_read (E := xH G x v t b p ip (ua r 16 f)) Q xh_dy
    rw [fX5_noteBareTeeth_L20]
    simp only [xh_O5, xh_O4, xh_O3, xh_O8, xh_g5_0, xh_g5_1, xh_g5_2, xh_g5_3, xh_g5_4, xh_g5_5, xh_g5_7, xh_g5_8, xh_g5_9, xh_g5_10, xh_g5_6, xh_g8_0, xh_g8_1, xh_g4_0, xh_g4_1, xh_g4_2, xh_g4_3, xh_g4_4, xh_g4_5, xh_g3_0, xh_g3_1, xh_g3_2, xh_p5_2, xh_p5_3, xh_p8_1, xh_p5_6, xh_p5_10, xh_p4_1, xh_p4_2, xh_p4_3, xh_p4_4, xh_p4_5, xh_p3_2, xh_rd2, xh_wr2, xh_rd4, xh_wr4, xh_rd5, xh_wr5, xh_rd15, xh_wr15, xh_len15, xh_rd16, xh_wr16, xh_len16, xh_rd17, xh_wr17, xh_len17, xh_rdA, xh_rdP, xh_wrA, xh_wrP, Option.bind_some, Option.bind_none, ↓reduceIte, if_true, if_false, isO_eq X'.1, x_teethOf X' B hq]
    cases d with
    | zero =>
      have : j = T q := by omega
      subst this
      exact ⟨f, if_pos (nI_le (by omega) (by omega)), hf⟩
    | succ d =>
      have hm : (360 / T q * j + φ 0) % 360 < 360 := Nat.mod_lt _ (by decide)
      have h1 : 360 / T q * j ≤ 360 / T q * T q := Nat.mul_le_mul_left _ (by omega)
      have h2 : 360 / T q * T q = 360 := Nat.div_mul_cancel hT.2.2
      rw [if_neg (nI_ge (by omega) (by omega)), if_neg (nI_ge (by omega) (by omega))]
      have er : fX5_rest N (xH G x v t b p ip (ua r 16 f)) (nI (360 / T q) * nI j + nI (φ 0)) 360 = some (nI ((360 / T q * j + φ 0) % 360)) := by
        rw [pk_mul, nI_add, i_360]
        exact x_restN (by omega) (by omega) (by omega)
      have e15 : ua r 16 f 15 = r 15 := ua_n (by omega)
      simp (disch := omega) only [q2, er, xh_O5, xh_O4, xh_O3, xh_O8, xh_g5_0, xh_g5_1, xh_g5_2, xh_g5_3, xh_g5_4, xh_g5_5, xh_g5_7, xh_g5_8, xh_g5_9, xh_g5_10, xh_g5_6, xh_g8_0, xh_g8_1, xh_g4_0, xh_g4_1, xh_g4_2, xh_g4_3, xh_g4_4, xh_g4_5, xh_g3_0, xh_g3_1, xh_g3_2, xh_p5_2, xh_p5_3, xh_p8_1, xh_p5_6, xh_p5_10, xh_p4_1, xh_p4_2, xh_p4_3, xh_p4_4, xh_p4_5, xh_p3_2, xh_rd2, xh_wr2, xh_rd4, xh_wr4, xh_rd5, xh_wr5, xh_rd15, xh_wr15, xh_len15, xh_rd16, xh_wr16, xh_len16, xh_rd17, xh_wr17, xh_len17, xh_rdA, xh_rdP, xh_wrA, xh_wrP, Option.bind_some, Option.bind_none, ↓reduceIte, if_true, if_false, e15, h15 _ hm]
      have eb : (bareT T C φ q line j = true) ↔ lastK (tipL T C φ line ((360 / T q * j + φ 0) % 360)) (φ 1) = -9 := by unfold bareT; simp
      by_cases c : bareT T C φ q line j = true
      · rw [if_pos (eb.mp c), fX5_noteBareTeeth_j86]
        simp (disch := omega) only [xh_O5, xh_O4, xh_O3, xh_O8, xh_g5_0, xh_g5_1, xh_g5_2, xh_g5_3, xh_g5_4, xh_g5_5, xh_g5_7, xh_g5_8, xh_g5_9, xh_g5_10, xh_g5_6, xh_g8_0, xh_g8_1, xh_g4_0, xh_g4_1, xh_g4_2, xh_g4_3, xh_g4_4, xh_g4_5, xh_g3_0, xh_g3_1, xh_g3_2, xh_p5_2, xh_p5_3, xh_p8_1, xh_p5_6, xh_p5_10, xh_p4_1, xh_p4_2, xh_p4_3, xh_p4_4, xh_p4_5, xh_p3_2, xh_rd2, xh_wr2, xh_rd4, xh_wr4, xh_rd5, xh_wr5, xh_rd15, xh_wr15, xh_len15, xh_rd16, xh_wr16, xh_len16, xh_rd17, xh_wr17, xh_len17, xh_rdA, xh_rdP, xh_wrA, xh_wrP, Option.bind_some, Option.bind_none, ↓reduceIte, if_true, if_false, ua_s, ua_ua, pk_us, nI_1]
        have := ih d (j + 1) (upd f j 1) (by omega) (by omega) (fun i hi => by
          by_cases z : i = j
          · rw [z, pk_us, c]; rfl
          · rw [pk_un z]; exact hf i (by omega))
        rw [cnt_t c] at this
        exact this
      · rw [if_neg (fun z => c (eb.mpr z)), fX5_noteBareTeeth_j86]
        simp (disch := omega) only [xh_O5, xh_O4, xh_O3, xh_O8, xh_g5_0, xh_g5_1, xh_g5_2, xh_g5_3, xh_g5_4, xh_g5_5, xh_g5_7, xh_g5_8, xh_g5_9, xh_g5_10, xh_g5_6, xh_g8_0, xh_g8_1, xh_g4_0, xh_g4_1, xh_g4_2, xh_g4_3, xh_g4_4, xh_g4_5, xh_g3_0, xh_g3_1, xh_g3_2, xh_p5_2, xh_p5_3, xh_p8_1, xh_p5_6, xh_p5_10, xh_p4_1, xh_p4_2, xh_p4_3, xh_p4_4, xh_p4_5, xh_p3_2, xh_rd2, xh_wr2, xh_rd4, xh_wr4, xh_rd5, xh_wr5, xh_rd15, xh_wr15, xh_len15, xh_rd16, xh_wr16, xh_len16, xh_rd17, xh_wr17, xh_len17, xh_rdA, xh_rdP, xh_wrA, xh_wrP, Option.bind_some, Option.bind_none, ↓reduceIte, if_true, if_false, ua_s, ua_ua, pk_us, nI_1]
        have := ih d (j + 1) (upd f j 0) (by omega) (by omega) (fun i hi => by
          by_cases z : i = j
          · rw [z, pk_us, bI, if_neg c]
          · rw [pk_un z]; exact hf i (by omega))
        rw [cnt_f c] at this
        rw [show nI (cnt (bareT T C φ q line) j) + 0 = nI (cnt (bareT T C φ q line) j) by grind]
        exact this
theorem x_noteBare (hN : 2000 ≤ N) (B : okB R W P T C) (X : BXX x G b R W P T C) (O : okN R W P T C φ) (Q : PP x G P T C p φ) {q line : Nat} (hq : q < R) (hl : line < 10) : ∃ f1 f2, fX5_noteBareTeeth N (xH G x v t b p ip r) (some x) (nI q) (nI line) = some (nI (cnt (bareT T C φ q line) (T q)), xH G x v t b p ip (ua (ua r 15 f1) 16 f2)) ∧ ∀ i, i < T q → f2 i = bI (bareT T C φ q line i) := by
  have hT := B.2.2.2.1 q hq
  obtain ⟨f1, e1, h1⟩ := x_noteShown (G := G) (x := x) (v := v) (t := t) (b := b) (p := p) (ip := ip) (r := r) (N := N) hN B O Q hl
  have X' := X.at (xh_dy (G := G) (x := x) (v := v) (t := t) (b := b) (p := p) (ip := ip) (r := ua r 15 f1))
  obtain ⟨f2, e2, h2⟩ := x_nbL (G := G) (x := x) (v := v) (t := t) (b := b) (p := p) (ip := ip) (r := ua r 15 f1) (N := N) hN B X O Q hq (line := line) (by rw [ua_s]; exact h1) (K := fun h l4 => some (l4, h)) N (T q) 0 (ua r 15 f1 16) (by omega) (by omega) (fun i hi => by omega)
  refine ⟨f1, f2, ?_, h2⟩
  rw [ua_id] at e2
  simp only [fX5_noteBareTeeth, xh_O5, xh_O4, xh_O3, xh_O8, xh_g5_0, xh_g5_1, xh_g5_2, xh_g5_3, xh_g5_4, xh_g5_5, xh_g5_7, xh_g5_8, xh_g5_9, xh_g5_10, xh_g5_6, xh_g8_0, xh_g8_1, xh_g4_0, xh_g4_1, xh_g4_2, xh_g4_3, xh_g4_4, xh_g4_5, xh_g3_0, xh_g3_1, xh_g3_2, xh_p5_2, xh_p5_3, xh_p8_1, xh_p5_6, xh_p5_10, xh_p4_1, xh_p4_2, xh_p4_3, xh_p4_4, xh_p4_5, xh_p3_2, xh_rd2, xh_wr2, xh_rd4, xh_wr4, xh_rd5, xh_wr5, xh_rd15, xh_wr15, xh_len15, xh_rd16, xh_wr16, xh_len16, xh_rd17, xh_wr17, xh_len17, xh_rdA, xh_rdP, xh_wrA, xh_wrP, Option.bind_some, Option.bind_none, ↓reduceIte, if_true, if_false, e1, isO_eq X'.1, x_stepOf X' B hq]
  exact e2
theorem x_cbL {q g : Nat} {pp : Nat → Bool} (hT : q ≤ 120) (hg : 0 < g) (hg2 : g ≤ 120) (h16 : ∀ i, i < q → r 16 i = bI (pp i)) {α : Type} {K K' : Option α} : ∀ (n j : Nat), q - j < n → j ≤ 240 → fX5_isClassBare_L10 N (xH G x v t b p ip r) K K' n (some x) (nI q) (nI g) (nI j) = if anyS pp g q 121 j = true then K else K' := by
  intro n
  induction n with
  | zero => intro j h; omega
  | succ n ih =>
    intro j hj h2
    rw [fX5_isClassBare_L10]
    simp only [xh_O5, xh_O4, xh_O3, xh_O8, xh_g5_0, xh_g5_1, xh_g5_2, xh_g5_3, xh_g5_4, xh_g5_5, xh_g5_7, xh_g5_8, xh_g5_9, xh_g5_10, xh_g5_6, xh_g8_0, xh_g8_1, xh_g4_0, xh_g4_1, xh_g4_2, xh_g4_3, xh_g4_4, xh_g4_5, xh_g3_0, xh_g3_1, xh_g3_2, xh_p5_2, xh_p5_3, xh_p8_1, xh_p5_6, xh_p5_10, xh_p4_1, xh_p4_2, xh_p4_3, xh_p4_4, xh_p4_5, xh_p3_2, xh_rd2, xh_wr2, xh_rd4, xh_wr4, xh_rd5, xh_wr5, xh_rd15, xh_wr15, xh_len15, xh_rd16, xh_wr16, xh_len16, xh_rd17, xh_wr17, xh_len17, xh_rdA, xh_rdP, xh_wrA, xh_wrP, Option.bind_some, Option.bind_none, ↓reduceIte, if_true, if_false]
    by_cases c : q ≤ j
    · rw [if_pos (nI_le c (by omega)), anyS_end c, if_neg (by decide)]
    · have es : anyS pp g q 121 j = (pp j || anyS pp g q 121 (j + g)) := by
        show (if j < q then pp j || anyS pp g q 120 (j + g) else false) = _
        rw [if_pos (by omega), anyS_fuel hg 120 121 (j + g) (by omega) (by omega)]
      rw [if_neg (nI_ge (by omega) (by omega)), if_neg (nI_ge (by omega) (by omega)), es]
      simp (disch := omega) only [xh_O5, xh_O4, xh_O3, xh_O8, xh_g5_0, xh_g5_1, xh_g5_2, xh_g5_3, xh_g5_4, xh_g5_5, xh_g5_7, xh_g5_8, xh_g5_9, xh_g5_10, xh_g5_6, xh_g8_0, xh_g8_1, xh_g4_0, xh_g4_1, xh_g4_2, xh_g4_3, xh_g4_4, xh_g4_5, xh_g3_0, xh_g3_1, xh_g3_2, xh_p5_2, xh_p5_3, xh_p8_1, xh_p5_6, xh_p5_10, xh_p4_1, xh_p4_2, xh_p4_3, xh_p4_4, xh_p4_5, xh_p3_2, xh_rd2, xh_wr2, xh_rd4, xh_wr4, xh_rd5, xh_wr5, xh_rd15, xh_wr15, xh_len15, xh_rd16, xh_wr16, xh_len16, xh_rd17, xh_wr17, xh_len17, xh_rdA, xh_rdP, xh_wrA, xh_wrP, Option.bind_some, Option.bind_none, ↓reduceIte, if_true, if_false, h16 j (by omega), nI_add]
      have ih' := ih (j + g) (by omega) (by omega)
      cases hp : pp j with
      | true =>
        rw [if_pos (by decide), if_pos (by simp)]
      | false =>
        rw [if_neg (by decide), Bool.false_or]
        exact ih'
theorem x_classBare (hN : 2000 ≤ N) {q g j : Nat} {pp : Nat → Bool} (hT : q ≤ 120) (hg : 0 < g) (hg2 : g ≤ 120) (hj : j < 121) (h16 : ∀ i, i < q → r 16 i = bI (pp i)) : fX5_isClassBare N (xH G x v t b p ip r) (some x) (nI j) (nI q) (nI g) = some (bI (anyS pp g q 121 j)) := by
  have e : jmax (nI g) 1 = nI g := by
    rw [i_1, jmax_nI (by omega) (by omega), Nat.max_eq_left hg]
  simp only [fX5_isClassBare, e]
  rw [x_cbL hT hg hg2 h16 N j (by omega) (by omega)]
  unfold bI
  split <;> rfl
theorem x_cnL (hN : 2000 ≤ N) {q g : Nat} {pp : Nat → Bool} (hT : q ≤ 120) (hg : 0 < g) (hg2 : g ≤ 120) (h16 : ∀ i, i < q → r 16 i = bI (pp i)) {α : Type} {K : Int32 → Option α} : ∀ (n d j : Nat), j + d = g → d < n → fX5_curvesNeeded_L5 N (xH G x v t b p ip r) K n (some x) (nI q) (nI g) (nI (cnt (fun i => anyS pp g q 121 i) j)) (nI j) = K (nI (needC pp g q)) := by
  intro n
  induction n with
  | zero => intro d j _ h; omega
  | succ n ih =>
    intro d j hj hd
    rw [fX5_curvesNeeded_L5]
    cases d with
    | zero =>
      have : j = g := by omega
      subst this
      rw [if_pos (nI_le (by omega) (by omega))]
      rfl
    | succ d =>
      rw [if_neg (nI_ge (by omega) (by omega))]
      simp (disch := omega) only [xh_O5, xh_O4, xh_O3, xh_O8, xh_g5_0, xh_g5_1, xh_g5_2, xh_g5_3, xh_g5_4, xh_g5_5, xh_g5_7, xh_g5_8, xh_g5_9, xh_g5_10, xh_g5_6, xh_g8_0, xh_g8_1, xh_g4_0, xh_g4_1, xh_g4_2, xh_g4_3, xh_g4_4, xh_g4_5, xh_g3_0, xh_g3_1, xh_g3_2, xh_p5_2, xh_p5_3, xh_p8_1, xh_p5_6, xh_p5_10, xh_p4_1, xh_p4_2, xh_p4_3, xh_p4_4, xh_p4_5, xh_p3_2, xh_rd2, xh_wr2, xh_rd4, xh_wr4, xh_rd5, xh_wr5, xh_rd15, xh_wr15, xh_len15, xh_rd16, xh_wr16, xh_len16, xh_rd17, xh_wr17, xh_len17, xh_rdA, xh_rdP, xh_wrA, xh_wrP, Option.bind_some, Option.bind_none, ↓reduceIte, if_true, if_false, x_classBare hN hT hg hg2 (show j < 121 by omega) h16, nI_1]
      have ih' := ih d (j + 1) (by omega) (by omega)
      cases hp : anyS pp g q 121 j with
      | true =>
        rw [cnt_t hp] at ih'
        rw [if_neg (by decide)]
        exact ih'
      | false =>
        rw [cnt_f (by simp [hp])] at ih'
        rw [if_pos (by decide)]
        exact ih'
theorem x_curvesNeeded (hN : 2000 ≤ N) {q g : Nat} {pp : Nat → Bool} (hT : q ≤ 120) (hg : 0 < g) (hg2 : g ≤ 120) (h16 : ∀ i, i < q → r 16 i = bI (pp i)) : fX5_curvesNeeded N (xH G x v t b p ip r) (some x) (nI q) (nI g) = some (nI (needC pp g q)) := by
  simp only [fX5_curvesNeeded]
  exact x_cnL hN hT hg hg2 h16 (K := fun l3 => some l3) N g 0 (by omega) (by omega)
theorem x_selL (hN : 2000 ≤ N) (B : okB R W P T C) (X : BXX x G b R W P T C) {q : Nat} {pp : Nat → Bool} {what : Int32} (hq : q < R) (h16 : ∀ i, i < T q → r 16 i = bI (pp i)) {α : Type} {K : Hp → Int32 → Int32 → Int32 → Option α} : ∀ (n d w : Nat), w + d = W → d < n → fX5_closes_L63 N K n (xH G x v t b p ip r) (some x) (nI q) what (selF (selS (fitB T C q) (fun w => needC pp (Nat.gcd (T q) (C w)) (T q)) w) (-9)) (selB (selS (fitB T C q) (fun w => needC pp (Nat.gcd (T q) (C w)) (T q)) w)) (nI w) = K (xH G x v t b p ip r) what (selF (selS (fitB T C q) (fun w => needC pp (Nat.gcd (T q) (C w)) (T q)) W) (-9)) (selB (selS (fitB T C q) (fun w => needC pp (Nat.gcd (T q) (C w)) (T q)) W)) := by
  have hT := B.2.2.2.1 q hq
  have hW := B.2.1
  have X' := X.at (xh_dy (G := G) (x := x) (v := v) (t := t) (b := b) (p := p) (ip := ip) (r := r))
  have e4 : gI (xH G x v t b p ip r) (some b) 0 4 = some (nI W) := gI_eq X'.1 rfl
  have hg (w : Nat) : 0 < Nat.gcd (T q) (C w) ∧ Nat.gcd (T q) (C w) ≤ T q := ⟨Nat.gcd_pos_of_pos_left _ (by omega), Nat.gcd_le_left _ (by omega)⟩
  have hn (w : Nat) : needC pp (Nat.gcd (T q) (C w)) (T q) ≤ 120 := Nat.le_trans needC_le (Nat.le_trans (hg w).2 hT.2.1)
  intro n
  induction n with
  | zero => intro d w _ h; omega
  | succ n ih =>
    intro d w hw hd
    rw [fX5_closes_L63]
    simp only [xh_O5, xh_O4, xh_O3, xh_O8, xh_g5_0, xh_g5_1, xh_g5_2, xh_g5_3, xh_g5_4, xh_g5_5, xh_g5_7, xh_g5_8, xh_g5_9, xh_g5_10, xh_g5_6, xh_g8_0, xh_g8_1, xh_g4_0, xh_g4_1, xh_g4_2, xh_g4_3, xh_g4_4, xh_g4_5, xh_g3_0, xh_g3_1, xh_g3_2, xh_p5_2, xh_p5_3, xh_p8_1, xh_p5_6, xh_p5_10, xh_p4_1, xh_p4_2, xh_p4_3, xh_p4_4, xh_p4_5, xh_p3_2, xh_rd2, xh_wr2, xh_rd4, xh_wr4, xh_rd5, xh_wr5, xh_rd15, xh_wr15, xh_len15, xh_rd16, xh_wr16, xh_len16, xh_rd17, xh_wr17, xh_len17, xh_rdA, xh_rdP, xh_wrA, xh_wrP, Option.bind_some, Option.bind_none, ↓reduceIte, if_true, if_false, e4]
    cases d with
    | zero =>
      have : w = W := by omega
      subst this
      rw [if_pos (nI_le (by omega) (by omega))]
    | succ d =>
      have hw' : w < W := by omega
      have ih' := ih d (w + 1) (by omega) (by omega)
      have hgw := hg w
      rw [if_neg (nI_ge (by omega) (by omega))]
      simp (disch := omega) only [isO_eq X'.1, xh_O5, xh_O4, xh_O3, xh_O8, xh_g5_0, xh_g5_1, xh_g5_2, xh_g5_3, xh_g5_4, xh_g5_5, xh_g5_7, xh_g5_8, xh_g5_9, xh_g5_10, xh_g5_6, xh_g8_0, xh_g8_1, xh_g4_0, xh_g4_1, xh_g4_2, xh_g4_3, xh_g4_4, xh_g4_5, xh_g3_0, xh_g3_1, xh_g3_2, xh_p5_2, xh_p5_3, xh_p8_1, xh_p5_6, xh_p5_10, xh_p4_1, xh_p4_2, xh_p4_3, xh_p4_4, xh_p4_5, xh_p3_2, xh_rd2, xh_wr2, xh_rd4, xh_wr4, xh_rd5, xh_wr5, xh_rd15, xh_wr15, xh_len15, xh_rd16, xh_wr16, xh_len16, xh_rd17, xh_wr17, xh_len17, xh_rdA, xh_rdP, xh_wrA, xh_wrP, Option.bind_some, Option.bind_none, ↓reduceIte, if_true, if_false, x_fits X' B hq hw', x_teethOf X' B hq, x_divisorOf hN X' B hq hw', x_curvesNeeded hN hT.2.1 hgw.1 (show Nat.gcd (T q) (C w) ≤ 120 by omega) h16, nI_1]
      by_cases c : C w < T q
      · have c1 : fitB T C q w = true := by simpa [fitB] using c
        rw [if_pos c, if_neg (by decide)]
        cases hs : selS (fitB T C q) (fun w => needC pp (Nat.gcd (T q) (C w)) (T q)) w with
        | none =>
          rw [selS_n1 hs c1] at ih'
          rw [if_pos (show selB none = -9 from rfl)]
          exact ih'
        | some z =>
          have hz := selS_le hn w z hs
          rw [if_neg (show ¬ selB (some z) = -9 from nI_neg9 (by omega))]
          by_cases c2 : needC pp (Nat.gcd (T q) (C w)) (T q) < z.1
          · rw [selS_s1 hs ⟨c1, c2⟩] at ih'
            rw [if_neg (show ¬ selF (some z) (-9) ≤ _ from nI_ge (by omega) (by omega))]
            exact ih'
          · rw [selS_s0 hs (fun y => c2 y.2)] at ih'
            rw [if_pos (show selF (some z) (-9) ≤ _ from nI_le (by omega) (by have := hn w; omega))]
            exact ih'
      · have c1 : ¬ fitB T C q w = true := by simpa [fitB] using c
        rw [if_neg c, if_pos rfl]
        cases hs : selS (fitB T C q) (fun w => needC pp (Nat.gcd (T q) (C w)) (T q)) w with
        | none =>
          rw [selS_n0 hs c1] at ih'
          exact ih'
        | some z =>
          rw [selS_s0 hs (fun y => c1 y.1)] at ih'
          exact ih'
theorem x_closes (hN : 2000 ≤ N) (B : okB R W P T C) (X : BXX x G b R W P T C) (O : okN R W P T C φ) (Q : PP x G P T C p φ) {q line w : Nat} (hq : q < R) (hl1 : 1 ≤ line) (hl : line ≤ 9) (hw : w < 2) : ∃ f1 f2, fX5_closes N (xH G x v t b p ip r) (some x) (nI q) (nI line) (nI w) = some (if cnt (bareT T C φ q line) (T q) = 0 then (if w = 0 then 0 else -9) else if w = 0 then selF (selS (fitB T C q) (fun w => needC (bareT T C φ q line) (Nat.gcd (T q) (C w)) (T q)) W) (-9) else selB (selS (fitB T C q) (fun w => needC (bareT T C φ q line) (Nat.gcd (T q) (C w)) (T q)) W), xH G x v t b p ip (ua (ua r 15 f1) 16 f2)) := by
  have hT := B.2.2.2.1 q hq
  have hW := B.2.1
  have X' := X.at (xh_dy (G := G) (x := x) (v := v) (t := t) (b := b) (p := p) (ip := ip) (r := r))
  obtain ⟨f1, f2, e1, h1⟩ := x_noteBare (G := G) (x := x) (v := v) (t := t) (b := b) (p := p) (ip := ip) (r := r) (N := N) hN B X O Q (q := q) (line := line) hq (by omega)
  have hc := cnt_le (bareT T C φ q line) (T q)
  have e2 := x_selL (G := G) (x := x) (v := v) (t := t) (b := b) (p := p) (ip := ip) (r := ua (ua r 15 f1) 16 f2) (N := N) hN B X (q := q) (pp := bareT T C φ q line) (what := nI w) hq (by rw [ua_s]; exact h1) (K := fun h l3 l4 l5 => if l3 = 0 then some (l4, h) else some (l5, h)) N W 0 (by omega) (by omega)
  have w1 : fX5_within N (xH G x v t b p ip r) (nI line) 1 9 = some 1 := x_in_y (by rw [i_1]; exact nI_le hl1 (by omega)) (by rw [i_9]; exact nI_le hl (by omega))
  have w2 : fX5_within N (xH G x v t b p ip r) (nI w) 0 1 = some 1 := x_in_y (by rw [i_0]; exact nI_le (by omega) (by omega)) (by rw [i_1]; exact nI_le (by omega) (by omega))
  refine ⟨f1, f2, ?_⟩
  simp only [fX5_closes, xh_O5, xh_O4, xh_O3, xh_O8, xh_g5_0, xh_g5_1, xh_g5_2, xh_g5_3, xh_g5_4, xh_g5_5, xh_g5_7, xh_g5_8, xh_g5_9, xh_g5_10, xh_g5_6, xh_g8_0, xh_g8_1, xh_g4_0, xh_g4_1, xh_g4_2, xh_g4_3, xh_g4_4, xh_g4_5, xh_g3_0, xh_g3_1, xh_g3_2, xh_p5_2, xh_p5_3, xh_p8_1, xh_p5_6, xh_p5_10, xh_p4_1, xh_p4_2, xh_p4_3, xh_p4_4, xh_p4_5, xh_p3_2, xh_rd2, xh_wr2, xh_rd4, xh_wr4, xh_rd5, xh_wr5, xh_rd15, xh_wr15, xh_len15, xh_rd16, xh_wr16, xh_len16, xh_rd17, xh_wr17, xh_len17, xh_rdA, xh_rdP, xh_wrA, xh_wrP, Option.bind_some, Option.bind_none, ↓reduceIte, if_true, if_false, isO_eq X'.1, x_hasRing_y X' B hq, w1, w2, e1]
  rw [if_neg (by decide), if_neg (by decide), if_neg (by decide)]
  have z0 (k : Nat) (hk : k < 1000) : (nI k = 0) ↔ k = 0 := by rw [i_0]; exact nI_eq (by omega) (by omega)
  by_cases c : cnt (bareT T C φ q line) (T q) = 0
  · rw [if_pos ((z0 _ (by omega)).mpr c), if_pos c]
    by_cases c2 : w = 0
    · rw [if_pos ((z0 _ (by omega)).mpr c2), if_pos c2]
    · rw [if_neg (fun z => c2 ((z0 _ (by omega)).mp z)), if_neg c2]
  · rw [if_neg (fun z => c ((z0 _ (by omega)).mp z)), if_neg c]
    refine e2.trans ?_
    by_cases c2 : w = 0
    · rw [if_pos ((z0 _ (by omega)).mpr c2), if_pos c2]
    · rw [if_neg (fun z => c2 ((z0 _ (by omega)).mp z)), if_neg c2]
end XF
