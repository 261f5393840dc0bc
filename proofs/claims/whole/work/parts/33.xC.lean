/-- where the class's boxes, papers and curves lie -/
def dy (x q : Nat) : Prop := (x + 6 ≤ q ∧ q ≤ x + 12) ∨ x + 35 < q
theorem dy_nf {x q : Nat} (h : dy x q) : nfx x q := by unfold dy at h; unfold nfx; omega
def PP (x : Nat) (G : Hp) (P : Nat) (T C : Nat → Nat) (p : Nat) (φ : Nat → Nat) : Prop :=
  dy x p ∧ ∃ ia ca, G p = some (oO 2 [.int (nI (φ 0)), .ref ia, .ref ca]) ∧ dy x ia ∧ (∃ fi, G ia = some (oI 0 P fi) ∧ ∀ j, j < P → fi j = nI (φ (2 + j))) ∧ dy x ca ∧ ∃ fc, G ca = some (oA 2 (φ 1) fc) ∧ ∀ k, k < φ 1 → ∃ ck, fc k = some ck ∧ dy x ck ∧ G ck = some (oO 1 (cvL T C φ k))
theorem PP.moved {x : Nat} {G G' : Hp} {P : Nat} {T C : Nat → Nat} {p : Nat} {φ : Nat → Nat} (h : PP x G P T C p φ) (e : ∀ q, dy x q → ∀ y, G q = some y → G' q = some y) : PP x G' P T C p φ := by
  obtain ⟨h1, ia, ca, h2, h3, ⟨fi, h4, h5⟩, h6, fc, h7, h8⟩ := h
  refine ⟨h1, ia, ca, e _ h1 _ h2, h3, ⟨fi, e _ h3 _ h4, h5⟩, h6, fc, e _ h6 _ h7, fun k hk => ?_⟩
  obtain ⟨ck, c1, c2, c3⟩ := h8 k hk
  exact ⟨ck, c1, c2, e _ c2 _ c3⟩
section XC
variable {G : Hp} {x : Nat} {v : Nat → Int32} {t : Int64} {b p : Nat} {ip : Nat → Option Nat} {r : Nat → Nat → Int32} {N R W P : Nat} {T C φ : Nat → Nat}
/-- the paper as the class reads it -/
theorem pp_read {E : Hp} (Q : PP x G P T C p φ) (hE : ∀ q, dy x q → E q = G q) : isO E (some p) 2 = true ∧ gI E (some p) 2 0 = some (nI (φ 0)) ∧ ∃ ia ca fi fc, gA E (some p) 2 1 = some (some ia) ∧ gA E (some p) 2 2 = some (some ca) ∧ E ia = some (oI 0 P fi) ∧ (∀ j, j < P → fi j = nI (φ (2 + j))) ∧ E ca = some (oA 2 (φ 1) fc) ∧ (∀ k, k < φ 1 → ∃ ck, fc k = some ck ∧ dy x ck ∧ E ck = some (oO 1 (cvL T C φ k))) := by
  obtain ⟨h1, ia, ca, h2, h3, ⟨fi, h4, h5⟩, h6, fc, h7, h8⟩ := Q
  rw [← hE _ h1] at h2
  rw [← hE _ h3] at h4
  rw [← hE _ h6] at h7
  refine ⟨isO_eq h2, gI_eq h2 rfl, ia, ca, fi, fc, gA_eq (v := some ia) h2 rfl, gA_eq (v := some ca) h2 rfl, h4, h5, h7, fun k hk => ?_⟩
  obtain ⟨ck, c1, c2, c3⟩ := h8 k hk
  exact ⟨ck, c1, c2, by rw [hE _ c2]; exact c3⟩
theorem xh_dy : ∀ q, dy x q → xH G x v t b p ip r q = G q := fun q h => xh_out (dy_nf h)
theorem x_fillL {E : (Nat → Nat → Int32) → Hp} {e d n : Nat} {z : Int32} (hn : n < 100000) (hw : ∀ (r : Nat → Nat → Int32) (j : Nat), j < n → wI (E r) (some (x + e)) 0 (nI j) z = some (E (ua r d (upd (r d) j z)))) {α : Type} {K : Hp → Option α} : ∀ (f i j : Nat) (r : Nat → Nat → Int32) (u : Nat → Int32), j + i = n → i < f → (∀ q, q < j → u q = z) → ∃ u', fJ7_fill_53178_L5 N K f (E (ua r d u)) (some (x + e)) z (nI j) (nI n) = K (E (ua r d u')) ∧ ∀ q, q < n → u' q = z := by
  intro f
  induction f with
  | zero => intro i j r u _ h; omega
  | succ f ih =>
    intro i j r u hj hi hu
    rw [fJ7_fill_53178_L5]
    cases i with
    | zero => exact ⟨u, if_pos (nI_le (by omega) (by omega)), fun q hq => hu q (by omega)⟩
    | succ i =>
      rw [if_neg (nI_ge (by omega) (by omega)), hw _ j (by omega)]
      simp only [Option.bind_some, Option.bind_none, ↓reduceIte, if_true, if_false, ua_s, ua_ua, nI_1]
      refine ih i (j + 1) r _ (by omega) (by omega) (fun q hq => ?_)
      by_cases c : q = j
      · rw [c, pk_us]
      · rw [pk_un c]; exact hu q (by omega)
theorem x_fill15 (hN : 2000 ≤ N) {z : Int32} : ∃ u', fJ7_fill_53178 N (xH G x v t b p ip r) (some (x + 16)) z = some (xH G x v t b p ip (ua r 15 u')) ∧ ∀ q, q < 360 → u' q = z := by
  simp only [fJ7_fill_53178, xh_len15, Option.bind_some, Option.bind_none, ↓reduceIte, if_true, if_false]
  obtain ⟨u, e, h⟩ := x_fillL (x := x) (N := N) (E := fun r => xH G x v t b p ip r) (e := 16) (d := 15) (n := 360) (z := z) (by omega) (fun r j hj => xh_wr15 hj) (K := fun h => some h) N 360 0 r (r 15) (by omega) (by omega) (fun q hq => by omega)
  rw [ua_id] at e
  exact ⟨u, e, h⟩
theorem x_fill16 (hN : 2000 ≤ N) {z : Int32} : ∃ u', fJ7_fill_53178 N (xH G x v t b p ip r) (some (x + 17)) z = some (xH G x v t b p ip (ua r 16 u')) ∧ ∀ q, q < 120 → u' q = z := by
  simp only [fJ7_fill_53178, xh_len16, Option.bind_some, Option.bind_none, ↓reduceIte, if_true, if_false]
  obtain ⟨u, e, h⟩ := x_fillL (x := x) (N := N) (E := fun r => xH G x v t b p ip r) (e := 17) (d := 16) (n := 120) (z := z) (by omega) (fun r j hj => xh_wr16 hj) (K := fun h => some h) N 120 0 r (r 16) (by omega) (by omega) (fun q hq => by omega)
  rw [ua_id] at e
  exact ⟨u, e, h⟩
theorem x_fill17 (hN : 2000 ≤ N) {z : Int32} : ∃ u', fJ7_fill_53178 N (xH G x v t b p ip r) (some (x + 18)) z = some (xH G x v t b p ip (ua r 17 u')) ∧ ∀ q, q < 1000 → u' q = z := by
  simp only [fJ7_fill_53178, xh_len17, Option.bind_some, Option.bind_none, ↓reduceIte, if_true, if_false]
  obtain ⟨u, e, h⟩ := x_fillL (x := x) (N := N) (E := fun r => xH G x v t b p ip r) (e := 18) (d := 17) (n := 1000) (z := z) (by omega) (fun r j hj => xh_wr17 hj) (K := fun h => some h) N 1000 0 r (r 17) (by omega) (by omega) (fun q hq => by omega)
  rw [ua_id] at e
  exact ⟨u, e, h⟩
theorem x_nsL (hN : 2000 ≤ N) (B : okB R W P T C) {k ck : Nat} {line : Int32} {f0 : Nat → Int32} (O : okC R W P T C φ k) (hd : dy x ck) (hc : G ck = some (oO 1 (cvL T C φ k))) {α : Type} {K : Hp → Option Nat → Int32 → Int32 → Option α} : ∀ (n d q : Nat) (f : Nat → Int32), q + d = T (cF φ k 0) / Nat.gcd (T (cF φ k 0)) (C (cF φ k 1)) → d < n → (∀ pt, pt < 360 → (f pt = nI k ∧ ∃ q', q' < q ∧ (360 / T (cF φ k 0) * cF φ k 3 + cF φ k 5 + 360 / T (cF φ k 0) * Nat.gcd (T (cF φ k 0)) (C (cF φ k 1)) * q') % 360 = pt) ∨ (f pt = f0 pt ∧ ¬ ∃ q', q' < q ∧ (360 / T (cF φ k 0) * cF φ k 3 + cF φ k 5 + 360 / T (cF φ k 0) * Nat.gcd (T (cF φ k 0)) (C (cF φ k 1)) * q') % 360 = pt)) → ∃ f', fX5_noteShown_L47 N K n (xH G x v t b p ip (ua r 15 f)) (some x) line (nI k) (some ck) (nI q) = K (xH G x v t b p ip (ua r 15 f')) (some x) line (nI k) ∧ ∀ pt, pt < 360 → f' pt = if tipB T C φ k pt = true then nI k else f0 pt := by
  obtain ⟨n1, n2, n3, n4, n5, n6, n7⟩ := ok_nums B O
  intro n
  induction n with
  | zero => intro d q f _ h; omega
  | succ n ih =>
    intro d q f hq hd' hf
    have hc' : xH G x v t b p ip (ua r 15 f) ck = some (oO 1 (cvL T C φ k)) := by rw [xh_out (dy_nf hd)]; exact hc
    have e6 : gI (xH G x v t b p ip (ua r 15 f)) (some ck) 1 6 = some (nI (T (cF φ k 0) / Nat.gcd (T (cF φ k 0)) (C (cF φ k 1)))) := gI_eq hc' rfl
    rw [fX5_noteShown_L47]
    simp only [e6, xh_O5, xh_O4, xh_O3, xh_O8, xh_g5_0, xh_g5_1, xh_g5_2, xh_g5_3, xh_g5_4, xh_g5_5, xh_g5_7, xh_g5_8, xh_g5_9, xh_g5_10, xh_g5_6, xh_g8_0, xh_g8_1, xh_g4_0, xh_g4_1, xh_g4_2, xh_g4_3, xh_g4_4, xh_g4_5, xh_g3_0, xh_g3_1, xh_g3_2, xh_p5_2, xh_p5_3, xh_p8_1, xh_p5_6, xh_p5_10, xh_p4_1, xh_p4_2, xh_p4_3, xh_p4_4, xh_p4_5, xh_p3_2, xh_rd2, xh_wr2, xh_rd4, xh_wr4, xh_rd5, xh_wr5, xh_rd15, xh_wr15, xh_len15, xh_rd16, xh_wr16, xh_len16, xh_rd17, xh_wr17, xh_len17, xh_rdA, xh_rdP, xh_wrA, xh_wrP, Option.bind_some, Option.bind_none, ↓reduceIte, if_true, if_false]
    cases d with
    | zero =>
      refine ⟨f, if_pos (nI_le (by omega) (by omega)), fun pt hp => ?_⟩
      have iff_ := pt_iff (gap := 360 / T (cF φ k 0) * Nat.gcd (T (cF φ k 0)) (C (cF φ k 1))) (P := T (cF φ k 0) / Nat.gcd (T (cF φ k 0)) (C (cF φ k 1))) (f := 360 / T (cF φ k 0) * cF φ k 3 + cF φ k 5) n2 n3 hp
      rw [← show q = T (cF φ k 0) / Nat.gcd (T (cF φ k 0)) (C (cF φ k 1)) by omega] at iff_
      rcases hf pt hp with ⟨h1, h2⟩ | ⟨h1, h2⟩
      · rw [h1, if_pos (by simp only [tipB, decide_eq_true_eq]; exact iff_.mpr h2)]
      · rw [h1, if_neg (by simp only [tipB, decide_eq_true_eq]; exact fun z => h2 (iff_.mp z))]
    | succ d =>
      have hm : (360 / T (cF φ k 0) * cF φ k 3 + cF φ k 5 + 360 / T (cF φ k 0) * Nat.gcd (T (cF φ k 0)) (C (cF φ k 1)) * q) % 360 < 360 := Nat.mod_lt _ (by decide)
      rw [if_neg (nI_ge (by omega) (by omega))]
      simp (disch := omega) only [isO_eq hc', x_pointOf B O hc' (show q ≤ 120 by omega), xh_O5, xh_O4, xh_O3, xh_O8, xh_g5_0, xh_g5_1, xh_g5_2, xh_g5_3, xh_g5_4, xh_g5_5, xh_g5_7, xh_g5_8, xh_g5_9, xh_g5_10, xh_g5_6, xh_g8_0, xh_g8_1, xh_g4_0, xh_g4_1, xh_g4_2, xh_g4_3, xh_g4_4, xh_g4_5, xh_g3_0, xh_g3_1, xh_g3_2, xh_p5_2, xh_p5_3, xh_p8_1, xh_p5_6, xh_p5_10, xh_p4_1, xh_p4_2, xh_p4_3, xh_p4_4, xh_p4_5, xh_p3_2, xh_rd2, xh_wr2, xh_rd4, xh_wr4, xh_rd5, xh_wr5, xh_rd15, xh_wr15, xh_len15, xh_rd16, xh_wr16, xh_len16, xh_rd17, xh_wr17, xh_len17, xh_rdA, xh_rdP, xh_wrA, xh_wrP, Option.bind_some, Option.bind_none, ↓reduceIte, if_true, if_false, ua_s, ua_ua, nI_1]
      refine ih d (q + 1) _ (by omega) (by omega) (fun pt hp => ?_)
      by_cases c : pt = (360 / T (cF φ k 0) * cF φ k 3 + cF φ k 5 + 360 / T (cF φ k 0) * Nat.gcd (T (cF φ k 0)) (C (cF φ k 1)) * q) % 360
      · refine Or.inl ⟨by rw [c, pk_us], q, by omega, c.symm⟩
      · rw [pk_un c]
        rcases hf pt hp with ⟨h1, q', h2, h3⟩ | ⟨h1, h2⟩
        · exact Or.inl ⟨h1, q', by omega, h3⟩
        · refine Or.inr ⟨h1, fun z => ?_⟩
          obtain ⟨q', z1, z2⟩ := z
          rcases Nat.lt_or_ge q' q with d1 | d1
          · exact h2 ⟨q', d1, z2⟩
          · have : q' = q := by omega
            subst this
            exact c z2.symm
theorem x_nsLL (hN : 2000 ≤ N) (B : okB R W P T C) (O : okN R W P T C φ) (Q : PP x G P T C p φ) {line : Nat} (hl : line < 10) {α : Type} {K : Hp → Option α} : ∀ (n d k : Nat) (f : Nat → Int32), k + d = φ 1 → d < n → (∀ pt, pt < 360 → f pt = lastK (tipL T C φ line pt) k) → ∃ f', fX5_noteShown_L11 N K n (xH G x v t b p ip (ua r 15 f)) (some x) (nI line) (nI k) = K (xH G x v t b p ip (ua r 15 f')) ∧ ∀ pt, pt < 360 → f' pt = lastK (tipL T C φ line pt) (φ 1) := by
  have hφ := O.2.1
  intro n
  induction n with
  | zero => intro d k f _ h; omega
  | succ n ih =>
    intro d k f hk hd hf
    obtain ⟨q1, q2, ia, ca, fi, fc, q3, q4, q6, q7, q8, q9⟩ := pp_read (E := xH G x v t b p ip (ua r 15 f)) Q xh_dy
    have ql : aL (xH G x v t b p ip (ua r 15 f)) (some ca) = some (nI (φ 1)) := aL_A q8 (Or.inl rfl)
    rw [fX5_noteShown_L11]
    simp only [xh_O5, xh_O4, xh_O3, xh_O8, xh_g5_0, xh_g5_1, xh_g5_2, xh_g5_3, xh_g5_4, xh_g5_5, xh_g5_7, xh_g5_8, xh_g5_9, xh_g5_10, xh_g5_6, xh_g8_0, xh_g8_1, xh_g4_0, xh_g4_1, xh_g4_2, xh_g4_3, xh_g4_4, xh_g4_5, xh_g3_0, xh_g3_1, xh_g3_2, xh_p5_2, xh_p5_3, xh_p8_1, xh_p5_6, xh_p5_10, xh_p4_1, xh_p4_2, xh_p4_3, xh_p4_4, xh_p4_5, xh_p3_2, xh_rd2, xh_wr2, xh_rd4, xh_wr4, xh_rd5, xh_wr5, xh_rd15, xh_wr15, xh_len15, xh_rd16, xh_wr16, xh_len16, xh_rd17, xh_wr17, xh_len17, xh_rdA, xh_rdP, xh_wrA, xh_wrP, Option.bind_some, Option.bind_none, ↓reduceIte, if_true, if_false, q4, ql]
    cases d with
    | zero =>
      have ek : k = φ 1 := by omega
      subst ek
      exact ⟨f, if_pos (nI_le (by omega) (by omega)), hf⟩
    | succ d =>
      obtain ⟨ck, c1, c2, c3⟩ := q9 k (by omega)
      have hO := O.2.2.2 k (by omega)
      have h9 : cF φ k 2 ≤ 9 := hO.2.2.2.2.1
      have ra : rA (xH G x v t b p ip (ua r 15 f)) (some ca) 2 (nI k) = some (some ck) := by rw [rA_eq q8 (by omega) (by omega), c1]
      have e2 : gI (xH G x v t b p ip (ua r 15 f)) (some ck) 1 2 = some (nI (cF φ k 2)) := gI_eq c3 rfl
      have ec : fX2_curveAt N (xH G x v t b p ip (ua r 15 f)) (some p) (nI k) = some (some ck) := by
        simp only [fX2_curveAt, q4, ql, ra, Option.bind_some, Option.bind_none, ↓reduceIte, if_true, if_false]
        rw [if_neg (nI_neg (by omega)), if_neg (nI_ge (by omega) (by omega))]
      rw [if_neg (nI_ge (by omega) (by omega))]
      simp (disch := omega) only [q1, ec, e2, reduceCtorEq, Option.bind_some, Option.bind_none, ↓reduceIte, if_true, if_false, nI_eq, nI_1]
      by_cases c : cF φ k 2 = line
      · rw [if_pos c]
        have hc : G ck = some (oO 1 (cvL T C φ k)) := (xh_dy (G := G) (v := v) (t := t) (b := b) (p := p) (ip := ip) (r := ua r 15 f) ck c2).symm.trans c3
        obtain ⟨f1, e1, h1⟩ := x_nsL (G := G) (x := x) (v := v) (t := t) (b := b) (p := p) (ip := ip) (r := r) (N := N) (line := nI line) (f0 := f) hN B hO c2 hc (K := fun h l0 l1 l2 => fX5_noteShown_L11 N K n h l0 l1 (l2 + 1)) N (T (cF φ k 0) / Nat.gcd (T (cF φ k 0)) (C (cF φ k 1))) 0 f (by omega) (by have := (ok_nums B hO).2.2.2.2.1; omega) (fun pt hp => Or.inr ⟨rfl, fun z => by obtain ⟨q', z1, _⟩ := z; omega⟩)
        obtain ⟨f2, e2', h2⟩ := ih d (k + 1) f1 (by omega) (by omega) (fun pt hp => by
          rw [h1 pt hp, hf pt hp]
          show _ = if tipL T C φ line pt k = true then nI k else lastK (tipL T C φ line pt) k
          have : tipL T C φ line pt k = tipB T C φ k pt := by simp [tipL, c]
          rw [this])
        refine ⟨f2, ?_, h2⟩
        refine e1.trans ?_
        rw [nI_1]
        exact e2'
      · rw [if_neg c]
        refine ih d (k + 1) f (by omega) (by omega) (fun pt hp => ?_)
        rw [hf pt hp]
        show _ = if tipL T C φ line pt k = true then nI k else lastK (tipL T C φ line pt) k
        rw [if_neg (by simp [tipL, c])]
theorem x_noteShown (hN : 2000 ≤ N) (B : okB R W P T C) (O : okN R W P T C φ) (Q : PP x G P T C p φ) {line : Nat} (hl : line < 10) : ∃ f', fX5_noteShown N (xH G x v t b p ip r) (some x) (nI line) = some (xH G x v t b p ip (ua r 15 f')) ∧ ∀ pt, pt < 360 → f' pt = lastK (tipL T C φ line pt) (φ 1) := by
  have hφ := O.2.1
  obtain ⟨u, e1, h1⟩ := x_fill15 (G := G) (x := x) (v := v) (t := t) (b := b) (p := p) (ip := ip) (r := r) hN (z := -9)
  obtain ⟨f2, e2, h2⟩ := x_nsLL (G := G) (x := x) (v := v) (t := t) (b := b) (p := p) (ip := ip) (r := r) (N := N) hN B O Q hl (K := fun h => some h) N (φ 1) 0 u (by omega) (by omega) h1
  refine ⟨f2, ?_, h2⟩
  simp only [fX5_noteShown, xh_O5, xh_O4, xh_O3, xh_O8, xh_g5_0, xh_g5_1, xh_g5_2, xh_g5_3, xh_g5_4, xh_g5_5, xh_g5_7, xh_g5_8, xh_g5_9, xh_g5_10, xh_g5_6, xh_g8_0, xh_g8_1, xh_g4_0, xh_g4_1, xh_g4_2, xh_g4_3, xh_g4_4, xh_g4_5, xh_g3_0, xh_g3_1, xh_g3_2, xh_p5_2, xh_p5_3, xh_p8_1, xh_p5_6, xh_p5_10, xh_p4_1, xh_p4_2, xh_p4_3, xh_p4_4, xh_p4_5, xh_p3_2, xh_rd2, xh_wr2, xh_rd4, xh_wr4, xh_rd5, xh_wr5, xh_rd15, xh_wr15, xh_len15, xh_rd16, xh_wr16, xh_len16, xh_rd17, xh_wr17, xh_len17, xh_rdA, xh_rdP, xh_wrA, xh_wrP, Option.bind_some, Option.bind_none, ↓reduceIte, if_true, if_false, e1]
  exact e2
theorem x_npL (hN : 2000 ≤ N) (B : okB R W P T C) (O : okN R W P T C φ) (Q : PP x G P T C p φ) {line : Nat} {f0 : Nat → Int32} (h0 : ∀ pt, pt < 360 → f0 pt = lastK (tipL T C φ line pt) (φ 1)) {α : Type} {K : Hp → Option α} : ∀ (n d j : Nat) (f : Nat → Int32), j + d = 360 → d < n → (∀ pt, pt < 360 → f pt = if pt < j then penK T C φ line pt else f0 pt) → ∃ f', fX5_notePens_L7 N K n (xH G x v t b p ip (ua r 15 f)) (some x) (nI j) = K (xH G x v t b p ip (ua r 15 f')) ∧ ∀ pt, pt < 360 → f' pt = penK T C φ line pt := by
  have hφ := O.2.1
  intro n
  induction n with
  | zero => intro d k f _ h; omega
  | succ n ih =>
    intro d j f hj hd hf
    obtain ⟨q1, q2, ia, ca, fi, fc, q3, q4, q6, q7, q8, q9⟩ := pp_read (E := xH G x v t b p ip (ua r 15 f)) Q xh_dy
    have ql : aL (xH G x v t b p ip (ua r 15 f)) (some ca) = some (nI (φ 1)) := aL_A q8 (Or.inl rfl)
    rw [fX5_notePens_L7]
    cases d with
    | zero =>
      refine ⟨f, ?_, fun pt hp => by rw [hf pt hp, if_pos (by omega)]⟩
      rw [i_360, if_pos (nI_le (by omega) (by omega))]
    | succ d =>
      rw [i_360, if_neg (nI_ge (by omega) (by omega))]
      have ef : f j = lastK (tipL T C φ line j) (φ 1) := by rw [hf j (by omega), if_neg (by omega)]; exact h0 j (by omega)
      simp (disch := omega) only [xh_O5, xh_O4, xh_O3, xh_O8, xh_g5_0, xh_g5_1, xh_g5_2, xh_g5_3, xh_g5_4, xh_g5_5, xh_g5_7, xh_g5_8, xh_g5_9, xh_g5_10, xh_g5_6, xh_g8_0, xh_g8_1, xh_g4_0, xh_g4_1, xh_g4_2, xh_g4_3, xh_g4_4, xh_g4_5, xh_g3_0, xh_g3_1, xh_g3_2, xh_p5_2, xh_p5_3, xh_p8_1, xh_p5_6, xh_p5_10, xh_p4_1, xh_p4_2, xh_p4_3, xh_p4_4, xh_p4_5, xh_p3_2, xh_rd2, xh_wr2, xh_rd4, xh_wr4, xh_rd5, xh_wr5, xh_rd15, xh_wr15, xh_len15, xh_rd16, xh_wr16, xh_len16, xh_rd17, xh_wr17, xh_len17, xh_rdA, xh_rdP, xh_wrA, xh_wrP, Option.bind_some, Option.bind_none, ↓reduceIte, if_true, if_false, ua_s, ef, q1]
      rcases lastK_cases (tipL T C φ line j) (fun k => cF φ k 4) (φ 1) with ⟨h1, h2, -⟩ | ⟨k, h1, h2, h3, -, -⟩
      · rw [h1]
        have ec : fX2_curveAt N (xH G x v t b p ip (ua r 15 f)) (some p) (-9) = some none := by
          simp only [fX2_curveAt]
          rw [if_pos (by decide)]
        simp (disch := omega) only [ec, xh_O5, xh_O4, xh_O3, xh_O8, xh_g5_0, xh_g5_1, xh_g5_2, xh_g5_3, xh_g5_4, xh_g5_5, xh_g5_7, xh_g5_8, xh_g5_9, xh_g5_10, xh_g5_6, xh_g8_0, xh_g8_1, xh_g4_0, xh_g4_1, xh_g4_2, xh_g4_3, xh_g4_4, xh_g4_5, xh_g3_0, xh_g3_1, xh_g3_2, xh_p5_2, xh_p5_3, xh_p8_1, xh_p5_6, xh_p5_10, xh_p4_1, xh_p4_2, xh_p4_3, xh_p4_4, xh_p4_5, xh_p3_2, xh_rd2, xh_wr2, xh_rd4, xh_wr4, xh_rd5, xh_wr5, xh_rd15, xh_wr15, xh_len15, xh_rd16, xh_wr16, xh_len16, xh_rd17, xh_wr17, xh_len17, xh_rdA, xh_rdP, xh_wrA, xh_wrP, Option.bind_some, Option.bind_none, ↓reduceIte, if_true, if_false, ua_s, ua_ua, nI_1]
        refine ih d (j + 1) _ (by omega) (by omega) (fun pt hp => ?_)
        by_cases c : pt = j
        · rw [c, pk_us, if_pos (by omega), penK, h2]
        · rw [pk_un c, hf pt hp]
          by_cases c2 : pt < j
          · rw [if_pos c2, if_pos (by omega)]
          · rw [if_neg c2, if_neg (by omega)]
      · obtain ⟨ck, c1, c2, c3⟩ := q9 k (by omega)
        have ra : rA (xH G x v t b p ip (ua r 15 f)) (some ca) 2 (nI k) = some (some ck) := by rw [rA_eq q8 (by omega) (by omega), c1]
        have e4 : gI (xH G x v t b p ip (ua r 15 f)) (some ck) 1 4 = some (nI (cF φ k 4)) := gI_eq c3 rfl
        rw [h2]
        have ec : fX2_curveAt N (xH G x v t b p ip (ua r 15 f)) (some p) (nI k) = some (some ck) := by
          simp only [fX2_curveAt, q4, ql, ra, Option.bind_some, Option.bind_none, ↓reduceIte, if_true, if_false]
          rw [if_neg (nI_neg (by omega)), if_neg (nI_ge (by omega) (by omega))]
        simp (disch := omega) only [ec, xh_O5, xh_O4, xh_O3, xh_O8, xh_g5_0, xh_g5_1, xh_g5_2, xh_g5_3, xh_g5_4, xh_g5_5, xh_g5_7, xh_g5_8, xh_g5_9, xh_g5_10, xh_g5_6, xh_g8_0, xh_g8_1, xh_g4_0, xh_g4_1, xh_g4_2, xh_g4_3, xh_g4_4, xh_g4_5, xh_g3_0, xh_g3_1, xh_g3_2, xh_p5_2, xh_p5_3, xh_p8_1, xh_p5_6, xh_p5_10, xh_p4_1, xh_p4_2, xh_p4_3, xh_p4_4, xh_p4_5, xh_p3_2, xh_rd2, xh_wr2, xh_rd4, xh_wr4, xh_rd5, xh_wr5, xh_rd15, xh_wr15, xh_len15, xh_rd16, xh_wr16, xh_len16, xh_rd17, xh_wr17, xh_len17, xh_rdA, xh_rdP, xh_wrA, xh_wrP, Option.bind_some, Option.bind_none, ↓reduceIte, if_true, if_false, ua_s, ua_ua, nI_1, reduceCtorEq, e4]
        refine ih d (j + 1) _ (by omega) (by omega) (fun pt hp => ?_)
        by_cases c : pt = j
        · rw [c, pk_us, if_pos (by omega), penK, h3]
        · rw [pk_un c, hf pt hp]
          by_cases c2 : pt < j
          · rw [if_pos c2, if_pos (by omega)]
          · rw [if_neg c2, if_neg (by omega)]
theorem x_notePens (hN : 2000 ≤ N) (B : okB R W P T C) (O : okN R W P T C φ) (Q : PP x G P T C p φ) {line : Nat} (hl : line < 10) : ∃ f', fX5_notePens N (xH G x v t b p ip r) (some x) (nI line) = some (xH G x v t b p ip (ua r 15 f')) ∧ ∀ pt, pt < 360 → f' pt = penK T C φ line pt := by
  obtain ⟨f1, e1, h1⟩ := x_noteShown (G := G) (x := x) (v := v) (t := t) (b := b) (p := p) (ip := ip) (r := r) (N := N) hN B O Q hl
  obtain ⟨f2, e2, h2⟩ := x_npL (G := G) (x := x) (v := v) (t := t) (b := b) (p := p) (ip := ip) (r := r) (N := N) hN B O Q h1 (K := fun h => some h) N 360 0 f1 (by omega) (by omega) (fun pt hp => by rw [if_neg (by omega)])
  refine ⟨f2, ?_, h2⟩
  simp only [fX5_notePens, xh_O5, xh_O4, xh_O3, xh_O8, xh_g5_0, xh_g5_1, xh_g5_2, xh_g5_3, xh_g5_4, xh_g5_5, xh_g5_7, xh_g5_8, xh_g5_9, xh_g5_10, xh_g5_6, xh_g8_0, xh_g8_1, xh_g4_0, xh_g4_1, xh_g4_2, xh_g4_3, xh_g4_4, xh_g4_5, xh_g3_0, xh_g3_1, xh_g3_2, xh_p5_2, xh_p5_3, xh_p8_1, xh_p5_6, xh_p5_10, xh_p4_1, xh_p4_2, xh_p4_3, xh_p4_4, xh_p4_5, xh_p3_2, xh_rd2, xh_wr2, xh_rd4, xh_wr4, xh_rd5, xh_wr5, xh_rd15, xh_wr15, xh_len15, xh_rd16, xh_wr16, xh_len16, xh_rd17, xh_wr17, xh_len17, xh_rdA, xh_rdP, xh_wrA, xh_wrP, Option.bind_some, Option.bind_none, ↓reduceIte, if_true, if_false, e1]
  exact e2
theorem x_pnL {as : Int32} {α : Type} {K : Int32 → Option α} : ∀ (n d j : Nat), j + d = 360 → d < n → fX5_pointsNoted_L4 N (xH G x v t b p ip r) K n (some x) as (nI (cnt (fun pt => r 15 pt == as) j)) (nI j) = K (nI (cnt (fun pt => r 15 pt == as) 360)) := by
  intro n
  induction n with
  | zero => intro d j _ h; omega
  | succ n ih =>
    intro d j hj hd
    rw [fX5_pointsNoted_L4]
    cases d with
    | zero =>
      have : j = 360 := by omega
      subst this
      rw [i_360, if_pos (nI_le (by omega) (by omega))]
    | succ d =>
      have ih' := ih d (j + 1) (by omega) (by omega)
      rw [i_360, if_neg (nI_ge (by omega) (by omega))]
      simp (disch := omega) only [xh_O5, xh_O4, xh_O3, xh_O8, xh_g5_0, xh_g5_1, xh_g5_2, xh_g5_3, xh_g5_4, xh_g5_5, xh_g5_7, xh_g5_8, xh_g5_9, xh_g5_10, xh_g5_6, xh_g8_0, xh_g8_1, xh_g4_0, xh_g4_1, xh_g4_2, xh_g4_3, xh_g4_4, xh_g4_5, xh_g3_0, xh_g3_1, xh_g3_2, xh_p5_2, xh_p5_3, xh_p8_1, xh_p5_6, xh_p5_10, xh_p4_1, xh_p4_2, xh_p4_3, xh_p4_4, xh_p4_5, xh_p3_2, xh_rd2, xh_wr2, xh_rd4, xh_wr4, xh_rd5, xh_wr5, xh_rd15, xh_wr15, xh_len15, xh_rd16, xh_wr16, xh_len16, xh_rd17, xh_wr17, xh_len17, xh_rdA, xh_rdP, xh_wrA, xh_wrP, Option.bind_some, Option.bind_none, ↓reduceIte, if_true, if_false, nI_1]
      by_cases c : r 15 j = as
      · rw [cnt_t (n := j) (by simpa using c)] at ih'
        rw [if_pos c]
        exact ih'
      · rw [cnt_f (n := j) (by simpa using c)] at ih'
        rw [if_neg c]
        exact ih'
theorem x_pointsNoted (hN : 2000 ≤ N) {as : Int32} : fX5_pointsNoted N (xH G x v t b p ip r) (some x) as = some (nI (cnt (fun pt => r 15 pt == as) 360)) := by
  simp only [fX5_pointsNoted]
  exact x_pnL (K := fun l2 => some l2) N 360 0 (by omega) (by omega)
theorem cnt_congr {p q : Nat → Bool} {n : Nat} (h : ∀ i, i < n → p i = q i) : cnt p n = cnt q n := by
  induction n with
  | zero => rfl
  | succ n ih =>
    show cnt p n + (if p n = true then 1 else 0) = cnt q n + (if q n = true then 1 else 0)
    rw [ih (fun i hi => h i (by omega)), h n (by omega)]
end XC
