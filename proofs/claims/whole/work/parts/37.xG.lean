def upU (p b : Nat) (U : Nat → Nat) (i : Nat) : Nat := if b ≤ i then max (U i) (U (i - b) + p) else U i
def xW (T C : Nat → Nat) (r : Nat) (U : Nat → Nat) : Nat → Nat → Nat
  | 0 => U
  | w + 1 => if fitB T C r w = true then upU (T r / Nat.gcd (T r) (C w)) (T r * (C w / Nat.gcd (T r) (C w))) (xW T C r U w) else xW T C r U w
theorem xW_t {T C : Nat → Nat} {r w : Nat} {U : Nat → Nat} (h : fitB T C r w = true) : xW T C r U (w + 1) = upU (T r / Nat.gcd (T r) (C w)) (T r * (C w / Nat.gcd (T r) (C w))) (xW T C r U w) := if_pos h
theorem xW_f {T C : Nat → Nat} {r w : Nat} {U : Nat → Nat} (h : ¬ fitB T C r w = true) : xW T C r U (w + 1) = xW T C r U w := if_neg h
def xR (T C : Nat → Nat) (W : Nat) (U : Nat → Nat) : Nat → Nat → Nat
  | 0 => U
  | r + 1 => xW T C r (xR T C W U r) W
def leU (U : Nat → Nat) : Prop := ∀ i, U i ≤ i
theorem upU_le {p b : Nat} {U : Nat → Nat} (h : leU U) (hp : p ≤ b) : leU (upU p b U) := by
  intro i
  unfold upU
  split
  · have := h i; have := h (i - b); omega
  · exact h i
theorem xW_le {T C : Nat → Nat} {r W : Nat} {U : Nat → Nat} (h : leU U) (hT : 0 < T r) (hC : ∀ w, w < W → 0 < C w) : ∀ w, w ≤ W → leU (xW T C r U w) := by
  intro w
  induction w with
  | zero => exact fun _ => h
  | succ w ih =>
    intro hw
    unfold xW
    split
    · exact upU_le (ih (by omega)) (pet_long hT (hC w (by omega))).2
    · exact ih (by omega)
theorem xR_le {T C : Nat → Nat} {W R : Nat} {U : Nat → Nat} (h : leU U) (hT : ∀ r, r < R → 0 < T r) (hC : ∀ w, w < W → 0 < C w) : ∀ r, r ≤ R → leU (xR T C W U r) := by
  intro r
  induction r with
  | zero => exact fun _ => h
  | succ r ih => exact fun hr => xW_le (ih (by omega)) (hT r (by omega)) hC W (Nat.le_refl _)
/-- the most up to a length, against the most at just that length -/
def relU (all : Nat) (E : Nat → Option Nat) (U : Nat → Nat) : Prop := ∀ i, i ≤ all → (∀ j v, j ≤ i → E j = some v → v ≤ U i) ∧ ∃ j, j ≤ i ∧ E j = some (U i)
theorem step_cases {E : Nat → Option Nat} {p b all j v : Nat} (e : stepE p b all E j = some v) : E j = some v ∨ (b ≤ j ∧ ∃ u, E (j - b) = some u ∧ v = u + p) := by
  unfold stepE at e
  split at e
  · rename_i hc
    unfold joinE at e
    cases h1 : E (j - b) with
    | none => rw [h1] at e; exact Or.inl e
    | some u =>
      rw [h1] at e
      dsimp only at e
      split at e
      · exact Or.inl e
      · cases e; exact Or.inr ⟨hc.1, u, rfl, rfl⟩
  · exact Or.inl e
theorem oLe_some {x : Option Nat} {u : Nat} (h : oLe (some u) x = true) : ∃ w, x = some w ∧ u ≤ w := by
  cases x with
  | none => cases h
  | some w => exact ⟨w, rfl, by simpa [oLe] using h⟩
theorem step_ge {E : Nat → Option Nat} {p b all j u : Nat} (e : E j = some u) : ∃ w, stepE p b all E j = some w ∧ u ≤ w := by
  unfold stepE
  split
  · unfold joinE
    cases h1 : E (j - b) with
    | none => exact ⟨u, e, Nat.le_refl _⟩
    | some z =>
      dsimp only
      by_cases c : oLe (some (z + p)) (E j) = true
      · rw [if_pos c]; exact ⟨u, e, Nat.le_refl _⟩
      · rw [if_neg c]
        refine ⟨z + p, rfl, ?_⟩
        rw [e] at c
        simp [oLe] at c
        omega
  · exact ⟨u, e, Nat.le_refl _⟩
theorem step_add {E : Nat → Option Nat} {p b all j u : Nat} (e : E j = some u) (hj : j + b ≤ all) : ∃ w, stepE p b all E (j + b) = some w ∧ u + p ≤ w := by
  unfold stepE
  rw [if_pos ⟨by omega, hj⟩]
  unfold joinE
  rw [show j + b - b = j by omega, e]
  dsimp only
  by_cases c : oLe (some (u + p)) (E (j + b)) = true
  · rw [if_pos c]
    exact oLe_some c
  · rw [if_neg c]
    exact ⟨u + p, rfl, Nat.le_refl _⟩
theorem relU_step {all p b : Nat} {E : Nat → Option Nat} {U : Nat → Nat} (h : relU all E U) : relU all (stepE p b all E) (upU p b U) := by
  intro i hi
  have hu : ∀ j v, j ≤ i → stepE p b all E j = some v → v ≤ upU p b U i := by
    intro j v hj e
    rcases step_cases e with e' | ⟨hb, u, e', ev⟩
    · have := (h i hi).1 j v hj e'
      unfold upU
      split <;> omega
    · have := (h (i - b) (by omega)).1 (j - b) u (by omega) e'
      unfold upU
      rw [if_pos (by omega)]
      omega
  refine ⟨hu, ?_⟩
  by_cases c : upU p b U i = U i
  · obtain ⟨j, hj, e⟩ := (h i hi).2
    obtain ⟨w, e1, h1⟩ := step_ge (p := p) (b := b) (all := all) e
    have := hu j w hj e1
    refine ⟨j, hj, ?_⟩
    rw [e1, show w = upU p b U i by omega]
  · have hb : b ≤ i := by
      rcases Nat.lt_or_ge i b with d | d
      · exact absurd (by unfold upU; rw [if_neg (by omega)]) c
      · exact d
    have e2 : upU p b U i = U (i - b) + p := by
      unfold upU at c ⊢
      rw [if_pos hb] at c ⊢
      omega
    obtain ⟨j, hj, e⟩ := (h (i - b) (by omega)).2
    obtain ⟨w, e1, h1⟩ := step_add (p := p) (b := b) (all := all) e (by omega)
    have := hu (j + b) w (by omega) e1
    exact ⟨j + b, by omega, by rw [e1, show w = upU p b U i by omega]⟩
theorem relU_W {T C : Nat → Nat} {all r : Nat} {E : Nat → Option Nat} {U : Nat → Nat} (h : relU all E U) (w : Nat) : relU all (procW T C r all E w) (xW T C r U w) := by
  induction w with
  | zero => exact h
  | succ w ih =>
    by_cases c : fitB T C r w = true
    · rw [procW_t c, xW_t c]; exact relU_step ih
    · rw [procW_f c, xW_f c]; exact ih
theorem relU_R {T C : Nat → Nat} {all W : Nat} {E : Nat → Option Nat} {U : Nat → Nat} (h : relU all E U) (r : Nat) : relU all (procR T C W all E r) (xR T C W U r) := by
  induction r with
  | zero => exact h
  | succ r ih => exact relU_W ih W
theorem relU_0 {all : Nat} : relU all E0 (fun _ => 0) := by
  intro i hi
  refine ⟨fun j v hj e => ?_, 0, by omega, rfl⟩
  unfold E0 at e
  split at e
  · cases e; omega
  · cases e
theorem amax_top {E : Nat → Option Nat} (h0 : ∃ v, E 0 = some v) : ∀ n, ∃ u, E (amax E n) = some u ∧ (∀ j v, j ≤ n → E j = some v → v ≤ u) ∧ ∀ j v, j < amax E n → E j = some v → v < u := by
  intro n
  induction n with
  | zero =>
    obtain ⟨v, e⟩ := h0
    refine ⟨v, e, fun j w hj ej => ?_, fun j w hj => absurd hj (by show ¬ j < 0; omega)⟩
    rw [show j = 0 by omega, e] at ej
    cases ej; omega
  | succ n ih =>
    obtain ⟨u, e, h1, h2⟩ := ih
    have ha := amax_le E n
    by_cases c : oLe (E (n + 1)) (E (amax E n)) = true
    · have ea : amax E (n + 1) = amax E n := if_pos c
      rw [ea]
      refine ⟨u, e, fun j v hj ej => ?_, h2⟩
      rcases Nat.lt_or_ge j (n + 1) with d | d
      · exact h1 j v (by omega) ej
      · rw [show n + 1 = j by omega, ej, e] at c
        simpa [oLe] using c
    · have ea : amax E (n + 1) = n + 1 := if_neg c
      rw [ea]
      cases hs : E (n + 1) with
      | none => rw [hs] at c; exact absurd rfl c
      | some z =>
        have hz : u < z := by
          rw [hs, e] at c
          simp [oLe] at c
          omega
        refine ⟨z, rfl, fun j v hj ej => ?_, fun j v hj ej => ?_⟩
        · rcases Nat.lt_or_ge j (n + 1) with d | d
          · have := h1 j v (by omega) ej; omega
          · rw [show j = n + 1 by omega, hs] at ej
            cases ej; omega
        · have := h1 j v (by omega) ej; omega
theorem rel_best {all : Nat} {E : Nat → Option Nat} {U : Nat → Nat} (h : relU all E U) (h0 : ∃ v, E 0 = some v) : E (amax E all) = some (U all) ∧ U (amax E all) = U all ∧ ∀ j, j < amax E all → U j < U all := by
  obtain ⟨u, e, h1, h2⟩ := amax_top h0 all
  have ha := amax_le E all
  obtain ⟨q1, j, hj, q2⟩ := h all (Nat.le_refl _)
  have e1 : u = U all := by
    have := h1 j _ hj q2
    have := q1 _ _ ha e
    omega
  subst e1
  obtain ⟨r1, k, hk, r2⟩ := h (amax E all) ha
  refine ⟨e, ?_, fun i hi => ?_⟩
  · have := r1 _ _ (Nat.le_refl _) e
    have := q1 _ _ (by omega) r2
    omega
  · obtain ⟨s1, l, hl, s2⟩ := h i (by omega)
    exact h2 l _ (by omega) s2
theorem step_0 {E : Nat → Option Nat} {p b all : Nat} (h : ∃ v, E 0 = some v) : ∃ v, stepE p b all E 0 = some v := by
  obtain ⟨v, e⟩ := h
  obtain ⟨w, e1, -⟩ := step_ge (p := p) (b := b) (all := all) e
  exact ⟨w, e1⟩
theorem procW_0 {T C : Nat → Nat} {all r : Nat} {E : Nat → Option Nat} (h : ∃ v, E 0 = some v) (w : Nat) : ∃ v, procW T C r all E w 0 = some v := by
  induction w with
  | zero => exact h
  | succ w ih =>
    by_cases c : fitB T C r w = true
    · rw [procW_t c]; exact step_0 ih
    · rw [procW_f c]; exact ih
theorem procR_0 {T C : Nat → Nat} {all W : Nat} {E : Nat → Option Nat} (h : ∃ v, E 0 = some v) (r : Nat) : ∃ v, procR T C W all E r 0 = some v := by
  induction r with
  | zero => exact h
  | succ r ih => exact procW_0 ih W
section XG
variable {G : Hp} {x : Nat} {v : Nat → Int32} {t : Int64} {b p : Nat} {ip : Nat → Option Nat} {r : Nat → Nat → Int32} {N R W P : Nat} {T C φ : Nat → Nat}
theorem x_atL {U : Nat → Nat} {pt bb : Nat} (hU : leU U) (hb : 0 < bb) (hpb : pt ≤ bb) (hbb : bb ≤ 100000) {α : Type} {K : Hp → Option α} : ∀ (n c : Nat) (f : Nat → Int32), c < n → c ≤ 999 → (∀ i, i < 1000 → f i = nI (if c < i then upU pt bb U i else U i)) → ∃ f', fX5_addTwo_L11 N K n (xH G x v t b p ip (ua r 17 f)) (some x) (nI pt) (nI bb) (nI c) = K (xH G x v t b p ip (ua r 17 f')) ∧ ∀ i, i < 1000 → f' i = nI (upU pt bb U i) := by
  intro n
  induction n with
  | zero => intro c f h; omega
  | succ n ih =>
    intro c f hn hc hf
    rw [fX5_addTwo_L11]
    by_cases c1 : c < bb
    · refine ⟨f, if_pos (nI_lt c1 (by omega)), fun i hi => ?_⟩
      rw [hf i hi]
      by_cases c2 : c < i
      · rw [if_pos c2]
      · rw [if_neg c2]
        unfold upU
        rw [if_neg (by omega)]
    · obtain ⟨c', rfl⟩ : ∃ c', c = c' + 1 := ⟨c - 1, by omega⟩
      have e1 : f (c' + 1) = nI (U (c' + 1)) := by rw [hf _ (by omega), if_neg (by omega)]
      have e2 : f (c' + 1 - bb) = nI (U (c' + 1 - bb)) := by rw [hf _ (by omega), if_neg (by omega)]
      have h1 := hU (c' + 1)
      have h2 := hU (c' + 1 - bb)
      rw [if_neg (nI_nlt (by omega) (by omega)), pk_sub (show bb ≤ c' + 1 by omega)]
      simp (disch := omega) only [xh_O5, xh_O4, xh_O3, xh_O8, xh_g5_0, xh_g5_1, xh_g5_2, xh_g5_3, xh_g5_4, xh_g5_5, xh_g5_7, xh_g5_8, xh_g5_9, xh_g5_10, xh_g5_6, xh_g8_0, xh_g8_1, xh_g4_0, xh_g4_1, xh_g4_2, xh_g4_3, xh_g4_4, xh_g4_5, xh_g3_0, xh_g3_1, xh_g3_2, xh_p5_2, xh_p5_3, xh_p8_1, xh_p5_6, xh_p5_10, xh_p4_1, xh_p4_2, xh_p4_3, xh_p4_4, xh_p4_5, xh_p3_2, xh_rd2, xh_wr2, xh_rd4, xh_wr4, xh_rd5, xh_wr5, xh_rd15, xh_wr15, xh_len15, xh_rd16, xh_wr16, xh_len16, xh_rd17, xh_wr17, xh_len17, xh_rdA, xh_rdP, xh_wrA, xh_wrP, Option.bind_some, Option.bind_none, ↓reduceIte, if_true, if_false, ua_s, ua_ua, e1, e2, nI_add, jmax_nI, nI_m1]
      refine ih c' _ (by omega) (by omega) (fun i hi => ?_)
      by_cases c2 : i = c' + 1
      · subst c2
        rw [pk_us, if_pos (by omega)]
        unfold upU
        rw [if_pos (by omega)]
      · rw [pk_un c2, hf i hi]
        by_cases c3 : c' + 1 < i
        · rw [if_pos c3, if_pos (by omega)]
        · rw [if_neg c3, if_neg (by omega)]
theorem x_addTwo {U : Nat → Nat} {pt bb : Nat} {f : Nat → Int32} (hN : 2000 ≤ N) (hU : leU U) (hb : 0 < bb) (hpb : pt ≤ bb) (hbb : bb ≤ 100000) (hf : ∀ i, i < 1000 → f i = nI (U i)) : ∃ f', fX5_addTwo N (xH G x v t b p ip (ua r 17 f)) (some x) (nI bb) (nI pt) = some (xH G x v t b p ip (ua r 17 f')) ∧ ∀ i, i < 1000 → f' i = nI (upU pt bb U i) := by
  have e : jmax (nI bb) 0 = nI bb := by rw [i_0, jmax_nI (by omega) (by omega), Nat.max_eq_left (by omega)]
  simp only [fX5_addTwo, e, i_999]
  refine x_atL hU hb hpb hbb N 999 f (by omega) (by omega) (fun i hi => ?_)
  rw [if_neg (by omega)]
  exact hf i hi
theorem x_nmW (hN : 2000 ≤ N) (B : okB R W P T C) (X : BXX x G b R W P T C) {q : Nat} {U : Nat → Nat} (hq : q < R) (hU : leU U) {α : Type} {K : Hp → Option Nat → Int32 → Option α} : ∀ (n d w : Nat) (f : Nat → Int32), w + d = W → d < n → (∀ i, i < 1000 → f i = nI (xW T C q U w i)) → ∃ f', fX5_noteMostPetals_L23 N K n (xH G x v t b p ip (ua r 17 f)) (some x) (nI q) (nI w) = K (xH G x v t b p ip (ua r 17 f')) (some x) (nI q) ∧ ∀ i, i < 1000 → f' i = nI (xW T C q U W i) := by
  have hR := B.1
  have hW := B.2.1
  have hT := B.2.2.2.1 q hq
  intro n
  induction n with
  | zero => intro d w f _ h; omega
  | succ n ih =>
    intro d w f hw hd hf
    have X' := X.at (xh_dy (G := G) (x := x) (v := v) (t := t) (b := b) (p := p) (ip := ip) (r := ua r 17 f))
    have e4 : gI (xH G x v t b p ip (ua r 17 f)) (some b) 0 4 = some (nI W) := gI_eq X'.1 rfl
    rw [fX5_noteMostPetals_L23]
    simp only [xh_O5, xh_O4, xh_O3, xh_O8, xh_g5_0, xh_g5_1, xh_g5_2, xh_g5_3, xh_g5_4, xh_g5_5, xh_g5_7, xh_g5_8, xh_g5_9, xh_g5_10, xh_g5_6, xh_g8_0, xh_g8_1, xh_g4_0, xh_g4_1, xh_g4_2, xh_g4_3, xh_g4_4, xh_g4_5, xh_g3_0, xh_g3_1, xh_g3_2, xh_p5_2, xh_p5_3, xh_p8_1, xh_p5_6, xh_p5_10, xh_p4_1, xh_p4_2, xh_p4_3, xh_p4_4, xh_p4_5, xh_p3_2, xh_rd2, xh_wr2, xh_rd4, xh_wr4, xh_rd5, xh_wr5, xh_rd15, xh_wr15, xh_len15, xh_rd16, xh_wr16, xh_len16, xh_rd17, xh_wr17, xh_len17, xh_rdA, xh_rdP, xh_wrA, xh_wrP, Option.bind_some, Option.bind_none, ↓reduceIte, if_true, if_false, e4]
    cases d with
    | zero =>
      refine ⟨f, ?_, by rw [← show w = W by omega]; exact hf⟩
      rw [if_pos (nI_le (by omega) (by omega))]
    | succ d =>
      have hw' : w < W := by omega
      have hC := B.2.2.2.2 w hw'
      have hpl := pet_long (T := T q) (C := C w) (by omega) (by omega)
      have hlb : T q * (C w / Nat.gcd (T q) (C w)) ≤ 120 * 99 := Nat.mul_le_mul (by omega) (Nat.le_trans (Nat.div_le_self _ _) (by omega))
      have hle := xW_le (T := T) (C := C) (r := q) (W := W) hU (by omega) (fun w hw => by have := B.2.2.2.2 w hw; omega) w (by omega)
      obtain ⟨f1, e1, hf1⟩ := x_addTwo (G := G) (x := x) (v := v) (t := t) (b := b) (p := p) (ip := ip) (r := r) (N := N) (f := f) hN hle hpl.1 hpl.2 (by omega) hf
      rw [if_neg (nI_ge (by omega) (by omega))]
      simp (disch := omega) only [isO_eq X'.1, xh_O5, xh_O4, xh_O3, xh_O8, xh_g5_0, xh_g5_1, xh_g5_2, xh_g5_3, xh_g5_4, xh_g5_5, xh_g5_7, xh_g5_8, xh_g5_9, xh_g5_10, xh_g5_6, xh_g8_0, xh_g8_1, xh_g4_0, xh_g4_1, xh_g4_2, xh_g4_3, xh_g4_4, xh_g4_5, xh_g3_0, xh_g3_1, xh_g3_2, xh_p5_2, xh_p5_3, xh_p8_1, xh_p5_6, xh_p5_10, xh_p4_1, xh_p4_2, xh_p4_3, xh_p4_4, xh_p4_5, xh_p3_2, xh_rd2, xh_wr2, xh_rd4, xh_wr4, xh_rd5, xh_wr5, xh_rd15, xh_wr15, xh_len15, xh_rd16, xh_wr16, xh_len16, xh_rd17, xh_wr17, xh_len17, xh_rdA, xh_rdP, xh_wrA, xh_wrP, Option.bind_some, Option.bind_none, ↓reduceIte, if_true, if_false, x_fits X' B hq hw', x_longOf hN X' B hq hw', x_petalsOf hN X' B hq hw', e1, nI_1]
      by_cases c : C w < T q
      · have c1 : fitB T C q w = true := by simpa [fitB] using c
        rw [if_pos c, if_neg (by decide)]
        refine ih d (w + 1) f1 (by omega) (by omega) (fun i hi => ?_)
        rw [hf1 i hi, xW_t c1]
      · have c1 : fitB T C q w = false := by simpa [fitB] using c
        rw [if_neg c, if_pos rfl]
        refine ih d (w + 1) f (by omega) (by omega) (fun i hi => ?_)
        rw [hf i hi, xW_f (by simp [c1])]
theorem x_nmR (hN : 2000 ≤ N) (B : okB R W P T C) (X : BXX x G b R W P T C) {α : Type} {K : Hp → Option Nat → Option α} : ∀ (n d q : Nat) (f : Nat → Int32), q + d = R → d < n → (∀ i, i < 1000 → f i = nI (xR T C W (fun _ => 0) q i)) → ∃ f', fX5_noteMostPetals_L10 N K n (xH G x v t b p ip (ua r 17 f)) (some x) (nI q) = K (xH G x v t b p ip (ua r 17 f')) (some x) ∧ ∀ i, i < 1000 → f' i = nI (xR T C W (fun _ => 0) R i) := by
  have hR := B.1
  have hW := B.2.1
  intro n
  induction n with
  | zero => intro d q f _ h; omega
  | succ n ih =>
    intro d q f hq hd hf
    have X' := X.at (xh_dy (G := G) (x := x) (v := v) (t := t) (b := b) (p := p) (ip := ip) (r := ua r 17 f))
    have e3 : gI (xH G x v t b p ip (ua r 17 f)) (some b) 0 3 = some (nI R) := gI_eq X'.1 rfl
    rw [fX5_noteMostPetals_L10]
    simp only [xh_O5, xh_O4, xh_O3, xh_O8, xh_g5_0, xh_g5_1, xh_g5_2, xh_g5_3, xh_g5_4, xh_g5_5, xh_g5_7, xh_g5_8, xh_g5_9, xh_g5_10, xh_g5_6, xh_g8_0, xh_g8_1, xh_g4_0, xh_g4_1, xh_g4_2, xh_g4_3, xh_g4_4, xh_g4_5, xh_g3_0, xh_g3_1, xh_g3_2, xh_p5_2, xh_p5_3, xh_p8_1, xh_p5_6, xh_p5_10, xh_p4_1, xh_p4_2, xh_p4_3, xh_p4_4, xh_p4_5, xh_p3_2, xh_rd2, xh_wr2, xh_rd4, xh_wr4, xh_rd5, xh_wr5, xh_rd15, xh_wr15, xh_len15, xh_rd16, xh_wr16, xh_len16, xh_rd17, xh_wr17, xh_len17, xh_rdA, xh_rdP, xh_wrA, xh_wrP, Option.bind_some, Option.bind_none, ↓reduceIte, if_true, if_false, e3]
    cases d with
    | zero =>
      refine ⟨f, ?_, by rw [← show q = R by omega]; exact hf⟩
      rw [if_pos (nI_le (by omega) (by omega))]
    | succ d =>
      have hle := xR_le (T := T) (C := C) (W := W) (R := R) (U := fun _ => 0) (fun i => Nat.zero_le i) (fun i hi => by have := B.2.2.2.1 i hi; omega) (fun w hw => by have := B.2.2.2.2 w hw; omega) q (by omega)
      rw [if_neg (nI_ge (by omega) (by omega))]
      obtain ⟨f1, e1, hf1⟩ := x_nmW (G := G) (x := x) (v := v) (t := t) (b := b) (p := p) (ip := ip) (r := r) (N := N) hN B X (q := q) (by omega) hle (K := fun h l0 l1 => fX5_noteMostPetals_L10 N K n h l0 (l1 + 1)) N W 0 f (by omega) (by omega) hf
      obtain ⟨f2, e2, hf2⟩ := ih d (q + 1) f1 (by omega) (by omega) hf1
      refine ⟨f2, ?_, hf2⟩
      refine e1.trans ?_
      rw [nI_1]
      exact e2
theorem x_noteMost (hN : 2000 ≤ N) (B : okB R W P T C) (X : BXX x G b R W P T C) : ∃ f', fX5_noteMostPetals N (xH G x v t b p ip r) (some x) = some (xH G x (upd v 1 1) t b p ip (ua r 17 f')) ∧ ∀ i, i < 1000 → f' i = nI (xR T C W (fun _ => 0) R i) := by
  have hR := B.1
  obtain ⟨u, e1, h1⟩ := x_fill17 (G := G) (x := x) (v := v) (t := t) (b := b) (p := p) (ip := ip) (r := r) hN (z := 0)
  obtain ⟨f1, e2, h2⟩ := x_nmR (G := G) (x := x) (v := v) (t := t) (b := b) (p := p) (ip := ip) (r := r) (N := N) hN B X (K := fun h l0 => (pV h l0 5 10 (.int (1 : Int32))).bind fun h82 => some h82) N R 0 u (by omega) (by omega) h1
  refine ⟨f1, ?_, h2⟩
  simp only [fX5_noteMostPetals, xh_O5, xh_O4, xh_O3, xh_O8, xh_g5_0, xh_g5_1, xh_g5_2, xh_g5_3, xh_g5_4, xh_g5_5, xh_g5_7, xh_g5_8, xh_g5_9, xh_g5_10, xh_g5_6, xh_g8_0, xh_g8_1, xh_g4_0, xh_g4_1, xh_g4_2, xh_g4_3, xh_g4_4, xh_g4_5, xh_g3_0, xh_g3_1, xh_g3_2, xh_p5_2, xh_p5_3, xh_p8_1, xh_p5_6, xh_p5_10, xh_p4_1, xh_p4_2, xh_p4_3, xh_p4_4, xh_p4_5, xh_p3_2, xh_rd2, xh_wr2, xh_rd4, xh_wr4, xh_rd5, xh_wr5, xh_rd15, xh_wr15, xh_len15, xh_rd16, xh_wr16, xh_len16, xh_rd17, xh_wr17, xh_len17, xh_rdA, xh_rdP, xh_wrA, xh_wrP, Option.bind_some, Option.bind_none, ↓reduceIte, if_true, if_false, e1]
  refine e2.trans ?_
  simp only [xh_O5, xh_O4, xh_O3, xh_O8, xh_g5_0, xh_g5_1, xh_g5_2, xh_g5_3, xh_g5_4, xh_g5_5, xh_g5_7, xh_g5_8, xh_g5_9, xh_g5_10, xh_g5_6, xh_g8_0, xh_g8_1, xh_g4_0, xh_g4_1, xh_g4_2, xh_g4_3, xh_g4_4, xh_g4_5, xh_g3_0, xh_g3_1, xh_g3_2, xh_p5_2, xh_p5_3, xh_p8_1, xh_p5_6, xh_p5_10, xh_p4_1, xh_p4_2, xh_p4_3, xh_p4_4, xh_p4_5, xh_p3_2, xh_rd2, xh_wr2, xh_rd4, xh_wr4, xh_rd5, xh_wr5, xh_rd15, xh_wr15, xh_len15, xh_rd16, xh_wr16, xh_len16, xh_rd17, xh_wr17, xh_len17, xh_rdA, xh_rdP, xh_wrA, xh_wrP, Option.bind_some, Option.bind_none, ↓reduceIte, if_true, if_false]
theorem x_bsL {U : Nat → Nat} {all k : Nat} (ha : all ≤ 999) (hU : leU U) (h17 : ∀ i, i < 1000 → r 17 i = nI (U i)) (hk : k ≤ all) (hk1 : U k = U all) (hk2 : ∀ j, j < k → U j < U all) {α : Type} {K : Hp → Int32 → Option α} : ∀ (n d j : Nat), j + d = k → d < n → fX5_best_L70 N K n (xH G x v t b p ip r) (some x) (nI all) (nI (U all)) (nI j) = K (xH G x v t b p ip r) (nI k) := by
  have hA := hU all
  intro n
  induction n with
  | zero => intro d j _ h; omega
  | succ n ih =>
    intro d j hj hd
    have hj' := hU j
    rw [fX5_best_L70]
    simp (disch := omega) only [xh_O5, xh_O4, xh_O3, xh_O8, xh_g5_0, xh_g5_1, xh_g5_2, xh_g5_3, xh_g5_4, xh_g5_5, xh_g5_7, xh_g5_8, xh_g5_9, xh_g5_10, xh_g5_6, xh_g8_0, xh_g8_1, xh_g4_0, xh_g4_1, xh_g4_2, xh_g4_3, xh_g4_4, xh_g4_5, xh_g3_0, xh_g3_1, xh_g3_2, xh_p5_2, xh_p5_3, xh_p8_1, xh_p5_6, xh_p5_10, xh_p4_1, xh_p4_2, xh_p4_3, xh_p4_4, xh_p4_5, xh_p3_2, xh_rd2, xh_wr2, xh_rd4, xh_wr4, xh_rd5, xh_wr5, xh_rd15, xh_wr15, xh_len15, xh_rd16, xh_wr16, xh_len16, xh_rd17, xh_wr17, xh_len17, xh_rdA, xh_rdP, xh_wrA, xh_wrP, Option.bind_some, Option.bind_none, ↓reduceIte, if_true, if_false, h17]
    cases d with
    | zero =>
      have : j = k := by omega
      subst this
      by_cases c : all ≤ j
      · rw [if_pos (nI_le c (by omega))]
      · rw [if_neg (nI_ge (by omega) (by omega)), if_pos (nI_le (by omega) (by omega))]
    | succ d =>
      have := hk2 j (by omega)
      rw [if_neg (nI_ge (by omega) (by omega)), if_neg (nI_ge (by omega) (by omega)), nI_1]
      exact ih d (j + 1) (by omega) (by omega)
theorem x_best33 (hN : 2000 ≤ N) (B : okB R W P T C) (O : okN R W P T C φ) (Q : PP x G P T C p φ) {pn q : Nat} (hp : pn < P) (hq : q < 2) (h17 : ∀ i, i < 1000 → r 17 i = nI (xR T C W (fun _ => 0) R i)) : fX5_best_j33 N (xH G x v t b p ip r) (some x) (nI pn) (nI q) = some (if q = 0 then eI (procR T C W (φ (2 + pn)) E0 R (amax (procR T C W (φ (2 + pn)) E0 R) (φ (2 + pn)))) else nI (amax (procR T C W (φ (2 + pn)) E0 R) (φ (2 + pn))), xH G x v t b p ip r) := by
  have ha := O.2.2.1 pn hp
  obtain ⟨q1, -⟩ := pp_read (E := xH G x v t b p ip r) Q xh_dy
  have e1 := x_inkOf (N := N) (E := xH G x v t b p ip r) B O Q xh_dy hp
  have hle := xR_le (T := T) (C := C) (W := W) (R := R) (U := fun _ => 0) (fun i => Nat.zero_le i) (fun i hi => by have := B.2.2.2.1 i hi; omega) (fun w hw => by have := B.2.2.2.2 w hw; omega) R (Nat.le_refl _)
  obtain ⟨b1, b2, b3⟩ := rel_best (relU_R (T := T) (C := C) (all := φ (2 + pn)) (W := W) relU_0 R) (procR_0 (E := E0) ⟨0, rfl⟩ R)
  have hk := amax_le (procR T C W (φ (2 + pn)) E0 R) (φ (2 + pn))
  have ej : jmin (jmax (nI (φ (2 + pn))) 0) 999 = nI (φ (2 + pn)) := by
    rw [i_0, jmax_nI (by omega) (by omega), Nat.max_eq_left (by omega), i_999, jmin_nI (by omega) (by omega), Nat.min_eq_left (by omega)]
  have hm := hle (φ (2 + pn))
  have e2 := x_bsL (G := G) (x := x) (v := v) (t := t) (b := b) (p := p) (ip := ip) (r := r) (N := N) ha hle h17 hk b2 b3 (K := fun h l5 => some (l5, h)) N (amax (procR T C W (φ (2 + pn)) E0 R) (φ (2 + pn))) 0 (by omega) (by omega)
  simp (disch := omega) only [fX5_best_j33, xh_O5, xh_O4, xh_O3, xh_O8, xh_g5_0, xh_g5_1, xh_g5_2, xh_g5_3, xh_g5_4, xh_g5_5, xh_g5_7, xh_g5_8, xh_g5_9, xh_g5_10, xh_g5_6, xh_g8_0, xh_g8_1, xh_g4_0, xh_g4_1, xh_g4_2, xh_g4_3, xh_g4_4, xh_g4_5, xh_g3_0, xh_g3_1, xh_g3_2, xh_p5_2, xh_p5_3, xh_p8_1, xh_p5_6, xh_p5_10, xh_p4_1, xh_p4_2, xh_p4_3, xh_p4_4, xh_p4_5, xh_p3_2, xh_rd2, xh_wr2, xh_rd4, xh_wr4, xh_rd5, xh_wr5, xh_rd15, xh_wr15, xh_len15, xh_rd16, xh_wr16, xh_len16, xh_rd17, xh_wr17, xh_len17, xh_rdA, xh_rdP, xh_wrA, xh_wrP, Option.bind_some, Option.bind_none, ↓reduceIte, if_true, if_false, q1, e1, ej, h17]
  rw [b1]
  by_cases c : q = 0
  · rw [if_pos (by rw [c]; rfl), if_pos c]
    rfl
  · rw [if_neg (by rw [i_0, nI_eq (by omega) (by omega)]; exact c), if_neg c]
    exact e2
theorem x_best (hN : 2000 ≤ N) (B : okB R W P T C) (X : BXX x G b R W P T C) (O : okN R W P T C φ) (Q : PP x G P T C p φ) {pn q : Nat} (hp : pn < P) (hq : q < 2) (hc : v 1 = 0 ∨ ∀ i, i < 1000 → r 17 i = nI (xR T C W (fun _ => 0) R i)) : ∃ v' f', fX5_best N (xH G x v t b p ip r) (some x) (nI pn) (nI q) = some (if q = 0 then eI (procR T C W (φ (2 + pn)) E0 R (amax (procR T C W (φ (2 + pn)) E0 R) (φ (2 + pn)))) else nI (amax (procR T C W (φ (2 + pn)) E0 R) (φ (2 + pn))), xH G x v' t b p ip (ua r 17 f')) ∧ (∀ i, i ≠ 1 → v' i = v i) ∧ ∀ i, i < 1000 → f' i = nI (xR T C W (fun _ => 0) R i) := by
  have X' := X.at (xh_dy (G := G) (x := x) (v := v) (t := t) (b := b) (p := p) (ip := ip) (r := r))
  have w2 : fX5_within N (xH G x v t b p ip r) (nI q) 0 1 = some 1 := x_in_y (by rw [i_0]; exact nI_le (by omega) (by omega)) (by rw [i_1]; exact nI_le (by omega) (by omega))
  simp only [fX5_best, xh_O5, xh_O4, xh_O3, xh_O8, xh_g5_0, xh_g5_1, xh_g5_2, xh_g5_3, xh_g5_4, xh_g5_5, xh_g5_7, xh_g5_8, xh_g5_9, xh_g5_10, xh_g5_6, xh_g8_0, xh_g8_1, xh_g4_0, xh_g4_1, xh_g4_2, xh_g4_3, xh_g4_4, xh_g4_5, xh_g3_0, xh_g3_1, xh_g3_2, xh_p5_2, xh_p5_3, xh_p8_1, xh_p5_6, xh_p5_10, xh_p4_1, xh_p4_2, xh_p4_3, xh_p4_4, xh_p4_5, xh_p3_2, xh_rd2, xh_wr2, xh_rd4, xh_wr4, xh_rd5, xh_wr5, xh_rd15, xh_wr15, xh_len15, xh_rd16, xh_wr16, xh_len16, xh_rd17, xh_wr17, xh_len17, xh_rdA, xh_rdP, xh_wrA, xh_wrP, Option.bind_some, Option.bind_none, ↓reduceIte, if_true, if_false, isO_eq X'.1, x_hasPen_y X' B hp, w2]
  rw [if_neg (by decide), if_neg (by decide)]
  by_cases c : v 1 = 0
  · obtain ⟨f1, e1, h1⟩ := x_noteMost (G := G) (x := x) (v := v) (t := t) (b := b) (p := p) (ip := ip) (r := r) (N := N) hN B X
    have e2 := x_best33 (G := G) (x := x) (v := upd v 1 1) (t := t) (b := b) (p := p) (ip := ip) (r := ua r 17 f1) (N := N) hN B O Q hp hq (by rw [ua_s]; exact h1)
    refine ⟨upd v 1 1, f1, ?_, fun i hi => pk_un hi, h1⟩
    rw [if_pos c]
    simp only [e1, Option.bind_some, Option.bind_none, ↓reduceIte, if_true, if_false]
    exact e2
  · have h1 : ∀ i, i < 1000 → r 17 i = nI (xR T C W (fun _ => 0) R i) := hc.resolve_left c
    have e2 := x_best33 (G := G) (x := x) (v := v) (t := t) (b := b) (p := p) (ip := ip) (r := r) (N := N) hN B O Q hp hq h1
    refine ⟨v, r 17, ?_, fun i hi => rfl, h1⟩
    rw [if_neg c, ua_id]
    exact e2
end XG
