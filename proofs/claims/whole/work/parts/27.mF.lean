def eI (x : Option Nat) : Int32 := match x with
  | none => -1
  | some v => nI v
def oLe (x y : Option Nat) : Bool := match x, y with
  | none, _ => true
  | some _, none => false
  | some u, some v => decide (u ≤ v)
theorem m1_lt {n : Nat} (h : n < 2 ^ 31) : (-1 : Int32) < nI n := by
  rw [Int32.lt_iff_toInt_lt, nI_toInt h]
  have : (-1 : Int32).toInt = -1 := by decide
  omega
theorem eI_le {x y : Option Nat} (hx : ∀ v, x = some v → v < 2 ^ 31) (hy : ∀ v, y = some v → v < 2 ^ 31) : eI x ≤ eI y ↔ oLe x y = true := by
  cases x with
  | none =>
    cases y with
    | none => exact ⟨fun _ => rfl, fun _ => Int32.le_refl _⟩
    | some v => exact ⟨fun _ => rfl, fun _ => Int32.le_of_lt (m1_lt (hy v rfl))⟩
  | some u =>
    cases y with
    | none =>
      refine ⟨fun z => ?_, fun z => by cases z⟩
      exact absurd (m1_lt (hx u rfl)) (Int32.not_lt.mpr z)
    | some v =>
      show nI u ≤ nI v ↔ decide (u ≤ v) = true
      rw [nI_leI (hx u rfl) (hy v rfl), decide_eq_true_eq]
def joinE (E : Nat → Option Nat) (p b i : Nat) : Option Nat := match E (i - b) with
  | none => E i
  | some v => if oLe (some (v + p)) (E i) = true then E i else some (v + p)
def stepE (p b all : Nat) (E : Nat → Option Nat) (i : Nat) : Option Nat := if b ≤ i ∧ i ≤ all then joinE E p b i else E i
def leE (E : Nat → Option Nat) : Prop := ∀ i v, E i = some v → v ≤ i
theorem joinE_le {E : Nat → Option Nat} {p b i : Nat} (h : leE E) (hp : p ≤ b) (hb : b ≤ i) : ∀ v, joinE E p b i = some v → v ≤ i := by
  intro v e
  unfold joinE at e
  cases h1 : E (i - b) with
  | none => rw [h1] at e; exact h i v e
  | some u =>
    have := h (i - b) u h1
    rw [h1] at e
    dsimp only at e
    split at e
    · exact h i v e
    · cases e; omega
theorem stepE_le {E : Nat → Option Nat} {p b all : Nat} (h : leE E) (hp : p ≤ b) : leE (stepE p b all E) := by
  intro i v e
  unfold stepE at e
  split at e
  · rename_i hc; exact joinE_le h hp hc.1 v e
  · exact h i v e
/-- all twos of one ring, of w wheels -/
def procW (T C : Nat → Nat) (r all : Nat) (E : Nat → Option Nat) : Nat → Nat → Option Nat
  | 0 => E
  | w + 1 => if fitB T C r w = true then stepE (T r / Nat.gcd (T r) (C w)) (T r * (C w / Nat.gcd (T r) (C w))) all (procW T C r all E w) else procW T C r all E w
theorem procW_t {T C : Nat → Nat} {r all w : Nat} {E : Nat → Option Nat} (h : fitB T C r w = true) : procW T C r all E (w + 1) = stepE (T r / Nat.gcd (T r) (C w)) (T r * (C w / Nat.gcd (T r) (C w))) all (procW T C r all E w) := if_pos h
theorem procW_f {T C : Nat → Nat} {r all w : Nat} {E : Nat → Option Nat} (h : ¬ fitB T C r w = true) : procW T C r all E (w + 1) = procW T C r all E w := if_neg h
def procR (T C : Nat → Nat) (W all : Nat) (E : Nat → Option Nat) : Nat → Nat → Option Nat
  | 0 => E
  | r + 1 => procW T C r all (procR T C W all E r) W
def amax (E : Nat → Option Nat) : Nat → Nat
  | 0 => 0
  | n + 1 => if oLe (E (n + 1)) (E (amax E n)) = true then amax E n else n + 1
theorem amax_le (E : Nat → Option Nat) (n : Nat) : amax E n ≤ n := by
  induction n with
  | zero => exact Nat.le_refl _
  | succ n ih => unfold amax; split <;> omega
theorem pet_long {T C : Nat} (hT : 0 < T) (hC : 0 < C) : 0 < T * (C / Nat.gcd T C) ∧ T / Nat.gcd T C ≤ T * (C / Nat.gcd T C) := by
  have hg := gcd_in (x := T) (y := C) hT
  have h1 : 0 < C / Nat.gcd T C := Nat.div_pos (Nat.le_of_dvd hC (Nat.gcd_dvd_right T C)) hg.1
  have h2 : T * 1 ≤ T * (C / Nat.gcd T C) := Nat.mul_le_mul (Nat.le_refl _) h1
  have h3 : T / Nat.gcd T C ≤ T := Nat.div_le_self _ _
  omega
def E0 : Nat → Option Nat := fun i => if i = 0 then some 0 else none
theorem E0_le : leE E0 := by
  intro i v e
  unfold E0 at e
  split at e
  · cases e; omega
  · cases e
theorem procW_le {T C : Nat → Nat} {r all W : Nat} {E : Nat → Option Nat} (h : leE E) (hT : 0 < T r) (hC : ∀ w, w < W → 0 < C w) : ∀ w, w ≤ W → leE (procW T C r all E w) := by
  intro w
  induction w with
  | zero => exact fun _ => h
  | succ w ih =>
    intro hw
    unfold procW
    split
    · exact stepE_le (ih (by omega)) (pet_long hT (hC w (by omega))).2
    · exact ih (by omega)
theorem procR_le {T C : Nat → Nat} {all W R : Nat} {E : Nat → Option Nat} (h : leE E) (hT : ∀ r, r < R → 0 < T r) (hC : ∀ w, w < W → 0 < C w) : ∀ r, r ≤ R → leE (procR T C W all E r) := by
  intro r
  induction r with
  | zero => exact fun _ => h
  | succ r ih => exact fun hr => procW_le (ih (by omega)) (hT r (by omega)) hC W (Nat.le_refl _)
section MF
variable {g : Hp} {m : Nat} {s : Nat → Int32} {t : Int64} {a : Nat → Nat → Int32} {N R W P : Nat} {T C φ : Nat → Nat}
theorem m_c2L {E : Nat → Option Nat} {p b all : Nat} (hE : leE E) (hb : 0 < b) (hpb : p ≤ b) (hbb : b ≤ 100000) (ha : all ≤ 999) {α : Type} {K : Hp → Option α} : ∀ (n c : Nat) (f : Nat → Int32), c < n → c ≤ all → (∀ i, i < 1000 → f i = eI (if c < i then stepE p b all E i else E i)) → ∃ f', fX6_comesTwo_L3 N K n (mH g m s t (ua a 14 f)) (some m) (nI p) (nI b) (nI c) = K (mH g m s t (ua a 14 f')) ∧ ∀ i, i < 1000 → f' i = eI (stepE p b all E i) := by
  intro n
  induction n with
  | zero => intro c f h; omega
  | succ n ih =>
    intro c f hc hca hf
    rw [fX6_comesTwo_L3]
    by_cases c1 : c < b
    · refine ⟨f, if_pos (nI_lt c1 (by omega)), fun i hi => ?_⟩
      rw [hf i hi]
      by_cases c2 : c < i
      · rw [if_pos c2]
      · rw [if_neg c2]
        unfold stepE
        rw [if_neg (by omega)]
    · have hcb : b ≤ c := by omega
      obtain ⟨c', rfl⟩ : ∃ c', c = c' + 1 := ⟨c - 1, by omega⟩
      rw [if_neg (nI_nlt (by omega) (by omega)), pk_sub hcb]
      have e1 : f (c' + 1 - b) = eI (E (c' + 1 - b)) := by rw [hf _ (by omega), if_neg (by omega)]
      have e2 : f (c' + 1) = eI (E (c' + 1)) := by rw [hf _ (by omega), if_neg (by omega)]
      simp (disch := omega) only [mh_O, mh_gJ, mh_pJ, mh_gI0, mh_gI1, mh_gI2, mh_gI5, mh_gI6, mh_gI9, mh_gI14, mh_gI15, mh_gI16, mh_gI17, mh_gI18, mh_gI19, mh_gI24, mh_pI0, mh_pI1, mh_pI2, mh_pI5, mh_pI6, mh_pI9, mh_pI14, mh_pI15, mh_pI16, mh_pI17, mh_pI18, mh_pI19, mh_pI24, mh_gA3, mh_gA4, mh_gA7, mh_gA8, mh_gA10, mh_gA11, mh_gA13, mh_gA20, mh_gA21, mh_gA22, mh_gA23, mh_gA25, mh_gA26, mh_gA27, mh_gA28, mh_gA29, mh_rd1, mh_rd2, mh_rd3, mh_rd4, mh_rd5, mh_rd6, mh_rd7, mh_rd8, mh_rd9, mh_rd10, mh_rd11, mh_rd12, mh_rd13, mh_rd14, mh_rd15, mh_rd16, mh_wr1, mh_wr2, mh_wr3, mh_wr4, mh_wr5, mh_wr6, mh_wr7, mh_wr8, mh_wr9, mh_wr10, mh_wr11, mh_wr12, mh_wr13, mh_wr14, mh_wr15, mh_wr16, Option.bind_some, Option.bind_none, ↓reduceIte, if_true, if_false, ua_s, ua_ua, e1, e2, pk_m1]
      have es : stepE p b all E (c' + 1) = joinE E p b (c' + 1) := if_pos ⟨hcb, hca⟩
      have hk : ∀ v, E (c' + 1) = some v → v < 2 ^ 31 := fun v hv => by have := hE _ v hv; omega
      cases h1 : E (c' + 1 - b) with
      | none =>
        rw [show eI none = -1 from rfl, if_pos (by decide)]
        refine ih c' f (by omega) (by omega) (fun i hi => ?_)
        rw [hf i hi]
        by_cases c2 : i = c' + 1
        · subst c2
          rw [if_neg (by omega), if_pos (by omega), es]
          unfold joinE
          rw [h1]
        · by_cases c3 : c' + 1 < i
          · rw [if_pos c3, if_pos (by omega)]
          · rw [if_neg c3, if_neg (by omega)]
      | some v =>
        have hv := hE _ v h1
        rw [show eI (some v) = nI v from rfl, if_neg (nI_neg (by omega)), nI_add]
        have hle : nI (v + p) ≤ eI (E (c' + 1)) ↔ oLe (some (v + p)) (E (c' + 1)) = true := eI_le (x := some (v + p)) (y := E (c' + 1)) (fun z hz => by cases hz; omega) hk
        by_cases c2 : oLe (some (v + p)) (E (c' + 1)) = true
        · rw [if_pos (hle.mpr c2)]
          refine ih c' f (by omega) (by omega) (fun i hi => ?_)
          rw [hf i hi]
          by_cases c3 : i = c' + 1
          · subst c3
            rw [if_neg (by omega), if_pos (by omega), es]
            unfold joinE
            rw [h1]
            dsimp only
            rw [if_pos c2]
          · by_cases c4 : c' + 1 < i
            · rw [if_pos c4, if_pos (by omega)]
            · rw [if_neg c4, if_neg (by omega)]
        · rw [if_neg (fun z => c2 (hle.mp z))]
          refine ih c' _ (by omega) (by omega) (fun i hi => ?_)
          by_cases c3 : i = c' + 1
          · subst c3
            rw [pk_us, if_pos (by omega), es]
            unfold joinE
            rw [h1]
            dsimp only
            rw [if_neg c2]
            rfl
          · rw [pk_un c3, hf i hi]
            by_cases c4 : c' + 1 < i
            · rw [if_pos c4, if_pos (by omega)]
            · rw [if_neg c4, if_neg (by omega)]
theorem m_comesTwo {E : Nat → Option Nat} {p b all : Nat} {f : Nat → Int32} (hN : 2000 ≤ N) (hE : leE E) (hb : 0 < b) (hpb : p ≤ b) (hbb : b ≤ 100000) (ha : all ≤ 999) (hf : ∀ i, i < 1000 → f i = eI (E i)) : ∃ f', fX6_comesTwo N (mH g m s t (ua a 14 f)) (some m) (nI p) (nI b) (nI all) = some (mH g m s t (ua a 14 f')) ∧ ∀ i, i < 1000 → f' i = eI (stepE p b all E i) := by
  simp only [fX6_comesTwo]
  refine m_c2L hE hb hpb hbb ha N all f (by omega) (Nat.le_refl _) (fun i hi => ?_)
  rw [hf i hi]
  by_cases c : all < i
  · rw [if_pos c]
    unfold stepE
    rw [if_neg (by omega)]
  · rw [if_neg c]
theorem m_bsW (hN : 2000 ≤ N) (B : okB R W P T C) (H : mB s a R W P T C) {p r all : Nat} {E : Nat → Option Nat} {what : Int32} (hr : r < R) (hp : p < 4) (hE : leE E) (hall : a 3 p = nI all) (ha : all ≤ 999) {α : Type} {K : Hp → Option Nat → Int32 → Int32 → Int32 → Option α} : ∀ (n d w : Nat) (f : Nat → Int32), w + d = W → d < n → (∀ i, i < 1000 → f i = eI (procW T C r all E w i)) → ∃ f', fX6_best_L61 N K n (mH g m s t (ua a 14 f)) (some m) (nI p) what (nI r) (nI w) = K (mH g m s t (ua a 14 f')) (some m) (nI p) what (nI r) ∧ ∀ i, i < 1000 → f' i = eI (procW T C r all E W i) := by
  have hR := B.1
  have hW := B.2.1
  have hT := B.2.2.2.1 r hr
  intro n
  induction n with
  | zero => intro d w f _ h; omega
  | succ n ih =>
    intro d w f hw hd hf
    have H' := mB_ua (k := 14) (f := f) H (by omega)
    rw [fX6_best_L61]
    simp only [mh_O, mh_gJ, mh_pJ, mh_gI0, mh_gI1, mh_gI2, mh_gI5, mh_gI6, mh_gI9, mh_gI14, mh_gI15, mh_gI16, mh_gI17, mh_gI18, mh_gI19, mh_gI24, mh_pI0, mh_pI1, mh_pI2, mh_pI5, mh_pI6, mh_pI9, mh_pI14, mh_pI15, mh_pI16, mh_pI17, mh_pI18, mh_pI19, mh_pI24, mh_gA3, mh_gA4, mh_gA7, mh_gA8, mh_gA10, mh_gA11, mh_gA13, mh_gA20, mh_gA21, mh_gA22, mh_gA23, mh_gA25, mh_gA26, mh_gA27, mh_gA28, mh_gA29, Option.bind_some, Option.bind_none, ↓reduceIte, if_true, if_false, H'.2.1]
    cases d with
    | zero =>
      refine ⟨f, ?_, by rw [← show w = W by omega]; exact hf⟩
      rw [if_pos (nI_le (by omega) (by omega))]
    | succ d =>
      have hw' : w < W := by omega
      have hC := B.2.2.2.2 w hw'
      have hpl := pet_long (T := T r) (C := C w) (by omega) (by omega)
      have hlb : T r * (C w / Nat.gcd (T r) (C w)) ≤ 120 * 99 := Nat.mul_le_mul (by omega) (Nat.le_trans (Nat.div_le_self _ _) (by omega))
      have hle := procW_le (T := T) (C := C) (r := r) (all := all) (W := W) hE (by omega) (fun w hw => by have := B.2.2.2.2 w hw; omega) w (by omega)
      rw [if_neg (nI_ge (by omega) (by omega)), m_fits B H' hr hw']
      simp (disch := omega) only [Option.bind_some, Option.bind_none, ↓reduceIte, if_true, if_false, m_petalsOf hN B H' hr hw', m_longOf hN B H' hr hw', mh_rd3, ua_n, hall]
      by_cases c : C w < T r
      · have c1 : fitB T C r w = true := by simpa [fitB] using c
        obtain ⟨f1, e1, hf1⟩ := m_comesTwo (g := g) (m := m) (s := s) (t := t) (a := a) (N := N) (f := f) hN hle hpl.1 hpl.2 (by omega) ha hf
        rw [if_pos c, if_neg (by decide)]
        simp only [e1, Option.bind_some, Option.bind_none, ↓reduceIte, if_true, if_false, nI_1]
        refine ih d (w + 1) f1 (by omega) (by omega) (fun i hi => ?_)
        rw [hf1 i hi, procW_t c1]
      · have c1 : fitB T C r w = false := by simpa [fitB] using c
        rw [if_neg c, if_pos rfl, nI_1]
        refine ih d (w + 1) f (by omega) (by omega) (fun i hi => ?_)
        rw [hf i hi, procW_f (by simp [c1])]
theorem m_bsR (hN : 2000 ≤ N) (B : okB R W P T C) (H : mB s a R W P T C) {p all : Nat} {what : Int32} (hp : p < 4) (hall : a 3 p = nI all) (ha : all ≤ 999) {α : Type} {K : Hp → Option Nat → Int32 → Int32 → Option α} : ∀ (n d r : Nat) (f : Nat → Int32), r + d = R → d < n → (∀ i, i < 1000 → f i = eI (procR T C W all E0 r i)) → ∃ f', fX6_best_L50 N K n (mH g m s t (ua a 14 f)) (some m) (nI p) what (nI r) = K (mH g m s t (ua a 14 f')) (some m) (nI p) what ∧ ∀ i, i < 1000 → f' i = eI (procR T C W all E0 R i) := by
  have hR := B.1
  have hW := B.2.1
  intro n
  induction n with
  | zero => intro d r f _ h; omega
  | succ n ih =>
    intro d r f hr hd hf
    have H' := mB_ua (k := 14) (f := f) H (by omega)
    rw [fX6_best_L50]
    simp only [mh_O, mh_gJ, mh_pJ, mh_gI0, mh_gI1, mh_gI2, mh_gI5, mh_gI6, mh_gI9, mh_gI14, mh_gI15, mh_gI16, mh_gI17, mh_gI18, mh_gI19, mh_gI24, mh_pI0, mh_pI1, mh_pI2, mh_pI5, mh_pI6, mh_pI9, mh_pI14, mh_pI15, mh_pI16, mh_pI17, mh_pI18, mh_pI19, mh_pI24, mh_gA3, mh_gA4, mh_gA7, mh_gA8, mh_gA10, mh_gA11, mh_gA13, mh_gA20, mh_gA21, mh_gA22, mh_gA23, mh_gA25, mh_gA26, mh_gA27, mh_gA28, mh_gA29, Option.bind_some, Option.bind_none, ↓reduceIte, if_true, if_false, H'.1]
    cases d with
    | zero =>
      refine ⟨f, ?_, by rw [← show r = R by omega]; exact hf⟩
      rw [if_pos (nI_le (by omega) (by omega))]
    | succ d =>
      have hle := procR_le (T := T) (C := C) (all := all) (W := W) (R := R) E0_le (fun r hr => by have := B.2.2.2.1 r hr; omega) (fun w hw => by have := B.2.2.2.2 w hw; omega) r (by omega)
      rw [if_neg (nI_ge (by omega) (by omega))]
      obtain ⟨f1, e1, hf1⟩ := m_bsW (g := g) (m := m) (s := s) (t := t) (a := a) (N := N) (what := what) hN B H (p := p) (r := r) (by omega) hp hle hall ha (K := fun h l0 l1 l2 l3 => fX6_best_L50 N K n h l0 l1 l2 (l3 + 1)) N W 0 f (by omega) (by omega) hf
      obtain ⟨f2, e2, hf2⟩ := ih d (r + 1) f1 (by omega) (by omega) hf1
      refine ⟨f2, ?_, hf2⟩
      refine e1.trans ?_
      simp only [nI_1]
      exact e2
theorem m_bsI {α : Type} {K : Hp → Option Nat → Int32 → Int32 → Option α} {p : Int32} {what : Int32} : ∀ (n d j : Nat) (f : Nat → Int32), 1 ≤ j → j + d = 1000 → d < n → (∀ i, i < j → f i = eI (E0 i)) → ∃ f', fX6_best_L28 N K n (mH g m s t (ua a 14 f)) (some m) p what (nI j) = K (mH g m s t (ua a 14 f')) (some m) p what ∧ ∀ i, i < 1000 → f' i = eI (E0 i) := by
  intro n
  induction n with
  | zero => intro d j f _ _ h; omega
  | succ n ih =>
    intro d j f h1 hj hd hf
    rw [fX6_best_L28]
    cases d with
    | zero =>
      refine ⟨f, ?_, by rw [← show j = 1000 by omega]; exact hf⟩
      rw [i_999, if_pos (nI_lt (by omega) (by omega))]
    | succ d =>
      rw [if_neg (show ¬ (999 : Int32) < nI j from nI_nlt (a := 999) (b := j) (by omega) (by omega))]
      simp (disch := omega) only [mh_O, mh_gJ, mh_pJ, mh_gI0, mh_gI1, mh_gI2, mh_gI5, mh_gI6, mh_gI9, mh_gI14, mh_gI15, mh_gI16, mh_gI17, mh_gI18, mh_gI19, mh_gI24, mh_pI0, mh_pI1, mh_pI2, mh_pI5, mh_pI6, mh_pI9, mh_pI14, mh_pI15, mh_pI16, mh_pI17, mh_pI18, mh_pI19, mh_pI24, mh_gA3, mh_gA4, mh_gA7, mh_gA8, mh_gA10, mh_gA11, mh_gA13, mh_gA20, mh_gA21, mh_gA22, mh_gA23, mh_gA25, mh_gA26, mh_gA27, mh_gA28, mh_gA29, mh_rd1, mh_rd2, mh_rd3, mh_rd4, mh_rd5, mh_rd6, mh_rd7, mh_rd8, mh_rd9, mh_rd10, mh_rd11, mh_rd12, mh_rd13, mh_rd14, mh_rd15, mh_rd16, mh_wr1, mh_wr2, mh_wr3, mh_wr4, mh_wr5, mh_wr6, mh_wr7, mh_wr8, mh_wr9, mh_wr10, mh_wr11, mh_wr12, mh_wr13, mh_wr14, mh_wr15, mh_wr16, Option.bind_some, Option.bind_none, ↓reduceIte, if_true, if_false, ua_s, ua_ua, nI_1]
      refine ih d (j + 1) _ (by omega) (by omega) (by omega) (fun i hi => ?_)
      by_cases c : i = j
      · subst c
        rw [pk_us]
        unfold E0
        rw [if_neg (by omega)]
        rfl
      · rw [pk_un c]
        exact hf i (by omega)
theorem m_bsM {E : Nat → Option Nat} {p all : Nat} {f : Nat → Int32} {what : Int32} (hE : leE E) (hp : p < 4) (hall : a 3 p = nI all) (ha : all ≤ 999) (hf : ∀ i, i < 1000 → f i = eI (E i)) {α : Type} {K : Hp → Option Nat → Int32 → Int32 → Option α} : ∀ (n d j : Nat), j + d = all → d < n → fX6_best_L121 N K n (mH g m s t (ua a 14 f)) (some m) (nI p) what (nI (amax E j)) (nI (j + 1)) = K (mH g m s t (ua a 14 f)) (some m) what (nI (amax E all)) := by
  intro n
  induction n with
  | zero => intro d j _ h; omega
  | succ n ih =>
    intro d j hj hd
    have hm := amax_le E j
    rw [fX6_best_L121]
    simp (disch := omega) only [mh_O, mh_gJ, mh_pJ, mh_gI0, mh_gI1, mh_gI2, mh_gI5, mh_gI6, mh_gI9, mh_gI14, mh_gI15, mh_gI16, mh_gI17, mh_gI18, mh_gI19, mh_gI24, mh_pI0, mh_pI1, mh_pI2, mh_pI5, mh_pI6, mh_pI9, mh_pI14, mh_pI15, mh_pI16, mh_pI17, mh_pI18, mh_pI19, mh_pI24, mh_gA3, mh_gA4, mh_gA7, mh_gA8, mh_gA10, mh_gA11, mh_gA13, mh_gA20, mh_gA21, mh_gA22, mh_gA23, mh_gA25, mh_gA26, mh_gA27, mh_gA28, mh_gA29, mh_rd1, mh_rd2, mh_rd3, mh_rd4, mh_rd5, mh_rd6, mh_rd7, mh_rd8, mh_rd9, mh_rd10, mh_rd11, mh_rd12, mh_rd13, mh_rd14, mh_rd15, mh_rd16, mh_wr1, mh_wr2, mh_wr3, mh_wr4, mh_wr5, mh_wr6, mh_wr7, mh_wr8, mh_wr9, mh_wr10, mh_wr11, mh_wr12, mh_wr13, mh_wr14, mh_wr15, mh_wr16, Option.bind_some, Option.bind_none, ↓reduceIte, if_true, if_false, ua_n, ua_s, hall]
    cases d with
    | zero =>
      rw [if_pos (nI_lt (by omega) (by omega)), show j = all by omega]
    | succ d =>
      rw [if_neg (nI_nlt (by omega) (by omega))]
      simp (disch := omega) only [mh_O, mh_gJ, mh_pJ, mh_gI0, mh_gI1, mh_gI2, mh_gI5, mh_gI6, mh_gI9, mh_gI14, mh_gI15, mh_gI16, mh_gI17, mh_gI18, mh_gI19, mh_gI24, mh_pI0, mh_pI1, mh_pI2, mh_pI5, mh_pI6, mh_pI9, mh_pI14, mh_pI15, mh_pI16, mh_pI17, mh_pI18, mh_pI19, mh_pI24, mh_gA3, mh_gA4, mh_gA7, mh_gA8, mh_gA10, mh_gA11, mh_gA13, mh_gA20, mh_gA21, mh_gA22, mh_gA23, mh_gA25, mh_gA26, mh_gA27, mh_gA28, mh_gA29, mh_rd1, mh_rd2, mh_rd3, mh_rd4, mh_rd5, mh_rd6, mh_rd7, mh_rd8, mh_rd9, mh_rd10, mh_rd11, mh_rd12, mh_rd13, mh_rd14, mh_rd15, mh_rd16, mh_wr1, mh_wr2, mh_wr3, mh_wr4, mh_wr5, mh_wr6, mh_wr7, mh_wr8, mh_wr9, mh_wr10, mh_wr11, mh_wr12, mh_wr13, mh_wr14, mh_wr15, mh_wr16, Option.bind_some, Option.bind_none, ↓reduceIte, if_true, if_false, ua_s, hf (j + 1) (by omega), hf (amax E j) (by omega), nI_1]
      have ih' := ih d (j + 1) (by omega) (by omega)
      have hle := eI_le (x := E (j + 1)) (y := E (amax E j)) (fun v hv => by have := hE _ v hv; omega) (fun v hv => by have := hE _ v hv; omega)
      by_cases c : oLe (E (j + 1)) (E (amax E j)) = true
      · rw [if_pos (hle.mpr c)]
        rw [show amax E (j + 1) = amax E j from if_pos c] at ih'
        exact ih'
      · rw [if_neg (fun z => c (hle.mp z))]
        rw [show amax E (j + 1) = j + 1 from if_neg c] at ih'
        exact ih'
end MF
