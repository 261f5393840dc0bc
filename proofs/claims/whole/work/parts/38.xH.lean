def xS (v : Nat → Int32) (r : Nat → Nat → Int32) (sn : Nat) (tt tp : Nat → Nat) : Prop := v 7 = nI sn ∧ sn ≤ 6 ∧ ∀ i, i < sn → r 4 i = nI (tt i) ∧ tt i < 120 ∧ r 5 i = nI (tp i) ∧ tp i ≤ 1
theorem xS_ua {v : Nat → Int32} {r : Nat → Nat → Int32} {sn : Nat} {tt tp : Nat → Nat} {k : Nat} {f : Nat → Int32} (h : xS v r sn tt tp) (hk : 6 ≤ k) : xS v (ua r k f) sn tt tp := by
  unfold xS
  rw [ua_n (by omega), ua_n (by omega)]
  exact h
theorem cnt_add (p : Nat → Bool) (n k : Nat) : cnt p (n + k) = cnt p n + cnt (fun i => p (n + i)) k := by
  induction k with
  | zero => rfl
  | succ k ih =>
    show cnt p (n + k) + (if p (n + k) = true then 1 else 0) = cnt p n + (cnt (fun i => p (n + i)) k + (if p (n + k) = true then 1 else 0))
    rw [ih]; omega
theorem per_mul {p : Nat → Bool} {g : Nat} (h : ∀ i, p (i + g) = p i) (k i : Nat) : p (g * k + i) = p i := by
  induction k with
  | zero => rw [Nat.mul_zero, Nat.zero_add]
  | succ k ih =>
    rw [Nat.mul_add, Nat.mul_one, show g * k + g + i = g * k + i + g by omega, h, ih]
theorem cnt_per {p : Nat → Bool} {g : Nat} (h : ∀ i, p (i + g) = p i) (k : Nat) : cnt p (g * k) = k * cnt p g := by
  induction k with
  | zero => rw [Nat.mul_zero, Nat.zero_mul]; rfl
  | succ k ih =>
    rw [Nat.mul_add, Nat.mul_one, cnt_add, ih, cnt_congr (q := p) (fun i _ => per_mul h k i), Nat.add_mul, Nat.one_mul]
theorem minK_some {p : Nat → Bool} : ∀ {n k : Nat}, minK p n = some k → k < n ∧ p k = true ∧ ∀ j, j < k → ¬ p j = true := by
  intro n
  induction n with
  | zero => intro k h; cases h
  | succ n ih =>
    intro k h
    have e : minK p (n + 1) = (match minK p n with | some k => some k | none => if p n = true then some n else none) := rfl
    rw [e] at h
    cases hs : minK p n with
    | some z =>
      rw [hs] at h
      cases h
      obtain ⟨h1, h2, h3⟩ := ih hs
      exact ⟨by omega, h2, h3⟩
    | none =>
      rw [hs] at h
      dsimp only at h
      split at h
      · rename_i hp
        cases h
        refine ⟨by omega, hp, fun j hj hpj => ?_⟩
        have : ∀ (m : Nat), minK p m = none → ∀ j, j < m → ¬ p j = true := by
          intro m
          induction m with
          | zero => intro _ j hj; omega
          | succ m ihm =>
            intro h j hj
            have e : minK p (m + 1) = (match minK p m with | some k => some k | none => if p m = true then some m else none) := rfl
            rw [e] at h
            cases hs : minK p m with
            | some z => rw [hs] at h; cases h
            | none =>
              rw [hs] at h
              dsimp only at h
              split at h
              · cases h
              · rename_i hm
                rcases Nat.lt_or_ge j m with d | d
                · exact ihm hs j d
                · rw [show j = m by omega]; exact hm
        exact this _ hs j hj hpj
      · cases h
theorem minK_none {p : Nat → Bool} : ∀ {n : Nat}, minK p n = none ↔ ∀ j, j < n → ¬ p j = true := by
  intro n
  induction n with
  | zero => exact ⟨fun _ j hj => by omega, fun _ => rfl⟩
  | succ n ih =>
    have e : minK p (n + 1) = (match minK p n with | some k => some k | none => if p n = true then some n else none) := rfl
    rw [e]
    cases hs : minK p n with
    | some z =>
      obtain ⟨h1, h2, h3⟩ := minK_some hs
      refine ⟨fun h => (by cases h), fun h => absurd h2 (h z (by omega))⟩
    | none =>
      have h0 := ih.mp hs
      dsimp only
      by_cases c : p n = true
      · rw [if_pos c]
        exact ⟨fun h => (by cases h), fun h => absurd c (h n (by omega))⟩
      · rw [if_neg c]
        refine ⟨fun _ j hj => ?_, fun _ => rfl⟩
        rcases Nat.lt_or_ge j n with d | d
        · exact h0 j d
        · rw [show j = n by omega]; exact c
theorem minK_per {p : Nat → Bool} {g k : Nat} (hg : 0 < g) (hk : 0 < k) (h : ∀ i, p (i + g) = p i) : minK p (g * k) = minK p g := by
  have hle : g ≤ g * k := Nat.le_mul_of_pos_right g hk
  have hmod (j : Nat) : p (j % g) = p j := by
    have := per_mul h (j / g) (j % g)
    rw [Nat.div_add_mod] at this
    exact this.symm
  cases hs : minK p g with
  | none =>
    rw [minK_none] at hs ⊢
    intro j hj
    rw [← hmod j]
    exact hs _ (Nat.mod_lt _ hg)
  | some z =>
    obtain ⟨h1, h2, h3⟩ := minK_some hs
    cases hs2 : minK p (g * k) with
    | none =>
      rw [minK_none] at hs2
      exact absurd h2 (hs2 z (by omega))
    | some y =>
      obtain ⟨q1, q2, q3⟩ := minK_some hs2
      have : y = z := by
        rcases Nat.lt_trichotomy y z with d | d | d
        · exact absurd q2 (h3 y d)
        · exact d
        · exact absurd h2 (q3 z d)
      rw [this]
theorem gsB_per {T C : Nat → Nat} {r sn w : Nat} {tt tp : Nat → Nat} (i : Nat) : gsB T C r tt tp sn w (i + Nat.gcd (T r) (C w)) = gsB T C r tt tp sn w i := by
  unfold gsB soB
  congr 1
  refine allN_congr (fun j _ => ?_)
  congr 1
  unfold tipS
  congr 1
  refine decide_eq_decide.mpr ?_
  have : ((tt j : Nat) : Int) - ((i + Nat.gcd (T r) (C w) : Nat) : Int) = ((tt j : Int) - (i : Int)) - (Nat.gcd (T r) (C w) : Int) := by omega
  rw [this]
  constructor
  · intro h
    have := Int.dvd_add h (Int.dvd_refl _)
    rwa [Int.sub_add_cancel] at this
  · exact fun h => Int.dvd_sub h (Int.dvd_refl _)
def fstU (p : Nat → Nat → Bool) (T : Nat) : Nat → Nat → Int32
  | 0, _ => -9
  | d + 1, w => match minK (p w) T with
    | some k => nI (1000 * w + k)
    | none => fstU p T d (w + 1)
theorem fstW_U {p : Nat → Nat → Bool} {T : Nat} : ∀ (w d : Nat), fstW p T w (fstU p T d w) = fstU p T (w + d) 0 := by
  intro w
  induction w with
  | zero => intro d; rw [Nat.zero_add]; rfl
  | succ w ih =>
    intro d
    show fstW p T w (fstJ (p w) w T (fstU p T d (w + 1))) = _
    have : fstJ (p w) w T (fstU p T d (w + 1)) = fstU p T (d + 1) w := rfl
    rw [this, ih (d + 1), show w + (d + 1) = w + 1 + d by omega]
section XHH
variable {G : Hp} {x : Nat} {v : Nat → Int32} {t : Int64} {b p : Nat} {ip : Nat → Option Nat} {r : Nat → Nat → Int32} {N R W P sn : Nat} {T C φ tt tp : Nat → Nat}
theorem x_agL (hN : 2000 ≤ N) (S : xS v r sn tt tp) {g q st : Nat} (hg : 0 < g) (hg2 : g ≤ 1000) (hq : q ≤ 1000) (hst : st ≤ 1000) {α : Type} {K K' : Option α} : ∀ (n d j : Nat), j + d = sn → d < n → allN (fun i => tipS g q (tt i) st == (tp i == 1)) j = true → fX3_agree_L3 N (xH G x v t b p ip r) K K' n (some (x + 3)) (nI q) (nI g) (nI st) (nI j) = if soB g q tt tp sn st = true then K' else K := by
  obtain ⟨s1, s2, s3⟩ := S
  intro n
  induction n with
  | zero => intro d j _ h; omega
  | succ n ih =>
    intro d j hj hd ha
    rw [fX3_agree_L3]
    simp only [xh_O5, xh_O4, xh_O3, xh_O8, xh_g5_0, xh_g5_1, xh_g5_2, xh_g5_3, xh_g5_4, xh_g5_5, xh_g5_7, xh_g5_8, xh_g5_9, xh_g5_10, xh_g5_6, xh_g8_0, xh_g8_1, xh_g4_0, xh_g4_1, xh_g4_2, xh_g4_3, xh_g4_4, xh_g4_5, xh_g3_0, xh_g3_1, xh_g3_2, xh_p5_2, xh_p5_3, xh_p8_1, xh_p5_6, xh_p5_10, xh_p4_1, xh_p4_2, xh_p4_3, xh_p4_4, xh_p4_5, xh_p3_2, xh_rd2, xh_wr2, xh_rd4, xh_wr4, xh_rd5, xh_wr5, xh_rd15, xh_wr15, xh_len15, xh_rd16, xh_wr16, xh_len16, xh_rd17, xh_wr17, xh_len17, xh_rdA, xh_rdP, xh_wrA, xh_wrP, Option.bind_some, Option.bind_none, ↓reduceIte, if_true, if_false, s1]
    cases d with
    | zero =>
      have : j = sn := by omega
      subst this
      rw [if_pos (nI_le (by omega) (by omega))]
      exact (if_pos ha).symm
    | succ d =>
      obtain ⟨t1, t2, t3, t4⟩ := s3 j (by omega)
      have er : fX5_rest N (xH G x v t b p ip r) (nI (tt j) - nI st) (nI g) = some (nI (((tt j : Int) - (st : Int)) % (g : Int)).toNat) := x_restS (by omega) (by omega) hg (by omega)
      have hr : (((tt j : Int) - (st : Int)) % (g : Int)).toNat < 2000 := by
        have := Int.emod_lt_of_pos ((tt j : Int) - (st : Int)) (b := (g : Int)) (by omega)
        omega
      have hz : (nI (((tt j : Int) - (st : Int)) % (g : Int)).toNat = 0) ↔ (g : Int) ∣ (tt j : Int) - (st : Int) := by
        rw [i_0, nI_eq (by omega) (by omega), Int.dvd_iff_emod_eq_zero]
        have := Int.emod_nonneg ((tt j : Int) - (st : Int)) (b := (g : Int)) (by omega)
        omega
      have key (c : Bool) (hc : tipS g q (tt j) st = c) : fX3_agree_j44 N (xH G x v t b p ip r) (fX3_agree_L3 N (xH G x v t b p ip r) K K' n) K (some (x + 3)) (nI q) (nI g) (nI st) (nI j) (bI c) = if soB g q tt tp sn st = true then K' else K := by
        rw [fX3_agree_j44]
        simp (disch := omega) only [xh_O5, xh_O4, xh_O3, xh_O8, xh_g5_0, xh_g5_1, xh_g5_2, xh_g5_3, xh_g5_4, xh_g5_5, xh_g5_7, xh_g5_8, xh_g5_9, xh_g5_10, xh_g5_6, xh_g8_0, xh_g8_1, xh_g4_0, xh_g4_1, xh_g4_2, xh_g4_3, xh_g4_4, xh_g4_5, xh_g3_0, xh_g3_1, xh_g3_2, xh_p5_2, xh_p5_3, xh_p8_1, xh_p5_6, xh_p5_10, xh_p4_1, xh_p4_2, xh_p4_3, xh_p4_4, xh_p4_5, xh_p3_2, xh_rd2, xh_wr2, xh_rd4, xh_wr4, xh_rd5, xh_wr5, xh_rd15, xh_wr15, xh_len15, xh_rd16, xh_wr16, xh_len16, xh_rd17, xh_wr17, xh_len17, xh_rdA, xh_rdP, xh_wrA, xh_wrP, Option.bind_some, Option.bind_none, ↓reduceIte, if_true, if_false, t3, nI_1]
        have hb : (bI c = nI (tp j)) ↔ (c == (tp j == 1)) = true := by
          rcases Nat.lt_or_ge (tp j) 1 with z | z
          · rw [show tp j = 0 by omega]; cases c <;> decide
          · rw [show tp j = 1 by omega]; cases c <;> decide
        by_cases c2 : (c == (tp j == 1)) = true
        · rw [if_pos (hb.mpr c2)]
          refine ih d (j + 1) (by omega) (by omega) ?_
          show (allN (fun i => tipS g q (tt i) st == (tp i == 1)) j && (tipS g q (tt j) st == (tp j == 1))) = true
          rw [ha, hc, c2]; rfl
        · rw [if_neg (fun z => c2 (hb.mp z)), if_neg]
          intro z
          unfold soB at z
          rw [allN_iff] at z
          have := z j (by omega)
          rw [hc] at this
          exact c2 this
      rw [if_neg (nI_ge (by omega) (by omega))]
      simp (disch := omega) only [xh_O5, xh_O4, xh_O3, xh_O8, xh_g5_0, xh_g5_1, xh_g5_2, xh_g5_3, xh_g5_4, xh_g5_5, xh_g5_7, xh_g5_8, xh_g5_9, xh_g5_10, xh_g5_6, xh_g8_0, xh_g8_1, xh_g4_0, xh_g4_1, xh_g4_2, xh_g4_3, xh_g4_4, xh_g4_5, xh_g3_0, xh_g3_1, xh_g3_2, xh_p5_2, xh_p5_3, xh_p8_1, xh_p5_6, xh_p5_10, xh_p4_1, xh_p4_2, xh_p4_3, xh_p4_4, xh_p4_5, xh_p3_2, xh_rd2, xh_wr2, xh_rd4, xh_wr4, xh_rd5, xh_wr5, xh_rd15, xh_wr15, xh_len15, xh_rd16, xh_wr16, xh_len16, xh_rd17, xh_wr17, xh_len17, xh_rdA, xh_rdP, xh_wrA, xh_wrP, Option.bind_some, Option.bind_none, ↓reduceIte, if_true, if_false, t1, er]
      by_cases c : q ≤ tt j
      · rw [if_pos (nI_le c (by omega))]
        exact key false (by unfold tipS; rw [decide_eq_false (by omega)]; rfl)
      · rw [if_neg (nI_ge (by omega) (by omega))]
        by_cases c2 : (g : Int) ∣ (tt j : Int) - (st : Int)
        · rw [if_pos (hz.mpr c2)]
          exact key true (by unfold tipS; rw [decide_eq_true (by omega), decide_eq_true c2]; rfl)
        · rw [if_neg (fun z => c2 (hz.mp z))]
          exact key false (by unfold tipS; rw [decide_eq_true (by omega), decide_eq_false c2]; rfl)
theorem x_agree (hN : 2000 ≤ N) (S : xS v r sn tt tp) {g q st : Nat} (hg : 0 < g) (hg2 : g ≤ 1000) (hq : q ≤ 1000) (hst : st ≤ 1000) : fX3_agree N (xH G x v t b p ip r) (some (x + 3)) (nI q) (nI g) (nI st) = some (bI (soB g q tt tp sn st)) := by
  simp only [fX3_agree]
  refine (x_agL hN S hg hg2 hq hst N sn 0 (by omega) (by have := S.2.1; omega) rfl).trans ?_
  unfold bI
  split <;> rfl
theorem x_saL (hN : 2000 ≤ N) (S : xS v r sn tt tp) {g q : Nat} (hg : 0 < g) (hg2 : g ≤ 1000) (hq : q ≤ 1000) {α : Type} {K : Int32 → Option α} : ∀ (n d j : Nat), j + d = g → d < n → fX3_startsAgreeing_L5 N (xH G x v t b p ip r) K n (some (x + 3)) (nI q) (nI g) (nI (cnt (soB g q tt tp sn) j)) (nI j) = K (nI (cnt (soB g q tt tp sn) g)) := by
  intro n
  induction n with
  | zero => intro d j _ h; omega
  | succ n ih =>
    intro d j hj hd
    rw [fX3_startsAgreeing_L5]
    cases d with
    | zero =>
      have : j = g := by omega
      subst this
      rw [if_pos (nI_le (by omega) (by omega))]
    | succ d =>
      have ih' := ih d (j + 1) (by omega) (by omega)
      rw [if_neg (nI_ge (by omega) (by omega))]
      simp (disch := omega) only [xh_O5, xh_O4, xh_O3, xh_O8, xh_g5_0, xh_g5_1, xh_g5_2, xh_g5_3, xh_g5_4, xh_g5_5, xh_g5_7, xh_g5_8, xh_g5_9, xh_g5_10, xh_g5_6, xh_g8_0, xh_g8_1, xh_g4_0, xh_g4_1, xh_g4_2, xh_g4_3, xh_g4_4, xh_g4_5, xh_g3_0, xh_g3_1, xh_g3_2, xh_p5_2, xh_p5_3, xh_p8_1, xh_p5_6, xh_p5_10, xh_p4_1, xh_p4_2, xh_p4_3, xh_p4_4, xh_p4_5, xh_p3_2, xh_rd2, xh_wr2, xh_rd4, xh_wr4, xh_rd5, xh_wr5, xh_rd15, xh_wr15, xh_len15, xh_rd16, xh_wr16, xh_len16, xh_rd17, xh_wr17, xh_len17, xh_rdA, xh_rdP, xh_wrA, xh_wrP, Option.bind_some, Option.bind_none, ↓reduceIte, if_true, if_false, x_agree hN S hg hg2 hq (show j ≤ 1000 by omega), nI_1]
      by_cases c : soB g q tt tp sn j = true
      · rw [cnt_t c] at ih'
        rw [if_neg (by rw [bI_0]; exact fun z => z c)]
        exact ih'
      · rw [cnt_f c] at ih'
        rw [if_pos ((bI_0 _).mpr c)]
        exact ih'
theorem x_startsAgreeing (hN : 2000 ≤ N) (S : xS v r sn tt tp) {g q : Nat} (hg : 0 < g) (hg2 : g ≤ 1000) (hq : q ≤ 1000) : fX3_startsAgreeing N (xH G x v t b p ip r) (some (x + 3)) (nI q) (nI g) = some (nI (cnt (soB g q tt tp sn) g)) := by
  simp only [fX3_startsAgreeing]
  exact x_saL hN S hg hg2 hq (K := fun l3 => some l3) N g 0 (by omega) (by omega)
theorem x_faL (hN : 2000 ≤ N) (S : xS v r sn tt tp) {g q : Nat} (hg : 0 < g) (hg2 : g ≤ 1000) (hq : q ≤ 1000) {α : Type} {K : Int32 → Option α} {K' : Option α} : ∀ (n d j : Nat), j + d = g → d < n → (∀ i, i < j → ¬ soB g q tt tp sn i = true) → fX3_firstAgreeing_L2 N (xH G x v t b p ip r) K K' n (some (x + 3)) (nI q) (nI g) (nI j) = (match minK (soB g q tt tp sn) g with | some k => K (nI k) | none => K') := by
  intro n
  induction n with
  | zero => intro d j _ h; omega
  | succ n ih =>
    intro d j hj hd hf
    rw [fX3_firstAgreeing_L2]
    cases d with
    | zero =>
      have : j = g := by omega
      subst this
      rw [if_pos (nI_le (by omega) (by omega)), minK_none.mpr hf]
    | succ d =>
      rw [if_neg (nI_ge (by omega) (by omega))]
      simp (disch := omega) only [xh_O5, xh_O4, xh_O3, xh_O8, xh_g5_0, xh_g5_1, xh_g5_2, xh_g5_3, xh_g5_4, xh_g5_5, xh_g5_7, xh_g5_8, xh_g5_9, xh_g5_10, xh_g5_6, xh_g8_0, xh_g8_1, xh_g4_0, xh_g4_1, xh_g4_2, xh_g4_3, xh_g4_4, xh_g4_5, xh_g3_0, xh_g3_1, xh_g3_2, xh_p5_2, xh_p5_3, xh_p8_1, xh_p5_6, xh_p5_10, xh_p4_1, xh_p4_2, xh_p4_3, xh_p4_4, xh_p4_5, xh_p3_2, xh_rd2, xh_wr2, xh_rd4, xh_wr4, xh_rd5, xh_wr5, xh_rd15, xh_wr15, xh_len15, xh_rd16, xh_wr16, xh_len16, xh_rd17, xh_wr17, xh_len17, xh_rdA, xh_rdP, xh_wrA, xh_wrP, Option.bind_some, Option.bind_none, ↓reduceIte, if_true, if_false, x_agree hN S hg hg2 hq (show j ≤ 1000 by omega), nI_1]
      by_cases c : soB g q tt tp sn j = true
      · rw [if_neg (by rw [bI_0]; exact fun z => z c)]
        cases hs : minK (soB g q tt tp sn) g with
        | none => exact absurd c (minK_none.mp hs j (by omega))
        | some k =>
          obtain ⟨h1, h2, h3⟩ := minK_some hs
          have : k = j := by
            rcases Nat.lt_trichotomy k j with d | d | d
            · exact absurd h2 (hf k d)
            · exact d
            · exact absurd c (h3 j d)
          rw [this]
      · rw [if_pos ((bI_0 _).mpr c)]
        refine ih d (j + 1) (by omega) (by omega) (fun i hi => ?_)
        rcases Nat.lt_or_ge i j with z | z
        · exact hf i z
        · rw [show i = j by omega]; exact c
theorem x_firstAgreeing (hN : 2000 ≤ N) (S : xS v r sn tt tp) {g q : Nat} (hg : 0 < g) (hg2 : g ≤ 1000) (hq : q ≤ 1000) : fX3_firstAgreeing N (xH G x v t b p ip r) (some (x + 3)) (nI q) (nI g) = (match minK (soB g q tt tp sn) g with | some k => some (nI k) | none => some (-9)) := by
  simp only [fX3_firstAgreeing]
  exact x_faL hN S hg hg2 hq (K := fun l3 => some l3) N g 0 (by omega) (by omega) (fun i hi => by omega)
theorem gs_so {q w : Nat} (c : C w < T q) : gsB T C q tt tp sn w = soB (Nat.gcd (T q) (C w)) (T q) tt tp sn := by
  funext st
  unfold gsB fitB
  rw [decide_eq_true c, Bool.true_and]
theorem gs_no {q w : Nat} (c : ¬ C w < T q) (st : Nat) : gsB T C q tt tp sn w st = false := by
  unfold gsB fitB
  rw [decide_eq_false c, Bool.false_and]
theorem gs_cnt {q w : Nat} (hT : 0 < T q) (c : C w < T q) : cnt (gsB T C q tt tp sn w) (T q) = (T q / Nat.gcd (T q) (C w)) * cnt (soB (Nat.gcd (T q) (C w)) (T q) tt tp sn) (Nat.gcd (T q) (C w)) := by
  have h := cnt_per (p := gsB T C q tt tp sn w) (g := Nat.gcd (T q) (C w)) gsB_per (T q / Nat.gcd (T q) (C w))
  rw [Nat.mul_div_cancel' (Nat.gcd_dvd_left _ _)] at h
  rw [h, gs_so c]
theorem x_guL (hN : 2000 ≤ N) (B : okB R W P T C) (X : BXX x G b R W P T C) (S : xS v r sn tt tp) {q : Nat} (hq : q < R) {α : Type} {K : Int32 → Option α} : ∀ (n d w : Nat), w + d = W → d < n → fX5_guesses_L14 N (xH G x v t b p ip r) K n (some x) (nI q) (nI (T q)) (nI (sumN (fun w => cnt (gsB T C q tt tp sn w) (T q)) w)) (nI w) = K (nI (sumN (fun w => cnt (gsB T C q tt tp sn w) (T q)) W)) := by
  have hW := B.2.1
  have hT := B.2.2.2.1 q hq
  have X' := X.at (xh_dy (G := G) (x := x) (v := v) (t := t) (b := b) (p := p) (ip := ip) (r := r))
  have e4 : gI (xH G x v t b p ip r) (some b) 0 4 = some (nI W) := gI_eq X'.1 rfl
  intro n
  induction n with
  | zero => intro d w _ h; omega
  | succ n ih =>
    intro d w hw hd
    rw [fX5_guesses_L14]
    simp only [xh_O5, xh_O4, xh_O3, xh_O8, xh_g5_0, xh_g5_1, xh_g5_2, xh_g5_3, xh_g5_4, xh_g5_5, xh_g5_7, xh_g5_8, xh_g5_9, xh_g5_10, xh_g5_6, xh_g8_0, xh_g8_1, xh_g4_0, xh_g4_1, xh_g4_2, xh_g4_3, xh_g4_4, xh_g4_5, xh_g3_0, xh_g3_1, xh_g3_2, xh_p5_2, xh_p5_3, xh_p8_1, xh_p5_6, xh_p5_10, xh_p4_1, xh_p4_2, xh_p4_3, xh_p4_4, xh_p4_5, xh_p3_2, xh_rd2, xh_wr2, xh_rd4, xh_wr4, xh_rd5, xh_wr5, xh_rd15, xh_wr15, xh_len15, xh_rd16, xh_wr16, xh_len16, xh_rd17, xh_wr17, xh_len17, xh_rdA, xh_rdP, xh_wrA, xh_wrP, Option.bind_some, Option.bind_none, ↓reduceIte, if_true, if_false, e4]
    cases d with
    | zero =>
      have : w = W := by omega
      subst this
      rw [if_pos (nI_le (by omega) (by omega))]
    | succ d =>
      have hw' : w < W := by omega
      have ih' := ih d (w + 1) (by omega) (by omega)
      have hg : 0 < Nat.gcd (T q) (C w) := Nat.gcd_pos_of_pos_left _ (by omega)
      have hg2 : Nat.gcd (T q) (C w) ≤ T q := Nat.gcd_le_left _ (by omega)
      rw [if_neg (nI_ge (by omega) (by omega))]
      simp (disch := omega) only [isO_eq X'.1, xh_O5, xh_O4, xh_O3, xh_O8, xh_g5_0, xh_g5_1, xh_g5_2, xh_g5_3, xh_g5_4, xh_g5_5, xh_g5_7, xh_g5_8, xh_g5_9, xh_g5_10, xh_g5_6, xh_g8_0, xh_g8_1, xh_g4_0, xh_g4_1, xh_g4_2, xh_g4_3, xh_g4_4, xh_g4_5, xh_g3_0, xh_g3_1, xh_g3_2, xh_p5_2, xh_p5_3, xh_p8_1, xh_p5_6, xh_p5_10, xh_p4_1, xh_p4_2, xh_p4_3, xh_p4_4, xh_p4_5, xh_p3_2, xh_rd2, xh_wr2, xh_rd4, xh_wr4, xh_rd5, xh_wr5, xh_rd15, xh_wr15, xh_len15, xh_rd16, xh_wr16, xh_len16, xh_rd17, xh_wr17, xh_len17, xh_rdA, xh_rdP, xh_wrA, xh_wrP, Option.bind_some, Option.bind_none, ↓reduceIte, if_true, if_false, x_fits X' B hq hw', x_divisorOf hN X' B hq hw', x_petalsOf hN X' B hq hw', x_startsAgreeing hN S hg (show Nat.gcd (T q) (C w) ≤ 1000 by omega) (show T q ≤ 1000 by omega), nI_1, pk_mul, nI_add]
      have es : sumN (fun w => cnt (gsB T C q tt tp sn w) (T q)) (w + 1) = sumN (fun w => cnt (gsB T C q tt tp sn w) (T q)) w + cnt (gsB T C q tt tp sn w) (T q) := rfl
      rw [es] at ih'
      by_cases c : C w < T q
      · rw [if_pos c, if_neg (by decide), ← gs_cnt (by omega) c]
        exact ih'
      · rw [cnt_none (fun i _ => by rw [gs_no c]; decide), Nat.add_zero] at ih'
        rw [if_neg c, if_pos rfl]
        exact ih'
theorem x_guesses (hN : 2000 ≤ N) (B : okB R W P T C) (X : BXX x G b R W P T C) (S : xS v r sn tt tp) {q : Nat} (hq : q < R) : fX5_guesses N (xH G x v t b p ip r) (some x) (nI q) = some (nI (sumN (fun w => cnt (gsB T C q tt tp sn w) (T q)) W)) := by
  have hW := B.2.1
  have X' := X.at (xh_dy (G := G) (x := x) (v := v) (t := t) (b := b) (p := p) (ip := ip) (r := r))
  simp only [fX5_guesses, xh_O5, xh_O4, xh_O3, xh_O8, xh_g5_0, xh_g5_1, xh_g5_2, xh_g5_3, xh_g5_4, xh_g5_5, xh_g5_7, xh_g5_8, xh_g5_9, xh_g5_10, xh_g5_6, xh_g8_0, xh_g8_1, xh_g4_0, xh_g4_1, xh_g4_2, xh_g4_3, xh_g4_4, xh_g4_5, xh_g3_0, xh_g3_1, xh_g3_2, xh_p5_2, xh_p5_3, xh_p8_1, xh_p5_6, xh_p5_10, xh_p4_1, xh_p4_2, xh_p4_3, xh_p4_4, xh_p4_5, xh_p3_2, xh_rd2, xh_wr2, xh_rd4, xh_wr4, xh_rd5, xh_wr5, xh_rd15, xh_wr15, xh_len15, xh_rd16, xh_wr16, xh_len16, xh_rd17, xh_wr17, xh_len17, xh_rdA, xh_rdP, xh_wrA, xh_wrP, Option.bind_some, Option.bind_none, ↓reduceIte, if_true, if_false, isO_eq X'.1, x_teethOf X' B hq]
  exact x_guL hN B X S hq (K := fun l3 => some l3) N W 0 (by omega) (by omega)
theorem gs_min {q w : Nat} (hT : 0 < T q) (c : C w < T q) : minK (gsB T C q tt tp sn w) (T q) = minK (soB (Nat.gcd (T q) (C w)) (T q) tt tp sn) (Nat.gcd (T q) (C w)) := by
  have hg : 0 < Nat.gcd (T q) (C w) := Nat.gcd_pos_of_pos_left _ hT
  have h := minK_per (p := gsB T C q tt tp sn w) (g := Nat.gcd (T q) (C w)) (k := T q / Nat.gcd (T q) (C w)) hg (Nat.div_pos (Nat.gcd_le_left _ hT) hg) gsB_per
  rw [Nat.mul_div_cancel' (Nat.gcd_dvd_left _ _)] at h
  rw [h, gs_so c]
theorem x_fgL (hN : 2000 ≤ N) (B : okB R W P T C) (X : BXX x G b R W P T C) (S : xS v r sn tt tp) {q : Nat} (hq : q < R) : ∀ (n d w : Nat), w + d = W → d < n → fX5_firstGuess_L11 N (xH G x v t b p ip r) (fun l3 l4 => some (((1000 : Int32) * l3) + l4)) (some (-9 : Int32)) n (some x) (nI q) (nI (T q)) (nI w) = some (fstU (gsB T C q tt tp sn) (T q) d w) := by
  have hW := B.2.1
  have hT := B.2.2.2.1 q hq
  have X' := X.at (xh_dy (G := G) (x := x) (v := v) (t := t) (b := b) (p := p) (ip := ip) (r := r))
  have e4 : gI (xH G x v t b p ip r) (some b) 0 4 = some (nI W) := gI_eq X'.1 rfl
  intro n
  induction n with
  | zero => intro d w _ h; omega
  | succ n ih =>
    intro d w hw hd
    rw [fX5_firstGuess_L11]
    simp only [xh_O5, xh_O4, xh_O3, xh_O8, xh_g5_0, xh_g5_1, xh_g5_2, xh_g5_3, xh_g5_4, xh_g5_5, xh_g5_7, xh_g5_8, xh_g5_9, xh_g5_10, xh_g5_6, xh_g8_0, xh_g8_1, xh_g4_0, xh_g4_1, xh_g4_2, xh_g4_3, xh_g4_4, xh_g4_5, xh_g3_0, xh_g3_1, xh_g3_2, xh_p5_2, xh_p5_3, xh_p8_1, xh_p5_6, xh_p5_10, xh_p4_1, xh_p4_2, xh_p4_3, xh_p4_4, xh_p4_5, xh_p3_2, xh_rd2, xh_wr2, xh_rd4, xh_wr4, xh_rd5, xh_wr5, xh_rd15, xh_wr15, xh_len15, xh_rd16, xh_wr16, xh_len16, xh_rd17, xh_wr17, xh_len17, xh_rdA, xh_rdP, xh_wrA, xh_wrP, Option.bind_some, Option.bind_none, ↓reduceIte, if_true, if_false, e4]
    cases d with
    | zero => rw [if_pos (nI_le (by omega) (by omega))]; rfl
    | succ d =>
      have hw' : w < W := by omega
      have ih' := ih d (w + 1) (by omega) (by omega)
      have hg : 0 < Nat.gcd (T q) (C w) := Nat.gcd_pos_of_pos_left _ (by omega)
      have hg2 : Nat.gcd (T q) (C w) ≤ T q := Nat.gcd_le_left _ (by omega)
      have eu : fstU (gsB T C q tt tp sn) (T q) (d + 1) w = (match minK (gsB T C q tt tp sn w) (T q) with | some k => nI (1000 * w + k) | none => fstU (gsB T C q tt tp sn) (T q) d (w + 1)) := rfl
      rw [if_neg (nI_ge (by omega) (by omega)), eu]
      simp (disch := omega) only [isO_eq X'.1, xh_O5, xh_O4, xh_O3, xh_O8, xh_g5_0, xh_g5_1, xh_g5_2, xh_g5_3, xh_g5_4, xh_g5_5, xh_g5_7, xh_g5_8, xh_g5_9, xh_g5_10, xh_g5_6, xh_g8_0, xh_g8_1, xh_g4_0, xh_g4_1, xh_g4_2, xh_g4_3, xh_g4_4, xh_g4_5, xh_g3_0, xh_g3_1, xh_g3_2, xh_p5_2, xh_p5_3, xh_p8_1, xh_p5_6, xh_p5_10, xh_p4_1, xh_p4_2, xh_p4_3, xh_p4_4, xh_p4_5, xh_p3_2, xh_rd2, xh_wr2, xh_rd4, xh_wr4, xh_rd5, xh_wr5, xh_rd15, xh_wr15, xh_len15, xh_rd16, xh_wr16, xh_len16, xh_rd17, xh_wr17, xh_len17, xh_rdA, xh_rdP, xh_wrA, xh_wrP, Option.bind_some, Option.bind_none, ↓reduceIte, if_true, if_false, x_fits X' B hq hw', x_divisorOf hN X' B hq hw', x_firstAgreeing hN S hg (show Nat.gcd (T q) (C w) ≤ 1000 by omega) (show T q ≤ 1000 by omega), nI_1]
      by_cases c : C w < T q
      · rw [if_pos c, if_neg (by decide), gs_min (by omega) c]
        cases hs : minK (soB (Nat.gcd (T q) (C w)) (T q) tt tp sn) (Nat.gcd (T q) (C w)) with
        | none =>
          simp only [Option.bind_some, Option.bind_none, ↓reduceIte, if_true, if_false]
          exact ih'
        | some k =>
          obtain ⟨h1, -, -⟩ := minK_some hs
          simp only [Option.bind_some, Option.bind_none, ↓reduceIte, if_true, if_false]
          rw [if_neg (nI_neg9 (by omega)), i_1000, pk_mul, nI_add]
      · have : minK (gsB T C q tt tp sn w) (T q) = none := minK_none.mpr (fun j _ => by rw [gs_no c]; decide)
        rw [if_neg c, if_pos rfl, this]
        exact ih'
theorem x_firstGuess (hN : 2000 ≤ N) (B : okB R W P T C) (X : BXX x G b R W P T C) (S : xS v r sn tt tp) {q : Nat} (hq : q < R) : fX5_firstGuess N (xH G x v t b p ip r) (some x) (nI q) = some (fstW (gsB T C q tt tp sn) (T q) W (-9)) := by
  have hW := B.2.1
  have X' := X.at (xh_dy (G := G) (x := x) (v := v) (t := t) (b := b) (p := p) (ip := ip) (r := r))
  have e := fstW_U (p := gsB T C q tt tp sn) (T := T q) W 0
  rw [show fstU (gsB T C q tt tp sn) (T q) 0 W = -9 from rfl, Nat.add_zero] at e
  rw [e]
  simp only [fX5_firstGuess, xh_O5, xh_O4, xh_O3, xh_O8, xh_g5_0, xh_g5_1, xh_g5_2, xh_g5_3, xh_g5_4, xh_g5_5, xh_g5_7, xh_g5_8, xh_g5_9, xh_g5_10, xh_g5_6, xh_g8_0, xh_g8_1, xh_g4_0, xh_g4_1, xh_g4_2, xh_g4_3, xh_g4_4, xh_g4_5, xh_g3_0, xh_g3_1, xh_g3_2, xh_p5_2, xh_p5_3, xh_p8_1, xh_p5_6, xh_p5_10, xh_p4_1, xh_p4_2, xh_p4_3, xh_p4_4, xh_p4_5, xh_p3_2, xh_rd2, xh_wr2, xh_rd4, xh_wr4, xh_rd5, xh_wr5, xh_rd15, xh_wr15, xh_len15, xh_rd16, xh_wr16, xh_len16, xh_rd17, xh_wr17, xh_len17, xh_rdA, xh_rdP, xh_wrA, xh_wrP, Option.bind_some, Option.bind_none, ↓reduceIte, if_true, if_false, isO_eq X'.1, x_teethOf X' B hq]
  exact x_fgL hN B X S hq N W 0 (by omega) (by omega)
end XHH
