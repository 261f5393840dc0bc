theorem cnt_one {p : Nat → Bool} {a : Nat} : ∀ n, cnt (fun j => p j && (a == j)) n = if a < n ∧ p a = true then 1 else 0 := by
  intro n
  induction n with
  | zero => rw [if_neg (by omega)]; rfl
  | succ n ih =>
    show cnt (fun j => p j && (a == j)) n + (if (p n && (a == n)) = true then 1 else 0) = _
    rw [ih]
    by_cases c : a = n
    · subst c
      rw [if_neg (by omega)]
      by_cases d : p a = true
      · rw [if_pos (by simp [d]), if_pos ⟨by omega, d⟩]
      · rw [if_neg (by simp [d]), if_neg (fun z => d z.2)]
    · rw [if_neg (show ¬ (p n && (a == n)) = true by simp [c])]
      by_cases d : a < n ∧ p a = true
      · rw [if_pos d, if_pos ⟨by omega, d.2⟩]
      · rw [if_neg d, if_neg (fun z => d ⟨by omega, z.2⟩)]
def petG (T C : Nat → Nat) (q : Nat) (tt tp : Nat → Nat) (sn w i : Nat) : Nat := if gsB T C q tt tp sn w (i % Nat.gcd (T q) (C w)) = true then T q / Nat.gcd (T q) (C w) else 0
theorem lk_cnt {T C : Nat → Nat} {q w sn i : Nat} {tt tp : Nat → Nat} (hT : 0 < T q) : cnt (lkB T C q tt tp sn w i) (T q) = petG T C q tt tp sn w i := by
  have hg : 0 < Nat.gcd (T q) (C w) := Nat.gcd_pos_of_pos_left _ hT
  have h := cnt_per (p := lkB T C q tt tp sn w i) (g := Nat.gcd (T q) (C w)) (fun st => by unfold lkB; rw [gsB_per, Nat.add_mod_right]) (T q / Nat.gcd (T q) (C w))
  rw [Nat.mul_div_cancel' (Nat.gcd_dvd_left _ _)] at h
  rw [h, cnt_congr (q := fun st => gsB T C q tt tp sn w st && (i % Nat.gcd (T q) (C w) == st)) (fun st hst => by unfold lkB; rw [Nat.mod_eq_of_lt hst]), cnt_one]
  have hm := Nat.mod_lt i hg
  unfold petG
  by_cases c : gsB T C q tt tp sn w (i % Nat.gcd (T q) (C w)) = true
  · rw [if_pos ⟨hm, c⟩, if_pos c, Nat.mul_one]
  · rw [if_neg (fun z => c z.2), if_neg c, Nat.mul_zero]
section XI
variable {G : Hp} {x : Nat} {v : Nat → Int32} {t : Int64} {b p : Nat} {ip : Nat → Option Nat} {r : Nat → Nat → Int32} {N R W P sn : Nat} {T C φ tt tp : Nat → Nat}
theorem x_ag1 {q g st pe : Nat} {V : Nat → Nat} {l5 : Int32} (hq : q ≤ 120) (hg : 0 < g) (hg2 : g ≤ 120) (hst : st < g) {α : Type} {K : Hp → Option Nat → Int32 → Int32 → Int32 → Int32 → Int32 → Option α} : ∀ (n y : Nat) (f : Nat → Int32), q - y < n → y ≤ 240 → y % g = st → (∀ i, i < q → f i = nI (V i + if i < y ∧ i % g = st then pe else 0)) → ∃ f', fX5_addGuesses_L34 N K n (xH G x v t b p ip (ua r 16 f)) (some x) (nI q) (nI g) (nI pe) (nI g) l5 (nI y) = K (xH G x v t b p ip (ua r 16 f')) (some x) (nI q) (nI g) (nI pe) (nI g) l5 ∧ ∀ i, i < q → f' i = nI (V i + if i % g = st then pe else 0) := by
  intro n
  induction n with
  | zero => intro y f h; omega
  | succ n ih =>
    intro y f hy hy2 hm hf
    rw [fX5_addGuesses_L34]
    by_cases c : q ≤ y
    · refine ⟨f, if_pos (nI_le c (by omega)), fun i hi => ?_⟩
      rw [hf i hi]
      by_cases c2 : i % g = st
      · rw [if_pos ⟨by omega, c2⟩, if_pos c2]
      · rw [if_neg (fun z => c2 z.2), if_neg c2]
    · rw [if_neg (nI_ge (by omega) (by omega))]
      simp only [xh_O5, xh_O4, xh_O3, xh_O8, xh_g5_0, xh_g5_1, xh_g5_2, xh_g5_3, xh_g5_4, xh_g5_5, xh_g5_7, xh_g5_8, xh_g5_9, xh_g5_10, xh_g5_6, xh_g8_0, xh_g8_1, xh_g4_0, xh_g4_1, xh_g4_2, xh_g4_3, xh_g4_4, xh_g4_5, xh_g3_0, xh_g3_1, xh_g3_2, xh_p5_2, xh_p5_3, xh_p8_1, xh_p5_6, xh_p5_10, xh_p4_1, xh_p4_2, xh_p4_3, xh_p4_4, xh_p4_5, xh_p3_2, xh_rd2, xh_wr2, xh_rd4, xh_wr4, xh_rd5, xh_wr5, xh_rd15, xh_wr15, xh_len15, xh_rd16, xh_wr16, xh_len16, xh_rd17, xh_wr17, xh_len17, xh_rdA, xh_rdP, xh_wrA, xh_wrP, Option.bind_some, Option.bind_none, ↓reduceIte, if_true, if_false]
      rw [if_neg (nI_ge (by omega) (by omega))]
      have ey : f y = nI (V y) := by rw [hf y (by omega), if_neg (by omega), Nat.add_zero]
      simp (disch := omega) only [xh_O5, xh_O4, xh_O3, xh_O8, xh_g5_0, xh_g5_1, xh_g5_2, xh_g5_3, xh_g5_4, xh_g5_5, xh_g5_7, xh_g5_8, xh_g5_9, xh_g5_10, xh_g5_6, xh_g8_0, xh_g8_1, xh_g4_0, xh_g4_1, xh_g4_2, xh_g4_3, xh_g4_4, xh_g4_5, xh_g3_0, xh_g3_1, xh_g3_2, xh_p5_2, xh_p5_3, xh_p8_1, xh_p5_6, xh_p5_10, xh_p4_1, xh_p4_2, xh_p4_3, xh_p4_4, xh_p4_5, xh_p3_2, xh_rd2, xh_wr2, xh_rd4, xh_wr4, xh_rd5, xh_wr5, xh_rd15, xh_wr15, xh_len15, xh_rd16, xh_wr16, xh_len16, xh_rd17, xh_wr17, xh_len17, xh_rdA, xh_rdP, xh_wrA, xh_wrP, Option.bind_some, Option.bind_none, ↓reduceIte, if_true, if_false, ua_s, ua_ua, ey, nI_add]
      refine ih (y + g) _ (by omega) (by omega) (by rw [Nat.add_mod_right]; exact hm) (fun i hi => ?_)
      by_cases c2 : i = y
      · subst c2
        rw [pk_us, if_pos ⟨by omega, hm⟩]
      · rw [pk_un c2, hf i hi]
        by_cases c3 : i % g = st
        · by_cases c4 : i < y
          · rw [if_pos ⟨c4, c3⟩, if_pos ⟨by omega, c3⟩]
          · have : ¬ i < y + g := by
              intro z
              have h1 : (i - y) % g = 0 := by
                have h2 : (y + (i - y)) % g = y % g := by rw [show y + (i - y) = i by omega, c3, hm]
                have h3 := Nat.div_add_mod i g
                have h4 := Nat.div_add_mod y g
                have h5 : i - y = g * (i / g - y / g) := by
                  rw [Nat.mul_sub]; omega
                rw [h5, Nat.mul_mod_right]
              rw [Nat.mod_eq_of_lt (by omega)] at h1
              omega
            rw [if_neg (fun z => c4 z.1), if_neg (fun z => this z.1)]
        · rw [if_neg (fun z => c3 z.2), if_neg (fun z => c3 z.2)]
theorem x_ag2 (hN : 2000 ≤ N) (S : xS v r sn tt tp) {q g pe : Nat} {V : Nat → Nat} (hq : q ≤ 120) (hg : 0 < g) (hg2 : g ≤ 120) {α : Type} {K : Hp → Option α} : ∀ (n d j : Nat) (f : Nat → Int32), j + d = g → d < n → (∀ i, i < q → f i = nI (V i + if i % g < j ∧ soB g q tt tp sn (i % g) = true then pe else 0)) → ∃ f', fX5_addGuesses_L10 N K n (xH G x v t b p ip (ua r 16 f)) (some x) (nI q) (nI g) (nI pe) (nI g) (nI j) = K (xH G x v t b p ip (ua r 16 f')) ∧ ∀ i, i < q → f' i = nI (V i + if soB g q tt tp sn (i % g) = true then pe else 0) := by
  intro n
  induction n with
  | zero => intro d j f _ h; omega
  | succ n ih =>
    intro d j f hj hd hf
    rw [fX5_addGuesses_L10]
    cases d with
    | zero =>
      refine ⟨f, if_pos (nI_le (by omega) (by omega)), fun i hi => ?_⟩
      have hm := Nat.mod_lt i hg
      rw [hf i hi]
      by_cases c : soB g q tt tp sn (i % g) = true
      · rw [if_pos ⟨by omega, c⟩, if_pos c]
      · rw [if_neg (fun z => c z.2), if_neg c]
    | succ d =>
      rw [if_neg (nI_ge (by omega) (by omega))]
      have S' := xS_ua (k := 16) (f := f) S (by omega)
      simp (disch := omega) only [xh_O5, xh_O4, xh_O3, xh_O8, xh_g5_0, xh_g5_1, xh_g5_2, xh_g5_3, xh_g5_4, xh_g5_5, xh_g5_7, xh_g5_8, xh_g5_9, xh_g5_10, xh_g5_6, xh_g8_0, xh_g8_1, xh_g4_0, xh_g4_1, xh_g4_2, xh_g4_3, xh_g4_4, xh_g4_5, xh_g3_0, xh_g3_1, xh_g3_2, xh_p5_2, xh_p5_3, xh_p8_1, xh_p5_6, xh_p5_10, xh_p4_1, xh_p4_2, xh_p4_3, xh_p4_4, xh_p4_5, xh_p3_2, xh_rd2, xh_wr2, xh_rd4, xh_wr4, xh_rd5, xh_wr5, xh_rd15, xh_wr15, xh_len15, xh_rd16, xh_wr16, xh_len16, xh_rd17, xh_wr17, xh_len17, xh_rdA, xh_rdP, xh_wrA, xh_wrP, Option.bind_some, Option.bind_none, ↓reduceIte, if_true, if_false, x_agree hN S' hg (show g ≤ 1000 by omega) (show q ≤ 1000 by omega) (show j ≤ 1000 by omega)]
      by_cases c : soB g q tt tp sn j = true
      · rw [if_neg (by rw [bI_0]; exact fun z => z c)]
        obtain ⟨f1, e1, h1⟩ := x_ag1 (G := G) (x := x) (v := v) (t := t) (b := b) (p := p) (ip := ip) (r := r) (N := N) (q := q) (g := g) (st := j) (pe := pe) (l5 := nI j) hq hg hg2 (by omega) (V := fun i => V i + if i % g < j ∧ soB g q tt tp sn (i % g) = true then pe else 0) (K := fun h l0 l1 l2 l3 l4 l5 => fX5_addGuesses_L10 N K n h l0 l1 l2 l3 l4 (l5 + 1)) N j f (by omega) (by omega) (Nat.mod_eq_of_lt (by omega)) (fun i hi => by
          rw [hf i hi]
          rw [if_neg (show ¬ (i < j ∧ i % g = j) from fun z => by rw [Nat.mod_eq_of_lt (by omega)] at z; omega), Nat.add_zero])
        obtain ⟨f2, e2, h2⟩ := ih d (j + 1) f1 (by omega) (by omega) (fun i hi => by
          rw [h1 i hi, Nat.add_assoc]
          congr 2
          by_cases c2 : i % g = j
          · rw [if_neg (fun z => by omega), if_pos c2, if_pos ⟨by omega, by rw [c2]; exact c⟩, Nat.zero_add]
          · rw [if_neg c2, Nat.add_zero]
            by_cases c3 : i % g < j ∧ soB g q tt tp sn (i % g) = true
            · rw [if_pos c3, if_pos ⟨by omega, c3.2⟩]
            · rw [if_neg c3, if_neg (fun z => c3 ⟨by omega, z.2⟩)])
        refine ⟨f2, ?_, h2⟩
        refine e1.trans ?_
        rw [nI_1]
        exact e2
      · rw [if_pos ((bI_0 _).mpr c), nI_1]
        refine ih d (j + 1) f (by omega) (by omega) (fun i hi => ?_)
        rw [hf i hi]
        congr 2
        by_cases c2 : i % g = j
        · rw [if_neg (fun z => by omega), if_neg (fun z => c (by rw [← c2]; exact z.2))]
        · by_cases c3 : i % g < j ∧ soB g q tt tp sn (i % g) = true
          · rw [if_pos c3, if_pos ⟨by omega, c3.2⟩]
          · rw [if_neg c3, if_neg (fun z => c3 ⟨by omega, z.2⟩)]
theorem x_addGuesses (hN : 2000 ≤ N) (S : xS v r sn tt tp) {q g pe : Nat} {V : Nat → Nat} {f : Nat → Int32} (hq : q ≤ 120) (hg : 0 < g) (hg2 : g ≤ 120) (hf : ∀ i, i < q → f i = nI (V i)) : ∃ f', fX5_addGuesses N (xH G x v t b p ip (ua r 16 f)) (some x) (nI q) (nI g) (nI pe) = some (xH G x v t b p ip (ua r 16 f')) ∧ ∀ i, i < q → f' i = nI (V i + if soB g q tt tp sn (i % g) = true then pe else 0) := by
  have e : jmax (nI g) 1 = nI g := by rw [i_1, jmax_nI (by omega) (by omega), Nat.max_eq_left hg]
  simp only [fX5_addGuesses, e]
  refine x_ag2 hN S hq hg hg2 N g 0 f (by omega) (by omega) (fun i hi => ?_)
  rw [hf i hi, if_neg (by omega), Nat.add_zero]
theorem x_ngL (hN : 2000 ≤ N) (B : okB R W P T C) (X : BXX x G b R W P T C) (S : xS v r sn tt tp) {q : Nat} (hq : q < R) {α : Type} {K : Hp → Option α} : ∀ (n d w : Nat) (f : Nat → Int32), w + d = W → d < n → (∀ i, i < T q → f i = nI (lkV T C q w tt tp sn i)) → ∃ f', fX5_noteGuessesByTooth_L10 N K n (xH G x v t b p ip (ua r 16 f)) (some x) (nI q) (nI w) = K (xH G x v t b p ip (ua r 16 f')) ∧ ∀ i, i < T q → f' i = nI (lkV T C q W tt tp sn i) := by
  have hW := B.2.1
  have hT := B.2.2.2.1 q hq
  intro n
  induction n with
  | zero => intro d w f _ h; omega
  | succ n ih =>
    intro d w f hw hd hf
    have X' := X.at (xh_dy (G := G) (x := x) (v := v) (t := t) (b := b) (p := p) (ip := ip) (r := ua r 16 f))
    have e4 : gI (xH G x v t b p ip (ua r 16 f)) (some b) 0 4 = some (nI W) := gI_eq X'.1 rfl
    rw [fX5_noteGuessesByTooth_L10]
    simp only [xh_O5, xh_O4, xh_O3, xh_O8, xh_g5_0, xh_g5_1, xh_g5_2, xh_g5_3, xh_g5_4, xh_g5_5, xh_g5_7, xh_g5_8, xh_g5_9, xh_g5_10, xh_g5_6, xh_g8_0, xh_g8_1, xh_g4_0, xh_g4_1, xh_g4_2, xh_g4_3, xh_g4_4, xh_g4_5, xh_g3_0, xh_g3_1, xh_g3_2, xh_p5_2, xh_p5_3, xh_p8_1, xh_p5_6, xh_p5_10, xh_p4_1, xh_p4_2, xh_p4_3, xh_p4_4, xh_p4_5, xh_p3_2, xh_rd2, xh_wr2, xh_rd4, xh_wr4, xh_rd5, xh_wr5, xh_rd15, xh_wr15, xh_len15, xh_rd16, xh_wr16, xh_len16, xh_rd17, xh_wr17, xh_len17, xh_rdA, xh_rdP, xh_wrA, xh_wrP, Option.bind_some, Option.bind_none, ↓reduceIte, if_true, if_false, e4]
    cases d with
    | zero =>
      have : w = W := by omega
      subst this
      exact ⟨f, if_pos (nI_le (by omega) (by omega)), hf⟩
    | succ d =>
      have hw' : w < W := by omega
      have hg : 0 < Nat.gcd (T q) (C w) := Nat.gcd_pos_of_pos_left _ (by omega)
      have hg2 : Nat.gcd (T q) (C w) ≤ T q := Nat.gcd_le_left _ (by omega)
      have es (i : Nat) : lkV T C q (w + 1) tt tp sn i = lkV T C q w tt tp sn i + petG T C q tt tp sn w i := by
        rw [← lk_cnt (by omega)]; rfl
      obtain ⟨f1, e1, h1⟩ := x_addGuesses (G := G) (x := x) (v := v) (t := t) (b := b) (p := p) (ip := ip) (r := r) (N := N) hN S (q := T q) (g := Nat.gcd (T q) (C w)) (pe := T q / Nat.gcd (T q) (C w)) (by omega) hg (by omega) hf
      rw [if_neg (nI_ge (by omega) (by omega))]
      simp (disch := omega) only [isO_eq X'.1, xh_O5, xh_O4, xh_O3, xh_O8, xh_g5_0, xh_g5_1, xh_g5_2, xh_g5_3, xh_g5_4, xh_g5_5, xh_g5_7, xh_g5_8, xh_g5_9, xh_g5_10, xh_g5_6, xh_g8_0, xh_g8_1, xh_g4_0, xh_g4_1, xh_g4_2, xh_g4_3, xh_g4_4, xh_g4_5, xh_g3_0, xh_g3_1, xh_g3_2, xh_p5_2, xh_p5_3, xh_p8_1, xh_p5_6, xh_p5_10, xh_p4_1, xh_p4_2, xh_p4_3, xh_p4_4, xh_p4_5, xh_p3_2, xh_rd2, xh_wr2, xh_rd4, xh_wr4, xh_rd5, xh_wr5, xh_rd15, xh_wr15, xh_len15, xh_rd16, xh_wr16, xh_len16, xh_rd17, xh_wr17, xh_len17, xh_rdA, xh_rdP, xh_wrA, xh_wrP, Option.bind_some, Option.bind_none, ↓reduceIte, if_true, if_false, x_fits X' B hq hw', x_teethOf X' B hq, x_divisorOf hN X' B hq hw', x_petalsOf hN X' B hq hw', e1, nI_1]
      by_cases c : C w < T q
      · rw [if_pos c, if_neg (by decide)]
        refine ih d (w + 1) f1 (by omega) (by omega) (fun i hi => ?_)
        rw [h1 i hi, es]
        unfold petG
        rw [gs_so c]
      · rw [if_neg c, if_pos rfl]
        refine ih d (w + 1) f (by omega) (by omega) (fun i hi => ?_)
        rw [hf i hi, es]
        unfold petG
        rw [gs_no c, if_neg (by decide), Nat.add_zero]
theorem x_noteGuesses (hN : 2000 ≤ N) (B : okB R W P T C) (X : BXX x G b R W P T C) (S : xS v r sn tt tp) {q : Nat} (hq : q < R) : ∃ f', fX5_noteGuessesByTooth N (xH G x v t b p ip r) (some x) (nI q) = some (xH G x v t b p ip (ua r 16 f')) ∧ ∀ i, i < T q → f' i = nI (lkV T C q W tt tp sn i) := by
  have hW := B.2.1
  have hT := B.2.2.2.1 q hq
  obtain ⟨u, e1, h1⟩ := x_fill16 (G := G) (x := x) (v := v) (t := t) (b := b) (p := p) (ip := ip) (r := r) hN (z := 0)
  obtain ⟨f2, e2, h2⟩ := x_ngL (G := G) (x := x) (v := v) (t := t) (b := b) (p := p) (ip := ip) (r := r) (N := N) hN B X S hq (K := fun h => some h) N W 0 u (by omega) (by omega) (fun i hi => by rw [h1 i (by omega)]; rfl)
  refine ⟨f2, ?_, h2⟩
  simp only [fX5_noteGuessesByTooth, xh_O5, xh_O4, xh_O3, xh_O8, xh_g5_0, xh_g5_1, xh_g5_2, xh_g5_3, xh_g5_4, xh_g5_5, xh_g5_7, xh_g5_8, xh_g5_9, xh_g5_10, xh_g5_6, xh_g8_0, xh_g8_1, xh_g4_0, xh_g4_1, xh_g4_2, xh_g4_3, xh_g4_4, xh_g4_5, xh_g3_0, xh_g3_1, xh_g3_2, xh_p5_2, xh_p5_3, xh_p8_1, xh_p5_6, xh_p5_10, xh_p4_1, xh_p4_2, xh_p4_3, xh_p4_4, xh_p4_5, xh_p3_2, xh_rd2, xh_wr2, xh_rd4, xh_wr4, xh_rd5, xh_wr5, xh_rd15, xh_wr15, xh_len15, xh_rd16, xh_wr16, xh_len16, xh_rd17, xh_wr17, xh_len17, xh_rdA, xh_rdP, xh_wrA, xh_wrP, Option.bind_some, Option.bind_none, ↓reduceIte, if_true, if_false, e1]
  exact e2
theorem x_lookL (hN : 2000 ≤ N) (B : okB R W P T C) (X : BXX x G b R W P T C) {q all : Nat} {V : Nat → Nat} (hq : q < R) (hall : all < 2 ^ 30) (hV : ∀ i, V i ≤ all) (h16 : ∀ i, i < T q → r 16 i = nI (V i)) {α : Type} {K : Hp → Int32 → Option α} : ∀ (n d j : Nat), j + d = T q → d < n → fX5_look_L33 N K n (xH G x v t b p ip r) (some x) (nI q) (nI all) (nI (selL all V j).2) (selL all V j).1 (nI j) = K (xH G x v t b p ip r) (selL all V (T q)).1 := by
  have hT := B.2.2.2.1 q hq
  have X' := X.at (xh_dy (G := G) (x := x) (v := v) (t := t) (b := b) (p := p) (ip := ip) (r := r))
  intro n
  induction n with
  | zero => intro d j _ h; omega
  | succ n ih =>
    intro d j hj hd
    rw [fX5_look_L33]
    simp only [xh_O5, xh_O4, xh_O3, xh_O8, xh_g5_0, xh_g5_1, xh_g5_2, xh_g5_3, xh_g5_4, xh_g5_5, xh_g5_7, xh_g5_8, xh_g5_9, xh_g5_10, xh_g5_6, xh_g8_0, xh_g8_1, xh_g4_0, xh_g4_1, xh_g4_2, xh_g4_3, xh_g4_4, xh_g4_5, xh_g3_0, xh_g3_1, xh_g3_2, xh_p5_2, xh_p5_3, xh_p8_1, xh_p5_6, xh_p5_10, xh_p4_1, xh_p4_2, xh_p4_3, xh_p4_4, xh_p4_5, xh_p3_2, xh_rd2, xh_wr2, xh_rd4, xh_wr4, xh_rd5, xh_wr5, xh_rd15, xh_wr15, xh_len15, xh_rd16, xh_wr16, xh_len16, xh_rd17, xh_wr17, xh_len17, xh_rdA, xh_rdP, xh_wrA, xh_wrP, Option.bind_some, Option.bind_none, ↓reduceIte, if_true, if_false, isO_eq X'.1, x_teethOf X' B hq]
    cases d with
    | zero =>
      have : j = T q := by omega
      subst this
      rw [if_pos (nI_le (by omega) (by omega))]
    | succ d =>
      have ih' := ih d (j + 1) (by omega) (by omega)
      have hv := hV j
      have hs := selL_le all V j
      rw [if_neg (nI_ge (by omega) (by omega)), if_neg (nI_ge (by omega) (by omega))]
      simp (disch := omega) only [xh_O5, xh_O4, xh_O3, xh_O8, xh_g5_0, xh_g5_1, xh_g5_2, xh_g5_3, xh_g5_4, xh_g5_5, xh_g5_7, xh_g5_8, xh_g5_9, xh_g5_10, xh_g5_6, xh_g8_0, xh_g8_1, xh_g4_0, xh_g4_1, xh_g4_2, xh_g4_3, xh_g4_4, xh_g4_5, xh_g3_0, xh_g3_1, xh_g3_2, xh_p5_2, xh_p5_3, xh_p8_1, xh_p5_6, xh_p5_10, xh_p4_1, xh_p4_2, xh_p4_3, xh_p4_4, xh_p4_5, xh_p3_2, xh_rd2, xh_wr2, xh_rd4, xh_wr4, xh_rd5, xh_wr5, xh_rd15, xh_wr15, xh_len15, xh_rd16, xh_wr16, xh_len16, xh_rd17, xh_wr17, xh_len17, xh_rdA, xh_rdP, xh_wrA, xh_wrP, Option.bind_some, Option.bind_none, ↓reduceIte, if_true, if_false, h16 j (by omega), pk_sub hv, jmax_nI, nI_1]
      have es : selL all V (j + 1) = if max (V j) (all - V j) < (selL all V j).2 then (nI j, max (V j) (all - V j)) else selL all V j := rfl
      by_cases c : max (V j) (all - V j) < (selL all V j).2
      · rw [es, if_pos c] at ih'
        rw [if_neg (nI_ge c (by omega))]
        exact ih'
      · rw [es, if_neg c] at ih'
        rw [if_pos (nI_le (by omega) (by omega))]
        exact ih'
theorem x_look (hN : 2000 ≤ N) (B : okB R W P T C) (X : BXX x G b R W P T C) (S : xS v r sn tt tp) {q : Nat} (hq : q < R) : ∃ f', fX5_look N (xH G x v t b p ip r) (some x) (nI q) = some ((selL (lkA T C q W tt tp sn) (lkV T C q W tt tp sn) (T q)).1, xH G x v t b p ip (ua r 16 f')) := by
  have hW := B.2.1
  have hT := B.2.2.2.1 q hq
  have X' := X.at (xh_dy (G := G) (x := x) (v := v) (t := t) (b := b) (p := p) (ip := ip) (r := r))
  obtain ⟨f1, e1, h1⟩ := x_noteGuesses (G := G) (x := x) (v := v) (t := t) (b := b) (p := p) (ip := ip) (r := r) (N := N) hN B X S hq
  have e0 := x_guesses (G := G) (x := x) (v := v) (t := t) (b := b) (p := p) (ip := ip) (r := r) (N := N) hN B X S hq
  have hA : lkA T C q W tt tp sn ≤ 120 * W := sumN_le (fun w => Nat.le_trans (cnt_le _ _) (by omega)) W
  have e2 := x_lookL (G := G) (x := x) (v := v) (t := t) (b := b) (p := p) (ip := ip) (r := ua r 16 f1) (N := N) hN B X (q := q) (all := lkA T C q W tt tp sn) (V := lkV T C q W tt tp sn) hq (by omega) (fun i => lkV_le) (by rw [ua_s]; exact h1) (K := fun h l4 => some (l4, h)) N (T q) 0 (by omega) (by omega)
  refine ⟨f1, ?_⟩
  simp only [fX5_look, xh_O5, xh_O4, xh_O3, xh_O8, xh_g5_0, xh_g5_1, xh_g5_2, xh_g5_3, xh_g5_4, xh_g5_5, xh_g5_7, xh_g5_8, xh_g5_9, xh_g5_10, xh_g5_6, xh_g8_0, xh_g8_1, xh_g4_0, xh_g4_1, xh_g4_2, xh_g4_3, xh_g4_4, xh_g4_5, xh_g3_0, xh_g3_1, xh_g3_2, xh_p5_2, xh_p5_3, xh_p8_1, xh_p5_6, xh_p5_10, xh_p4_1, xh_p4_2, xh_p4_3, xh_p4_4, xh_p4_5, xh_p3_2, xh_rd2, xh_wr2, xh_rd4, xh_wr4, xh_rd5, xh_wr5, xh_rd15, xh_wr15, xh_len15, xh_rd16, xh_wr16, xh_len16, xh_rd17, xh_wr17, xh_len17, xh_rdA, xh_rdP, xh_wrA, xh_wrP, Option.bind_some, Option.bind_none, ↓reduceIte, if_true, if_false, isO_eq X'.1, x_hasRing_y X' B hq, e0, e1]
  rw [if_neg (by decide)]
  exact e2
end XI
