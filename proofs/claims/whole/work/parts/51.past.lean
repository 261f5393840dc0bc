section PAST
variable {G : Hp} {x : Nat} {v : Nat → Int32} {t : Int64} {b p : Nat} {ip : Nat → Option Nat} {r : Nat → Nat → Int32} {N U : Nat}
theorem xh_isO {q c : Nat} (d : dy x q) : isO (xH G x v t b p ip r) (some q) c = isO G (some q) c := by
  unfold isO
  dsimp only
  rw [xh_dy q d]
theorem opP.lay {o : Option Nat} (h : opP x G o) : o = none ∨ isO (xH G x v t b p ip r) o (3 - 1) = true := by
  rcases h with h | ⟨q, rfl, d, e⟩
  · exact Or.inl h
  · exact Or.inr ((xh_isO d).trans e)
theorem upd_uu {f : Nat → Int32} {k : Nat} {y z : Int32} : upd (upd f k y) k z = upd f k z := by
  funext q
  by_cases c : q = k
  · subst c; rw [pk_us, pk_us]
  · rw [pk_un c, pk_un c, pk_un c]
/-- the oldest lost, as far as i -/
def lip (ip : Nat → Option Nat) (i : Nat) : Nat → Option Nat := fun k => if 2 ≤ k ∧ k < i + 1 then ip (k + 1) else ip k
theorem lip_1 : lip ip 1 = ip := by
  funext k
  unfold lip
  rw [if_neg (by omega)]
theorem lip_s {i : Nat} (hi : 1 ≤ i) : va_up (lip ip i) (i - 1 + 2) (ip (i + 2)) = lip ip (i + 1) := by
  funext k
  unfold va_up lip
  by_cases c : k = i - 1 + 2
  · rw [if_pos c, if_pos (by omega), show k + 1 = i + 2 by omega]
  · rw [if_neg c]
    by_cases d : 2 ≤ k ∧ k < i + 1
    · rw [if_pos d, if_pos (by omega)]
    · rw [if_neg d, if_neg (by omega)]
theorem x_losesL (hO : ∀ j, j < 10 → opP x G (ip (j + 2))) {α : Type} {K : Hp → Option Nat → Option α} : ∀ (n d i : Nat), 1 ≤ i → i + d = 10 → d < n → fX8_losesOldest_L2 N K n (xH G x v t b p (lip ip i) r) (some (x + 13)) (nI i) = K (xH G x v t b p (lip ip 10) r) (some (x + 13)) := by
  intro n
  induction n with
  | zero => intro d i _ _ h; omega
  | succ n ih =>
    intro d i h1 hi hd
    rw [fX8_losesOldest_L2]
    cases d with
    | zero =>
      have : i = 10 := by omega
      subst this
      exact if_pos (nI_le (a := 10) (by omega) (by omega))
    | succ d =>
      have e1 : nI i - 1 = nI (i - 1) := pk_sub (a := i) (b := 1) h1
      have e2 : lip ip i (i + 2) = ip (i + 2) := by unfold lip; rw [if_neg (by omega)]
      rw [if_neg (show ¬ (10 : Int32) ≤ nI i from nI_ge (a := i) (b := 10) (by omega) (by omega))]
      simp (disch := omega) only [xh_g8_0, xh_rdP, Option.bind_some, Option.bind_none, ↓reduceIte, if_true, if_false, e1, e2]
      rw [xh_wrP (j := i - 1) (by omega) ((hO i (by omega)).lay), lip_s h1]
      simp only [Option.bind_some, Option.bind_none, ↓reduceIte, if_true, if_false, nI_1]
      exact ih d (i + 1) (by omega) (by omega) (by omega)
/-- the row behind a change -/
def cip (ip : Nat → Option Nat) (U p : Nat) : Nat → Option Nat := if U < 10 then va_up ip (U + 2) (some p) else va_up (lip ip 10) 11 (some p)
theorem cip_i {q k : Nat} (hk : k < 2) : cip ip U q k = ip k := by
  unfold cip
  by_cases c : U < 10
  · rw [if_pos c]
    unfold va_up
    rw [if_neg (by omega)]
  · rw [if_neg c]
    unfold va_up lip
    rw [if_neg (by omega), if_neg (by omega)]
theorem x_adds (hN : 2000 ≤ N) {q : Nat} (hU : U ≤ 10) (hv : v 0 = nI U) (hq : dy x q ∧ isO G (some q) 2 = true) (hO : ∀ j, j < 10 → opP x G (ip (j + 2))) : fX8_adds N (xH G x v t b p ip r) (some (x + 13)) (some q) = some (xH G x (upd v 0 (nI (min (U + 1) 10))) t b p (cip ip U q) r) := by
  have hQ : opP x G (some q) := Or.inr ⟨q, rfl, hq⟩
  by_cases c : U < 10
  · have e1 : (nI U < (10 : Int32)) = True := eq_true (nI_lt (b := 10) c (by omega))
    have e2 : cip ip U q = va_up ip (U + 2) (some q) := if_pos c
    simp only [fX8_adds, fX8_adds_j13, xh_g8_0, xh_g8_1, hv, Option.bind_some, Option.bind_none, ↓reduceIte, if_true, if_false, e1]
    rw [xh_wrP c hQ.lay]
    simp only [Option.bind_some, Option.bind_none, ↓reduceIte, if_true, if_false, xh_g8_1, hv, xh_p8_1, nI_1]
    rw [e2, Nat.min_eq_left (by omega)]
  · have e0 : U = 10 := by omega
    subst e0
    have e1 : (nI 10 < (10 : Int32)) = False := eq_false (by decide)
    have e2 : cip ip 10 q = va_up (lip ip 10) (9 + 2) (some q) := if_neg (by omega)
    have eL := x_losesL (N := N) (G := G) (x := x) (v := v) (t := t) (b := b) (p := p) (ip := ip) (r := r) hO (K := fun h l0 => (pV h l0 8 1 (.int (9 : Int32))).bind fun h31 => some h31) N 9 1 (by omega) (by omega) (by omega)
    rw [lip_1] at eL
    have e3 : fX8_losesOldest N (xH G x v t b p ip r) (some (x + 13)) = some (xH G x (upd v 0 9) t b p (lip ip 10) r) := by
      rw [fX8_losesOldest, i_1, eL]
      simp only [xh_p8_1, Option.bind_some, Option.bind_none, ↓reduceIte, if_true, if_false]
    simp only [fX8_adds, fX8_adds_j13, xh_g8_1, hv, Option.bind_some, Option.bind_none, ↓reduceIte, if_true, if_false, e1, xh_O8, e3, xh_g8_0, pk_us]
    rw [i_9, xh_wrP (j := 9) (by omega) hQ.lay]
    simp only [Option.bind_some, Option.bind_none, ↓reduceIte, if_true, if_false, xh_g8_1, xh_p8_1, pk_us, upd_uu, nI_1]
    rw [e2]
    rfl
theorem x_takes0 (hv : v 0 = nI 0) : fX8_takesLatest N (xH G x v t b p ip r) (some (x + 13)) = some (none, xH G x v t b p ip r) := by
  have e1 : ((0 : Int32) < nI 0) = False := eq_false (by decide)
  simp only [fX8_takesLatest, xh_g8_1, hv, Option.bind_some, Option.bind_none, ↓reduceIte, if_true, if_false, e1]
theorem x_takes {V : Nat} (hV : V < 10) (hv : v 0 = nI (V + 1)) : fX8_takesLatest N (xH G x v t b p ip r) (some (x + 13)) = some (ip (V + 2), xH G x (upd v 0 (nI V)) t b p (va_up ip (V + 2) none) r) := by
  have e1 : ((0 : Int32) < nI (V + 1)) = True := eq_true (nI_lt (a := 0) (by omega) (by omega))
  have e2 : nI (V + 1) - 1 = nI V := pk_sub (a := V + 1) (b := 1) (by omega)
  simp (disch := first | omega | exact Or.inl rfl) only [fX8_takesLatest, xh_g8_1, xh_g8_0, hv, Option.bind_some, Option.bind_none, ↓reduceIte, if_true, if_false, e1, e2, xh_p8_1, pk_us, xh_rdP, xh_wrP]
/-- emptied, as far as i -/
def eip (ip : Nat → Option Nat) (i : Nat) : Nat → Option Nat := fun k => if 2 ≤ k ∧ k < i + 2 then none else ip k
theorem x_emptL {α : Type} {K : Hp → Option Nat → Option α} : ∀ (n d i : Nat), i + d = 10 → d < n → fX8_empties_L2 N K n (xH G x v t b p (eip ip i) r) (some (x + 13)) (nI i) = K (xH G x v t b p (eip ip 10) r) (some (x + 13)) := by
  intro n
  induction n with
  | zero => intro d i _ h; omega
  | succ n ih =>
    intro d i hi hd
    rw [fX8_empties_L2]
    cases d with
    | zero =>
      have : i = 10 := by omega
      subst this
      exact if_pos (nI_le (a := 10) (by omega) (by omega))
    | succ d =>
      have e1 : va_up (eip ip i) (i + 2) none = eip ip (i + 1) := by
        funext k
        unfold va_up eip
        by_cases c : k = i + 2
        · rw [if_pos c, if_pos (by omega)]
        · rw [if_neg c]
          by_cases d : 2 ≤ k ∧ k < i + 2
          · rw [if_pos d, if_pos (by omega)]
          · rw [if_neg d, if_neg (by omega)]
      rw [if_neg (show ¬ (10 : Int32) ≤ nI i from nI_ge (a := i) (b := 10) (by omega) (by omega))]
      simp only [xh_g8_0, Option.bind_some, Option.bind_none, ↓reduceIte, if_true, if_false]
      rw [xh_wrP (j := i) (by omega) (Or.inl rfl), e1]
      simp only [Option.bind_some, Option.bind_none, ↓reduceIte, if_true, if_false, nI_1]
      exact ih d (i + 1) (by omega) (by omega)
theorem x_empties (hN : 2000 ≤ N) : fX8_empties N (xH G x v t b p ip r) (some (x + 13)) = some (xH G x (upd v 0 0) t b p (eip ip 10) r) := by
  have e0 : eip ip 0 = ip := by
    funext k
    unfold eip
    rw [if_neg (by omega)]
  have eL := x_emptL (N := N) (G := G) (x := x) (v := v) (t := t) (b := b) (p := p) (ip := ip) (r := r) (K := fun h l0 => (pV h l0 8 1 (.int (0 : Int32))).bind fun h23 => some h23) N 10 0 (by omega) (by omega)
  rw [e0] at eL
  rw [fX8_empties, i_0, ← i_0]
  refine eL.trans ?_
  simp only [xh_p8_1, Option.bind_some, Option.bind_none, ↓reduceIte, if_true, if_false]
/-- a row copied, as far as i -/
def cpr (w u : Nat → Option Nat) (i : Nat) : Nat → Option Nat := fun j => if j < i then w j else u j
theorem cpr_s {w u : Nat → Option Nat} {i : Nat} : va_up (cpr w u i) i (w i) = cpr w u (i + 1) := by
  funext j
  unfold va_up cpr
  by_cases c : j = i
  · rw [if_pos c, if_pos (by omega), c]
  · rw [if_neg c]
    by_cases d : j < i
    · rw [if_pos d, if_pos (by omega)]
    · rw [if_neg d, if_neg (by omega)]
theorem x_becL {E : (Nat → Option Nat) → Hp} {l0 l1 ta sa : Nat} {w u : Nat → Option Nat} (h0 : ∀ u, gA (E u) (some l0) 8 0 = some (some ta)) (h1 : ∀ u, gA (E u) (some l1) 8 0 = some (some sa)) (h2 : ∀ u j, j < 10 → rA (E u) (some sa) 3 (nI j) = some (w j)) (h3 : ∀ u j, j < 10 → wA (E u) (some ta) 3 (nI j) (w j) = some (E (va_up u j (w j)))) {α : Type} {K : Hp → Option Nat → Option Nat → Option α} : ∀ (n d i : Nat), i + d = 10 → d < n → fX8_becomes_L2 N K n (E (cpr w u i)) (some l0) (some l1) (nI i) = K (E (cpr w u 10)) (some l0) (some l1) := by
  intro n
  induction n with
  | zero => intro d i _ h; omega
  | succ n ih =>
    intro d i hi hd
    rw [fX8_becomes_L2]
    cases d with
    | zero =>
      have : i = 10 := by omega
      subst this
      exact if_pos (nI_le (a := 10) (by omega) (by omega))
    | succ d =>
      rw [if_neg (show ¬ (10 : Int32) ≤ nI i from nI_ge (a := i) (b := 10) (by omega) (by omega))]
      simp only [h0, h1, Option.bind_some, Option.bind_none, ↓reduceIte, if_true, if_false]
      rw [h2 _ i (by omega)]
      simp only [Option.bind_some, Option.bind_none, ↓reduceIte, if_true, if_false]
      rw [h3 _ i (by omega), cpr_s]
      simp only [Option.bind_some, Option.bind_none, ↓reduceIte, if_true, if_false, nI_1]
      exact ih d (i + 1) (by omega) (by omega)
/-- the row behind what was kept -/
def bip (ip w : Nat → Option Nat) : Nat → Option Nat := fun k => if k < 2 then ip k else if k < 12 then w (k - 2) else ip k
theorem x_becomes (hN : 2000 ≤ N) {ps pa : Nat} {w : Nat → Option Nat} (dp : dy x ps) (hp : G ps = some (oO 8 [.ref pa, .int (nI U)])) (da : dy x pa) (ha : G pa = some (oA 3 10 w)) (hO : ∀ j, j < 10 → opP x G (w j)) : fX8_becomes N (xH G x v t b p ip r) (some (x + 13)) (some ps) = some (xH G x (upd v 0 (nI U)) t b p (bip ip w) r) := by
  have hp' (v : Nat → Int32) (ip : Nat → Option Nat) : xH G x v t b p ip r ps = some (oO 8 [.ref pa, .int (nI U)]) := by rw [xh_dy ps dp]; exact hp
  have ha' (ip : Nat → Option Nat) : xH G x v t b p ip r pa = some (oA 3 10 w) := by rw [xh_dy pa da]; exact ha
  have eL := x_becL (N := N) (E := fun u => xH G x v t b p (fun k => if k < 2 then ip k else u (k - 2)) r) (l0 := x + 13) (l1 := ps) (ta := x + 14) (sa := pa) (w := w) (u := fun j => ip (j + 2)) (fun u => xh_g8_0) (fun u => gA_eq (v := some pa) (hp' _ _) rfl) (fun u j hj => rA_eq (ha' _) hj (by omega)) (fun u j hj => by
    rw [xh_wrP hj ((hO j hj).lay)]
    refine congrArg (fun z => some (xH G x v t b p z r)) ?_
    funext k
    unfold va_up
    dsimp only
    by_cases c : k < 2
    · rw [if_neg (by omega), if_pos c, if_pos c]
    · rw [if_neg c, if_neg c]
      by_cases d : k = j + 2
      · rw [if_pos d, if_pos (by omega)]
      · rw [if_neg d, if_neg (by omega)]) (K := fun h l0 l1 => (gI h l1 8 1).bind fun v28 => (pV h l0 8 1 (.int v28)).bind fun h31 => some h31) N 10 0 (by omega) (by omega)
  have e0 : (fun k => if k < 2 then ip k else cpr w (fun j => ip (j + 2)) 0 (k - 2)) = ip := by
    funext k
    unfold cpr
    by_cases c : k < 2
    · rw [if_pos c]
    · rw [if_neg c, if_neg (by omega)]
      exact congrArg ip (show k - 2 + 2 = k by omega)
  have e1 : (fun k => if k < 2 then ip k else cpr w (fun j => ip (j + 2)) 10 (k - 2)) = bip ip w := by
    funext k
    unfold cpr bip
    by_cases c : k < 2
    · rw [if_pos c, if_pos c]
    · rw [if_neg c, if_neg c]
      by_cases d : k < 12
      · rw [if_pos (by omega), if_pos d]
      · rw [if_neg (by omega), if_neg d]
        exact congrArg ip (show k - 2 + 2 = k by omega)
  rw [e0, e1] at eL
  rw [fX8_becomes]
  refine eL.trans ?_
  rw [gI_eq (hp' _ _) (j := 1) (v := nI U) rfl]
  simp only [Option.bind_some, Option.bind_none, ↓reduceIte, if_true, if_false, xh_p8_1]
end PAST
