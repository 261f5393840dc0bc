theorem upd_upd (f : Nat → Int32) (k : Nat) (y z : Int32) : upd (upd f k y) k z = upd f k z := by
  funext q
  by_cases c : q = k
  · subst c; rw [pk_us, pk_us]
  · rw [pk_un c, pk_un c, pk_un c]
theorem upd_id (f : Nat → Int32) (k : Nat) : upd f k (f k) = f := by
  funext q
  by_cases c : q = k
  · subst c; rw [pk_us]
  · rw [pk_un c]
/-! the text, read: bytes tb, so many L -/
def bln (tb : Nat → Nat) (i : Nat) : Bool := decide (tb i = 32)
def ltr (tb : Nat → Nat) (i : Nat) : Bool := decide (97 ≤ tb i ∧ tb i ≤ 122)
def dgt (tb : Nat → Nat) (i : Nat) : Bool := decide (48 ≤ tb i ∧ tb i ≤ 57)
def rnF (f : Nat → Bool) (L : Nat) : Nat → Nat → Nat
  | 0, p => p
  | d + 1, p => if p < L ∧ f p = true then rnF f L d (p + 1) else p
/-- the end of a run -/
def rn (f : Nat → Bool) (L p : Nat) : Nat := rnF f L (L - p) p
theorem rn_step {f : Nat → Bool} {L p : Nat} (h : p < L) (hf : f p = true) : rn f L p = rn f L (p + 1) := by
  unfold rn
  obtain ⟨d, hd⟩ : ∃ d, L - p = d + 1 := ⟨L - p - 1, by omega⟩
  have hd2 : L - (p + 1) = d := by omega
  rw [hd, hd2]
  exact if_pos ⟨h, hf⟩
theorem rn_stop {f : Nat → Bool} {L p : Nat} (h : ¬ (p < L ∧ f p = true)) : rn f L p = p := by
  unfold rn
  cases L - p with
  | zero => rfl
  | succ d => exact if_neg h
theorem rn_all (f : Nat → Bool) (L : Nat) : ∀ (d p : Nat), L - p ≤ d → p ≤ L → p ≤ rn f L p ∧ rn f L p ≤ L ∧ (∀ q, p ≤ q → q < rn f L p → f q = true) ∧ ¬ (rn f L p < L ∧ f (rn f L p) = true) := by
  intro d
  induction d with
  | zero =>
    intro p h1 h2
    have e : p = L := by omega
    have es : rn f L p = p := rn_stop (by omega)
    rw [es]
    exact ⟨by omega, by omega, fun q a b => by omega, by omega⟩
  | succ d ih =>
    intro p h1 h2
    by_cases c : p < L ∧ f p = true
    · rw [rn_step c.1 c.2]
      obtain ⟨i1, i2, i3, i4⟩ := ih (p + 1) (by omega) (by omega)
      refine ⟨by omega, i2, fun q a b => ?_, i4⟩
      by_cases e : q = p
      · rw [e]; exact c.2
      · exact i3 q (by omega) b
    · rw [rn_stop c]
      exact ⟨by omega, h2, fun q a b => by omega, c⟩
theorem rn_ge {f : Nat → Bool} {L p : Nat} (h : p ≤ L) : p ≤ rn f L p := (rn_all f L _ p (Nat.le_refl _) h).1
theorem rn_le {f : Nat → Bool} {L p : Nat} (h : p ≤ L) : rn f L p ≤ L := (rn_all f L _ p (Nat.le_refl _) h).2.1
theorem rn_mid {f : Nat → Bool} {L p q : Nat} (h : p ≤ L) (h1 : p ≤ q) (h2 : q < rn f L p) : f q = true := (rn_all f L _ p (Nat.le_refl _) h).2.2.1 q h1 h2
theorem rn_end {f : Nat → Bool} {L p : Nat} (h : p ≤ L) : ¬ (rn f L p < L ∧ f (rn f L p) = true) := (rn_all f L _ p (Nat.le_refl _) h).2.2.2
theorem rn_one {f : Nat → Bool} {L p : Nat} (h : p < L) (hf : f p = true) : rn f L p - p = 1 ↔ ¬ (p + 1 < L ∧ f (p + 1) = true) := by
  rw [rn_step h hf]
  by_cases c : p + 1 < L ∧ f (p + 1) = true
  · have := rn_ge (f := f) (L := L) (p := p + 1 + 1) (by omega)
    rw [rn_step c.1 c.2]
    exact ⟨fun z => by omega, fun z => absurd c z⟩
  · rw [rn_stop c]
    exact ⟨fun _ => c, fun _ => by omega⟩
/-- what so many digits say, as the class reads them, and as the reference does -/
def vC (tb : Nat → Nat) (p : Nat) : Nat → Nat
  | 0 => 0
  | k + 1 => min (10 * vC tb p k + (tb (p + k) - 48)) 1000
def vR (tb : Nat → Nat) (p : Nat) : Nat → Nat
  | 0 => 0
  | k + 1 => if k < 3 then 10 * vR tb p k + (tb (p + k) - 48) else vR tb p k
theorem vC_le (tb : Nat → Nat) (p k : Nat) : vC tb p k ≤ 1000 := by
  cases k with
  | zero => exact Nat.zero_le _
  | succ k => exact Nat.min_le_right _ _
theorem vR_le (tb : Nat → Nat) (p : Nat) (hd : ∀ k, k < 3 → tb (p + k) ≤ 255) : ∀ k, vR tb p k ≤ 100000 := by
  have h0 : tb p ≤ 255 := hd 0 (by omega)
  have h1 := hd 1 (by omega)
  have h2 := hd 2 (by omega)
  have e3 : vR tb p 3 ≤ 100000 := by simp only [vR]; simp; omega
  intro k
  match k with
  | 0 => simp only [vR]; omega
  | 1 => simp only [vR]; simp; omega
  | 2 => simp only [vR]; simp; omega
  | k + 3 =>
    induction k with
    | zero => exact e3
    | succ k ih =>
      have : vR tb p (k + 3 + 1) = vR tb p (k + 3) := if_neg (by omega)
      exact this ▸ ih
theorem v_small {tb : Nat → Nat} {p n : Nat} (hn : n ≤ 3) (hd : ∀ k, k < n → 48 ≤ tb (p + k) ∧ tb (p + k) ≤ 57) : vC tb p n = vR tb p n ∧ vR tb p n ≤ 999 := by
  have h0 : 0 < n → 48 ≤ tb (p + 0) ∧ tb (p + 0) ≤ 57 := fun z => hd 0 z
  have h1 : 1 < n → 48 ≤ tb (p + 1) ∧ tb (p + 1) ≤ 57 := fun z => hd 1 z
  have h2 : 2 < n → 48 ≤ tb (p + 2) ∧ tb (p + 2) ≤ 57 := fun z => hd 2 z
  have hc : n = 0 ∨ n = 1 ∨ n = 2 ∨ n = 3 := by omega
  rcases hc with rfl | rfl | rfl | rfl
  · exact ⟨rfl, Nat.zero_le _⟩
  · have := h0 (by omega)
    simp only [vC, vR, Nat.lt_irrefl, show (0 : Nat) < 3 by omega, if_true]
    omega
  · have := h0 (by omega)
    have := h1 (by omega)
    simp only [vC, vR, show (0 : Nat) < 3 by omega, show (1 : Nat) < 3 by omega, if_true]
    omega
  · have := h0 (by omega)
    have := h1 (by omega)
    have := h2 (by omega)
    simp only [vC, vR, show (0 : Nat) < 3 by omega, show (1 : Nat) < 3 by omega, show (2 : Nat) < 3 by omega, if_true]
    omega
theorem v_large {tb : Nat → Nat} {p : Nat} : ∀ (k : Nat), (∀ j, j < k + 4 → 48 ≤ tb (p + j) ∧ tb (p + j) ≤ 57) → tb p ≠ 48 → vC tb p (k + 4) = 1000 := by
  intro k
  induction k with
  | zero =>
    intro hd hp
    have h0 := hd 0 (by omega)
    have h1 := hd 1 (by omega)
    have h2 := hd 2 (by omega)
    have h3 := hd 3 (by omega)
    simp only [Nat.add_zero] at h0
    simp only [vC, Nat.add_zero]
    omega
  | succ k ih =>
    intro hd hp
    have := ih (fun j hj => hd j (by omega)) hp
    show min (10 * vC tb p (k + 4) + (tb (p + (k + 4)) - 48)) 1000 = 1000
    rw [this]
    omega
/-- a NUMBER stands there -/
def nOk (tb : Nat → Nat) (L q : Nat) : Prop := 1 ≤ rn (dgt tb) L q - q ∧ rn (dgt tb) L q - q ≤ 3 ∧ ¬ (1 < rn (dgt tb) L q - q ∧ tb q = 48)
def nV (tb : Nat → Nat) (L q : Nat) : Nat := vR tb q (rn (dgt tb) L q - q)
theorem dgt_iff {tb : Nat → Nat} {i : Nat} : dgt tb i = true ↔ 48 ≤ tb i ∧ tb i ≤ 57 := by unfold dgt; exact decide_eq_true_iff
theorem ltr_iff {tb : Nat → Nat} {i : Nat} : ltr tb i = true ↔ 97 ≤ tb i ∧ tb i ≤ 122 := by unfold ltr; exact decide_eq_true_iff
theorem bln_iff {tb : Nat → Nat} {i : Nat} : bln tb i = true ↔ tb i = 32 := by unfold bln; exact decide_eq_true_iff
theorem num_y {tb : Nat → Nat} {L q : Nat} (hq : q ≤ L) (h : nOk tb L q) : vC tb q (rn (dgt tb) L q - q) = nV tb L q ∧ nV tb L q ≤ 999 ∧ ¬ (tb q = 48 ∧ 1 < rn (dgt tb) L q - q) := by
  have hd : ∀ k, k < rn (dgt tb) L q - q → 48 ≤ tb (q + k) ∧ tb (q + k) ≤ 57 := fun k hk => dgt_iff.mp (rn_mid hq (by omega) (by omega))
  have := v_small h.2.1 hd
  exact ⟨this.1, this.2, fun z => h.2.2 ⟨z.2, z.1⟩⟩
theorem num_n {tb : Nat → Nat} {L q : Nat} (hq : q < L) (h1 : dgt tb q = true) (h : ¬ nOk tb L q) : (tb q = 48 ∧ 1 < rn (dgt tb) L q - q) ∨ (¬ (tb q = 48 ∧ 1 < rn (dgt tb) L q - q) ∧ vC tb q (rn (dgt tb) L q - q) = 1000) := by
  have hd : ∀ k, k < rn (dgt tb) L q - q → 48 ≤ tb (q + k) ∧ tb (q + k) ≤ 57 := fun k hk => dgt_iff.mp (rn_mid (L := L) (p := q) (by omega) (by omega) (by omega))
  have hr : rn (dgt tb) L q = rn (dgt tb) L (q + 1) := rn_step hq h1
  have hg := rn_ge (f := dgt tb) (L := L) (p := q + 1) (by omega)
  by_cases c : tb q = 48 ∧ 1 < rn (dgt tb) L q - q
  · exact Or.inl c
  · refine Or.inr ⟨c, ?_⟩
    have h4 : 4 ≤ rn (dgt tb) L q - q := by
      unfold nOk at h
      omega
    obtain ⟨k, hk⟩ : ∃ k, rn (dgt tb) L q - q = k + 4 := ⟨rn (dgt tb) L q - q - 4, by omega⟩
    rw [hk] at hd ⊢
    exact v_large k hd (fun z => c ⟨z, by omega⟩)
theorem nOk_dgt {tb : Nat → Nat} {L q : Nat} (hq : q ≤ L) (h : nOk tb L q) : q < L ∧ dgt tb q = true := by
  by_cases c : q < L ∧ dgt tb q = true
  · exact c
  · have := rn_stop c
    unfold nOk at h
    omega
