theorem sumN_zero : ∀ (a : Nat), sumN (fun _ => 0) a = 0 := by
  intro a
  induction a with
  | zero => rfl
  | succ a ih => show sumN (fun _ => 0) a + 0 = 0; rw [ih]
theorem sumN_add {f h : Nat → Nat} : ∀ (a : Nat), sumN (fun i => f i + h i) a = sumN f a + sumN h a := by
  intro a
  induction a with
  | zero => rfl
  | succ a ih => show sumN (fun i => f i + h i) a + (f a + h a) = sumN f a + f a + (sumN h a + h a); rw [ih]; omega
theorem sumN_ite {p : Nat → Bool} : ∀ (a : Nat), sumN (fun i => if p i = true then 1 else 0) a = cnt p a := by
  intro a
  induction a with
  | zero => rfl
  | succ a ih => show sumN (fun i => if p i = true then 1 else 0) a + (if p a = true then 1 else 0) = cnt p a + (if p a = true then 1 else 0); rw [ih]
theorem sum_swap (q : Nat → Nat → Bool) (a n : Nat) : sumN (fun pt => cnt (fun i => q i pt) a) n = sumN (fun i => cnt (fun pt => q i pt) n) a := by
  induction n with
  | zero => exact (sumN_zero a).symm
  | succ n ih =>
    show sumN (fun pt => cnt (fun i => q i pt) a) n + cnt (fun i => q i n) a = sumN (fun i => cnt (fun pt => q i pt) n + (if q i n = true then 1 else 0)) a
    rw [sumN_add, sumN_ite, ih]
theorem cnt_or {p q : Nat → Bool} (h : ∀ i, p i = true → q i = true → False) : ∀ n, cnt (fun i => p i || q i) n = cnt p n + cnt q n := by
  intro n
  induction n with
  | zero => rfl
  | succ n ih =>
    show cnt (fun i => p i || q i) n + (if (p n || q n) = true then 1 else 0) = (cnt p n + (if p n = true then 1 else 0)) + (cnt q n + (if q n = true then 1 else 0))
    rw [ih]
    have := h n
    cases hp : p n <;> cases hq : q n <;> simp_all <;> omega
def hitB (e : Nat → Nat) : Nat → Nat → Bool
  | 0, _ => false
  | P + 1, j => hitB e P j || (e P == j)
theorem hitB_iff {e : Nat → Nat} {j : Nat} : ∀ {P : Nat}, hitB e P j = true ↔ ∃ q, q < P ∧ e q = j := by
  intro P
  induction P with
  | zero => exact ⟨fun h => (by cases h), fun ⟨q, h, _⟩ => (by omega)⟩
  | succ P ih =>
    show (hitB e P j || (e P == j)) = true ↔ _
    rw [Bool.or_eq_true, ih, beq_iff_eq]
    constructor
    · rintro (⟨q, h1, h2⟩ | h)
      · exact ⟨q, by omega, h2⟩
      · exact ⟨P, by omega, h⟩
    · rintro ⟨q, h1, h2⟩
      rcases Nat.lt_or_ge q P with d | d
      · exact Or.inl ⟨q, d, h2⟩
      · rw [show q = P by omega] at h2; exact Or.inr h2
theorem cnt_img {n : Nat} {e : Nat → Nat} {Z : Nat → Bool} : ∀ (P : Nat), (∀ q, q < P → e q < n) → (∀ q q', q < P → q' < P → e q = e q' → q = q') → cnt (fun j => hitB e P j && Z j) n = cnt (fun q => Z (e q)) P := by
  intro P
  induction P with
  | zero => intro _ _; exact cnt_none (fun i _ => by show ¬ (false && Z i) = true; simp)
  | succ P ih =>
    intro h1 h2
    have e1 : cnt (fun j => hitB e (P + 1) j && Z j) n = cnt (fun j => (hitB e P j && Z j) || (Z j && (e P == j))) n := cnt_congr (fun i _ => by
      show ((hitB e P i || (e P == i)) && Z i) = _
      cases hitB e P i <;> cases Z i <;> cases (e P == i) <;> rfl)
    rw [e1, cnt_or, ih (fun q hq => h1 q (by omega)) (fun q q' hq hq' => h2 q q' (by omega) (by omega)), cnt_one]
    · show _ = cnt (fun q => Z (e q)) P + (if Z (e P) = true then 1 else 0)
      by_cases c : Z (e P) = true
      · rw [if_pos ⟨h1 P (by omega), c⟩, if_pos c]
      · rw [if_neg (fun z => c z.2), if_neg c]
    · intro i hi hj
      simp only [Bool.and_eq_true, beq_iff_eq] at hi hj
      obtain ⟨q, q1, q2⟩ := hitB_iff.mp hi.1
      have := h2 q P (by omega) (by omega) (by rw [q2, hj.2])
      omega
theorem cnt_pts {gap P f : Nat} {Z : Nat → Bool} {D : Nat → Bool} (hg : 0 < gap) (h : gap * P = 360) (hD : ∀ pt, pt < 360 → (D pt = true ↔ (gap : Int) ∣ (pt : Int) - (f : Int))) : cnt (fun pt => D pt && Z pt) 360 = cnt (fun q => Z ((f + gap * q) % 360)) P := by
  rw [← cnt_img (n := 360) (e := fun q => (f + gap * q) % 360) P (fun q _ => Nat.mod_lt _ (by decide)) ?_]
  · refine cnt_congr (fun pt hp => ?_)
    have : D pt = hitB (fun q => (f + gap * q) % 360) P pt := by
      rw [Bool.eq_iff_iff, hD pt hp, pt_iff hg h hp, hitB_iff]
    rw [this]
  · intro q q' hq hq' he
    have h1 : gap * q < gap * P := Nat.mul_lt_mul_of_pos_left hq hg
    have h2 : gap * q' < gap * P := Nat.mul_lt_mul_of_pos_left hq' hg
    rw [h] at h1 h2
    refine Nat.eq_of_mul_eq_mul_left hg ?_
    omega
/-- a row that a turn leaves as it is -/
theorem sameR_iff {f : Nat → Int32} {s : Nat} : sameR f s = true ↔ ∀ k, f ((k + s) % 360) = f (k % 360) := by
  unfold sameR
  rw [allN_iff]
  constructor
  · intro h k
    have := h (k % 360) (Nat.mod_lt _ (by decide))
    rw [beq_iff_eq, Nat.mod_add_mod] at this
    exact this.symm
  · intro h pt hp
    have := h pt
    rw [Nat.mod_eq_of_lt hp] at this
    rw [beq_iff_eq]
    exact this.symm
theorem same_mul {f : Nat → Int32} {s : Nat} (h : sameR f s = true) (k : Nat) : sameR f (s * k) = true := by
  rw [sameR_iff] at h ⊢
  induction k with
  | zero => intro i; rfl
  | succ k ih =>
    intro i
    rw [Nat.mul_add, Nat.mul_one, ← Nat.add_assoc, h, ih]
theorem same_sub {f : Nat → Int32} {a b : Nat} (ha : sameR f a = true) (hb : sameR f b = true) (hle : b ≤ a) : sameR f (a - b) = true := by
  rw [sameR_iff] at ha hb ⊢
  intro k
  have h1 := hb (k + (a - b))
  rw [show k + (a - b) + b = k + a by omega, ha] at h1
  exact h1.symm
theorem same_gcd {f : Nat → Int32} : ∀ (a b : Nat), sameR f a = true → sameR f b = true → sameR f (Nat.gcd a b) = true := by
  intro a b
  induction a, b using Nat.gcd.induction with
  | H0 n => intro _ h; rw [Nat.gcd_zero_left]; exact h
  | H1 m n hm ih =>
    intro ha hb
    rw [Nat.gcd_rec]
    refine ih ?_ ha
    have h1 := Nat.div_add_mod n m
    have : n % m = n - m * (n / m) := by omega
    rw [this]
    exact same_sub hb (same_mul ha _) (by omega)
theorem likeR_spec (f : Nat → Int32) : 1 ≤ likeR f ∧ likeR f ∣ 360 ∧ sameR f (360 / likeR f) = true ∧ ∀ n, 1 ≤ n → n ∣ 360 → sameR f (360 / n) = true → n ≤ likeR f := by
  have h1 : ((360 % 1 == 0) && sameR f (360 / 1)) = true := by
    rw [show (360 : Nat) / 1 = 360 from rfl, sameR_360]; rfl
  obtain ⟨q1, q2, q3⟩ := findD_1 (p := fun n => (360 % n == 0) && sameR f (360 / n)) h1 360 (by omega)
  have e : findD (fun n => (360 % n == 0) && sameR f (360 / n)) 360 = likeR f := rfl
  rw [e] at q1 q2 q3
  simp only [Bool.and_eq_true, beq_iff_eq] at q2
  refine ⟨q1, Nat.dvd_of_mod_eq_zero q2.1, q2.2, fun n hn hd hs => q3 n (Nat.le_of_dvd (by decide) hd) ?_⟩
  simp only [Bool.and_eq_true, beq_iff_eq]
  exact ⟨Nat.mod_eq_zero_of_dvd hd, hs⟩
theorem likeR_dvd {f : Nat → Int32} {n : Nat} (hn : n ∣ 360) : sameR f (360 / n) = true ↔ n ∣ likeR f := by
  obtain ⟨l1, l2, l3, l4⟩ := likeR_spec f
  have hn0 : 0 < n := Nat.pos_of_dvd_of_pos hn (by decide)
  constructor
  · intro h
    have hs := same_gcd _ _ h l3
    have d1 : Nat.gcd (360 / n) (360 / likeR f) ∣ 360 / n := Nat.gcd_dvd_left _ _
    have d2 : Nat.gcd (360 / n) (360 / likeR f) ∣ 360 / likeR f := Nat.gcd_dvd_right _ _
    generalize Nat.gcd (360 / n) (360 / likeR f) = s at hs d1 d2
    obtain ⟨u, hu⟩ := d1
    obtain ⟨w, hw⟩ := d2
    have e1 : n * (s * u) = 360 := by rw [← hu]; exact Nat.mul_div_cancel' hn
    have e2 : likeR f * (s * w) = 360 := by rw [← hw]; exact Nat.mul_div_cancel' l2
    have s0 : 0 < s := by
      rcases Nat.eq_zero_or_pos s with c | c
      · subst c; simp at e1
      · exact c
    have e3 : 360 / s = n * u := by
      refine Nat.div_eq_of_eq_mul_left s0 ?_
      rw [← e1]; simp [Nat.mul_comm, Nat.mul_left_comm]
    have e4 : 360 / s = likeR f * w := by
      refine Nat.div_eq_of_eq_mul_left s0 ?_
      rw [← e2]; grind
    have sd : s ∣ 360 := ⟨n * u, by rw [← e1]; simp [Nat.mul_left_comm]⟩
    have e5 : 360 / (360 / s) = s := Nat.div_div_self sd (by decide)
    have p0 : 0 < 360 / s := Nat.div_pos (Nat.le_of_dvd (by decide) sd) s0
    have hle := l4 (360 / s) p0 (Nat.div_dvd_of_dvd sd) (by rw [e5]; exact hs)
    have e6 : 360 / s = likeR f := by
      have : likeR f ∣ 360 / s := ⟨w, e4⟩
      have := Nat.le_of_dvd p0 this
      omega
    exact ⟨u, by rw [← e6]; exact e3⟩
  · rintro ⟨k, hk⟩
    have h0 : 0 < k := by
      rcases Nat.eq_zero_or_pos k with c | c
      · subst c; omega
      · exact c
    have : 360 / n = 360 / likeR f * k := by
      obtain ⟨j, hj⟩ := l2
      have e1 : 360 / likeR f = j := by
        refine Nat.div_eq_of_eq_mul_right (by omega) hj
      rw [e1]
      refine Nat.div_eq_of_eq_mul_right hn0 ?_
      rw [hj, hk]; simp [Nat.mul_comm, Nat.mul_left_comm]
    rw [this]
    exact same_mul l3 k
theorem gL_iff {T C φ : Nat → Nat} {n : Nat} : ∀ (k : Nat), n ∣ gL T C φ k ↔ n ∣ 360 ∧ ∀ i, i < k → n ∣ likeR (penK T C φ (i + 1)) := by
  intro k
  induction k with
  | zero => exact ⟨fun h => ⟨h, fun i hi => by omega⟩, fun h => h.1⟩
  | succ k ih =>
    show n ∣ Nat.gcd (gL T C φ k) (likeR (penK T C φ (k + 1))) ↔ _
    rw [Nat.dvd_gcd_iff, ih]
    constructor
    · rintro ⟨⟨h1, h2⟩, h3⟩
      refine ⟨h1, fun i hi => ?_⟩
      rcases Nat.lt_or_ge i k with d | d
      · exact h2 i d
      · rw [show i = k by omega]; exact h3
    · rintro ⟨h1, h2⟩
      exact ⟨⟨h1, fun i hi => h2 i (by omega)⟩, h2 k (by omega)⟩
theorem symN_iff {T C φ : Nat → Nat} {s : Nat} : symN (picV T C φ) s = true ↔ ∀ i, i < 9 → sameR (penK T C φ (i + 1)) s = true := by
  have ev (pt i : Nat) (hi : i < 9) : picV T C φ (9 * pt + i) = penK T C φ (i + 1) pt := by
    unfold picV
    rw [show (9 * pt + i) % 9 = i by omega, show (9 * pt + i) / 9 = pt by omega]
  unfold symN sameR
  rw [allN_iff]
  constructor
  · intro h i hi
    rw [allN_iff]
    intro pt hp
    have := h pt hp
    rw [allN_iff] at this
    have := this i hi
    rw [ev pt i hi, ev _ i hi] at this
    exact this
  · intro h pt hp
    rw [allN_iff]
    intro i hi
    have := h i hi
    rw [allN_iff] at this
    have := this pt hp
    rw [ev pt i hi, ev _ i hi]
    exact this
theorem like_eq (T C φ : Nat → Nat) : findD (fun n => (360 % n == 0) && symN (picV T C φ) (360 / n)) 360 = gL T C φ 9 := by
  have key (n : Nat) : ((360 % n == 0) && symN (picV T C φ) (360 / n)) = true ↔ n ∣ gL T C φ 9 := by
    rw [gL_iff, Bool.and_eq_true, beq_iff_eq, symN_iff]
    constructor
    · rintro ⟨h1, h2⟩
      have hd := Nat.dvd_of_mod_eq_zero h1
      exact ⟨hd, fun i hi => (likeR_dvd hd).mp (h2 i hi)⟩
    · rintro ⟨hd, h2⟩
      exact ⟨Nat.mod_eq_zero_of_dvd hd, fun i hi => (likeR_dvd hd).mpr (h2 i hi)⟩
  have hd : gL T C φ 9 ∣ 360 := gL_dvd T C φ 9
  have h0 : 0 < gL T C φ 9 := Nat.pos_of_dvd_of_pos hd (by decide)
  obtain ⟨q1, q2, q3⟩ := findD_1 (p := fun n => (360 % n == 0) && symN (picV T C φ) (360 / n)) ((key 1).mpr (Nat.one_dvd _)) 360 (by omega)
  have h1 := Nat.le_of_dvd h0 ((key _).mp q2)
  have h2 := q3 (gL T C φ 9) (Nat.le_of_dvd (by decide) hd) ((key _).mpr (Nat.dvd_refl _))
  omega
