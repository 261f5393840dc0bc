/-- what a curve's object holds -/
def cvL (T C φ : Nat → Nat) (k : Nat) : List Value := [.int (nI (cF φ k 0)), .int (nI (cF φ k 1)), .int (nI (cF φ k 2)), .int (nI (cF φ k 3)), .int (nI (cF φ k 4)), .int (nI (cF φ k 5)), .int (nI (T (cF φ k 0) / Nat.gcd (T (cF φ k 0)) (C (cF φ k 1)))), .int (nI (C (cF φ k 1) / Nat.gcd (T (cF φ k 0)) (C (cF φ k 1)))), .int (nI (360 / (T (cF φ k 0) / Nat.gcd (T (cF φ k 0)) (C (cF φ k 1))))), .int (nI (360 / T (cF φ k 0) * cF φ k 3 + cF φ k 5))]
theorem gap_eq {T g : Nat} (h : T ∣ 360) (h1 : 12 ≤ T) (h2 : T ≤ 120) (hg : g ∣ T) : 360 / (T / g) = 360 / T * g ∧ 0 < 360 / T * g ∧ 360 / T * g * (T / g) = 360 ∧ 0 < T / g := by
  have hd := dv_360 h h1 h2
  obtain ⟨u, hu⟩ := hg
  have hg0 : 0 < g := by
    rcases Nat.eq_zero_or_pos g with c | c
    · subst c; simp at hu; omega
    · exact c
  have hu0 : 0 < u := by
    rcases Nat.eq_zero_or_pos u with c | c
    · subst c; simp at hu; omega
    · exact c
  have e : T / g = u := by rw [hu]; exact Nat.mul_div_cancel_left u hg0
  have e2 : 360 / T * g * u = 360 := by rw [Nat.mul_assoc, ← hu]; exact hd.2.2
  rw [e]
  refine ⟨?_, Nat.mul_pos (by omega) hg0, e2, hu0⟩
  calc 360 / u = 360 / T * g * u / u := by rw [e2]
    _ = 360 / T * g := Nat.mul_div_cancel _ hu0
section XB
variable {E : Hp} {c k N R W P : Nat} {T C φ : Nat → Nat}
theorem ok_nums (B : okB R W P T C) (O : okC R W P T C φ k) : 360 / (T (cF φ k 0) / Nat.gcd (T (cF φ k 0)) (C (cF φ k 1))) = 360 / T (cF φ k 0) * Nat.gcd (T (cF φ k 0)) (C (cF φ k 1)) ∧ 0 < 360 / T (cF φ k 0) * Nat.gcd (T (cF φ k 0)) (C (cF φ k 1)) ∧ 360 / T (cF φ k 0) * Nat.gcd (T (cF φ k 0)) (C (cF φ k 1)) * (T (cF φ k 0) / Nat.gcd (T (cF φ k 0)) (C (cF φ k 1))) = 360 ∧ 0 < T (cF φ k 0) / Nat.gcd (T (cF φ k 0)) (C (cF φ k 1)) ∧ T (cF φ k 0) / Nat.gcd (T (cF φ k 0)) (C (cF φ k 1)) ≤ 120 ∧ 360 / T (cF φ k 0) * cF φ k 3 + cF φ k 5 < 5000 ∧ 360 / T (cF φ k 0) * Nat.gcd (T (cF φ k 0)) (C (cF φ k 1)) ≤ 360 := by
  obtain ⟨c0, c1, c2, c3, c4, c5, c6, c7⟩ := O
  have ht := B.2.2.2.1 _ c0
  have hd := dv_360 ht.2.2 ht.1 ht.2.1
  have hg := gap_eq ht.2.2 ht.1 ht.2.1 (Nat.gcd_dvd_left (T (cF φ k 0)) (C (cF φ k 1)))
  have hgi := gcd_in (x := T (cF φ k 0)) (y := C (cF φ k 1)) (by omega)
  have h1 : 360 / T (cF φ k 0) * cF φ k 3 ≤ 30 * 120 := Nat.mul_le_mul (by omega) (by omega)
  have h2 : 360 / T (cF φ k 0) * Nat.gcd (T (cF φ k 0)) (C (cF φ k 1)) ≤ 360 / T (cF φ k 0) * T (cF φ k 0) := Nat.mul_le_mul (Nat.le_refl _) hgi.2
  have h3 : T (cF φ k 0) / Nat.gcd (T (cF φ k 0)) (C (cF φ k 1)) ≤ T (cF φ k 0) := Nat.div_le_self _ _
  exact ⟨hg.1, hg.2.1, hg.2.2.1, hg.2.2.2, by omega, by omega, by omega⟩
theorem x_hasTip (B : okB R W P T C) (O : okC R W P T C φ k) (X : E c = some (oO 1 (cvL T C φ k))) {pt line : Nat} (hp : pt < 360) (hl : line < 10) : fX1_hasTip N E (some c) (nI pt) (nI line) = some (if tipL T C φ line pt k = true then 1 else 0) := by
  obtain ⟨n1, n2, n3, n4, n5, n6, n7⟩ := ok_nums B O
  have h9 : cF φ k 2 ≤ 9 := O.2.2.2.2.1
  have e2 : gI E (some c) 1 2 = some (nI (cF φ k 2)) := gI_eq X rfl
  have e9 : gI E (some c) 1 9 = some (nI (360 / T (cF φ k 0) * cF φ k 3 + cF φ k 5)) := gI_eq X rfl
  have e8 : gI E (some c) 1 8 = some (nI (360 / T (cF φ k 0) * Nat.gcd (T (cF φ k 0)) (C (cF φ k 1)))) := by rw [← n1]; exact gI_eq X rfl
  simp (disch := omega) only [fX1_hasTip, e2, e9, e8, Option.bind_some, Option.bind_none, ↓reduceIte, if_true, if_false, x_restS, nI_eq]
  by_cases c1 : line = cF φ k 2
  · rw [if_pos c1]
    have hm0 := Int.emod_nonneg ((pt : Int) - ((360 / T (cF φ k 0) * cF φ k 3 + cF φ k 5 : Nat) : Int)) (b := ((360 / T (cF φ k 0) * Nat.gcd (T (cF φ k 0)) (C (cF φ k 1)) : Nat) : Int)) (by omega)
    have hm1 := Int.emod_lt_of_pos ((pt : Int) - ((360 / T (cF φ k 0) * cF φ k 3 + cF φ k 5 : Nat) : Int)) (b := ((360 / T (cF φ k 0) * Nat.gcd (T (cF φ k 0)) (C (cF φ k 1)) : Nat) : Int)) (by omega)
    by_cases c2 : tipB T C φ k pt = true
    · have ht : tipL T C φ line pt k = true := by simp [tipL, c1, c2]
      simp only [tipB, decide_eq_true_eq] at c2
      rw [if_pos ht, Int.emod_eq_zero_of_dvd c2]
      rw [if_pos (by rfl)]
    · have ht : ¬ tipL T C φ line pt k = true := by simp [tipL, c2]
      simp only [tipB, decide_eq_true_eq] at c2
      rw [if_neg ht, if_neg]
      intro z
      apply c2
      apply Int.dvd_of_emod_eq_zero
      have := (nI_eq (a := (((pt : Int) - ((360 / T (cF φ k 0) * cF φ k 3 + cF φ k 5 : Nat) : Int)) % ((360 / T (cF φ k 0) * Nat.gcd (T (cF φ k 0)) (C (cF φ k 1)) : Nat) : Int)).toNat) (b := 0) (by omega) (by omega)).mp (by rw [z]; rfl)
      omega
  · have ht : ¬ tipL T C φ line pt k = true := by simp [tipL]; intro z; exact absurd z.symm c1
    rw [if_neg c1, if_neg ht]
theorem x_pointOf (B : okB R W P T C) (O : okC R W P T C φ k) (X : E c = some (oO 1 (cvL T C φ k))) {q : Nat} (hq : q ≤ 120) : fX1_pointOf N E (some c) (nI q) = some (nI ((360 / T (cF φ k 0) * cF φ k 3 + cF φ k 5 + 360 / T (cF φ k 0) * Nat.gcd (T (cF φ k 0)) (C (cF φ k 1)) * q) % 360)) := by
  obtain ⟨n1, n2, n3, n4, n5, n6, n7⟩ := ok_nums B O
  have e9 : gI E (some c) 1 9 = some (nI (360 / T (cF φ k 0) * cF φ k 3 + cF φ k 5)) := gI_eq X rfl
  have e8 : gI E (some c) 1 8 = some (nI (360 / T (cF φ k 0) * Nat.gcd (T (cF φ k 0)) (C (cF φ k 1)))) := by rw [← n1]; exact gI_eq X rfl
  have hb : 360 / T (cF φ k 0) * Nat.gcd (T (cF φ k 0)) (C (cF φ k 1)) * q ≤ 360 * 120 := Nat.mul_le_mul n7 hq
  simp (disch := omega) only [fX1_pointOf, e9, e8, Option.bind_some, Option.bind_none, ↓reduceIte, if_true, if_false, i_360, pk_mul, nI_add, x_restN]
/-- the petals' points are just the tips -/
theorem pt_iff {gap P f pt : Nat} (hg : 0 < gap) (h : gap * P = 360) (hp : pt < 360) : (gap : Int) ∣ (pt : Int) - (f : Int) ↔ ∃ q, q < P ∧ (f + gap * q) % 360 = pt := by
  have hP : 0 < P := by
    rcases Nat.eq_zero_or_pos P with c | c
    · subst c; simp at h
    · exact c
  constructor
  · rintro ⟨z, hz⟩
    refine ⟨(z % (P : Int)).toNat, ?_, ?_⟩
    · have := Int.emod_lt_of_pos z (b := (P : Int)) (by omega)
      have := Int.emod_nonneg z (b := (P : Int)) (by omega)
      omega
    · have h0 := Int.emod_nonneg z (b := (P : Int)) (by omega)
      have h1 := Int.emod_add_mul_ediv z (P : Int)
      have h2 : (((z % (P : Int)).toNat : Nat) : Int) = z % (P : Int) := by omega
      have hi : ((f + gap * (z % (P : Int)).toNat : Nat) : Int) = (pt : Int) - 360 * (z / (P : Int)) := by
        push_cast
        rw [h2]
        have h36 : (360 : Int) = (gap : Int) * (P : Int) := by rw [← Int.natCast_mul, h]; rfl
        rw [h36]
        have : (pt : Int) = f + gap * z := by omega
        rw [this]
        have hz2 : z = z % (P : Int) + P * (z / P) := by omega
        generalize z / (P : Int) = d at *
        generalize z % (P : Int) = e at *
        subst hz2
        grind
      omega
  · rintro ⟨q, hq, he⟩
    have h36 : (360 : Int) = (gap : Int) * (P : Int) := by rw [← Int.natCast_mul, h]; rfl
    have h1 := Nat.div_add_mod (f + gap * q) 360
    rw [he] at h1
    generalize (f + gap * q) / 360 = d at h1
    have h2 : (360 : Int) * (d : Int) + (pt : Int) = (f : Int) + (gap : Int) * (q : Int) := by
      have := congrArg (fun n : Nat => (n : Int)) h1
      simp only [Int.natCast_add, Int.natCast_mul] at this
      exact this
    refine ⟨(q : Int) - P * (d : Int), ?_⟩
    rw [h36] at h2
    grind
end XB
