section SO
variable {x : Nat} {N : Nat}
theorem in_01 (E : Hp) (z lo hi : Int32) : (fX6_in N E z lo hi = some 0 ∧ fX5_within N E z lo hi = some 0) ∨ (fX6_in N E z lo hi = some 1 ∧ fX5_within N E z lo hi = some 1) := by
  by_cases c : lo ≤ z ∧ z ≤ hi
  · exact Or.inr ⟨m_in_y c.1 c.2, x_in_y c.1 c.2⟩
  · exact Or.inl ⟨m_in_n c, x_in_n c⟩
theorem drw_cv {T C φ : Nat → Nat} {i w l st pn n k j : Nat} (hpn : pn < 4) (hj : j < k) : cvL T C (drwF φ i w l st pn n k) j = cvL T C φ j := by
  unfold cvL
  rw [drw_old hpn hj (by omega), drw_old hpn hj (by omega), drw_old hpn hj (by omega), drw_old hpn hj (by omega), drw_old hpn hj (by omega), drw_old hpn hj (by omega)]
theorem drw_cvn {T C φ : Nat → Nat} {i w l st pn n k : Nat} (hpn : pn < 4) : cvL T C (drwF φ i w l st pn n k) k = [.int (nI i), .int (nI w), .int (nI l), .int (nI st), .int (nI pn), .int (nI (φ 0)), .int (nI (T i / Nat.gcd (T i) (C w))), .int (nI (C w / Nat.gcd (T i) (C w))), .int (nI (360 / (T i / Nat.gcd (T i) (C w)))), .int (nI (360 / T i * st + φ 0))] := by
  obtain ⟨c0, c1, c2, c3, c4, c5⟩ := drw_new (φ := φ) (i := i) (w := w) (l := l) (st := st) (pn := pn) (n := n) (k := k) hpn
  unfold cvL
  rw [c0, c1, c2, c3, c4, c5]
end SO
