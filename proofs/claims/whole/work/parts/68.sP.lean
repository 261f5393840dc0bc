section SP
variable {x : Nat} {N : Nat}
theorem i10 : ((1 : Int32) = 0) = False := eq_false (by decide)
theorem i00 : ((0 : Int32) = 0) = True := eq_true rfl
/-- the new paper with a curve more, and what lies where then -/
theorem x_drawn2 {g : Hp} {z q p ia ca P pn lg n0 m0 : Nat} {v : Nat → Int32} {t : Int64} {b : Nat} {ip : Nat → Option Nat} {r : Nat → Nat → Int32} {s : Nat → Int32} {a : Nat → Nat → Int32} {y0 : Int32} {fi : Nat → Int32} {fc : Nat → Option Nat} {cl : List Value} (hN : 2000 ≤ N) (hz : x + 35 < z) (d0 : dy x p) (dia : dy x ia) (dca : dy x ca) (dq : dy x q) (hn0 : n0 ≤ 12) (hP : P ≤ 4) (hpn : pn < P) (fr : ∀ k, z ≤ k → g k = none) (hp : g p = some (oO 2 [.int y0, .ref ia, .ref ca])) (hia : g ia = some (oI 0 P fi)) (hca : g ca = some (oA 2 n0 fc)) (hfc : ∀ k, k < n0 → ∃ ck, fc k = some ck ∧ dy x ck ∧ ∃ l, g ck = some (oO 1 l)) (hq : g q = some (oO 1 cl)) (hq4 : cl[4]? = some (.int (nI pn))) (hm0 : fi pn = nI m0) (hlg : lg ≤ m0) : ∃ (g' : Hp) (u : Nat → Option Nat), fX2_drawn N (xH (mH g (x + 19) s t a) x v t b p ip r) z (some p) (some q) (nI lg) = some (some (z + 1), xH (mH g' (x + 19) s t a) x v t b p ip r, z + 3) ∧ g' z = some (oA 2 (n0 + 1) u) ∧ g' (z + 1) = some (oO 2 [.int y0, .ref (z + 2), .ref z]) ∧ g' (z + 2) = some (oI 0 P (upd fi pn (nI (m0 - lg)))) ∧ (∀ k, k < z → g' k = g k) ∧ (∀ k, z + 3 ≤ k → g' k = none) ∧ (∀ k, k < n0 → u k = fc k) ∧ u n0 = some q := by
  obtain ⟨u, e, h1, h2⟩ := x_drawn (N := N) (x := x) (v := v) (t := t) (b := b) (ip := ip) (r := r) (s := s) (a := a) hN hz d0 dia dca dq hn0 hP hpn fr hp hia hca hfc hq hq4 hm0 hlg
  refine ⟨_, u, e, ?_, ?_, ?_, fun k hk => ?_, fun k hk => ?_, h1, h2⟩
  · rw [up_n (by omega), up_n (by omega), up_n (by omega), up_s]
  · rw [up_s]
  · rw [up_n (by omega), up_s]
  · rw [up_n (by omega), up_n (by omega), up_n (by omega), up_n (by omega)]
  · rw [up_n (by omega), up_n (by omega), up_n (by omega), up_n (by omega)]
    exact fr k (by omega)
theorem drw_0 {φ : Nat → Nat} {i w l st pn n k : Nat} : drwF φ i w l st pn n k 0 = φ 0 := by
  unfold drwF; rw [if_neg (by omega), if_neg (by omega), if_pos (by omega)]
theorem drw_1 {φ : Nat → Nat} {i w l st pn n k : Nat} : drwF φ i w l st pn n k 1 = φ 1 + 1 := if_pos rfl
theorem drw_p {φ : Nat → Nat} {i w l st pn n k j : Nat} (hj : j < 4) : drwF φ i w l st pn n k (2 + j) = if j = pn then n else φ (2 + j) := by
  unfold drwF
  rw [if_neg (by omega)]
  by_cases c : j = pn
  · rw [if_pos (by omega), if_pos c]
  · rw [if_neg (by omega), if_neg c, if_pos (by omega)]
theorem drw_q {φ : Nat → Nat} {i w l st pn n k q : Nat} (hpn : pn < 4) (f : Nat → Int32) (hf : ∀ q, q < 6 * k → f q = nI (φ (6 + q))) (hq : q < 6 * (k + 1)) : upd (upd (upd (upd (upd (upd f (6 * k) (nI i)) (6 * k + 1) (nI w)) (6 * k + 2) (nI l)) (6 * k + 3) (nI st)) (6 * k + 4) (nI pn)) (6 * k + 5) (nI (φ 0)) q = nI (drwF φ i w l st pn n k (6 + q)) := by
  by_cases c : q < 6 * k
  · rw [pk_un (by omega), pk_un (by omega), pk_un (by omega), pk_un (by omega), pk_un (by omega), pk_un (by omega), hf q c]
    unfold drwF
    rw [if_neg (by omega), if_neg (by omega), if_pos (by omega)]
  · have h6 : q = 6 * k ∨ q = 6 * k + 1 ∨ q = 6 * k + 2 ∨ q = 6 * k + 3 ∨ q = 6 * k + 4 ∨ q = 6 * k + 5 := by omega
    rcases h6 with rfl | rfl | rfl | rfl | rfl | rfl <;> (unfold drwF; repeat (first | rw [pk_us] | rw [pk_un (by omega)] | rw [if_neg (by omega)] | rw [if_pos (by omega)]))
end SP
