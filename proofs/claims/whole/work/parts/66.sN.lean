section SN
variable {x : Nat} {N : Nat}
/-- the new paper with a curve more: row at z, paper at z+1, ink at z+2 -/
theorem x_drawn {g : Hp} {z q p ia ca P pn lg n0 m0 : Nat} {v : Nat → Int32} {t : Int64} {b : Nat} {ip : Nat → Option Nat} {r : Nat → Nat → Int32} {s : Nat → Int32} {a : Nat → Nat → Int32} {y0 : Int32} {fi : Nat → Int32} {fc : Nat → Option Nat} {cl : List Value} (hN : 2000 ≤ N) (hz : x + 35 < z) (d0 : dy x p) (dia : dy x ia) (dca : dy x ca) (dq : dy x q) (hn0 : n0 ≤ 12) (hP : P ≤ 4) (hpn : pn < P) (fr : ∀ k, z ≤ k → g k = none) (hp : g p = some (oO 2 [.int y0, .ref ia, .ref ca])) (hia : g ia = some (oI 0 P fi)) (hca : g ca = some (oA 2 n0 fc)) (hfc : ∀ k, k < n0 → ∃ ck, fc k = some ck ∧ dy x ck ∧ ∃ l, g ck = some (oO 1 l)) (hq : g q = some (oO 1 cl)) (hq4 : cl[4]? = some (.int (nI pn))) (hm0 : fi pn = nI m0) (hlg : lg ≤ m0) : ∃ u, fX2_drawn N (xH (mH g (x + 19) s t a) x v t b p ip r) z (some p) (some q) (nI lg) = some (some (z + 1), xH (mH (up (up (up (up g z (oA 2 (n0 + 1) u)) (z + 1) (oO 2 [.int 0, .null, .null])) (z + 2) (oI 0 P (upd fi pn (nI (m0 - lg))))) (z + 1) (oO 2 [.int y0, .ref (z + 2), .ref z])) (x + 19) s t a) x v t b p ip r, z + 3) ∧ (∀ k, k < n0 → u k = fc k) ∧ u n0 = some q := by
  have at1 (u : Nat → Option Nat) (k : Nat) (dk : dy x k) (y : AE) (e : g k = some y) : xH (mH (up g z (oA 2 (n0 + 1) u)) (x + 19) s t a) x v t b p ip r k = some y := by
    rw [xh_dy k dk, mh_dy dk]; exact new_le (x := x) (fr z (Nat.le_refl _)) k dk y e
  have g2z (u : Nat → Option Nat) : up g z (oA 2 (n0 + 1) u) (z + 1) = none := by rw [up_n (by omega)]; exact fr _ (by omega)
  have at2 (u : Nat → Option Nat) (k : Nat) (dk : dy x k) (y : AE) (e : g k = some y) : xH (mH (up (up g z (oA 2 (n0 + 1) u)) (z + 1) (oO 2 [.int 0, .null, .null])) (x + 19) s t a) x v t b p ip r k = some y := by
    rw [xh_dy k dk, mh_dy dk]; exact new_le (x := x) (g2z u) k dk y (new_le (x := x) (fr z (Nat.le_refl _)) k dk y e)
  obtain ⟨u', eL, hu'⟩ := x_drwL (N := N) (E := fun u => xH (mH (up g z (oA 2 (n0 + 1) u)) (x + 19) s t a) x v t b p ip r) (sz := z) (sz1 := z + 1) (p := p) (ca := ca) (n := n0) (m := n0 + 1) (fc := fc) (l1 := some q) (l2 := nI lg) hn0 rfl (fun u => new_at hz) (fun u u' => by rw [new_x hz, up_up]) (fun u => gA_eq (v := some ca) (at1 u p d0 _ hp) rfl) (fun u => at1 u ca dca _ hca) (fun u j hj => by obtain ⟨ck, c1, c2, l, c3⟩ := hfc j hj; rw [c1]; exact isO_eq (at1 u ck c2 _ c3)) (K := fun h sz l0 l1 l2 l3 => (gA h l0 2 2).bind fun v43 => (aL h v43).bind fun v46 => (wA h l3 2 v46 l1).bind fun h48 => (gI (up h48 sz (oO 2 [.int 0, .null, .null])) l0 2 0).bind fun v54 => (gI (up h48 sz (oO 2 [.int 0, .null, .null])) l1 1 4).bind fun v59 => (gI (up h48 sz (oO 2 [.int 0, .null, .null])) l1 1 4).bind fun v64 => if isO (up h48 sz (oO 2 [.int 0, .null, .null])) l0 2 = true then (fX2_inkOf N (up h48 sz (oO 2 [.int 0, .null, .null])) l0 v64).bind fun v67 => if isO (up h48 sz (oO 2 [.int 0, .null, .null])) l0 2 = true then (fX2_inkWith N (up h48 sz (oO 2 [.int 0, .null, .null])) (sz + 1) l0 v59 (v67 - l2)).bind fun z72 => (fX2_init N z72.2.1 (some sz) v54 z72.1 l3).bind fun z76 => some (some sz, z76, z72.2.2) else none else none) N n0 0 (fun _ => none) (by omega) (by omega) (fun i hi => by omega)
  refine ⟨va_up u' n0 (some q), ?_, fun k hk => ?_, ?_⟩
  · have q2 : gA (xH (mH g (x + 19) s t a) x v t b p ip r) (some p) 2 2 = some (some ca) := gA_eq (v := some ca) (by rw [xh_dy p d0, mh_dy d0]; exact hp) rfl
    have ql : aL (xH (mH g (x + 19) s t a) x v t b p ip r) (some ca) = some (nI n0) := aL_A (f := fc) (by rw [xh_dy ca dca, mh_dy dca]; exact hca) (Or.inl rfl)
    have q2' : gA (xH (mH (up g z (oA 2 (n0 + 1) u')) (x + 19) s t a) x v t b p ip r) (some p) 2 2 = some (some ca) := gA_eq (v := some ca) (at1 u' p d0 _ hp) rfl
    have ql' : aL (xH (mH (up g z (oA 2 (n0 + 1) u')) (x + 19) s t a) x v t b p ip r) (some ca) = some (nI n0) := aL_A (f := fc) (at1 u' ca dca _ hca) (Or.inl rfl)
    have hpE := at2 (va_up u' n0 (some q)) p d0 _ hp
    have hiE := at2 (va_up u' n0 (some q)) ia dia _ hia
    have hqE := at2 (va_up u' n0 (some q)) q dq _ hq
    have e0 := gI_eq (j := 0) hpE rfl
    have e1 := gA_eq (j := 1) (v := some ia) hpE rfl
    have e4 := gI_eq (j := 4) hqE hq4
    have eI : fX2_inkOf N (xH (mH (up (up g z (oA 2 (n0 + 1) (va_up u' n0 (some q)))) (z + 1) (oO 2 [.int 0, .null, .null])) (x + 19) s t a) x v t b p ip r) (some p) (nI pn) = some (nI m0) := by
      simp only [fX2_inkOf, e1, Option.bind_some, Option.bind_none, ↓reduceIte, if_true, if_false, aL_I hiE (show 0 < 2 by omega), rI_eq hiE hpn (by omega), hm0]
      rw [if_neg (nI_neg (by omega)), if_neg (nI_ge (by omega) (by omega))]
    simp only [fX2_drawn, q2, ql, Option.bind_some, Option.bind_none, ↓reduceIte, if_true, if_false, nI_1]
    rw [nI_clamp (by omega), if_pos ⟨nI_neg (by omega), by omega⟩, new_x hz]
    refine eL.trans ?_
    simp only [q2', ql', Option.bind_some, Option.bind_none, ↓reduceIte, if_true, if_false]
    rw [wA_eq (new_at hz) (by omega) (by omega) (Or.inr (isO_eq (at1 u' q dq _ hq)))]
    simp only [Option.bind_some, Option.bind_none, ↓reduceIte, if_true, if_false, new_x hz, up_up, new_x (show x + 35 < z + 1 by omega), e0, e4, isO_eq hpE, eI, pk_sub hlg, x_inkWith hpE hiE hP hpn, new_x (show x + 35 < z + 1 + 1 by omega)]
    rw [x_paper (by rw [xh_dy (z + 1) (Or.inr (by omega)), mh_dy (Or.inr (by omega)), up_n (by omega), up_s])]
    simp only [Option.bind_some, Option.bind_none, ↓reduceIte, if_true, if_false, new_x (show x + 35 < z + 1 by omega)]
  · unfold va_up
    rw [← hu' k hk]
    simp [show k ≠ n0 by omega]
  · unfold va_up
    simp
end SN
