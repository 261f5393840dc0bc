/-! the class's own cells: v its numbers (0 undos, 1 noted, 2 .. 6 the text's, 7 seen), t its trace, b its box, p its paper, ip its images (0, 1) and the papers before (2 .. 11), r its rows by their places behind it -/
def xHC (G : Hp) (x : Nat) (c : Nat → Option AE) : Hp := fun q => if x ≤ q then (match c (q - x) with | some y => some y | none => G q) else G q
theorem xhc_at {G : Hp} {x d : Nat} {c : Nat → Option AE} {y : AE} (h : c d = some y) : xHC G x c (x + d) = some y := by
  unfold xHC
  rw [if_pos (by omega), show x + d - x = d by omega, h]
theorem xhc_out {G : Hp} {x q : Nat} {c : Nat → Option AE} (h : q < x ∨ c (q - x) = none) : xHC G x c q = G q := by
  unfold xHC
  by_cases h1 : x ≤ q
  · rcases h with h | h
    · omega
    · rw [if_pos h1, h]
  · rw [if_neg h1]
theorem xhc_up {G : Hp} {x d : Nat} {c : Nat → Option AE} {y : AE} : up (xHC G x c) (x + d) y = xHC G x (fun e => if e = d then some y else c e) := by
  funext q
  by_cases h : q = x + d
  · subst h
    rw [up_s, xhc_at (y := y) (by simp)]
  · rw [up_n h]
    unfold xHC
    by_cases h1 : x ≤ q
    · rw [if_pos h1, if_pos h1]
      dsimp only
      rw [if_neg (by omega)]
    · rw [if_neg h1, if_neg h1]
def xC (x : Nat) (v : Nat → Int32) (t : Int64) (b p : Nat) (ip : Nat → Option Nat) (r : Nat → Nat → Int32) (d : Nat) : Option AE := match d with
  | 0 => some (oO 5 [.ref (x + 1), .ref (x + 3), .ref b, .ref p, .ref (x + 13), .ref (x + 15), .long t, .ref (x + 16), .ref (x + 17), .ref (x + 18), .int (v 1)])
  | 1 => some (oO 4 [.ref (x + 2), .int (v 2), .int (v 3), .int (v 4), .int (v 5), .int (v 6)])
  | 2 => some (oI 0 100 (r 2))
  | 3 => some (oO 3 [.ref (x + 4), .ref (x + 5), .int (v 7)])
  | 4 => some (oI 0 6 (r 4))
  | 5 => some (oI 1 6 (r 5))
  | 13 => some (oO 8 [.ref (x + 14), .int (v 0)])
  | 14 => some (oA 3 10 (fun j => ip (j + 2)))
  | 15 => some (oA 8 2 (fun j => if j < 2 then ip j else none))
  | 16 => some (oI 0 360 (r 15))
  | 17 => some (oI 0 120 (r 16))
  | 18 => some (oI 0 1000 (r 17))
  | _ => none
def xH (G : Hp) (x : Nat) (v : Nat → Int32) (t : Int64) (b p : Nat) (ip : Nat → Option Nat) (r : Nat → Nat → Int32) : Hp := xHC G x (xC x v t b p ip r)
/-- not one of the class's own cells -/
def nfx (x q : Nat) : Prop := q < x ∨ (x + 6 ≤ q ∧ q ≤ x + 12) ∨ x + 18 < q
section XH
variable {G : Hp} {x : Nat} {v : Nat → Int32} {t : Int64} {b p : Nat} {ip : Nat → Option Nat} {r : Nat → Nat → Int32}
theorem xh_out {q : Nat} (h : nfx x q) : xH G x v t b p ip r q = G q := by
  refine xhc_out ?_
  unfold nfx at h
  by_cases h1 : q < x
  · exact Or.inl h1
  · refine Or.inr ?_
    obtain ⟨d, rfl⟩ : ∃ d, q = x + d := ⟨q - x, by omega⟩
    rw [show x + d - x = d by omega]
    unfold xC
    split <;> first | rfl | omega
theorem xh_d {d : Nat} {y : AE} (h : xC x v t b p ip r d = some y) : xH G x v t b p ip r (x + d) = some y := xhc_at h
theorem xh_0 : xH G x v t b p ip r x = some (oO 5 [.ref (x + 1), .ref (x + 3), .ref b, .ref p, .ref (x + 13), .ref (x + 15), .long t, .ref (x + 16), .ref (x + 17), .ref (x + 18), .int (v 1)]) := xhc_at (d := 0) rfl
theorem xh_O5 : isO (xH G x v t b p ip r) (some x) 5 = true := isO_eq xh_0
theorem xh_O4 : isO (xH G x v t b p ip r) (some (x + 1)) 4 = true := isO_eq (xh_d (d := 1) rfl)
theorem xh_O3 : isO (xH G x v t b p ip r) (some (x + 3)) 3 = true := isO_eq (xh_d (d := 3) rfl)
theorem xh_O8 : isO (xH G x v t b p ip r) (some (x + 13)) 8 = true := isO_eq (xh_d (d := 13) rfl)
theorem xh_g5_0 : gA (xH G x v t b p ip r) (some x) 5 0 = some (some (x + 1)) := gA_eq (v := some (x + 1)) xh_0 rfl
theorem xh_g5_1 : gA (xH G x v t b p ip r) (some x) 5 1 = some (some (x + 3)) := gA_eq (v := some (x + 3)) xh_0 rfl
theorem xh_g5_2 : gA (xH G x v t b p ip r) (some x) 5 2 = some (some (b)) := gA_eq (v := some (b)) xh_0 rfl
theorem xh_g5_3 : gA (xH G x v t b p ip r) (some x) 5 3 = some (some (p)) := gA_eq (v := some (p)) xh_0 rfl
theorem xh_g5_4 : gA (xH G x v t b p ip r) (some x) 5 4 = some (some (x + 13)) := gA_eq (v := some (x + 13)) xh_0 rfl
theorem xh_g5_5 : gA (xH G x v t b p ip r) (some x) 5 5 = some (some (x + 15)) := gA_eq (v := some (x + 15)) xh_0 rfl
theorem xh_g5_7 : gA (xH G x v t b p ip r) (some x) 5 7 = some (some (x + 16)) := gA_eq (v := some (x + 16)) xh_0 rfl
theorem xh_g5_8 : gA (xH G x v t b p ip r) (some x) 5 8 = some (some (x + 17)) := gA_eq (v := some (x + 17)) xh_0 rfl
theorem xh_g5_9 : gA (xH G x v t b p ip r) (some x) 5 9 = some (some (x + 18)) := gA_eq (v := some (x + 18)) xh_0 rfl
theorem xh_g5_10 : gI (xH G x v t b p ip r) (some x) 5 10 = some (v 1) := gI_eq xh_0 rfl
theorem xh_g5_6 : gJ (xH G x v t b p ip r) (some x) 5 6 = some t := gJ_eq xh_0 rfl
theorem xh_g8_0 : gA (xH G x v t b p ip r) (some (x + 13)) 8 0 = some (some (x + 14)) := gA_eq (v := some (x + 14)) (xh_d (d := 13) rfl) rfl
theorem xh_g8_1 : gI (xH G x v t b p ip r) (some (x + 13)) 8 1 = some (v 0) := gI_eq (xh_d (d := 13) rfl) rfl
theorem xh_g4_0 : gA (xH G x v t b p ip r) (some (x + 1)) 4 0 = some (some (x + 2)) := gA_eq (v := some (x + 2)) (xh_d (d := 1) rfl) rfl
theorem xh_g4_1 : gI (xH G x v t b p ip r) (some (x + 1)) 4 1 = some (v 2) := gI_eq (xh_d (d := 1) rfl) rfl
theorem xh_g4_2 : gI (xH G x v t b p ip r) (some (x + 1)) 4 2 = some (v 3) := gI_eq (xh_d (d := 1) rfl) rfl
theorem xh_g4_3 : gI (xH G x v t b p ip r) (some (x + 1)) 4 3 = some (v 4) := gI_eq (xh_d (d := 1) rfl) rfl
theorem xh_g4_4 : gI (xH G x v t b p ip r) (some (x + 1)) 4 4 = some (v 5) := gI_eq (xh_d (d := 1) rfl) rfl
theorem xh_g4_5 : gI (xH G x v t b p ip r) (some (x + 1)) 4 5 = some (v 6) := gI_eq (xh_d (d := 1) rfl) rfl
theorem xh_g3_0 : gA (xH G x v t b p ip r) (some (x + 3)) 3 0 = some (some (x + 4)) := gA_eq (v := some (x + 4)) (xh_d (d := 3) rfl) rfl
theorem xh_g3_1 : gA (xH G x v t b p ip r) (some (x + 3)) 3 1 = some (some (x + 5)) := gA_eq (v := some (x + 5)) (xh_d (d := 3) rfl) rfl
theorem xh_g3_2 : gI (xH G x v t b p ip r) (some (x + 3)) 3 2 = some (v 7) := gI_eq (xh_d (d := 3) rfl) rfl
theorem xh_p5_2 {z : Nat} : pV (xH G x v t b p ip r) (some x) 5 2 (va_rf (some z)) = some (xH G x v t z p ip r) := by
  rw [pV_eq xh_0 (Nat.lt_of_lt_of_le (Nat.lt_succ_self _) (Nat.le_of_ble_eq_true rfl))]
  refine congrArg some ?_
  show up (xHC G x (xC x v t b p ip r)) (x + 0) _ = _
  rw [xhc_up]
  unfold xH
  refine congrArg (xHC G x) ?_
  funext e
  by_cases hh : e = 0
  · subst hh; rfl
  · rw [if_neg hh]
    unfold xC
    split <;> first | rfl | exact absurd rfl hh
theorem xh_p5_3 {z : Nat} : pV (xH G x v t b p ip r) (some x) 5 3 (va_rf (some z)) = some (xH G x v t b z ip r) := by
  rw [pV_eq xh_0 (Nat.lt_of_lt_of_le (Nat.lt_succ_self _) (Nat.le_of_ble_eq_true rfl))]
  refine congrArg some ?_
  show up (xHC G x (xC x v t b p ip r)) (x + 0) _ = _
  rw [xhc_up]
  unfold xH
  refine congrArg (xHC G x) ?_
  funext e
  by_cases hh : e = 0
  · subst hh; rfl
  · rw [if_neg hh]
    unfold xC
    split <;> first | rfl | exact absurd rfl hh
theorem xh_p8_1 {z : Int32} : pV (xH G x v t b p ip r) (some (x + 13)) 8 1 (.int z) = some (xH G x (upd v 0 z) t b p ip r) := by
  rw [pV_eq (xh_d (d := 13) rfl) (Nat.lt_of_lt_of_le (Nat.lt_succ_self _) (Nat.le_of_ble_eq_true rfl))]
  refine congrArg some ?_
  show up (xHC G x (xC x v t b p ip r)) (x + 13) _ = _
  rw [xhc_up]
  unfold xH
  refine congrArg (xHC G x) ?_
  funext e
  by_cases hh : e = 13
  · subst hh; rfl
  · rw [if_neg hh]
    unfold xC
    split <;> first | rfl | exact absurd rfl hh
theorem xh_p5_6 {z : Int64} : pV (xH G x v t b p ip r) (some x) 5 6 (.long z) = some (xH G x v z b p ip r) := by
  rw [pV_eq xh_0 (Nat.lt_of_lt_of_le (Nat.lt_succ_self _) (Nat.le_of_ble_eq_true rfl))]
  refine congrArg some ?_
  show up (xHC G x (xC x v t b p ip r)) (x + 0) _ = _
  rw [xhc_up]
  unfold xH
  refine congrArg (xHC G x) ?_
  funext e
  by_cases hh : e = 0
  · subst hh; rfl
  · rw [if_neg hh]
    unfold xC
    split <;> first | rfl | exact absurd rfl hh
theorem xh_p5_10 {z : Int32} : pV (xH G x v t b p ip r) (some x) 5 10 (.int z) = some (xH G x (upd v 1 z) t b p ip r) := by
  rw [pV_eq xh_0 (Nat.lt_of_lt_of_le (Nat.lt_succ_self _) (Nat.le_of_ble_eq_true rfl))]
  refine congrArg some ?_
  show up (xHC G x (xC x v t b p ip r)) (x + 0) _ = _
  rw [xhc_up]
  unfold xH
  refine congrArg (xHC G x) ?_
  funext e
  by_cases hh : e = 0
  · subst hh; rfl
  · rw [if_neg hh]
    unfold xC
    split <;> first | rfl | exact absurd rfl hh
theorem xh_p4_1 {z : Int32} : pV (xH G x v t b p ip r) (some (x + 1)) 4 1 (.int z) = some (xH G x (upd v 2 z) t b p ip r) := by
  rw [pV_eq (xh_d (d := 1) rfl) (Nat.lt_of_lt_of_le (Nat.lt_succ_self _) (Nat.le_of_ble_eq_true rfl))]
  refine congrArg some ?_
  show up (xHC G x (xC x v t b p ip r)) (x + 1) _ = _
  rw [xhc_up]
  unfold xH
  refine congrArg (xHC G x) ?_
  funext e
  by_cases hh : e = 1
  · subst hh; rfl
  · rw [if_neg hh]
    unfold xC
    split <;> first | rfl | exact absurd rfl hh
theorem xh_p4_2 {z : Int32} : pV (xH G x v t b p ip r) (some (x + 1)) 4 2 (.int z) = some (xH G x (upd v 3 z) t b p ip r) := by
  rw [pV_eq (xh_d (d := 1) rfl) (Nat.lt_of_lt_of_le (Nat.lt_succ_self _) (Nat.le_of_ble_eq_true rfl))]
  refine congrArg some ?_
  show up (xHC G x (xC x v t b p ip r)) (x + 1) _ = _
  rw [xhc_up]
  unfold xH
  refine congrArg (xHC G x) ?_
  funext e
  by_cases hh : e = 1
  · subst hh; rfl
  · rw [if_neg hh]
    unfold xC
    split <;> first | rfl | exact absurd rfl hh
theorem xh_p4_3 {z : Int32} : pV (xH G x v t b p ip r) (some (x + 1)) 4 3 (.int z) = some (xH G x (upd v 4 z) t b p ip r) := by
  rw [pV_eq (xh_d (d := 1) rfl) (Nat.lt_of_lt_of_le (Nat.lt_succ_self _) (Nat.le_of_ble_eq_true rfl))]
  refine congrArg some ?_
  show up (xHC G x (xC x v t b p ip r)) (x + 1) _ = _
  rw [xhc_up]
  unfold xH
  refine congrArg (xHC G x) ?_
  funext e
  by_cases hh : e = 1
  · subst hh; rfl
  · rw [if_neg hh]
    unfold xC
    split <;> first | rfl | exact absurd rfl hh
theorem xh_p4_4 {z : Int32} : pV (xH G x v t b p ip r) (some (x + 1)) 4 4 (.int z) = some (xH G x (upd v 5 z) t b p ip r) := by
  rw [pV_eq (xh_d (d := 1) rfl) (Nat.lt_of_lt_of_le (Nat.lt_succ_self _) (Nat.le_of_ble_eq_true rfl))]
  refine congrArg some ?_
  show up (xHC G x (xC x v t b p ip r)) (x + 1) _ = _
  rw [xhc_up]
  unfold xH
  refine congrArg (xHC G x) ?_
  funext e
  by_cases hh : e = 1
  · subst hh; rfl
  · rw [if_neg hh]
    unfold xC
    split <;> first | rfl | exact absurd rfl hh
theorem xh_p4_5 {z : Int32} : pV (xH G x v t b p ip r) (some (x + 1)) 4 5 (.int z) = some (xH G x (upd v 6 z) t b p ip r) := by
  rw [pV_eq (xh_d (d := 1) rfl) (Nat.lt_of_lt_of_le (Nat.lt_succ_self _) (Nat.le_of_ble_eq_true rfl))]
  refine congrArg some ?_
  show up (xHC G x (xC x v t b p ip r)) (x + 1) _ = _
  rw [xhc_up]
  unfold xH
  refine congrArg (xHC G x) ?_
  funext e
  by_cases hh : e = 1
  · subst hh; rfl
  · rw [if_neg hh]
    unfold xC
    split <;> first | rfl | exact absurd rfl hh
theorem xh_p3_2 {z : Int32} : pV (xH G x v t b p ip r) (some (x + 3)) 3 2 (.int z) = some (xH G x (upd v 7 z) t b p ip r) := by
  rw [pV_eq (xh_d (d := 3) rfl) (Nat.lt_of_lt_of_le (Nat.lt_succ_self _) (Nat.le_of_ble_eq_true rfl))]
  refine congrArg some ?_
  show up (xHC G x (xC x v t b p ip r)) (x + 3) _ = _
  rw [xhc_up]
  unfold xH
  refine congrArg (xHC G x) ?_
  funext e
  by_cases hh : e = 3
  · subst hh; rfl
  · rw [if_neg hh]
    unfold xC
    split <;> first | rfl | exact absurd rfl hh
theorem xh_rd2 {j : Nat} (hj : j < 100) : rI (xH G x v t b p ip r) (some (x + 2)) 0 (nI j) = some (r 2 j) := rI_eq (xh_d (d := 2) rfl) hj (by omega)
theorem xh_wr2 {j : Nat} {z : Int32} (hj : j < 100) : wI (xH G x v t b p ip r) (some (x + 2)) 0 (nI j) z = some (xH G x v t b p ip (ua r 2 (upd (r 2) j z))) := by
  rw [wI_eq (xh_d (d := 2) rfl) hj (by omega)]
  refine congrArg some ?_
  show up (xHC G x (xC x v t b p ip r)) (x + 2) _ = _
  rw [xhc_up]
  unfold xH
  refine congrArg (xHC G x) ?_
  funext e
  by_cases hh : e = 2
  · subst hh; rfl
  · rw [if_neg hh]
    unfold xC
    split <;> first | rfl | exact absurd rfl hh
theorem xh_rd4 {j : Nat} (hj : j < 6) : rI (xH G x v t b p ip r) (some (x + 4)) 0 (nI j) = some (r 4 j) := rI_eq (xh_d (d := 4) rfl) hj (by omega)
theorem xh_wr4 {j : Nat} {z : Int32} (hj : j < 6) : wI (xH G x v t b p ip r) (some (x + 4)) 0 (nI j) z = some (xH G x v t b p ip (ua r 4 (upd (r 4) j z))) := by
  rw [wI_eq (xh_d (d := 4) rfl) hj (by omega)]
  refine congrArg some ?_
  show up (xHC G x (xC x v t b p ip r)) (x + 4) _ = _
  rw [xhc_up]
  unfold xH
  refine congrArg (xHC G x) ?_
  funext e
  by_cases hh : e = 4
  · subst hh; rfl
  · rw [if_neg hh]
    unfold xC
    split <;> first | rfl | exact absurd rfl hh
theorem xh_rd5 {j : Nat} (hj : j < 6) : rI (xH G x v t b p ip r) (some (x + 5)) 1 (nI j) = some (r 5 j) := rI_eq (xh_d (d := 5) rfl) hj (by omega)
theorem xh_wr5 {j : Nat} {z : Int32} (hj : j < 6) : wI (xH G x v t b p ip r) (some (x + 5)) 1 (nI j) z = some (xH G x v t b p ip (ua r 5 (upd (r 5) j z))) := by
  rw [wI_eq (xh_d (d := 5) rfl) hj (by omega)]
  refine congrArg some ?_
  show up (xHC G x (xC x v t b p ip r)) (x + 5) _ = _
  rw [xhc_up]
  unfold xH
  refine congrArg (xHC G x) ?_
  funext e
  by_cases hh : e = 5
  · subst hh; rfl
  · rw [if_neg hh]
    unfold xC
    split <;> first | rfl | exact absurd rfl hh
theorem xh_rd15 {j : Nat} (hj : j < 360) : rI (xH G x v t b p ip r) (some (x + 16)) 0 (nI j) = some (r 15 j) := rI_eq (xh_d (d := 16) rfl) hj (by omega)
theorem xh_wr15 {j : Nat} {z : Int32} (hj : j < 360) : wI (xH G x v t b p ip r) (some (x + 16)) 0 (nI j) z = some (xH G x v t b p ip (ua r 15 (upd (r 15) j z))) := by
  rw [wI_eq (xh_d (d := 16) rfl) hj (by omega)]
  refine congrArg some ?_
  show up (xHC G x (xC x v t b p ip r)) (x + 16) _ = _
  rw [xhc_up]
  unfold xH
  refine congrArg (xHC G x) ?_
  funext e
  by_cases hh : e = 16
  · subst hh; rfl
  · rw [if_neg hh]
    unfold xC
    split <;> first | rfl | exact absurd rfl hh
theorem xh_len15 : aL (xH G x v t b p ip r) (some (x + 16)) = some (nI 360) := aL_I (xh_d (d := 16) rfl) (by decide)
theorem xh_rd16 {j : Nat} (hj : j < 120) : rI (xH G x v t b p ip r) (some (x + 17)) 0 (nI j) = some (r 16 j) := rI_eq (xh_d (d := 17) rfl) hj (by omega)
theorem xh_wr16 {j : Nat} {z : Int32} (hj : j < 120) : wI (xH G x v t b p ip r) (some (x + 17)) 0 (nI j) z = some (xH G x v t b p ip (ua r 16 (upd (r 16) j z))) := by
  rw [wI_eq (xh_d (d := 17) rfl) hj (by omega)]
  refine congrArg some ?_
  show up (xHC G x (xC x v t b p ip r)) (x + 17) _ = _
  rw [xhc_up]
  unfold xH
  refine congrArg (xHC G x) ?_
  funext e
  by_cases hh : e = 17
  · subst hh; rfl
  · rw [if_neg hh]
    unfold xC
    split <;> first | rfl | exact absurd rfl hh
theorem xh_len16 : aL (xH G x v t b p ip r) (some (x + 17)) = some (nI 120) := aL_I (xh_d (d := 17) rfl) (by decide)
theorem xh_rd17 {j : Nat} (hj : j < 1000) : rI (xH G x v t b p ip r) (some (x + 18)) 0 (nI j) = some (r 17 j) := rI_eq (xh_d (d := 18) rfl) hj (by omega)
theorem xh_wr17 {j : Nat} {z : Int32} (hj : j < 1000) : wI (xH G x v t b p ip r) (some (x + 18)) 0 (nI j) z = some (xH G x v t b p ip (ua r 17 (upd (r 17) j z))) := by
  rw [wI_eq (xh_d (d := 18) rfl) hj (by omega)]
  refine congrArg some ?_
  show up (xHC G x (xC x v t b p ip r)) (x + 18) _ = _
  rw [xhc_up]
  unfold xH
  refine congrArg (xHC G x) ?_
  funext e
  by_cases hh : e = 18
  · subst hh; rfl
  · rw [if_neg hh]
    unfold xC
    split <;> first | rfl | exact absurd rfl hh
theorem xh_len17 : aL (xH G x v t b p ip r) (some (x + 18)) = some (nI 1000) := aL_I (xh_d (d := 18) rfl) (by decide)
theorem xh_rdA {j : Nat} (hj : j < 2) : rA (xH G x v t b p ip r) (some (x + 15)) 8 (nI j) = some (ip j) := by
  rw [rA_eq (xh_d (d := 15) rfl) hj (by omega)]
  try dsimp only
  rw [if_pos hj]
theorem xh_rdP {j : Nat} (hj : j < 10) : rA (xH G x v t b p ip r) (some (x + 14)) 3 (nI j) = some (ip (j + 2)) := rA_eq (xh_d (d := 14) rfl) hj (by omega)
theorem xh_wrA {j : Nat} {z : Option Nat} (hj : j < 2) (hz : z = none ∨ isO (xH G x v t b p ip r) z (8 - 1) = true) : wA (xH G x v t b p ip r) (some (x + 15)) 8 (nI j) z = some (xH G x v t b p (va_up ip j z) r) := by
  rw [wA_eq (xh_d (d := 15) rfl) hj (by omega) hz]
  refine congrArg some ?_
  show up (xHC G x (xC x v t b p ip r)) (x + 15) _ = _
  rw [xhc_up]
  unfold xH
  refine congrArg (xHC G x) ?_
  have h14 : (fun q => ip (q + 2)) = (fun q => va_up ip j z (q + 2)) := by
    funext q
    unfold va_up
    try dsimp only
    by_cases c : q = j
    · subst c
      repeat (first | rw [if_pos rfl] | rw [if_neg (by omega)] | rw [if_pos (by omega)])
    · repeat (first | rw [if_neg c] | rw [if_neg (by omega)])
  have h15 : va_up (fun q => if q < 2 then ip q else none) j z = (fun q => if q < 2 then va_up ip j z q else none) := by
    funext q
    unfold va_up
    try dsimp only
    by_cases c2 : q < 2
    · by_cases c : q = j
      · subst c
        repeat (first | rw [if_pos rfl] | rw [if_pos c2] | rw [if_neg (by omega)])
      · repeat (first | rw [if_neg c] | rw [if_pos c2] | rw [if_neg (by omega)])
    · repeat (first | rw [if_neg (by omega)])
  funext e
  by_cases hh : e = 15
  · subst hh
    rw [if_pos rfl]
    show some _ = some _
    rw [h15]
  · rw [if_neg hh]
    unfold xC
    split <;> first | rfl | exact absurd rfl hh | rw [h14]
theorem xh_wrP {j : Nat} {z : Option Nat} (hj : j < 10) (hz : z = none ∨ isO (xH G x v t b p ip r) z (3 - 1) = true) : wA (xH G x v t b p ip r) (some (x + 14)) 3 (nI j) z = some (xH G x v t b p (va_up ip (j + 2) z) r) := by
  rw [wA_eq (xh_d (d := 14) rfl) hj (by omega) hz]
  refine congrArg some ?_
  show up (xHC G x (xC x v t b p ip r)) (x + 14) _ = _
  rw [xhc_up]
  unfold xH
  refine congrArg (xHC G x) ?_
  have h14 : va_up (fun q => ip (q + 2)) j z = (fun q => va_up ip (j + 2) z (q + 2)) := by
    funext q
    unfold va_up
    try dsimp only
    by_cases c : q = j
    · subst c
      repeat (first | rw [if_pos rfl] | rw [if_neg (by omega)] | rw [if_pos (by omega)])
    · repeat (first | rw [if_neg c] | rw [if_neg (by omega)])
  have h15 : (fun q => if q < 2 then ip q else none) = (fun q => if q < 2 then va_up ip (j + 2) z q else none) := by
    funext q
    unfold va_up
    try dsimp only
    by_cases c2 : q < 2
    · by_cases c : q = j
      · subst c
        repeat (first | rw [if_pos rfl] | rw [if_pos c2] | rw [if_neg (by omega)])
      · repeat (first | rw [if_neg c] | rw [if_pos c2] | rw [if_neg (by omega)])
    · repeat (first | rw [if_neg (by omega)])
  funext e
  by_cases hh : e = 14
  · subst hh
    rw [if_pos rfl]
    show some _ = some _
    rw [h14]
  · rw [if_neg hh]
    unfold xC
    split <;> first | rfl | exact absurd rfl hh | rw [h15]
theorem xh_same {G' : Hp} (h : ∀ q, nfx x q → G q = G' q) : xH G x v t b p ip r = xH G' x v t b p ip r := by
  funext q
  by_cases c : nfx x q
  · rw [xh_out c, xh_out c, h q c]
  · unfold nfx at c
    obtain ⟨d, rfl⟩ : ∃ d, q = x + d := ⟨q - x, by omega⟩
    rcases (show d = 0 ∨ d = 1 ∨ d = 2 ∨ d = 3 ∨ d = 4 ∨ d = 5 ∨ d = 13 ∨ d = 14 ∨ d = 15 ∨ d = 16 ∨ d = 17 ∨ d = 18 by omega) with e | e | e | e | e | e | e | e | e | e | e | e <;> subst e <;> exact (xhc_at rfl).trans (xhc_at rfl).symm
theorem xh_mh {m : Nat} {s : Nat → Int32} {t2 : Int64} {a : Nat → Nat → Int32} (hm : m = x + 19) : mH (xH G x v t b p ip r) m s t2 a = xH (mH G m s t2 a) x v t b p ip r := by
  funext q
  by_cases c : nfx x q
  · rw [xh_out c]
    by_cases c2 : q < m ∨ m + 16 < q
    · rw [mh_out c2, mh_out c2, xh_out c]
    · by_cases c3 : q = m
      · subst c3
        rw [mh_m, mh_m]
      · obtain ⟨k, rfl⟩ : ∃ k, q = m + k := ⟨q - m, by omega⟩
        rw [mh_k (by omega) (by omega), mh_k (by omega) (by omega)]
  · unfold nfx at c
    rw [mh_out (by omega)]
    obtain ⟨d, rfl⟩ : ∃ d, q = x + d := ⟨q - x, by omega⟩
    rcases (show d = 0 ∨ d = 1 ∨ d = 2 ∨ d = 3 ∨ d = 4 ∨ d = 5 ∨ d = 13 ∨ d = 14 ∨ d = 15 ∨ d = 16 ∨ d = 17 ∨ d = 18 by omega) with e | e | e | e | e | e | e | e | e | e | e | e <;> subst e <;> exact (xhc_at rfl).trans (xhc_at rfl).symm
end XH
