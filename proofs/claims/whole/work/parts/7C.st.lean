def g00 (x : Nat) : Hp := up (up (up (up (up (up (up (fun _ => none) (x + 7) (oI 0 4 (fun _ => 0))) (x + 8) (oI 0 6 (fun _ => 0))) (x + 9) (oI 0 4 (fun _ => 0))) (x + 6) (oO 0 [.ref (x + 7), .ref (x + 8), .ref (x + 9), .int 0, .int 0, .int 0])) (x + 11) (oI 0 0 (fun _ => 0))) (x + 12) (oA 2 0 (fun _ => none))) (x + 10) (oO 2 [.int 0, .ref (x + 11), .ref (x + 12)])
theorem m_in0 {m : Nat} {E : Hp} : up (up (up (up (up (up (up (up (up (up (up (up (up (up (up (up (up (E) (m + 1) (oI 0 4 (fun _ => 0))) (m + 2) (oI 0 6 (fun _ => 0))) (m + 3) (oI 0 4 (fun _ => 0))) (m + 4) (oI 0 72 (fun _ => 0))) (m + 5) (oI 0 6 (fun _ => 0))) (m + 6) (oI 0 6 (fun _ => 0))) (m + 7) (oI 0 100 (fun _ => 0))) (m + 8) (oI 0 4 (fun _ => 0))) (m + 9) (oI 0 6 (fun _ => 0))) (m + 10) (oI 0 4 (fun _ => 0))) (m + 11) (oI 0 780 (fun _ => 0))) (m + 12) (oI 0 3240 (fun _ => 0))) (m + 13) (oI 0 120 (fun _ => 0))) (m + 14) (oI 0 1000 (fun _ => 0))) (m + 15) (oI 0 120 (fun _ => 0))) (m + 16) (oI 0 1720 (fun _ => 0))) m (oO 6 [.int 0, .int 0, .int 0, .ref (m + 1), .ref (m + 2), .int 0, .int 0, .ref (m + 3), .ref (m + 4), .int 0, .ref (m + 5), .ref (m + 6), .long 0, .ref (m + 7), .int 0, .int 0, .int 0, .int 0, .int 0, .int 0, .ref (m + 8), .ref (m + 9), .ref (m + 10), .ref (m + 11), .int 0, .ref (m + 12), .ref (m + 13), .ref (m + 14), .ref (m + 15), .ref (m + 16)]) = mH E m (fun _ => 0) 0 (fun _ _ => 0) := by
  funext q
  by_cases h1 : q < m ∨ m + 16 < q
  · rw [mh_out h1]
    repeat (rw [up_n (by omega)])
  · obtain ⟨d, rfl⟩ : ∃ d, q = m + d := ⟨q - m, by omega⟩
    have hd : d = 0 ∨ d = 1 ∨ d = 2 ∨ d = 3 ∨ d = 4 ∨ d = 5 ∨ d = 6 ∨ d = 7 ∨ d = 8 ∨ d = 9 ∨ d = 10 ∨ d = 11 ∨ d = 12 ∨ d = 13 ∨ d = 14 ∨ d = 15 ∨ d = 16 := by omega
    rcases hd with rfl | rfl | rfl | rfl | rfl | rfl | rfl | rfl | rfl | rfl | rfl | rfl | rfl | rfl | rfl | rfl | rfl
    · rw [show m + 0 = m from rfl, up_s, mh_m]
      rfl
    · rw [mh_k (by omega) (by omega)]
      repeat (first | rw [up_s] | rw [up_n (by omega)])
      try rfl
    · rw [mh_k (by omega) (by omega)]
      repeat (first | rw [up_s] | rw [up_n (by omega)])
      try rfl
    · rw [mh_k (by omega) (by omega)]
      repeat (first | rw [up_s] | rw [up_n (by omega)])
      try rfl
    · rw [mh_k (by omega) (by omega)]
      repeat (first | rw [up_s] | rw [up_n (by omega)])
      try rfl
    · rw [mh_k (by omega) (by omega)]
      repeat (first | rw [up_s] | rw [up_n (by omega)])
      try rfl
    · rw [mh_k (by omega) (by omega)]
      repeat (first | rw [up_s] | rw [up_n (by omega)])
      try rfl
    · rw [mh_k (by omega) (by omega)]
      repeat (first | rw [up_s] | rw [up_n (by omega)])
      try rfl
    · rw [mh_k (by omega) (by omega)]
      repeat (first | rw [up_s] | rw [up_n (by omega)])
      try rfl
    · rw [mh_k (by omega) (by omega)]
      repeat (first | rw [up_s] | rw [up_n (by omega)])
      try rfl
    · rw [mh_k (by omega) (by omega)]
      repeat (first | rw [up_s] | rw [up_n (by omega)])
      try rfl
    · rw [mh_k (by omega) (by omega)]
      repeat (first | rw [up_s] | rw [up_n (by omega)])
      try rfl
    · rw [mh_k (by omega) (by omega)]
      repeat (first | rw [up_s] | rw [up_n (by omega)])
      try rfl
    · rw [mh_k (by omega) (by omega)]
      repeat (first | rw [up_s] | rw [up_n (by omega)])
      try rfl
    · rw [mh_k (by omega) (by omega)]
      repeat (first | rw [up_s] | rw [up_n (by omega)])
      try rfl
    · rw [mh_k (by omega) (by omega)]
      repeat (first | rw [up_s] | rw [up_n (by omega)])
      try rfl
    · rw [mh_k (by omega) (by omega)]
      repeat (first | rw [up_s] | rw [up_n (by omega)])
      try rfl
theorem x_in0 {x : Nat} : up (up (up (up (up (up (up (up (up (up (up (up (up (up (up (up (up (up (up (fun _ => none) (x + 2) (oI 0 100 (fun _ => 0))) (x + 1) (oO 4 [.ref (x + 2), .int 0, .int 0, .int 0, .int 0, .int 0])) (x + 4) (oI 0 6 (fun _ => 0))) (x + 5) (oI 1 6 (fun _ => 0))) (x + 3) (oO 3 [.ref (x + 4), .ref (x + 5), .int 0])) (x + 7) (oI 0 4 (fun _ => 0))) (x + 8) (oI 0 6 (fun _ => 0))) (x + 9) (oI 0 4 (fun _ => 0))) (x + 6) (oO 0 [.ref (x + 7), .ref (x + 8), .ref (x + 9), .int 0, .int 0, .int 0])) (x + 11) (oI 0 0 (fun _ => 0))) (x + 12) (oA 2 0 (fun _ => none))) (x + 10) (oO 2 [.int 0, .ref (x + 11), .ref (x + 12)])) (x + 14) (oA 3 10 (fun _ => none))) (x + 13) (oO 8 [.ref (x + 14), .int 0])) (x + 15) (oA 8 2 (fun _ => none))) (x + 16) (oI 0 360 (fun _ => 0))) (x + 17) (oI 0 120 (fun _ => 0))) (x + 18) (oI 0 1000 (fun _ => 0))) x (oO 5 [.ref (x + 1), .ref (x + 3), .ref (x + 6), .ref (x + 10), .ref (x + 13), .ref (x + 15), .long 0, .ref (x + 16), .ref (x + 17), .ref (x + 18), .int 0]) = xH (g00 x) x (fun _ => 0) 0 (x + 6) (x + 10) (fun _ => none) (fun _ _ => 0) := by
  funext q
  by_cases h1 : q < x ∨ x + 18 < q
  · rw [xh_out (by unfold nfx; omega)]
    unfold g00
    repeat (rw [up_n (by omega)])
  · obtain ⟨d, rfl⟩ : ∃ d, q = x + d := ⟨q - x, by omega⟩
    have hd : d = 0 ∨ d = 1 ∨ d = 2 ∨ d = 3 ∨ d = 4 ∨ d = 5 ∨ d = 6 ∨ d = 7 ∨ d = 8 ∨ d = 9 ∨ d = 10 ∨ d = 11 ∨ d = 12 ∨ d = 13 ∨ d = 14 ∨ d = 15 ∨ d = 16 ∨ d = 17 ∨ d = 18 := by omega
    rcases hd with rfl | rfl | rfl | rfl | rfl | rfl | rfl | rfl | rfl | rfl | rfl | rfl | rfl | rfl | rfl | rfl | rfl | rfl | rfl
    · rw [show x + 0 = x from rfl, up_s, xh_0]
    · rw [xh_d (d := 1) rfl]
      repeat (first | rw [up_s] | rw [up_n (by omega)])
      try rfl
    · rw [xh_d (d := 2) rfl]
      repeat (first | rw [up_s] | rw [up_n (by omega)])
      try rfl
    · rw [xh_d (d := 3) rfl]
      repeat (first | rw [up_s] | rw [up_n (by omega)])
      try rfl
    · rw [xh_d (d := 4) rfl]
      repeat (first | rw [up_s] | rw [up_n (by omega)])
      try rfl
    · rw [xh_d (d := 5) rfl]
      repeat (first | rw [up_s] | rw [up_n (by omega)])
      try rfl
    · rw [xh_out (by unfold nfx; omega)]
      unfold g00
      repeat (first | rw [up_s] | rw [up_n (by omega)])
      try rfl
    · rw [xh_out (by unfold nfx; omega)]
      unfold g00
      repeat (first | rw [up_s] | rw [up_n (by omega)])
      try rfl
    · rw [xh_out (by unfold nfx; omega)]
      unfold g00
      repeat (first | rw [up_s] | rw [up_n (by omega)])
      try rfl
    · rw [xh_out (by unfold nfx; omega)]
      unfold g00
      repeat (first | rw [up_s] | rw [up_n (by omega)])
      try rfl
    · rw [xh_out (by unfold nfx; omega)]
      unfold g00
      repeat (first | rw [up_s] | rw [up_n (by omega)])
      try rfl
    · rw [xh_out (by unfold nfx; omega)]
      unfold g00
      repeat (first | rw [up_s] | rw [up_n (by omega)])
      try rfl
    · rw [xh_out (by unfold nfx; omega)]
      unfold g00
      repeat (first | rw [up_s] | rw [up_n (by omega)])
      try rfl
    · rw [xh_d (d := 13) rfl]
      repeat (first | rw [up_s] | rw [up_n (by omega)])
      try rfl
    · rw [xh_d (d := 14) rfl]
      repeat (first | rw [up_s] | rw [up_n (by omega)])
      try rfl
    · rw [xh_d (d := 15) rfl]
      show _ = some (oA 8 2 (fun j => if j < 2 then none else none))
      rw [show (fun j => if j < 2 then (none : Option Nat) else none) = (fun _ => none) by funext j; split <;> rfl]
      repeat (first | rw [up_s] | rw [up_n (by omega)])
    · rw [xh_d (d := 16) rfl]
      repeat (first | rw [up_s] | rw [up_n (by omega)])
      try rfl
    · rw [xh_d (d := 17) rfl]
      repeat (first | rw [up_s] | rw [up_n (by omega)])
      try rfl
    · rw [xh_d (d := 18) rfl]
      repeat (first | rw [up_s] | rw [up_n (by omega)])
      try rfl
theorem g00_6 {x : Nat} : g00 x (x + 6) = some (oO 0 [.ref (x + 7), .ref (x + 8), .ref (x + 9), .int 0, .int 0, .int 0]) := by
  unfold g00
  repeat (first | rw [up_s] | rw [up_n (by omega)])
theorem g00_7 {x : Nat} : g00 x (x + 7) = some (oI 0 4 (fun _ => 0)) := by
  unfold g00
  repeat (first | rw [up_s] | rw [up_n (by omega)])
theorem g00_8 {x : Nat} : g00 x (x + 8) = some (oI 0 6 (fun _ => 0)) := by
  unfold g00
  repeat (first | rw [up_s] | rw [up_n (by omega)])
theorem g00_9 {x : Nat} : g00 x (x + 9) = some (oI 0 4 (fun _ => 0)) := by
  unfold g00
  repeat (first | rw [up_s] | rw [up_n (by omega)])
theorem g00_10 {x : Nat} : g00 x (x + 10) = some (oO 2 [.int 0, .ref (x + 11), .ref (x + 12)]) := by
  unfold g00
  repeat (first | rw [up_s] | rw [up_n (by omega)])
theorem g00_11 {x : Nat} : g00 x (x + 11) = some (oI 0 0 (fun _ => 0)) := by
  unfold g00
  repeat (first | rw [up_s] | rw [up_n (by omega)])
theorem g00_12 {x : Nat} : g00 x (x + 12) = some (oA 2 0 (fun _ => none)) := by
  unfold g00
  repeat (first | rw [up_s] | rw [up_n (by omega)])
theorem g00_n {x q : Nat} (h : x + 12 < q) : g00 x q = none := by
  unfold g00
  repeat (rw [up_n (by omega)])
theorem iv_0 {x : Nat} : IV x (mH (xH (g00 x) x (fun _ => 0) 0 (x + 6) (x + 10) (fun _ => none) (fun _ _ => 0)) (x + 19) (fun _ => 0) 0 (fun _ _ => 0)) (x + 36) := by
  refine (CI.mk (x := x) (sz := x + 36) (g := g00 x) (v := fun _ => 0) (t := 0) (b := x + 6) (p := x + 10) (ip := fun _ => none) (r := fun _ _ => 0) (s := fun _ => 0) (a := fun _ _ => 0) (sn := 0) (tt := fun _ => 0) (tp := fun _ => 0) (L := 0) (U := 0) (ψ := fun _ _ => 0) (φ := fun _ => 0) (T := fun _ => 0) (C := fun _ => 0) (R := 0) (W := 0) (P := 0) rfl ⟨by omega, by omega, by omega, fun i hi => by omega, fun i hi => by omega⟩ ⟨rfl, rfl, rfl, fun i hi => by omega, fun i hi => by omega⟩ ?_ ⟨by decide, by decide, fun i hi => by omega, fun i hi => absurd hi (Nat.not_lt_zero i)⟩ ⟨rfl, rfl, fun i hi => by omega, fun i hi => absurd hi (Nat.not_lt_zero i)⟩ ?_ ⟨rfl, by omega, fun i hi => by omega⟩ ⟨rfl, by omega, fun i hi => by omega⟩ (Or.inl rfl) (by omega) rfl rfl (fun i hi => by omega) (by omega) rfl rfl ⟨fun j hj => absurd hj (Nat.not_lt_zero j), fun _ _ _ => rfl⟩ (fun j hj => by omega) (fun k hk => Or.inl ⟨rfl, rfl⟩) (fun q hq => g00_n (by omega)) (by omega)).iv
  · exact ⟨⟨g00_6, ⟨_, g00_7, fun i hi => by omega⟩, ⟨_, g00_8, fun i hi => by omega⟩⟩, Or.inl ⟨by omega, by omega⟩, Or.inl ⟨by omega, by omega⟩, Or.inl ⟨by omega, by omega⟩⟩
  · exact ⟨Or.inl ⟨by omega, by omega⟩, x + 11, x + 12, g00_10, Or.inl ⟨by omega, by omega⟩, ⟨_, g00_11, fun j hj => by omega⟩, Or.inl ⟨by omega, by omega⟩, _, g00_12, fun k hk => absurd hk (Nat.not_lt_zero k)⟩
theorem s_init {N x : Nat} : St_init (IV x) x x (x + 19) N := by
  refine ⟨rfl, _, _, _, x_init, m_init, ?_⟩
  rw [m_in0, x_in0]
  exact iv_0
theorem s_all {N x : Nat} (hN : 2000 ≤ N) : St_all (IV x) x (x + 19) N := by
  refine ⟨fun h sz I => ?_, s_type hN, s_clear hN, s_box hN, s_ring, s_wheel hN, s_pen hN, s_curve hN, s_draws hN, s_rubs hN, s_spins hN, s_fills hN, s_undo hN, s_now hN, s_shown hN, s_petals hN, s_closes hN, s_best hN, s_meet hN, s_odds hN, s_sees hN, s_forget hN, s_guess hN, s_look hN, s_mark hN, s_keep hN, s_back hN, s_count, s_trace⟩
  obtain ⟨g, v, t, b, p, ip, r, s, a, R, W, P, T, C, φ, sn, tt, tp, L, U, ψ, c⟩ := I
  rw [c.hx]
  exact xh_O5
