section BI
variable {g : Hp} {z : Nat} {x : Nat} {N : Nat} {t : Int64} {b p : Nat} {ip : Nat → Option Nat} {r : Nat → Nat → Int32} {s : Nat → Int32} {a : Nat → Nat → Int32} {v : Nat → Int32} {R W P : Nat} {fT fC fI : Nat → Int32}
theorem x_box0 (hz : x + 35 < z) : fX0_init N (xH (mH (up g z (oO 0 [.null, .null, .null, .int 0, .int 0, .int 0])) (x + 19) s t a) x v t b p ip r) (z + 1) (some z) = some (xH (mH (bxH g z 0 0 0 (fun _ => 0) (fun _ => 0) (fun _ => 0)) (x + 19) s t a) x v t b p ip r, z + 4) := by
  have e0 : ∀ y : AE, (xH (mH (up g z y) (x + 19) s t a) x v t b p ip r) = up (xH (mH g (x + 19) s t a) x v t b p ip r) z y := fun y => (new_x hz).symm
  rw [e0]
  unfold fX0_init
  rw [if_neg (by simp)]
  simp only [Nat.add_assoc, Nat.reduceAdd]
  rw [pV_eq (by rw [up_n (by omega), up_s]) (by simp)]
  simp only [Option.bind_some, Option.bind_none, ↓reduceIte, if_true, if_false]
  rw [pV_eq (by rw [up_n (by omega), up_s]) (by simp)]
  simp only [Option.bind_some, Option.bind_none, ↓reduceIte, if_true, if_false]
  rw [pV_eq (by rw [up_n (by omega), up_s]) (by simp)]
  simp only [Option.bind_some, Option.bind_none, ↓reduceIte, if_true, if_false]
  rw [pV_eq (up_s _ _ _) (by simp)]
  simp only [Option.bind_some, Option.bind_none, ↓reduceIte, if_true, if_false]
  rw [pV_eq (up_s _ _ _) (by simp)]
  simp only [Option.bind_some, Option.bind_none, ↓reduceIte, if_true, if_false]
  rw [pV_eq (up_s _ _ _) (by simp)]
  simp only [Option.bind_some, Option.bind_none, ↓reduceIte, if_true, if_false, up_up]
  unfold bxH
  rw [← new_x (show x + 35 < z + 3 by omega), ← new_x (show x + 35 < z + 2 by omega), ← new_x (show x + 35 < z + 1 by omega), e0]
  refine congrArg (fun y : Hp => some (y, z + 4)) ?_
  funext q
  by_cases c0 : q = z
  · subst c0
    repeat (first | rw [up_s] | rw [up_n (by omega)])
    rfl
  · by_cases c1 : q = z + 1
    · subst c1
      repeat (first | rw [up_s] | rw [up_n (by omega)])
    · by_cases c2 : q = z + 2
      · subst c2
        repeat (first | rw [up_s] | rw [up_n (by omega)])
      · by_cases c3 : q = z + 3
        · subst c3
          repeat (first | rw [up_s] | rw [up_n (by omega)])
        · repeat (first | rw [up_n c0] | rw [up_n c1] | rw [up_n c2] | rw [up_n c3])
theorem nI_m1' {f : Nat} (hf : f ≤ 1000) : (nI f = (-1 : Int32)) = False := eq_false (fun e => by
  have h1 := congrArg Int32.toInt e
  rw [nI_toInt (by omega)] at h1
  have h2 : (-1 : Int32).toInt = -1 := by decide
  omega)
theorem x_an1 {G : Hp} {sz j n : Nat} (hj : j < 2) {α : Type} {K : Hp → Nat → Option α} : fX5_startAnew_L47 N K (n + 1) (xH G x v t b p ip r) sz (some x) (nI j) = fX5_startAnew_L47 N K n (xH G x v t b p (va_up ip j none) r) sz (some x) (nI (j + 1)) := by
  have c : ((2 : Int32) ≤ nI j) = False := eq_false (nI_ge (b := 2) hj (by omega))
  rw [fX5_startAnew_L47]
  simp (disch := first | omega | exact Or.inl rfl) only [xh_O5, xh_O4, xh_O3, xh_O8, xh_g5_0, xh_g5_1, xh_g5_2, xh_g5_3, xh_g5_4, xh_g5_5, xh_g5_7, xh_g5_8, xh_g5_9, xh_g5_10, xh_g5_6, xh_g8_0, xh_g8_1, xh_g4_0, xh_g4_1, xh_g4_2, xh_g4_3, xh_g4_4, xh_g4_5, xh_g3_0, xh_g3_1, xh_g3_2, xh_p5_2, xh_p5_3, xh_p8_1, xh_p5_6, xh_p5_10, xh_p4_1, xh_p4_2, xh_p4_3, xh_p4_4, xh_p4_5, xh_p3_2, xh_rd2, xh_wr2, xh_rd4, xh_wr4, xh_rd5, xh_wr5, xh_rd15, xh_wr15, xh_len15, xh_rd16, xh_wr16, xh_len16, xh_rd17, xh_wr17, xh_len17, xh_rdA, xh_rdP, xh_wrA, xh_wrP, Option.bind_some, Option.bind_none, ↓reduceIte, if_true, if_false, c, nI_1]
theorem x_an2 {G : Hp} {sz n : Nat} {α : Type} {K : Hp → Nat → Option α} : fX5_startAnew_L47 N K (n + 1) (xH G x v t b p ip r) sz (some x) (nI 2) = K (xH G x v t b p ip r) sz := by
  have c : ((2 : Int32) ≤ nI 2) = True := eq_true (nI_le (a := 2) (Nat.le_refl _) (by omega))
  rw [fX5_startAnew_L47]
  simp only [c, Option.bind_some, Option.bind_none, ↓reduceIte, if_true, if_false]
theorem cpI_eq {h : Hp} {a0 a1 n0 n1 k : Nat} {f f' : Nat → Int32} (e0 : h a0 = some (oI 0 n0 f)) (e1 : h a1 = some (oI 0 n1 f')) (h0 : k ≤ n0) (h1 : k ≤ n1) (hk : k < 1000) : cpI h (some a0) 0 (some a1) 0 (nI k) = some (up h a1 (oI 0 n1 (va_cpy f f' 0 0 k))) := by
  have c0 : (0 : Int32).toNatClampNeg = 0 := by decide
  have ck := nI_clamp (n := k) (by omega)
  have cn : ¬ nI k < 0 := nI_neg (by omega)
  have cz : ¬ (0 : Int32) < 0 := by decide
  simp only [cpI, e0, e1, oI, c0, ck]
  rw [if_pos ⟨trivial, trivial, cz, cz, cn, by omega, by omega⟩]
/-- the ink as told, laid at u -/
theorem x_ink {G : Hp} {u : Nat} (hN : 2000 ≤ N) (hP : P ≤ 4) (h0 : G z = some (oO 0 [.ref (z + 1), .ref (z + 2), .ref (z + 3), .int (nI R), .int (nI W), .int (nI P)])) (h3 : G (z + 3) = some (oI 0 4 fI)) (hu : z + 3 < u) : ∃ fK, fX0_inkTold N G u (some z) = some (some u, up G u (oI 0 P fK), u + 1) ∧ ∀ i, i < P → fK i = fI i := by
  have e1 : gA G (some z) 0 2 = some (some (z + 3)) := gA_eq (v := some (z + 3)) h0 rfl
  have e2 : gI G (some z) 0 5 = some (nI P) := gI_eq h0 rfl
  have e3 : aL G (some (z + 3)) = some (nI 4) := aL_I h3 (by decide)
  by_cases c : P = 4
  · subst c
    refine ⟨fI, ?_, fun _ _ => rfl⟩
    simp only [fX0_inkTold, fJ7_copyOf_59c91, e1, e2, e3, Option.bind_some, Option.bind_none, ↓reduceIte, if_true, if_false, clI_eq h3 (show 4 ≤ 16 by omega), isI_eq (up_s _ _ _)]
  · refine ⟨va_cpy fI (fun _ => 0) 0 0 P, ?_, fun i hi => ?_⟩
    · have c1 : (nI P = nI 4) = False := lit_ne (by omega) (by omega) c
      have c2 : (¬ nI P < 0 ∧ P ≤ 16) = True := eq_true ⟨nI_neg (by omega), by omega⟩
      have h3' : up G u (oI 0 P (fun _ => 0)) (z + 3) = some (oI 0 4 fI) := by rw [up_n (by omega)]; exact h3
      have e3' : aL (up G u (oI 0 P (fun _ => 0))) (some (z + 3)) = some (nI 4) := aL_I h3' (by decide)
      have ej : jmin (nI 4) (nI P) = nI P := by rw [jmin_nI (by omega) (by omega), Nat.min_eq_right hP]
      simp only [fX0_inkTold, fJ7_copyOf_59c91, e1, e2, e3, Option.bind_some, Option.bind_none, ↓reduceIte, if_true, if_false, c1, c2, nI_clamp (show P < 2 ^ 31 by omega), e3', ej, cpI_eq h3' (up_s _ _ _) (show P ≤ 4 by omega) (Nat.le_refl P) (show P < 1000 by omega), up_up]
    · unfold va_cpy
      rw [if_pos ⟨by omega, by omega⟩, Nat.sub_zero, Nat.zero_add]
/-- all anew -/
theorem x_anew (hN : 2000 ≤ N) (hz : x + 35 < z) (hP : P ≤ 4) : ∃ (gN : Hp) (fK : Nat → Int32) (fA : Nat → Option Nat), fX5_startAnew N (xH (mH (bxH g z R W P fT fC fI) (x + 19) s t a) x v t b p ip r) (z + 4) (some x) (some z) = some (xH (mH gN (x + 19) s t a) x (upd (upd (upd v 0 0) 1 0) 7 0) t z (z + 4) (va_up (va_up (eip ip 10) 0 none) 1 none) r, z + 7) ∧ gN (z + 4) = some (oO 2 [.int 0, .ref (z + 5), .ref (z + 6)]) ∧ gN (z + 5) = some (oI 0 P fK) ∧ (∀ i, i < P → fK i = fI i) ∧ gN (z + 6) = some (oA 2 0 fA) ∧ (∀ k, k < z + 4 → gN k = bxH g z R W P fT fC fI k) ∧ ∀ k, z + 7 ≤ k → gN k = g k := by
  have b0 : (xH (mH (up (bxH g z R W P fT fC fI) (z + 4) (oO 2 [.int 0, .null, .null])) (x + 19) s t a) x v t z p ip r) z = some (oO 0 [.ref (z + 1), .ref (z + 2), .ref (z + 3), .int (nI R), .int (nI W), .int (nI P)]) := by rw [xh_dy z (Or.inr hz), mh_dy (Or.inr hz), up_n (by omega), bx_0]
  have b3 : (xH (mH (up (bxH g z R W P fT fC fI) (z + 4) (oO 2 [.int 0, .null, .null])) (x + 19) s t a) x v t z p ip r) (z + 3) = some (oI 0 4 fI) := by rw [xh_dy _ (Or.inr (by omega)), mh_dy (Or.inr (by omega)), up_n (by omega), bx_3]
  obtain ⟨fK, eK, hK⟩ := x_ink (N := N) (u := z + 4 + 1) hN hP b0 b3 (by omega)
  rw [new_x (by omega)] at eK
  refine ⟨up (up (up (up (bxH g z R W P fT fC fI) (z + 4) (oO 2 [.int 0, .null, .null])) (z + 4 + 1) (oI 0 P fK)) (z + 4 + 1 + 1) (oA 2 0 (fun _ => none))) (z + 4) (oO 2 [.int 0, .ref (z + 5), .ref (z + 6)]), fK, fun _ => none, ?_, up_s _ _ _, ?_, hK, ?_, fun k hk => ?_, fun k hk => ?_⟩
  · have hq : (xH (mH (up (up (up (bxH g z R W P fT fC fI) (z + 4) (oO 2 [.int 0, .null, .null])) (z + 4 + 1) (oI 0 P fK)) (z + 4 + 1 + 1) (oA 2 0 (fun _ => none))) (x + 19) s t a) x v t z p ip r) (z + 4) = some (oO 2 [.int 0, .null, .null]) := by rw [xh_dy _ (Or.inr (by omega)), mh_dy (Or.inr (by omega)), up_n (by omega), up_n (by omega), up_s]
    simp only [fX5_startAnew, xh_O5, xh_O4, xh_O3, xh_O8, xh_g5_0, xh_g5_1, xh_g5_2, xh_g5_3, xh_g5_4, xh_g5_5, xh_g5_7, xh_g5_8, xh_g5_9, xh_g5_10, xh_g5_6, xh_g8_0, xh_g8_1, xh_g4_0, xh_g4_1, xh_g4_2, xh_g4_3, xh_g4_4, xh_g4_5, xh_g3_0, xh_g3_1, xh_g3_2, xh_p5_2, xh_p5_3, xh_p8_1, xh_p5_6, xh_p5_10, xh_p4_1, xh_p4_2, xh_p4_3, xh_p4_4, xh_p4_5, xh_p3_2, xh_rd2, xh_wr2, xh_rd4, xh_wr4, xh_rd5, xh_wr5, xh_rd15, xh_wr15, xh_len15, xh_rd16, xh_wr16, xh_len16, xh_rd17, xh_wr17, xh_len17, xh_rdA, xh_rdP, xh_wrA, xh_wrP, Option.bind_some, Option.bind_none, ↓reduceIte, if_true, if_false, new_x (show x + 35 < z + 4 by omega), isO_eq b0, eK, new_x (show x + 35 < z + 4 + 1 + 1 by omega), x_paper hq, x_empties hN, fX3_empties]
    obtain ⟨n, rfl⟩ : ∃ n, N = n + 3 := ⟨N - 3, by omega⟩
    rw [i_0, x_an1 (by omega), x_an1 (by omega), x_an2]
  · rw [up_n (by omega), up_n (by omega), up_s]
  · rw [up_n (by omega), up_s]
  · rw [up_n (by omega), up_n (by omega), up_n (by omega), up_n (by omega)]
  · rw [up_n (by omega), up_n (by omega), up_n (by omega), up_n (by omega), bx_gt (by omega)]
end BI
