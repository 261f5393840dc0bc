theorem up_comm {h : Hp} {a b : Nat} {y z : AE} (e : a ≠ b) : up (up h a y) b z = up (up h b z) a y := by
  funext q
  by_cases c1 : q = a
  · subst c1; rw [up_n e, up_s, up_s]
  · by_cases c2 : q = b
    · subst c2; rw [up_s, up_n c1, up_s]
    · rw [up_n c2, up_n c1, up_n c1, up_n c2]
/-- a box laid behind all -/
def bxH (g : Hp) (z R W P : Nat) (fT fC fI : Nat → Int32) : Hp := up (up (up (up g z (oO 0 [.ref (z + 1), .ref (z + 2), .ref (z + 3), .int (nI R), .int (nI W), .int (nI P)])) (z + 1) (oI 0 4 fT)) (z + 2) (oI 0 6 fC)) (z + 3) (oI 0 4 fI)
def rmB (k R W P : Nat) : Prop := (k = 114 ∧ R < 4) ∨ (k = 119 ∧ W < 6) ∨ (k = 112 ∧ P < 4)
def inB (k u : Nat) : Prop := (k = 114 ∧ 12 ≤ u ∧ u ≤ 120 ∧ 360 % u = 0) ∨ (k = 119 ∧ 3 ≤ u ∧ u ≤ 99) ∨ (k = 112 ∧ u ≤ 999)
section BD
variable {g : Hp} {z R W P : Nat} {fT fC fI : Nat → Int32}
theorem bx_0 : bxH g z R W P fT fC fI z = some (oO 0 [.ref (z + 1), .ref (z + 2), .ref (z + 3), .int (nI R), .int (nI W), .int (nI P)]) := by
  unfold bxH; rw [up_n (by omega), up_n (by omega), up_n (by omega), up_s]
theorem bx_1 : bxH g z R W P fT fC fI (z + 1) = some (oI 0 4 fT) := by
  unfold bxH; rw [up_n (by omega), up_n (by omega), up_s]
theorem bx_2 : bxH g z R W P fT fC fI (z + 2) = some (oI 0 6 fC) := by
  unfold bxH; rw [up_n (by omega), up_s]
theorem bx_3 : bxH g z R W P fT fC fI (z + 3) = some (oI 0 4 fI) := by
  unfold bxH; rw [up_s]
theorem bx_lt {k : Nat} (h : k < z) : bxH g z R W P fT fC fI k = g k := by
  unfold bxH; rw [up_n (by omega), up_n (by omega), up_n (by omega), up_n (by omega)]
theorem bx_gt {k : Nat} (h : z + 3 < k) : bxH g z R W P fT fC fI k = g k := by
  unfold bxH; rw [up_n (by omega), up_n (by omega), up_n (by omega), up_n (by omega)]
theorem bx_w0 {R' W' P' : Nat} : up (bxH g z R W P fT fC fI) z (oO 0 [.ref (z + 1), .ref (z + 2), .ref (z + 3), .int (nI R'), .int (nI W'), .int (nI P')]) = bxH g z R' W' P' fT fC fI := by
  unfold bxH; rw [up_comm (show z + 3 ≠ z by omega), up_comm (show z + 2 ≠ z by omega), up_comm (show z + 1 ≠ z by omega), up_up]
theorem bx_w1 {f : Nat → Int32} : up (bxH g z R W P fT fC fI) (z + 1) (oI 0 4 f) = bxH g z R W P f fC fI := by
  unfold bxH; rw [up_comm (show z + 3 ≠ z + 1 by omega), up_comm (show z + 2 ≠ z + 1 by omega), up_up]
theorem bx_w2 {f : Nat → Int32} : up (bxH g z R W P fT fC fI) (z + 2) (oI 0 6 f) = bxH g z R W P fT f fI := by
  unfold bxH; rw [up_comm (show z + 3 ≠ z + 2 by omega), up_up]
theorem bx_w3 {f : Nat → Int32} : up (bxH g z R W P fT fC fI) (z + 3) (oI 0 4 f) = bxH g z R W P fT fC f := by
  unfold bxH; rw [up_up]
variable {x : Nat} {N : Nat} {v : Nat → Int32} {t : Int64} {b p : Nat} {ip : Nat → Option Nat} {r : Nat → Nat → Int32} {s : Nat → Int32} {a : Nat → Nat → Int32}
theorem be_0 (hz : x + 35 < z) : (xH (mH (bxH g z R W P fT fC fI) (x + 19) s t a) x v t b p ip r) z = some (oO 0 [.ref (z + 1), .ref (z + 2), .ref (z + 3), .int (nI R), .int (nI W), .int (nI P)]) := by
  rw [xh_dy z (Or.inr hz), mh_dy (Or.inr hz), bx_0]
theorem be_1 (hz : x + 35 < z) : (xH (mH (bxH g z R W P fT fC fI) (x + 19) s t a) x v t b p ip r) (z + 1) = some (oI 0 4 fT) := by
  rw [xh_dy _ (Or.inr (by omega)), mh_dy (Or.inr (by omega)), bx_1]
theorem be_2 (hz : x + 35 < z) : (xH (mH (bxH g z R W P fT fC fI) (x + 19) s t a) x v t b p ip r) (z + 2) = some (oI 0 6 fC) := by
  rw [xh_dy _ (Or.inr (by omega)), mh_dy (Or.inr (by omega)), bx_2]
theorem be_3 (hz : x + 35 < z) : (xH (mH (bxH g z R W P fT fC fI) (x + 19) s t a) x v t b p ip r) (z + 3) = some (oI 0 4 fI) := by
  rw [xh_dy _ (Or.inr (by omega)), mh_dy (Or.inr (by omega)), bx_3]
theorem be_O (hz : x + 35 < z) : isO (xH (mH (bxH g z R W P fT fC fI) (x + 19) s t a) x v t b p ip r) (some z) 0 = true := isO_eq (be_0 hz)
theorem be_g3 (hz : x + 35 < z) : gI (xH (mH (bxH g z R W P fT fC fI) (x + 19) s t a) x v t b p ip r) (some z) 0 3 = some (nI R) := gI_eq (be_0 hz) rfl
theorem be_g4 (hz : x + 35 < z) : gI (xH (mH (bxH g z R W P fT fC fI) (x + 19) s t a) x v t b p ip r) (some z) 0 4 = some (nI W) := gI_eq (be_0 hz) rfl
theorem be_g5 (hz : x + 35 < z) : gI (xH (mH (bxH g z R W P fT fC fI) (x + 19) s t a) x v t b p ip r) (some z) 0 5 = some (nI P) := gI_eq (be_0 hz) rfl
theorem be_a0 (hz : x + 35 < z) : gA (xH (mH (bxH g z R W P fT fC fI) (x + 19) s t a) x v t b p ip r) (some z) 0 0 = some (some (z + 1)) := gA_eq (v := some (z + 1)) (be_0 hz) rfl
theorem be_a1 (hz : x + 35 < z) : gA (xH (mH (bxH g z R W P fT fC fI) (x + 19) s t a) x v t b p ip r) (some z) 0 1 = some (some (z + 2)) := gA_eq (v := some (z + 2)) (be_0 hz) rfl
theorem be_a2 (hz : x + 35 < z) : gA (xH (mH (bxH g z R W P fT fC fI) (x + 19) s t a) x v t b p ip r) (some z) 0 2 = some (some (z + 3)) := gA_eq (v := some (z + 3)) (be_0 hz) rfl
theorem be_p3 (hz : x + 35 < z) {k : Nat} : pV (xH (mH (bxH g z R W P fT fC fI) (x + 19) s t a) x v t b p ip r) (some z) 0 3 (.int (nI k)) = some (xH (mH (bxH g z k W P fT fC fI) (x + 19) s t a) x v t b p ip r) := by
  rw [pV_eq (be_0 hz) (by simp), new_x hz]
  exact congrArg (fun y => some (xH (mH y (x + 19) s t a) x v t b p ip r)) bx_w0
theorem be_p4 (hz : x + 35 < z) {k : Nat} : pV (xH (mH (bxH g z R W P fT fC fI) (x + 19) s t a) x v t b p ip r) (some z) 0 4 (.int (nI k)) = some (xH (mH (bxH g z R k P fT fC fI) (x + 19) s t a) x v t b p ip r) := by
  rw [pV_eq (be_0 hz) (by simp), new_x hz]
  exact congrArg (fun y => some (xH (mH y (x + 19) s t a) x v t b p ip r)) bx_w0
theorem be_p5 (hz : x + 35 < z) {k : Nat} : pV (xH (mH (bxH g z R W P fT fC fI) (x + 19) s t a) x v t b p ip r) (some z) 0 5 (.int (nI k)) = some (xH (mH (bxH g z R W k fT fC fI) (x + 19) s t a) x v t b p ip r) := by
  rw [pV_eq (be_0 hz) (by simp), new_x hz]
  exact congrArg (fun y => some (xH (mH y (x + 19) s t a) x v t b p ip r)) bx_w0
theorem be_w1 (hz : x + 35 < z) {j : Nat} {y : Int32} (hj : j < 4) : wI (xH (mH (bxH g z R W P fT fC fI) (x + 19) s t a) x v t b p ip r) (some (z + 1)) 0 (nI j) y = some (xH (mH (bxH g z R W P (upd fT j y) fC fI) (x + 19) s t a) x v t b p ip r) := by
  rw [wI_eq (be_1 hz) hj (by omega), new_x (by omega), bx_w1]
theorem be_w2 (hz : x + 35 < z) {j : Nat} {y : Int32} (hj : j < 6) : wI (xH (mH (bxH g z R W P fT fC fI) (x + 19) s t a) x v t b p ip r) (some (z + 2)) 0 (nI j) y = some (xH (mH (bxH g z R W P fT (upd fC j y) fI) (x + 19) s t a) x v t b p ip r) := by
  rw [wI_eq (be_2 hz) hj (by omega), new_x (by omega), bx_w2]
theorem be_w3 (hz : x + 35 < z) {j : Nat} {y : Int32} (hj : j < 4) : wI (xH (mH (bxH g z R W P fT fC fI) (x + 19) s t a) x v t b p ip r) (some (z + 3)) 0 (nI j) y = some (xH (mH (bxH g z R W P fT fC (upd fI j y)) (x + 19) s t a) x v t b p ip r) := by
  rw [wI_eq (be_3 hz) hj (by omega), new_x (by omega), bx_w3]
theorem lit_ne {k l : Nat} (hk : k ≤ 1000) (hl : l ≤ 1000) (h : k ≠ l) : (nI k = nI l) = False := eq_false (fun e => h ((nI_eq (by omega) (by omega)).mp e))
theorem lit_eq {k l : Nat} (h : k = l) : (nI k = nI l) = True := eq_true (by rw [h])
theorem lit_le {k l : Nat} (hl : l ≤ 100000) (h : k ≤ l) : (nI k ≤ nI l) = True := eq_true (nI_le h (by omega))
theorem lit_gt {k l : Nat} (hk : k ≤ 100000) (h : l < k) : (nI k ≤ nI l) = False := eq_false (nI_ge h (by omega))
theorem x_room_y (hz : x + 35 < z) {k : Nat} (h : rmB k R W P) : fX0_hasRoomFor N (xH (mH (bxH g z R W P fT fC fI) (x + 19) s t a) x v t b p ip r) (some z) (nI k) = some 1 := by
  rcases h with ⟨rfl, h⟩ | ⟨rfl, h⟩ | ⟨rfl, h⟩
  · simp only [fX0_hasRoomFor, be_g3 hz, Option.bind_some, Option.bind_none, ↓reduceIte, if_true, if_false, i_112, i_114, lit_ne (show 114 ≤ 1000 by omega) (show 112 ≤ 1000 by omega) (by omega), i_4, lit_gt (show 4 ≤ 100000 by omega) h]
  · simp only [fX0_hasRoomFor, be_g4 hz, Option.bind_some, Option.bind_none, ↓reduceIte, if_true, if_false, i_112, i_114, i_119, lit_ne (show 119 ≤ 1000 by omega) (show 112 ≤ 1000 by omega) (by omega), lit_ne (show 119 ≤ 1000 by omega) (show 114 ≤ 1000 by omega) (by omega), i_6, lit_gt (show 6 ≤ 100000 by omega) h]
  · simp only [fX0_hasRoomFor, be_g5 hz, Option.bind_some, Option.bind_none, ↓reduceIte, if_true, if_false, i_112, i_4, lit_gt (show 4 ≤ 100000 by omega) h]
theorem x_room_n (hz : x + 35 < z) {k : Nat} (hk : k ≤ 255) (hR : R ≤ 4) (hW : W ≤ 6) (hP : P ≤ 4) (h : ¬ rmB k R W P) : fX0_hasRoomFor N (xH (mH (bxH g z R W P fT fC fI) (x + 19) s t a) x v t b p ip r) (some z) (nI k) = some 0 := by
  unfold rmB at h
  by_cases c1 : k = 112
  · simp only [fX0_hasRoomFor, be_g5 hz, Option.bind_some, Option.bind_none, ↓reduceIte, if_true, if_false, i_112, lit_eq c1, i_4, lit_le (show P ≤ 100000 by omega) (show 4 ≤ P by omega)]
  · by_cases c2 : k = 114
    · simp only [fX0_hasRoomFor, be_g3 hz, Option.bind_some, Option.bind_none, ↓reduceIte, if_true, if_false, i_112, i_114, lit_ne (show k ≤ 1000 by omega) (show 112 ≤ 1000 by omega) c1, lit_eq c2, i_4, lit_le (show R ≤ 100000 by omega) (show 4 ≤ R by omega)]
    · by_cases c3 : k = 119
      · simp only [fX0_hasRoomFor, be_g4 hz, Option.bind_some, Option.bind_none, ↓reduceIte, if_true, if_false, i_112, i_114, i_119, lit_ne (show k ≤ 1000 by omega) (show 112 ≤ 1000 by omega) c1, lit_ne (show k ≤ 1000 by omega) (show 114 ≤ 1000 by omega) c2, lit_eq c3, i_6, lit_le (show W ≤ 100000 by omega) (show 6 ≤ W by omega)]
      · simp only [fX0_hasRoomFor, Option.bind_some, Option.bind_none, ↓reduceIte, if_true, if_false, i_112, i_114, i_119, lit_ne (show k ≤ 1000 by omega) (show 112 ≤ 1000 by omega) c1, lit_ne (show k ≤ 1000 by omega) (show 114 ≤ 1000 by omega) c2, lit_ne (show k ≤ 1000 by omega) (show 119 ≤ 1000 by omega) c3]
theorem x_adds_y (hz : x + 35 < z) {k u : Nat} (h : rmB k R W P) (hu : inB k u) : fX0_adds N (xH (mH (bxH g z R W P fT fC fI) (x + 19) s t a) x v t b p ip r) (some z) (nI k) (nI u) = some (1, xH (mH (bxH g z (if k = 114 then R + 1 else R) (if k = 119 then W + 1 else W) (if k = 112 then P + 1 else P) (if k = 114 then upd fT R (nI u) else fT) (if k = 119 then upd fC W (nI u) else fC) (if k = 112 then upd fI P (nI u) else fI)) (x + 19) s t a) x v t b p ip r) := by
  rcases h with ⟨rfl, h⟩ | ⟨rfl, h⟩ | ⟨rfl, h⟩
  · obtain ⟨-, u1, u2, u3⟩ : (114 : Nat) = 114 ∧ 12 ≤ u ∧ u ≤ 120 ∧ 360 % u = 0 := by unfold inB at hu; omega
    have w1 := (w_y (N := N) (G := xH (mH (bxH g z R W P fT fC fI) (x + 19) s t a) x v t b p ip r) u1 u2 (by omega)).1
    have e0 : (nI (360 % u) = (0 : Int32)) = True := eq_true (by rw [u3]; rfl)
    rw [if_pos rfl, if_neg (by omega), if_neg (by omega), if_pos rfl, if_neg (by omega), if_neg (by omega)]
    simp only [fX0_adds, fX0_addsRing, be_g3 hz, be_O hz, be_a0 hz, Option.bind_some, Option.bind_none, ↓reduceIte, if_true, if_false, i_112, i_114, lit_ne (show 114 ≤ 1000 by omega) (show 112 ≤ 1000 by omega) (by omega), i_4, lit_gt (show 4 ≤ 100000 by omega) h, i_12, i_120, w1, i10, i_360, x_restN (show 360 < 1073741824 by omega) (show 0 < u by omega) (show u < 1073741824 by omega), e0, be_w1 hz h, nI_1, be_p3 hz, or_true]
  · obtain ⟨-, u1, u2⟩ : (119 : Nat) = 119 ∧ 3 ≤ u ∧ u ≤ 99 := by unfold inB at hu; omega
    have w1 := (w_y (N := N) (G := xH (mH (bxH g z R W P fT fC fI) (x + 19) s t a) x v t b p ip r) u1 u2 (by omega)).1
    rw [if_neg (by omega), if_pos rfl, if_neg (by omega), if_neg (by omega), if_pos rfl, if_neg (by omega)]
    simp only [fX0_adds, fX0_addsWheel, be_g4 hz, be_O hz, be_a1 hz, Option.bind_some, Option.bind_none, ↓reduceIte, if_true, if_false, i_112, i_114, i_119, lit_ne (show 119 ≤ 1000 by omega) (show 112 ≤ 1000 by omega) (by omega), lit_ne (show 119 ≤ 1000 by omega) (show 114 ≤ 1000 by omega) (by omega), i_6, lit_gt (show 6 ≤ 100000 by omega) h, i_3, i_99, w1, i10, be_w2 hz h, nI_1, be_p4 hz, or_true]
  · obtain ⟨-, u2⟩ : (112 : Nat) = 112 ∧ u ≤ 999 := by unfold inB at hu; omega
    have w1 := (w_y (N := N) (G := xH (mH (bxH g z R W P fT fC fI) (x + 19) s t a) x v t b p ip r) (Nat.zero_le u) u2 (by omega)).1
    rw [← i_0, ← i_999] at w1
    rw [if_neg (by omega), if_neg (by omega), if_pos rfl, if_neg (by omega), if_neg (by omega), if_pos rfl]
    simp only [fX0_adds, fX0_addsPen, be_g5 hz, be_O hz, be_a2 hz, Option.bind_some, Option.bind_none, ↓reduceIte, if_true, if_false, i_112, i_4, lit_gt (show 4 ≤ 100000 by omega) h, w1, i10, be_w3 hz h, nI_1, be_p5 hz, or_true]
theorem x_adds_n (hz : x + 35 < z) {k u : Nat} (h : rmB k R W P) (hu1 : u ≤ 1000) (hu : ¬ inB k u) : fX0_adds N (xH (mH (bxH g z R W P fT fC fI) (x + 19) s t a) x v t b p ip r) (some z) (nI k) (nI u) = some (0, xH (mH (bxH g z R W P fT fC fI) (x + 19) s t a) x v t b p ip r) := by
  unfold inB at hu
  rcases h with ⟨rfl, h⟩ | ⟨rfl, h⟩ | ⟨rfl, h⟩
  · by_cases c : 12 ≤ u ∧ u ≤ 120
    · have w1 := (w_y (N := N) (G := xH (mH (bxH g z R W P fT fC fI) (x + 19) s t a) x v t b p ip r) c.1 c.2 (by omega)).1
      have hm : 360 % u < u := Nat.mod_lt _ (by omega)
      have e0 : (nI (360 % u) = (0 : Int32)) = False := eq_false (nI_ne0 (by omega) (by omega))
      simp only [fX0_adds, fX0_addsRing, be_g3 hz, be_O hz, Option.bind_some, Option.bind_none, ↓reduceIte, if_true, if_false, i_112, i_114, lit_ne (show 114 ≤ 1000 by omega) (show 112 ≤ 1000 by omega) (by omega), i_4, lit_gt (show 4 ≤ 100000 by omega) h, i_12, i_120, w1, i10, i_360, x_restN (show 360 < 1073741824 by omega) (show 0 < u by omega) (show u < 1073741824 by omega), e0, true_or]
    · have w1 : fX5_within N (xH (mH (bxH g z R W P fT fC fI) (x + 19) s t a) x v t b p ip r) (nI u) (nI 12) (nI 120) = some 0 := x_in_n (fun y => c ⟨(nI_leI (by omega) (by omega)).mp y.1, (nI_leI (by omega) (by omega)).mp y.2⟩)
      simp only [fX0_adds, fX0_addsRing, be_g3 hz, be_O hz, Option.bind_some, Option.bind_none, ↓reduceIte, if_true, if_false, i_112, i_114, lit_ne (show 114 ≤ 1000 by omega) (show 112 ≤ 1000 by omega) (by omega), i_4, lit_gt (show 4 ≤ 100000 by omega) h, i_12, i_120, w1, true_or]
  · have w1 : fX5_within N (xH (mH (bxH g z R W P fT fC fI) (x + 19) s t a) x v t b p ip r) (nI u) (nI 3) (nI 99) = some 0 := x_in_n (fun y => hu (Or.inr (Or.inl ⟨rfl, (nI_leI (by omega) (by omega)).mp y.1, (nI_leI (by omega) (by omega)).mp y.2⟩)))
    simp only [fX0_adds, fX0_addsWheel, be_g4 hz, be_O hz, Option.bind_some, Option.bind_none, ↓reduceIte, if_true, if_false, i_112, i_114, i_119, lit_ne (show 119 ≤ 1000 by omega) (show 112 ≤ 1000 by omega) (by omega), lit_ne (show 119 ≤ 1000 by omega) (show 114 ≤ 1000 by omega) (by omega), i_6, lit_gt (show 6 ≤ 100000 by omega) h, i_3, i_99, w1, true_or]
  · have w1 : fX5_within N (xH (mH (bxH g z R W P fT fC fI) (x + 19) s t a) x v t b p ip r) (nI u) 0 (nI 999) = some 0 := x_in_n (fun y => hu (Or.inr (Or.inr ⟨rfl, (nI_leI (by omega) (by omega)).mp y.2⟩)))
    simp only [fX0_adds, fX0_addsPen, be_g5 hz, be_O hz, Option.bind_some, Option.bind_none, ↓reduceIte, if_true, if_false, i_112, i_4, lit_gt (show 4 ≤ 100000 by omega) h, i_999, w1, true_or]
end BD
