section BE
variable {v : Nat → Int32} {tb : Nat → Nat} {L q : Nat}
theorem tk_end (h : TKs v tb L q) (e : q = L) : v 5 = 0 := by
  rcases h.2.2 with ⟨-, h⟩ | ⟨h, -⟩ | ⟨h, -⟩ | ⟨h, -⟩ | ⟨h, -⟩ | ⟨h, -⟩
  · exact h
  all_goals omega
theorem tk_some (h : TKs v tb L q) (e : q < L) : ¬ v 5 = 0 := by
  rcases h.2.2 with ⟨h, -⟩ | ⟨-, -, h, -⟩ | ⟨-, -, -, h, -⟩ | ⟨-, -, -, h⟩ | ⟨-, -, h, -⟩ | ⟨-, -, -, -, h⟩
  · omega
  all_goals (rw [h]; decide)
theorem tk_let (h : TKs v tb L q) (e : q < L) (hl : ltr tb q = true) (ha : ¬ (q + 1 < L ∧ ltr tb (q + 1) = true)) : v 5 = 1 ∧ v 6 = nI (tb q) ∧ v 4 = nI (q + 1) := by
  have h1 := (rn_one e hl).mpr ha
  have hg := rn_ge (f := ltr tb) (L := L) (p := q) (by omega)
  have hc := ltr_iff.mp hl
  rcases h.2.2 with ⟨h, -⟩ | ⟨-, -, a, b, c⟩ | ⟨-, h, -⟩ | ⟨-, h, -⟩ | ⟨-, h, -⟩ | ⟨-, h, -⟩
  · omega
  · rw [if_pos h1] at c
    refine ⟨a, c, ?_⟩
    rw [b]
    congr 1
    omega
  · have := dgt_iff.mp h; omega
  · have := dgt_iff.mp h; omega
  · omega
  · exact absurd hl h
/-- letters, but no ITEM begins so -/
theorem tk_bad (h : TKs v tb L q) (e : q < L) (hb : tb q ≤ 255) (ha : ¬ (¬ (q + 1 < L ∧ ltr tb (q + 1) = true) ∧ ltr tb q = true)) : ¬ v 5 = 1 ∨ (v 5 = 1 ∧ v 6 = nI 0) := by
  rcases h.2.2 with ⟨h, -⟩ | ⟨-, hl, a, b, c⟩ | ⟨-, -, -, h, -⟩ | ⟨-, -, -, h⟩ | ⟨-, -, h, -⟩ | ⟨-, -, -, -, h⟩
  · omega
  · refine Or.inr ⟨a, ?_⟩
    rw [c, if_neg (fun y => ha ⟨(rn_one e hl).mp y, hl⟩)]
  all_goals exact Or.inl (by rw [h]; decide)
theorem tk_num (h : TKs v tb L q) (ok : nOk tb L q) : v 5 = 2 ∧ v 6 = nI (nV tb L q) ∧ v 4 = nI (rn (dgt tb) L q) := by
  have hd := nOk_dgt h.2.1 ok
  have hc := dgt_iff.mp hd.2
  rcases h.2.2 with ⟨h, -⟩ | ⟨-, hl, -⟩ | ⟨-, -, -, a, b, c⟩ | ⟨-, -, h, -⟩ | ⟨-, h, -⟩ | ⟨-, -, h, -⟩
  · omega
  · have := ltr_iff.mp hl; omega
  · exact ⟨a, c, b⟩
  · exact absurd ok h
  · omega
  · exact absurd hd.2 h
theorem tk_nnum (h : TKs v tb L q) (ok : ¬ nOk tb L q) : ¬ v 5 = 2 := by
  rcases h.2.2 with ⟨-, h⟩ | ⟨-, -, h, -⟩ | ⟨-, -, h, -⟩ | ⟨-, -, -, h⟩ | ⟨-, -, h, -⟩ | ⟨-, -, -, -, h⟩
  · rw [h]; decide
  · rw [h]; decide
  · exact absurd h ok
  all_goals (rw [h]; decide)
theorem tk_cls (h : TKs v tb L q) (e : q < L) (hc : tb q = 59) : v 5 = 3 ∧ v 4 = nI (q + 1) := by
  rcases h.2.2 with ⟨h, -⟩ | ⟨-, h, -⟩ | ⟨-, h, -⟩ | ⟨-, h, -⟩ | ⟨-, -, a, b⟩ | ⟨-, -, -, h, -⟩
  · omega
  · have := ltr_iff.mp h; omega
  · have := dgt_iff.mp h; omega
  · have := dgt_iff.mp h; omega
  · exact ⟨a, b⟩
  · exact absurd hc h
theorem tk_ncls (h : TKs v tb L q) (hc : ¬ (q < L ∧ tb q = 59)) : ¬ v 5 = 3 := by
  rcases h.2.2 with ⟨-, h⟩ | ⟨-, -, h, -⟩ | ⟨-, -, -, h, -⟩ | ⟨-, -, -, h⟩ | ⟨h1, h2, -⟩ | ⟨-, -, -, -, h⟩
  · rw [h]; decide
  · rw [h]; decide
  · rw [h]; decide
  · rw [h]; decide
  · exact absurd ⟨h1, h2⟩ hc
  · rw [h]; decide
theorem rm_ltr {R W P : Nat} (h : rmB (tb q) R W P) : ltr tb q = true := by
  unfold rmB at h
  exact ltr_iff.mpr (by omega)
end BE
section BE2
variable {g : Hp} {z R W P : Nat} {fT fC fI : Nat → Int32} {x : Nat} {N : Nat} {v : Nat → Int32} {t : Int64} {b p : Nat} {ip : Nat → Option Nat} {r : Nat → Nat → Int32} {s : Nat → Int32} {a : Nat → Nat → Int32} {tb : Nat → Nat} {L q : Nat}
/-- an ITEM can't begin so -/
theorem x_it1 (hz : x + 35 < z) (hR : R ≤ 4) (hW : W ≤ 6) (hP : P ≤ 4) (hb : tb q ≤ 255) (hq : q < L) (hk : TKs v tb L q) (h : ¬ (¬ (q + 1 < L ∧ ltr tb (q + 1) = true) ∧ rmB (tb q) R W P)) {α : Type} {K : Hp → Option Nat → Option α} {K0 : Hp → Option α} {n c : Nat} (hc : c ≤ 100) : fX4_faultIn_L11 N K K K K0 (n + 1) (xH (mH (bxH g z R W P fT fC fI) (x + 19) s t a) x v t b p ip r) (some (x + 1)) (some z) (nI c) = K (xH (mH (bxH g z R W P fT fC fI) (x + 19) s t a) x v t b p ip r) (some (x + 1)) := by
  have c1 : ((100 : Int32) < nI c) = False := eq_false (Int32.not_lt.mpr (nI_le (b := 100) hc (by omega)))
  have c2 : (v 5 = 0) = False := eq_false (tk_some hk hq)
  rw [fX4_faultIn_L11]
  by_cases d : ¬ (q + 1 < L ∧ ltr tb (q + 1) = true) ∧ ltr tb q = true
  · obtain ⟨k1, k2, k3⟩ := tk_let hk hq d.2 d.1
    have c3 : (v 5 = 1) = True := eq_true k1
    simp only [xh_O5, xh_O4, xh_O3, xh_O8, xh_g5_0, xh_g5_1, xh_g5_2, xh_g5_3, xh_g5_4, xh_g5_5, xh_g5_7, xh_g5_8, xh_g5_9, xh_g5_10, xh_g5_6, xh_g8_0, xh_g8_1, xh_g4_0, xh_g4_1, xh_g4_2, xh_g4_3, xh_g4_4, xh_g4_5, xh_g3_0, xh_g3_1, xh_g3_2, xh_p5_2, xh_p5_3, xh_p8_1, xh_p5_6, xh_p5_10, xh_p4_1, xh_p4_2, xh_p4_3, xh_p4_4, xh_p4_5, xh_p3_2, xh_rd2, xh_wr2, xh_rd4, xh_wr4, xh_rd5, xh_wr5, xh_rd15, xh_wr15, xh_len15, xh_rd16, xh_wr16, xh_len16, xh_rd17, xh_wr17, xh_len17, xh_rdA, xh_rdP, xh_wrA, xh_wrP, Option.bind_some, Option.bind_none, ↓reduceIte, if_true, if_false, c1, c2, c3, k2, be_O hz, x_room_n hz hb hR hW hP (fun y => h ⟨d.1, y⟩), i00]
  · rcases tk_bad hk hq hb d with k | ⟨k1, k2⟩
    · have c3 : (v 5 = 1) = False := eq_false k
      simp only [xh_O5, xh_O4, xh_O3, xh_O8, xh_g5_0, xh_g5_1, xh_g5_2, xh_g5_3, xh_g5_4, xh_g5_5, xh_g5_7, xh_g5_8, xh_g5_9, xh_g5_10, xh_g5_6, xh_g8_0, xh_g8_1, xh_g4_0, xh_g4_1, xh_g4_2, xh_g4_3, xh_g4_4, xh_g4_5, xh_g3_0, xh_g3_1, xh_g3_2, xh_p5_2, xh_p5_3, xh_p8_1, xh_p5_6, xh_p5_10, xh_p4_1, xh_p4_2, xh_p4_3, xh_p4_4, xh_p4_5, xh_p3_2, xh_rd2, xh_wr2, xh_rd4, xh_wr4, xh_rd5, xh_wr5, xh_rd15, xh_wr15, xh_len15, xh_rd16, xh_wr16, xh_len16, xh_rd17, xh_wr17, xh_len17, xh_rdA, xh_rdP, xh_wrA, xh_wrP, Option.bind_some, Option.bind_none, ↓reduceIte, if_true, if_false, c1, c2, c3]
    · have c3 : (v 5 = 1) = True := eq_true k1
      have hn : ¬ rmB 0 R W P := by unfold rmB; omega
      simp only [xh_O5, xh_O4, xh_O3, xh_O8, xh_g5_0, xh_g5_1, xh_g5_2, xh_g5_3, xh_g5_4, xh_g5_5, xh_g5_7, xh_g5_8, xh_g5_9, xh_g5_10, xh_g5_6, xh_g8_0, xh_g8_1, xh_g4_0, xh_g4_1, xh_g4_2, xh_g4_3, xh_g4_4, xh_g4_5, xh_g3_0, xh_g3_1, xh_g3_2, xh_p5_2, xh_p5_3, xh_p8_1, xh_p5_6, xh_p5_10, xh_p4_1, xh_p4_2, xh_p4_3, xh_p4_4, xh_p4_5, xh_p3_2, xh_rd2, xh_wr2, xh_rd4, xh_wr4, xh_rd5, xh_wr5, xh_rd15, xh_wr15, xh_len15, xh_rd16, xh_wr16, xh_len16, xh_rd17, xh_wr17, xh_len17, xh_rdA, xh_rdP, xh_wrA, xh_wrP, Option.bind_some, Option.bind_none, ↓reduceIte, if_true, if_false, c1, c2, c3, k2, be_O hz, x_room_n hz (Nat.zero_le _) hR hW hP hn, i00]
/-- no such NUMBER -/
theorem x_it2 (hN : 2000 ≤ N) (hz : x + 35 < z) (h2 : v 2 = nI L) (hL : L ≤ 100) (ht : ∀ i, i < L → r 2 i = nI (tb i) ∧ tb i ≤ 255) (hq : q < L) (hk : TKs v tb L q) (ha : ¬ (q + 1 < L ∧ ltr tb (q + 1) = true)) (hm : rmB (tb q) R W P) {q1 : Nat} (hq1 : rn (bln tb) L (q + 1) = q1) (hn : ¬ (nOk tb L q1 ∧ inB (tb q) (nV tb L q1))) {α : Type} {K : Hp → Option Nat → Option α} {K0 : Hp → Option α} {n c : Nat} (hc : c ≤ 100) : ∃ v', fX4_faultIn_L11 N K K K K0 (n + 1) (xH (mH (bxH g z R W P fT fC fI) (x + 19) s t a) x v t b p ip r) (some (x + 1)) (some z) (nI c) = K (xH (mH (bxH g z R W P fT fC fI) (x + 19) s t a) x v' t b p ip r) (some (x + 1)) ∧ v' 3 = nI q1 ∧ ∀ i, i ≠ 3 → i ≠ 4 → i ≠ 5 → i ≠ 6 → v' i = v i := by
  have c1 : ((100 : Int32) < nI c) = False := eq_false (Int32.not_lt.mpr (nI_le (b := 100) hc (by omega)))
  have c2 : (v 5 = 0) = False := eq_false (tk_some hk hq)
  obtain ⟨k1, k2, k3⟩ := tk_let hk hq (rm_ltr hm) ha
  have c3 : (v 5 = 1) = True := eq_true k1
  obtain ⟨v', w1, w2, w3⟩ := x_token (N := N) (G := mH (bxH g z R W P fT fC fI) (x + 19) s t a) (x := x) (t := t) (b := b) (p := p) (ip := ip) hN h2 hL ht k3 (by omega)
  rw [hq1] at w2
  refine ⟨v', ?_, w2.1, w3⟩
  rw [fX4_faultIn_L11]
  by_cases d : nOk tb L q1
  · obtain ⟨j1, j2, j3⟩ := tk_num w2 d
    have c4 : (v' 5 = 2) = True := eq_true j1
    have hle := (num_y w2.2.1 d).2.1
    simp only [xh_O5, xh_O4, xh_O3, xh_O8, xh_g5_0, xh_g5_1, xh_g5_2, xh_g5_3, xh_g5_4, xh_g5_5, xh_g5_7, xh_g5_8, xh_g5_9, xh_g5_10, xh_g5_6, xh_g8_0, xh_g8_1, xh_g4_0, xh_g4_1, xh_g4_2, xh_g4_3, xh_g4_4, xh_g4_5, xh_g3_0, xh_g3_1, xh_g3_2, xh_p5_2, xh_p5_3, xh_p8_1, xh_p5_6, xh_p5_10, xh_p4_1, xh_p4_2, xh_p4_3, xh_p4_4, xh_p4_5, xh_p3_2, xh_rd2, xh_wr2, xh_rd4, xh_wr4, xh_rd5, xh_wr5, xh_rd15, xh_wr15, xh_len15, xh_rd16, xh_wr16, xh_len16, xh_rd17, xh_wr17, xh_len17, xh_rdA, xh_rdP, xh_wrA, xh_wrP, Option.bind_some, Option.bind_none, ↓reduceIte, if_true, if_false, c1, c2, c3, k2, be_O hz, x_room_y hz hm, i10, w1, c4, j2, x_adds_n hz hm (show nV tb L q1 ≤ 1000 by omega) (fun y => hn ⟨d, y⟩), i00]
  · have c4 : (v' 5 = 2) = False := eq_false (tk_nnum w2 d)
    simp only [xh_O5, xh_O4, xh_O3, xh_O8, xh_g5_0, xh_g5_1, xh_g5_2, xh_g5_3, xh_g5_4, xh_g5_5, xh_g5_7, xh_g5_8, xh_g5_9, xh_g5_10, xh_g5_6, xh_g8_0, xh_g8_1, xh_g4_0, xh_g4_1, xh_g4_2, xh_g4_3, xh_g4_4, xh_g4_5, xh_g3_0, xh_g3_1, xh_g3_2, xh_p5_2, xh_p5_3, xh_p8_1, xh_p5_6, xh_p5_10, xh_p4_1, xh_p4_2, xh_p4_3, xh_p4_4, xh_p4_5, xh_p3_2, xh_rd2, xh_wr2, xh_rd4, xh_wr4, xh_rd5, xh_wr5, xh_rd15, xh_wr15, xh_len15, xh_rd16, xh_wr16, xh_len16, xh_rd17, xh_wr17, xh_len17, xh_rdA, xh_rdP, xh_wrA, xh_wrP, Option.bind_some, Option.bind_none, ↓reduceIte, if_true, if_false, c1, c2, c3, k2, be_O hz, x_room_y hz hm, i10, w1, c4]
/-- it is not closed -/
theorem x_it3 (hN : 2000 ≤ N) (hz : x + 35 < z) (h2 : v 2 = nI L) (hL : L ≤ 100) (ht : ∀ i, i < L → r 2 i = nI (tb i) ∧ tb i ≤ 255) (hq : q < L) (hk : TKs v tb L q) (ha : ¬ (q + 1 < L ∧ ltr tb (q + 1) = true)) (hm : rmB (tb q) R W P) {q1 q2 : Nat} (hq1 : rn (bln tb) L (q + 1) = q1) (hn : nOk tb L q1) (hn2 : inB (tb q) (nV tb L q1)) (hq2 : rn (bln tb) L (rn (dgt tb) L q1) = q2) (hcl : ¬ (q2 < L ∧ tb q2 = 59)) {α : Type} {K : Hp → Option Nat → Option α} {K0 : Hp → Option α} {n c : Nat} (hc : c ≤ 100) : ∃ v', fX4_faultIn_L11 N K K K K0 (n + 1) (xH (mH (bxH g z R W P fT fC fI) (x + 19) s t a) x v t b p ip r) (some (x + 1)) (some z) (nI c) = K (xH (mH (bxH g z (if tb q = 114 then R + 1 else R) (if tb q = 119 then W + 1 else W) (if tb q = 112 then P + 1 else P) (if tb q = 114 then upd fT R (nI (nV tb L q1)) else fT) (if tb q = 119 then upd fC W (nI (nV tb L q1)) else fC) (if tb q = 112 then upd fI P (nI (nV tb L q1)) else fI)) (x + 19) s t a) x v' t b p ip r) (some (x + 1)) ∧ v' 3 = nI q2 ∧ ∀ i, i ≠ 3 → i ≠ 4 → i ≠ 5 → i ≠ 6 → v' i = v i := by
  have c1 : ((100 : Int32) < nI c) = False := eq_false (Int32.not_lt.mpr (nI_le (b := 100) hc (by omega)))
  have c2 : (v 5 = 0) = False := eq_false (tk_some hk hq)
  obtain ⟨k1, k2, k3⟩ := tk_let hk hq (rm_ltr hm) ha
  have c3 : (v 5 = 1) = True := eq_true k1
  obtain ⟨v1, w1, w2, w3⟩ := x_token (N := N) (G := mH (bxH g z R W P fT fC fI) (x + 19) s t a) (x := x) (t := t) (b := b) (p := p) (ip := ip) hN h2 hL ht k3 (by omega)
  rw [hq1] at w2
  obtain ⟨j1, j2, j3⟩ := tk_num w2 hn
  have c4 : (v1 5 = 2) = True := eq_true j1
  have hle := (num_y w2.2.1 hn).2.1
  have h2' : v1 2 = nI L := by rw [w3 2 (by omega) (by omega) (by omega) (by omega), h2]
  obtain ⟨v2, y1, y2, y3⟩ := x_token (N := N) (G := mH (bxH g z (if tb q = 114 then R + 1 else R) (if tb q = 119 then W + 1 else W) (if tb q = 112 then P + 1 else P) (if tb q = 114 then upd fT R (nI (nV tb L q1)) else fT) (if tb q = 119 then upd fC W (nI (nV tb L q1)) else fC) (if tb q = 112 then upd fI P (nI (nV tb L q1)) else fI)) (x + 19) s t a) (x := x) (t := t) (b := b) (p := p) (ip := ip) hN h2' hL ht j3 (rn_le w2.2.1)
  rw [hq2] at y2
  have c5 : (v2 5 = 3) = False := eq_false (tk_ncls y2 hcl)
  refine ⟨v2, ?_, y2.1, fun i a b c d => by rw [y3 i a b c d, w3 i a b c d]⟩
  rw [fX4_faultIn_L11]
  simp only [xh_O5, xh_O4, xh_O3, xh_O8, xh_g5_0, xh_g5_1, xh_g5_2, xh_g5_3, xh_g5_4, xh_g5_5, xh_g5_7, xh_g5_8, xh_g5_9, xh_g5_10, xh_g5_6, xh_g8_0, xh_g8_1, xh_g4_0, xh_g4_1, xh_g4_2, xh_g4_3, xh_g4_4, xh_g4_5, xh_g3_0, xh_g3_1, xh_g3_2, xh_p5_2, xh_p5_3, xh_p8_1, xh_p5_6, xh_p5_10, xh_p4_1, xh_p4_2, xh_p4_3, xh_p4_4, xh_p4_5, xh_p3_2, xh_rd2, xh_wr2, xh_rd4, xh_wr4, xh_rd5, xh_wr5, xh_rd15, xh_wr15, xh_len15, xh_rd16, xh_wr16, xh_len16, xh_rd17, xh_wr17, xh_len17, xh_rdA, xh_rdP, xh_wrA, xh_wrP, Option.bind_some, Option.bind_none, ↓reduceIte, if_true, if_false, c1, c2, c3, k2, be_O hz, x_room_y hz hm, i10, w1, c4, j2, x_adds_y hz hm hn2, y1, c5]
/-- an ITEM more -/
theorem x_it4 (hN : 2000 ≤ N) (hz : x + 35 < z) (h2 : v 2 = nI L) (hL : L ≤ 100) (ht : ∀ i, i < L → r 2 i = nI (tb i) ∧ tb i ≤ 255) (hq : q < L) (hk : TKs v tb L q) (ha : ¬ (q + 1 < L ∧ ltr tb (q + 1) = true)) (hm : rmB (tb q) R W P) {q1 q2 : Nat} (hq1 : rn (bln tb) L (q + 1) = q1) (hn : nOk tb L q1) (hn2 : inB (tb q) (nV tb L q1)) (hq2 : rn (bln tb) L (rn (dgt tb) L q1) = q2) (hcl : q2 < L) (hcl2 : tb q2 = 59) {α : Type} {K : Hp → Option Nat → Option α} {K0 : Hp → Option α} {n c : Nat} (hc : c ≤ 100) : ∃ v', fX4_faultIn_L11 N K K K K0 (n + 1) (xH (mH (bxH g z R W P fT fC fI) (x + 19) s t a) x v t b p ip r) (some (x + 1)) (some z) (nI c) = fX4_faultIn_L11 N K K K K0 n (xH (mH (bxH g z (if tb q = 114 then R + 1 else R) (if tb q = 119 then W + 1 else W) (if tb q = 112 then P + 1 else P) (if tb q = 114 then upd fT R (nI (nV tb L q1)) else fT) (if tb q = 119 then upd fC W (nI (nV tb L q1)) else fC) (if tb q = 112 then upd fI P (nI (nV tb L q1)) else fI)) (x + 19) s t a) x v' t b p ip r) (some (x + 1)) (some z) (nI (c + 1)) ∧ TKs v' tb L (rn (bln tb) L (q2 + 1)) ∧ ∀ i, i ≠ 3 → i ≠ 4 → i ≠ 5 → i ≠ 6 → v' i = v i := by
  have c1 : ((100 : Int32) < nI c) = False := eq_false (Int32.not_lt.mpr (nI_le (b := 100) hc (by omega)))
  have c2 : (v 5 = 0) = False := eq_false (tk_some hk hq)
  obtain ⟨k1, k2, k3⟩ := tk_let hk hq (rm_ltr hm) ha
  have c3 : (v 5 = 1) = True := eq_true k1
  obtain ⟨v1, w1, w2, w3⟩ := x_token (N := N) (G := mH (bxH g z R W P fT fC fI) (x + 19) s t a) (x := x) (t := t) (b := b) (p := p) (ip := ip) hN h2 hL ht k3 (by omega)
  rw [hq1] at w2
  obtain ⟨j1, j2, j3⟩ := tk_num w2 hn
  have c4 : (v1 5 = 2) = True := eq_true j1
  have hle := (num_y w2.2.1 hn).2.1
  have h2' : v1 2 = nI L := by rw [w3 2 (by omega) (by omega) (by omega) (by omega), h2]
  obtain ⟨v2, y1, y2, y3⟩ := x_token (N := N) (G := mH (bxH g z (if tb q = 114 then R + 1 else R) (if tb q = 119 then W + 1 else W) (if tb q = 112 then P + 1 else P) (if tb q = 114 then upd fT R (nI (nV tb L q1)) else fT) (if tb q = 119 then upd fC W (nI (nV tb L q1)) else fC) (if tb q = 112 then upd fI P (nI (nV tb L q1)) else fI)) (x + 19) s t a) (x := x) (t := t) (b := b) (p := p) (ip := ip) hN h2' hL ht j3 (rn_le w2.2.1)
  rw [hq2] at y2
  obtain ⟨l1, l2⟩ := tk_cls y2 hcl hcl2
  have c5 : (v2 5 = 3) = True := eq_true l1
  have h2'' : v2 2 = nI L := by rw [y3 2 (by omega) (by omega) (by omega) (by omega), h2']
  obtain ⟨v3, u1, u2, u3⟩ := x_token (N := N) (G := mH (bxH g z (if tb q = 114 then R + 1 else R) (if tb q = 119 then W + 1 else W) (if tb q = 112 then P + 1 else P) (if tb q = 114 then upd fT R (nI (nV tb L q1)) else fT) (if tb q = 119 then upd fC W (nI (nV tb L q1)) else fC) (if tb q = 112 then upd fI P (nI (nV tb L q1)) else fI)) (x + 19) s t a) (x := x) (t := t) (b := b) (p := p) (ip := ip) hN h2'' hL ht l2 (by omega)
  refine ⟨v3, ?_, u2, fun i a b c d => by rw [u3 i a b c d, y3 i a b c d, w3 i a b c d]⟩
  rw [fX4_faultIn_L11]
  simp only [xh_O5, xh_O4, xh_O3, xh_O8, xh_g5_0, xh_g5_1, xh_g5_2, xh_g5_3, xh_g5_4, xh_g5_5, xh_g5_7, xh_g5_8, xh_g5_9, xh_g5_10, xh_g5_6, xh_g8_0, xh_g8_1, xh_g4_0, xh_g4_1, xh_g4_2, xh_g4_3, xh_g4_4, xh_g4_5, xh_g3_0, xh_g3_1, xh_g3_2, xh_p5_2, xh_p5_3, xh_p8_1, xh_p5_6, xh_p5_10, xh_p4_1, xh_p4_2, xh_p4_3, xh_p4_4, xh_p4_5, xh_p3_2, xh_rd2, xh_wr2, xh_rd4, xh_wr4, xh_rd5, xh_wr5, xh_rd15, xh_wr15, xh_len15, xh_rd16, xh_wr16, xh_len16, xh_rd17, xh_wr17, xh_len17, xh_rdA, xh_rdP, xh_wrA, xh_wrP, Option.bind_some, Option.bind_none, ↓reduceIte, if_true, if_false, c1, c2, c3, k2, be_O hz, x_room_y hz hm, i10, w1, c4, j2, x_adds_y hz hm hn2, y1, c5, u1, nI_1]
end BE2
