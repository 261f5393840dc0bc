section BC
variable {x : Nat} {N : Nat} {G : Hp} {t : Int64} {b p : Nat} {ip : Nat → Option Nat} {r : Nat → Nat → Int32} {tb : Nat → Nat} {L : Nat}
theorem x_letters {v : Nat → Int32} {q : Nat} (hN : 2000 ≤ N) (h2 : v 2 = nI L) (hL : L ≤ 100) (ht : ∀ i, i < L → r 2 i = nI (tb i) ∧ tb i ≤ 255) (h3 : v 3 = nI q) (h4 : v 4 = nI q) (hq : q < L) (hl : ltr tb q = true) : ∃ v', fX4_readLetters N (xH G x v t b p ip r) (some (x + 1)) = some (xH G x v' t b p ip r) ∧ TKs v' tb L q ∧ ∀ i, i ≠ 3 → i ≠ 4 → i ≠ 5 → i ≠ 6 → v' i = v i := by
  have hr := rn_ge (f := ltr tb) (L := L) (p := q) (by omega)
  have hr2 := rn_le (f := ltr tb) (L := L) (p := q) (by omega)
  have e := x_ltL (N := N) (G := G) (x := x) (t := t) (b := b) (p := p) (ip := ip) (r := r) (tb := tb) h2 hL ht (K := fun h l0 => fX4_readLetters_j38 N h l0) N q (by omega) (by omega)
  rw [← h4, upd_id] at e
  have k2 : upd (upd v 4 (nI (rn (ltr tb) L q))) 5 1 2 = nI L := by rw [pk_un (by omega), pk_un (by omega)]; exact h2
  have k3 : upd (upd v 4 (nI (rn (ltr tb) L q))) 5 1 3 = nI q := by rw [pk_un (by omega), pk_un (by omega)]; exact h3
  have k4 : upd (upd v 4 (nI (rn (ltr tb) L q))) 5 1 4 = nI (rn (ltr tb) L q) := by rw [pk_un (by omega), pk_us]
  have eb := x_byte_y (N := N) (G := G) (x := x) (t := t) (b := b) (p := p) (ip := ip) k2 hL ht hq
  refine ⟨upd (upd (upd v 4 (nI (rn (ltr tb) L q))) 5 1) 6 (nI (if rn (ltr tb) L q - q = 1 then tb q else 0)), ?_, ⟨by rw [pk_un (by omega), k3], by omega, Or.inr (Or.inl ⟨hq, hl, by rw [pk_un (by omega), pk_us], by rw [pk_un (by omega), k4], pk_us⟩)⟩, fun i a b c d => by rw [pk_un d, pk_un c, pk_un b]⟩
  unfold fX4_readLetters
  refine e.trans ?_
  by_cases c : rn (ltr tb) L q - q = 1
  · have e1 : (nI (rn (ltr tb) L q - q) = (1 : Int32)) = True := eq_true (by rw [c]; rfl)
    simp only [fX4_readLetters_j38, xh_O5, xh_O4, xh_O3, xh_O8, xh_g5_0, xh_g5_1, xh_g5_2, xh_g5_3, xh_g5_4, xh_g5_5, xh_g5_7, xh_g5_8, xh_g5_9, xh_g5_10, xh_g5_6, xh_g8_0, xh_g8_1, xh_g4_0, xh_g4_1, xh_g4_2, xh_g4_3, xh_g4_4, xh_g4_5, xh_g3_0, xh_g3_1, xh_g3_2, xh_p5_2, xh_p5_3, xh_p8_1, xh_p5_6, xh_p5_10, xh_p4_1, xh_p4_2, xh_p4_3, xh_p4_4, xh_p4_5, xh_p3_2, xh_rd2, xh_wr2, xh_rd4, xh_wr4, xh_rd5, xh_wr5, xh_rd15, xh_wr15, xh_len15, xh_rd16, xh_wr16, xh_len16, xh_rd17, xh_wr17, xh_len17, xh_rdA, xh_rdP, xh_wrA, xh_wrP, Option.bind_some, Option.bind_none, ↓reduceIte, if_true, if_false, k3, k4, pk_sub hr, eb, c]
    exact if_pos rfl
  · have e1 : (nI (rn (ltr tb) L q - q) = (1 : Int32)) = False := eq_false (fun z => c ((nI_eq (b := 1) (by omega) (by omega)).mp z))
    simp only [fX4_readLetters_j38, xh_O5, xh_O4, xh_O3, xh_O8, xh_g5_0, xh_g5_1, xh_g5_2, xh_g5_3, xh_g5_4, xh_g5_5, xh_g5_7, xh_g5_8, xh_g5_9, xh_g5_10, xh_g5_6, xh_g8_0, xh_g8_1, xh_g4_0, xh_g4_1, xh_g4_2, xh_g4_3, xh_g4_4, xh_g4_5, xh_g3_0, xh_g3_1, xh_g3_2, xh_p5_2, xh_p5_3, xh_p8_1, xh_p5_6, xh_p5_10, xh_p4_1, xh_p4_2, xh_p4_3, xh_p4_4, xh_p4_5, xh_p3_2, xh_rd2, xh_wr2, xh_rd4, xh_wr4, xh_rd5, xh_wr5, xh_rd15, xh_wr15, xh_len15, xh_rd16, xh_wr16, xh_len16, xh_rd17, xh_wr17, xh_len17, xh_rdA, xh_rdP, xh_wrA, xh_wrP, Option.bind_some, Option.bind_none, ↓reduceIte, if_true, if_false, k3, k4, pk_sub hr, e1, c]
    rfl
theorem x_digits {v : Nat → Int32} {q : Nat} (hN : 2000 ≤ N) (h2 : v 2 = nI L) (hL : L ≤ 100) (ht : ∀ i, i < L → r 2 i = nI (tb i) ∧ tb i ≤ 255) (h3 : v 3 = nI q) (h4 : v 4 = nI q) (hq : q < L) (hl : dgt tb q = true) : ∃ v', fX4_readNumber N (xH G x v t b p ip r) (some (x + 1)) = some (xH G x v' t b p ip r) ∧ TKs v' tb L q ∧ ∀ i, i ≠ 3 → i ≠ 4 → i ≠ 5 → i ≠ 6 → v' i = v i := by
  have hr := rn_ge (f := dgt tb) (L := L) (p := q) (by omega)
  have hr2 := rn_le (f := dgt tb) (L := L) (p := q) (by omega)
  have hb := (ht q hq).2
  have hv := vC_le tb q (rn (dgt tb) L q - q)
  have e := x_dgL (N := N) (G := G) (x := x) (t := t) (b := b) (p := p) (ip := ip) (r := r) (tb := tb) h2 hL ht (q := q) (K := fun h l0 => fX4_readNumber_j72 N h l0) N 0 (by omega) (by omega)
  have e0 : upd (upd v 6 (nI (vC tb q 0))) 4 (nI (q + 0)) = upd v 6 0 := by
    rw [Nat.add_zero, ← h4]
    funext i
    by_cases c : i = 4
    · subst c; rw [pk_us, pk_un (by omega)]
    · rw [pk_un c]; rfl
  rw [e0, Nat.add_zero] at e
  have j2 : upd (upd v 6 (nI (vC tb q (rn (dgt tb) L q - q)))) 4 (nI (rn (dgt tb) L q)) 2 = nI L := by rw [pk_un (by omega), pk_un (by omega)]; exact h2
  have j3 : upd (upd v 6 (nI (vC tb q (rn (dgt tb) L q - q)))) 4 (nI (rn (dgt tb) L q)) 3 = nI q := by rw [pk_un (by omega), pk_un (by omega)]; exact h3
  have j6 : upd (upd v 6 (nI (vC tb q (rn (dgt tb) L q - q)))) 4 (nI (rn (dgt tb) L q)) 6 = nI (vC tb q (rn (dgt tb) L q - q)) := by rw [pk_un (by omega), pk_us]
  have eb := x_byte_y (N := N) (G := G) (x := x) (t := t) (b := b) (p := p) (ip := ip) j2 hL ht hq
  have ej : ∀ z : Int32, fX4_readNumber_j72 N (xH G x (upd (upd v 6 (nI (vC tb q (rn (dgt tb) L q - q)))) 4 (nI (rn (dgt tb) L q))) t b p ip r) (some (x + 1)) = some (xH G x (upd (upd (upd v 6 (nI (vC tb q (rn (dgt tb) L q - q)))) 4 (nI (rn (dgt tb) L q))) 5 z) t b p ip r) → fX4_readNumber N (xH G x v t b p ip r) (some (x + 1)) = some (xH G x (upd (upd (upd v 6 (nI (vC tb q (rn (dgt tb) L q - q)))) 4 (nI (rn (dgt tb) L q))) 5 z) t b p ip r) := by
    intro z ez
    simp only [fX4_readNumber, xh_O5, xh_O4, xh_O3, xh_O8, xh_g5_0, xh_g5_1, xh_g5_2, xh_g5_3, xh_g5_4, xh_g5_5, xh_g5_7, xh_g5_8, xh_g5_9, xh_g5_10, xh_g5_6, xh_g8_0, xh_g8_1, xh_g4_0, xh_g4_1, xh_g4_2, xh_g4_3, xh_g4_4, xh_g4_5, xh_g3_0, xh_g3_1, xh_g3_2, xh_p5_2, xh_p5_3, xh_p8_1, xh_p5_6, xh_p5_10, xh_p4_1, xh_p4_2, xh_p4_3, xh_p4_4, xh_p4_5, xh_p3_2, xh_rd2, xh_wr2, xh_rd4, xh_wr4, xh_rd5, xh_wr5, xh_rd15, xh_wr15, xh_len15, xh_rd16, xh_wr16, xh_len16, xh_rd17, xh_wr17, xh_len17, xh_rdA, xh_rdP, xh_wrA, xh_wrP, Option.bind_some, Option.bind_none, ↓reduceIte, if_true, if_false]
    exact e.trans ez
  have f1 : ∀ (n : Nat), 1 < n → n ≤ 100 → (nI n ≤ (1 : Int32)) = False := fun n a b => eq_false (nI_ge (a := 1) a (by omega))
  have f2 : ∀ (n : Nat), n ≤ 1 → (nI n ≤ (1 : Int32)) = True := fun n a => eq_true (nI_le (b := 1) a (by omega))
  have y48 : tb q = 48 → (nI (tb q) = (48 : Int32)) = True := fun z => eq_true (by rw [z]; rfl)
  have n48 : ¬ tb q = 48 → (nI (tb q) = (48 : Int32)) = False := fun z => eq_false (fun w => z ((nI_eq (b := 48) (by omega) (by omega)).mp w))
  by_cases ok : nOk tb L q
  · obtain ⟨o1, o2, o3⟩ := num_y (by omega) ok
    refine ⟨_, ej 2 ?_, ⟨by rw [pk_un (by omega), j3], by omega, Or.inr (Or.inr (Or.inl ⟨hq, hl, ok, pk_us, by rw [pk_un (by omega), pk_us], by rw [pk_un (by omega), j6, o1]⟩))⟩, fun i a b c d => by rw [pk_un c, pk_un b, pk_un d]⟩
    have f9 : (nI (vC tb q (rn (dgt tb) L q - q)) ≤ (999 : Int32)) = True := eq_true (by rw [o1]; exact nI_le (b := 999) o2 (by omega))
    by_cases c : tb q = 48
    · have c1 : rn (dgt tb) L q - q ≤ 1 := by omega
      simp only [fX4_readNumber_j72, fX4_readNumber_j103, xh_O5, xh_O4, xh_O3, xh_O8, xh_g5_0, xh_g5_1, xh_g5_2, xh_g5_3, xh_g5_4, xh_g5_5, xh_g5_7, xh_g5_8, xh_g5_9, xh_g5_10, xh_g5_6, xh_g8_0, xh_g8_1, xh_g4_0, xh_g4_1, xh_g4_2, xh_g4_3, xh_g4_4, xh_g4_5, xh_g3_0, xh_g3_1, xh_g3_2, xh_p5_2, xh_p5_3, xh_p8_1, xh_p5_6, xh_p5_10, xh_p4_1, xh_p4_2, xh_p4_3, xh_p4_4, xh_p4_5, xh_p3_2, xh_rd2, xh_wr2, xh_rd4, xh_wr4, xh_rd5, xh_wr5, xh_rd15, xh_wr15, xh_len15, xh_rd16, xh_wr16, xh_len16, xh_rd17, xh_wr17, xh_len17, xh_rdA, xh_rdP, xh_wrA, xh_wrP, Option.bind_some, Option.bind_none, ↓reduceIte, if_true, if_false, j3, pk_us, eb, y48 c, pk_sub hr, f2 _ c1, i00, j6, f9]
    · simp only [fX4_readNumber_j72, fX4_readNumber_j103, xh_O5, xh_O4, xh_O3, xh_O8, xh_g5_0, xh_g5_1, xh_g5_2, xh_g5_3, xh_g5_4, xh_g5_5, xh_g5_7, xh_g5_8, xh_g5_9, xh_g5_10, xh_g5_6, xh_g8_0, xh_g8_1, xh_g4_0, xh_g4_1, xh_g4_2, xh_g4_3, xh_g4_4, xh_g4_5, xh_g3_0, xh_g3_1, xh_g3_2, xh_p5_2, xh_p5_3, xh_p8_1, xh_p5_6, xh_p5_10, xh_p4_1, xh_p4_2, xh_p4_3, xh_p4_4, xh_p4_5, xh_p3_2, xh_rd2, xh_wr2, xh_rd4, xh_wr4, xh_rd5, xh_wr5, xh_rd15, xh_wr15, xh_len15, xh_rd16, xh_wr16, xh_len16, xh_rd17, xh_wr17, xh_len17, xh_rdA, xh_rdP, xh_wrA, xh_wrP, Option.bind_some, Option.bind_none, ↓reduceIte, if_true, if_false, j3, pk_us, eb, n48 c, i00, j6, f9]
  · refine ⟨_, ej 4 ?_, ⟨by rw [pk_un (by omega), j3], by omega, Or.inr (Or.inr (Or.inr (Or.inl ⟨hq, hl, ok, pk_us⟩)))⟩, fun i a b c d => by rw [pk_un c, pk_un b, pk_un d]⟩
    rcases num_n hq hl ok with ⟨c, c1⟩ | ⟨c, c1⟩
    · simp only [fX4_readNumber_j72, fX4_readNumber_j103, xh_O5, xh_O4, xh_O3, xh_O8, xh_g5_0, xh_g5_1, xh_g5_2, xh_g5_3, xh_g5_4, xh_g5_5, xh_g5_7, xh_g5_8, xh_g5_9, xh_g5_10, xh_g5_6, xh_g8_0, xh_g8_1, xh_g4_0, xh_g4_1, xh_g4_2, xh_g4_3, xh_g4_4, xh_g4_5, xh_g3_0, xh_g3_1, xh_g3_2, xh_p5_2, xh_p5_3, xh_p8_1, xh_p5_6, xh_p5_10, xh_p4_1, xh_p4_2, xh_p4_3, xh_p4_4, xh_p4_5, xh_p3_2, xh_rd2, xh_wr2, xh_rd4, xh_wr4, xh_rd5, xh_wr5, xh_rd15, xh_wr15, xh_len15, xh_rd16, xh_wr16, xh_len16, xh_rd17, xh_wr17, xh_len17, xh_rdA, xh_rdP, xh_wrA, xh_wrP, Option.bind_some, Option.bind_none, ↓reduceIte, if_true, if_false, j3, pk_us, eb, y48 c, pk_sub hr, f1 _ c1 (by omega), i10]
    · have f9 : (nI (vC tb q (rn (dgt tb) L q - q)) ≤ (999 : Int32)) = False := eq_false (by rw [c1]; exact nI_ge (a := 999) (by omega) (by omega))
      by_cases d : tb q = 48
      · have d1 : rn (dgt tb) L q - q ≤ 1 := by omega
        simp only [fX4_readNumber_j72, fX4_readNumber_j103, xh_O5, xh_O4, xh_O3, xh_O8, xh_g5_0, xh_g5_1, xh_g5_2, xh_g5_3, xh_g5_4, xh_g5_5, xh_g5_7, xh_g5_8, xh_g5_9, xh_g5_10, xh_g5_6, xh_g8_0, xh_g8_1, xh_g4_0, xh_g4_1, xh_g4_2, xh_g4_3, xh_g4_4, xh_g4_5, xh_g3_0, xh_g3_1, xh_g3_2, xh_p5_2, xh_p5_3, xh_p8_1, xh_p5_6, xh_p5_10, xh_p4_1, xh_p4_2, xh_p4_3, xh_p4_4, xh_p4_5, xh_p3_2, xh_rd2, xh_wr2, xh_rd4, xh_wr4, xh_rd5, xh_wr5, xh_rd15, xh_wr15, xh_len15, xh_rd16, xh_wr16, xh_len16, xh_rd17, xh_wr17, xh_len17, xh_rdA, xh_rdP, xh_wrA, xh_wrP, Option.bind_some, Option.bind_none, ↓reduceIte, if_true, if_false, j3, pk_us, eb, y48 d, pk_sub hr, f2 _ d1, i00, j6, f9]
      · simp only [fX4_readNumber_j72, fX4_readNumber_j103, xh_O5, xh_O4, xh_O3, xh_O8, xh_g5_0, xh_g5_1, xh_g5_2, xh_g5_3, xh_g5_4, xh_g5_5, xh_g5_7, xh_g5_8, xh_g5_9, xh_g5_10, xh_g5_6, xh_g8_0, xh_g8_1, xh_g4_0, xh_g4_1, xh_g4_2, xh_g4_3, xh_g4_4, xh_g4_5, xh_g3_0, xh_g3_1, xh_g3_2, xh_p5_2, xh_p5_3, xh_p8_1, xh_p5_6, xh_p5_10, xh_p4_1, xh_p4_2, xh_p4_3, xh_p4_4, xh_p4_5, xh_p3_2, xh_rd2, xh_wr2, xh_rd4, xh_wr4, xh_rd5, xh_wr5, xh_rd15, xh_wr15, xh_len15, xh_rd16, xh_wr16, xh_len16, xh_rd17, xh_wr17, xh_len17, xh_rdA, xh_rdP, xh_wrA, xh_wrP, Option.bind_some, Option.bind_none, ↓reduceIte, if_true, if_false, j3, pk_us, eb, n48 d, i00, j6, f9]
/-- a TOKEN -/
theorem x_token {v : Nat → Int32} {p0 : Nat} (hN : 2000 ≤ N) (h2 : v 2 = nI L) (hL : L ≤ 100) (ht : ∀ i, i < L → r 2 i = nI (tb i) ∧ tb i ≤ 255) (h4 : v 4 = nI p0) (hp : p0 ≤ L) : ∃ v', fX4_readToken N (xH G x v t b p ip r) (some (x + 1)) = some (xH G x v' t b p ip r) ∧ TKs v' tb L (rn (bln tb) L p0) ∧ ∀ i, i ≠ 3 → i ≠ 4 → i ≠ 5 → i ≠ 6 → v' i = v i := by
  have hr2 := rn_le (f := bln tb) (L := L) (p := p0) hp
  have e := x_skL (N := N) (G := G) (x := x) (t := t) (b := b) (p := p) (ip := ip) (r := r) (tb := tb) h2 hL ht (K := fun h l0 => fX4_readToken_j37 N h l0) N p0 hp (by omega)
  rw [← h4, upd_id] at e
  have g : ∀ q, q = rn (bln tb) L p0 → ∃ v', fX4_readToken_j37 N (xH G x (upd v 4 (nI q)) t b p ip r) (some (x + 1)) = some (xH G x v' t b p ip r) ∧ TKs v' tb L q ∧ ∀ i, i ≠ 3 → i ≠ 4 → i ≠ 5 → i ≠ 6 → v' i = v i := by
    intro q hqe
    have hq : q ≤ L := by omega
    have j2 : upd (upd v 4 (nI q)) 3 (nI q) 2 = nI L := by rw [pk_un (by omega), pk_un (by omega)]; exact h2
    have j3 : upd (upd v 4 (nI q)) 3 (nI q) 3 = nI q := pk_us
    have j4 : upd (upd v 4 (nI q)) 3 (nI q) 4 = nI q := by rw [pk_un (by omega), pk_us]
    have kp : ∀ v' : Nat → Int32, (∀ i, i ≠ 3 → i ≠ 4 → i ≠ 5 → i ≠ 6 → v' i = upd (upd v 4 (nI q)) 3 (nI q) i) → ∀ i, i ≠ 3 → i ≠ 4 → i ≠ 5 → i ≠ 6 → v' i = v i := fun v' k i a b c d => by rw [k i a b c d, pk_un a, pk_un b]
    by_cases cL : q < L
    · have hb := (ht q cL).2
      have eb := x_byte_y (N := N) (G := G) (x := x) (t := t) (b := b) (p := p) (ip := ip) j2 hL ht cL
      have e1 : (nI q < nI L) = True := eq_true (nI_lt cL (by omega))
      by_cases cl : 97 ≤ tb q ∧ tb q ≤ 122
      · obtain ⟨v', w1, w2, w3⟩ := x_letters (N := N) (G := G) (x := x) (t := t) (b := b) (p := p) (ip := ip) hN j2 hL ht j3 j4 cL (ltr_iff.mpr cl)
        refine ⟨v', ?_, w2, kp v' w3⟩
        simp only [fX4_readToken_j37, xh_O5, xh_O4, xh_O3, xh_O8, xh_g5_0, xh_g5_1, xh_g5_2, xh_g5_3, xh_g5_4, xh_g5_5, xh_g5_7, xh_g5_8, xh_g5_9, xh_g5_10, xh_g5_6, xh_g8_0, xh_g8_1, xh_g4_0, xh_g4_1, xh_g4_2, xh_g4_3, xh_g4_4, xh_g4_5, xh_g3_0, xh_g3_1, xh_g3_2, xh_p5_2, xh_p5_3, xh_p8_1, xh_p5_6, xh_p5_10, xh_p4_1, xh_p4_2, xh_p4_3, xh_p4_4, xh_p4_5, xh_p3_2, xh_rd2, xh_wr2, xh_rd4, xh_wr4, xh_rd5, xh_wr5, xh_rd15, xh_wr15, xh_len15, xh_rd16, xh_wr16, xh_len16, xh_rd17, xh_wr17, xh_len17, xh_rdA, xh_rdP, xh_wrA, xh_wrP, Option.bind_some, Option.bind_none, ↓reduceIte, if_true, if_false, pk_us, j2, j3, eb, e1, x_isL_y cl.1 cl.2, i10, w1]
      · by_cases cd : 48 ≤ tb q ∧ tb q ≤ 57
        · obtain ⟨v', w1, w2, w3⟩ := x_digits (N := N) (G := G) (x := x) (t := t) (b := b) (p := p) (ip := ip) hN j2 hL ht j3 j4 cL (dgt_iff.mpr cd)
          refine ⟨v', ?_, w2, kp v' w3⟩
          simp only [fX4_readToken_j37, xh_O5, xh_O4, xh_O3, xh_O8, xh_g5_0, xh_g5_1, xh_g5_2, xh_g5_3, xh_g5_4, xh_g5_5, xh_g5_7, xh_g5_8, xh_g5_9, xh_g5_10, xh_g5_6, xh_g8_0, xh_g8_1, xh_g4_0, xh_g4_1, xh_g4_2, xh_g4_3, xh_g4_4, xh_g4_5, xh_g3_0, xh_g3_1, xh_g3_2, xh_p5_2, xh_p5_3, xh_p8_1, xh_p5_6, xh_p5_10, xh_p4_1, xh_p4_2, xh_p4_3, xh_p4_4, xh_p4_5, xh_p3_2, xh_rd2, xh_wr2, xh_rd4, xh_wr4, xh_rd5, xh_wr5, xh_rd15, xh_wr15, xh_len15, xh_rd16, xh_wr16, xh_len16, xh_rd17, xh_wr17, xh_len17, xh_rdA, xh_rdP, xh_wrA, xh_wrP, Option.bind_some, Option.bind_none, ↓reduceIte, if_true, if_false, pk_us, j2, j3, eb, e1, x_isL_n hb cl, x_isD_y cd.1 cd.2, i10, i00, w1]
        · by_cases cs : tb q = 59
          · have e9 : (nI (tb q) = (59 : Int32)) = True := eq_true (by rw [cs]; rfl)
            have j5 : upd (upd (upd v 4 (nI q)) 3 (nI q)) 5 3 4 = nI q := by rw [pk_un (by omega), j4]
            refine ⟨upd (upd (upd (upd v 4 (nI q)) 3 (nI q)) 5 3) 4 (nI (q + 1)), ?_, ⟨by rw [pk_un (by omega), pk_un (by omega), pk_us], hq, Or.inr (Or.inr (Or.inr (Or.inr (Or.inl ⟨cL, cs, by rw [pk_un (by omega), pk_us], pk_us⟩))))⟩, kp _ (fun i a b c d => by rw [pk_un b, pk_un c])⟩
            simp only [fX4_readToken_j37, fX4_readToken_j113, xh_O5, xh_O4, xh_O3, xh_O8, xh_g5_0, xh_g5_1, xh_g5_2, xh_g5_3, xh_g5_4, xh_g5_5, xh_g5_7, xh_g5_8, xh_g5_9, xh_g5_10, xh_g5_6, xh_g8_0, xh_g8_1, xh_g4_0, xh_g4_1, xh_g4_2, xh_g4_3, xh_g4_4, xh_g4_5, xh_g3_0, xh_g3_1, xh_g3_2, xh_p5_2, xh_p5_3, xh_p8_1, xh_p5_6, xh_p5_10, xh_p4_1, xh_p4_2, xh_p4_3, xh_p4_4, xh_p4_5, xh_p3_2, xh_rd2, xh_wr2, xh_rd4, xh_wr4, xh_rd5, xh_wr5, xh_rd15, xh_wr15, xh_len15, xh_rd16, xh_wr16, xh_len16, xh_rd17, xh_wr17, xh_len17, xh_rdA, xh_rdP, xh_wrA, xh_wrP, Option.bind_some, Option.bind_none, ↓reduceIte, if_true, if_false, pk_us, j2, j3, eb, e1, x_isL_n hb cl, x_isD_n hb cd, i00, e9, j5, nI_1]
          · have e9 : (nI (tb q) = (59 : Int32)) = False := eq_false (fun z => cs ((nI_eq (b := 59) (by omega) (by omega)).mp z))
            have j5 : upd (upd (upd v 4 (nI q)) 3 (nI q)) 5 4 4 = nI q := by rw [pk_un (by omega), j4]
            refine ⟨upd (upd (upd (upd v 4 (nI q)) 3 (nI q)) 5 4) 4 (nI (q + 1)), ?_, ⟨by rw [pk_un (by omega), pk_un (by omega), pk_us], hq, Or.inr (Or.inr (Or.inr (Or.inr (Or.inr ⟨cL, fun z => cl (ltr_iff.mp z), fun z => cd (dgt_iff.mp z), cs, by rw [pk_un (by omega), pk_us]⟩))))⟩, kp _ (fun i a b c d => by rw [pk_un b, pk_un c])⟩
            simp only [fX4_readToken_j37, fX4_readToken_j113, xh_O5, xh_O4, xh_O3, xh_O8, xh_g5_0, xh_g5_1, xh_g5_2, xh_g5_3, xh_g5_4, xh_g5_5, xh_g5_7, xh_g5_8, xh_g5_9, xh_g5_10, xh_g5_6, xh_g8_0, xh_g8_1, xh_g4_0, xh_g4_1, xh_g4_2, xh_g4_3, xh_g4_4, xh_g4_5, xh_g3_0, xh_g3_1, xh_g3_2, xh_p5_2, xh_p5_3, xh_p8_1, xh_p5_6, xh_p5_10, xh_p4_1, xh_p4_2, xh_p4_3, xh_p4_4, xh_p4_5, xh_p3_2, xh_rd2, xh_wr2, xh_rd4, xh_wr4, xh_rd5, xh_wr5, xh_rd15, xh_wr15, xh_len15, xh_rd16, xh_wr16, xh_len16, xh_rd17, xh_wr17, xh_len17, xh_rdA, xh_rdP, xh_wrA, xh_wrP, Option.bind_some, Option.bind_none, ↓reduceIte, if_true, if_false, pk_us, j2, j3, eb, e1, x_isL_n hb cl, x_isD_n hb cd, i00, e9, j5, nI_1]
    · have eL : q = L := by omega
      have eb := x_byte_n (N := N) (G := G) (x := x) (t := t) (b := b) (p := p) (ip := ip) (r := r) j2 hL
      rw [← eL] at eb
      have e1 : (nI q < nI L) = False := eq_false (by rw [eL]; exact Int32.not_lt.mpr (nI_le (Nat.le_refl _) (by omega)))
      refine ⟨upd (upd (upd v 4 (nI q)) 3 (nI q)) 5 0, ?_, ⟨by rw [pk_un (by omega), pk_us], hq, Or.inl ⟨eL, pk_us⟩⟩, kp _ (fun i a b c d => by rw [pk_un c])⟩
      simp only [fX4_readToken_j37, xh_O5, xh_O4, xh_O3, xh_O8, xh_g5_0, xh_g5_1, xh_g5_2, xh_g5_3, xh_g5_4, xh_g5_5, xh_g5_7, xh_g5_8, xh_g5_9, xh_g5_10, xh_g5_6, xh_g8_0, xh_g8_1, xh_g4_0, xh_g4_1, xh_g4_2, xh_g4_3, xh_g4_4, xh_g4_5, xh_g3_0, xh_g3_1, xh_g3_2, xh_p5_2, xh_p5_3, xh_p8_1, xh_p5_6, xh_p5_10, xh_p4_1, xh_p4_2, xh_p4_3, xh_p4_4, xh_p4_5, xh_p3_2, xh_rd2, xh_wr2, xh_rd4, xh_wr4, xh_rd5, xh_wr5, xh_rd15, xh_wr15, xh_len15, xh_rd16, xh_wr16, xh_len16, xh_rd17, xh_wr17, xh_len17, xh_rdA, xh_rdP, xh_wrA, xh_wrP, Option.bind_some, Option.bind_none, ↓reduceIte, if_true, if_false, pk_us, j2, j3, eb, e1]
  obtain ⟨v', w1, w2, w3⟩ := g _ rfl
  exact ⟨v', e.trans w1, w2, w3⟩
end BC
