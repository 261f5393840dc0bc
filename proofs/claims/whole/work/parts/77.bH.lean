theorem grow1 {f : Nat → Int32} {R u k l : Nat} {Q : Nat → Prop} (h : ∀ i, i < R → ∃ w, f i = nI w ∧ Q w) (hu : k = l → Q u) : ∀ i, i < (if k = l then R + 1 else R) → ∃ w, (if k = l then upd f R (nI u) else f) i = nI w ∧ Q w := by
  intro i hi
  by_cases c : k = l
  · rw [if_pos c] at hi ⊢
    by_cases d : i = R
    · subst d
      exact ⟨u, pk_us, hu c⟩
    · rw [pk_un d]
      exact h i (by omega)
  · rw [if_neg c] at hi ⊢
    exact h i hi
theorem grow2 {f f' : Nat → Int32} {R k l : Nat} {y : Int32} (h : ∀ i, i < R → f' i = f i) : ∀ i, i < (if k = l then R + 1 else R) → (if k = l then upd f' R y else f') i = (if k = l then upd f R y else f) i := by
  intro i hi
  by_cases c : k = l
  · rw [if_pos c] at hi
    rw [if_pos c, if_pos c]
    by_cases d : i = R
    · subst d
      rw [pk_us, pk_us]
    · rw [pk_un d, pk_un d]
      exact h i (by omega)
  · rw [if_neg c] at hi
    rw [if_neg c, if_neg c]
    exact h i hi
theorem rm_sum {k R W P : Nat} (h : rmB k R W P) (hR : R ≤ 4) (hW : W ≤ 6) (hP : P ≤ 4) : (if k = 114 then R + 1 else R) + (if k = 119 then W + 1 else W) + (if k = 112 then P + 1 else P) = R + W + P + 1 ∧ (if k = 114 then R + 1 else R) ≤ 4 ∧ (if k = 119 then W + 1 else W) ≤ 6 ∧ (if k = 112 then P + 1 else P) ≤ 4 := by
  unfold rmB at h
  rcases h with ⟨rfl, h⟩ | ⟨rfl, h⟩ | ⟨rfl, h⟩
  · rw [if_pos rfl, if_neg (by omega), if_neg (by omega)]; omega
  · rw [if_neg (by omega), if_pos rfl, if_neg (by omega)]; omega
  · rw [if_neg (by omega), if_neg (by omega), if_pos rfl]; omega
def okT (f : Nat → Int32) (R : Nat) : Prop := ∀ i, i < R → ∃ w, f i = nI w ∧ (12 ≤ w ∧ w ≤ 120 ∧ 360 % w = 0)
def okW (f : Nat → Int32) (R : Nat) : Prop := ∀ i, i < R → ∃ w, f i = nI w ∧ (3 ≤ w ∧ w ≤ 99)
def okP (f : Nat → Int32) (R : Nat) : Prop := ∀ i, i < R → ∃ w, f i = nI w ∧ w ≤ 999
section BH
variable {g : Hp} {z : Nat} {x : Nat} {N : Nat} {t : Int64} {b p : Nat} {ip : Nat → Option Nat} {r : Nat → Nat → Int32} {s : Nat → Int32} {a : Nat → Nat → Int32} {tb : Nat → Nat} {L m : Nat}
/-- both read the text alike -/
theorem box_loop (hN : 2000 ≤ N) (hz : x + 35 < z) (hL : L ≤ 100) (ht : ∀ i, i < L → r 2 i = nI (tb i) ∧ tb i ≤ 255) {α β : Type} {K : Hp → Option Nat → Option α} {K0 : Hp → Option α} {M : Hp → Option Nat → Option β} {M0 : Hp → Option Nat → Int32 → Option β} : ∀ (n q R W P : Nat) (v fT fC fI s1 : Nat → Int32) (a1 : Nat → Nat → Int32), q ≤ L → L - q < n → R ≤ 4 → W ≤ 6 → P ≤ 4 → okT fT R → okW fC W → okP fI P → v 2 = nI L → TKs v tb L q → s1 14 = nI L → s1 15 = nI q → s1 16 = nI R → s1 17 = nI W → s1 18 = nI P → (∀ i, i < L → a1 7 i = nI (tb i) ∧ tb i ≤ 255) → (∀ i, i < R → a1 8 i = fT i) → (∀ i, i < W → a1 9 i = fC i) → (∀ i, i < P → a1 10 i = fI i) → ∃ (R' W' P' : Nat) (v' fT' fC' fI' s' : Nat → Int32) (a' : Nat → Nat → Int32), (∀ i, i ≠ 3 → i ≠ 4 → i ≠ 5 → i ≠ 6 → v' i = v i) ∧ (∀ i, i ≠ 15 → i ≠ 16 → i ≠ 17 → i ≠ 18 → i ≠ 19 → s' i = s1 i) ∧ (∀ k, k ≠ 8 → k ≠ 9 → k ≠ 10 → a' k = a1 k) ∧ ((∃ f, f ≤ L ∧ fX4_faultIn_L11 N K K K K0 n (xH (mH (bxH g z R W P fT fC fI) (x + 19) s t a) x v t b p ip r) (some (x + 1)) (some z) (nI (R + W + P)) = K (xH (mH (bxH g z R' W' P' fT' fC' fI') (x + 19) s t a) x v' t b p ip r) (some (x + 1)) ∧ v' 3 = nI f ∧ (∀ G : Hp, fX6_box_L26 N M M0 n (mH G m s1 t a1) (some m) (nI (R + W + P)) = M (mH G m s' t a') (some m)) ∧ s' 15 = nI f) ∨ (fX4_faultIn_L11 N K K K K0 n (xH (mH (bxH g z R W P fT fC fI) (x + 19) s t a) x v t b p ip r) (some (x + 1)) (some z) (nI (R + W + P)) = K0 (xH (mH (bxH g z R' W' P' fT' fC' fI') (x + 19) s t a) x v' t b p ip r) ∧ (∀ G : Hp, fX6_box_L26 N M M0 n (mH G m s1 t a1) (some m) (nI (R + W + P)) = M0 (mH G m s' t a') (some m) (nI (R' + W' + P'))) ∧ s' 16 = nI R' ∧ s' 17 = nI W' ∧ s' 18 = nI P' ∧ R' ≤ 4 ∧ W' ≤ 6 ∧ P' ≤ 4 ∧ okT fT' R' ∧ okW fC' W' ∧ okP fI' P' ∧ (∀ i, i < R' → a' 8 i = fT' i) ∧ (∀ i, i < W' → a' 9 i = fC' i) ∧ (∀ i, i < P' → a' 10 i = fI' i))) := by
  intro n
  induction n with
  | zero => intro q R W P v fT fC fI s1 a1 _ h; omega
  | succ n ih =>
    intro q R W P v fT fC fI s1 a1 hqL hn hR hW hP oT oW oP h2 hk h14 h15 h16 h17 h18 ha7 h8 h9 h10
    by_cases cL : q < L
    · have cM : (nI L ≤ nI q) = False := eq_false (nI_ge cL (by omega))
      have hb := (ht q cL).2
      by_cases cA : ¬ (q + 1 < L ∧ ltr tb (q + 1) = true) ∧ rmB (tb q) R W P
      · generalize hq1 : rn (bln tb) L (q + 1) = q1
        have g1 := rn_ge (f := bln tb) (L := L) (p := q + 1) (by omega)
        have g1' := rn_le (f := bln tb) (L := L) (p := q + 1) (by omega)
        rw [hq1] at g1 g1'
        by_cases cB : nOk tb L q1 ∧ inB (tb q) (nV tb L q1)
        · generalize hq2 : rn (bln tb) L (rn (dgt tb) L q1) = q2
          have g2 := rn_ge (f := dgt tb) (L := L) (p := q1) (by omega)
          have g2' := rn_le (f := dgt tb) (L := L) (p := q1) (by omega)
          have g3 := rn_ge (f := bln tb) (L := L) (p := rn (dgt tb) L q1) g2'
          have g3' := rn_le (f := bln tb) (L := L) (p := rn (dgt tb) L q1) g2'
          rw [hq2] at g3 g3'
          obtain ⟨w, s2, a2, m1, m2, m16, m17, m18, m8, m9, m10, mk, ma⟩ := m_it3 (N := N) (m := m) (t := t) hN h14 h15 h16 h17 h18 hL ha7 cL cA.1 cA.2 hq1 cB.1 cB.2 hq2
          obtain ⟨rs, rR, rW, rP⟩ := rm_sum cA.2 hR hW hP
          by_cases cC : q2 < L ∧ tb q2 = 59
          · have hw : w = 1 ∧ s2 15 = nI (q2 + 1) := by
              rcases m2 with ⟨-, -, h⟩ | ⟨h, -⟩
              · exact h
              · exact absurd cC h
            obtain ⟨v', e1, e2, e3⟩ := x_it4 (N := N) (g := g) (s := s) (a := a) (t := t) (b := b) (p := p) (ip := ip) (fT := fT) (fC := fC) (fI := fI) hN hz h2 hL ht cL hk cA.1 cA.2 hq1 cB.1 cB.2 hq2 cC.1 cC.2 (K := K) (K0 := K0) (n := n) (c := R + W + P) (by omega)
            have g4 := rn_ge (f := bln tb) (L := L) (p := q2 + 1) (by omega)
            have g4' := rn_le (f := bln tb) (L := L) (p := q2 + 1) (by omega)
            have k14 : s2 14 = nI L := by rw [mk 14 (by omega) (by omega) (by omega) (by omega) (by omega), h14]
            have ka7 : ∀ i, i < L → a2 7 i = nI (tb i) ∧ tb i ≤ 255 := fun i hi => by rw [ma 7 (by omega) (by omega) (by omega)]; exact ha7 i hi
            have iB := cB.2
            unfold inB at iB
            obtain ⟨R', W', P', v2, fT', fC', fI', s', a', i1, i2, i3, i4⟩ := ih (rn (bln tb) L (q2 + 1)) (if tb q = 114 then R + 1 else R) (if tb q = 119 then W + 1 else W) (if tb q = 112 then P + 1 else P) v' (if tb q = 114 then upd fT R (nI (nV tb L q1)) else fT) (if tb q = 119 then upd fC W (nI (nV tb L q1)) else fC) (if tb q = 112 then upd fI P (nI (nV tb L q1)) else fI) (upd s2 15 (nI (rn (bln tb) L (q2 + 1)))) a2 g4' (by omega) rR rW rP (grow1 oT (fun hc => by omega)) (grow1 oW (fun hc => by omega)) (grow1 oP (fun hc => by omega)) (by rw [e3 2 (by omega) (by omega) (by omega) (by omega), h2]) e2 (by rw [pk_un (by omega), k14]) pk_us (by rw [pk_un (by omega), m16]) (by rw [pk_un (by omega), m17]) (by rw [pk_un (by omega), m18]) ka7 (by rw [m8]; exact grow2 h8) (by rw [m9]; exact grow2 h9) (by rw [m10]; exact grow2 h10)
            rw [rs] at i4
            have eM : ∀ G : Hp, fX6_box_L26 N M M0 (n + 1) (mH G m s1 t a1) (some m) (nI (R + W + P)) = fX6_box_L26 N M M0 n (mH G m (upd s2 15 (nI (rn (bln tb) L (q2 + 1)))) t a2) (some m) (nI (R + W + P + 1)) := by
              intro G
              rw [fX6_box_L26]
              simp only [mh_O, mh_gJ, mh_pJ, mh_gI0, mh_gI1, mh_gI2, mh_gI5, mh_gI6, mh_gI9, mh_gI14, mh_gI15, mh_gI16, mh_gI17, mh_gI18, mh_gI19, mh_gI24, mh_pI0, mh_pI1, mh_pI2, mh_pI5, mh_pI6, mh_pI9, mh_pI14, mh_pI15, mh_pI16, mh_pI17, mh_pI18, mh_pI19, mh_pI24, mh_gA3, mh_gA4, mh_gA7, mh_gA8, mh_gA10, mh_gA11, mh_gA13, mh_gA20, mh_gA21, mh_gA22, mh_gA23, mh_gA25, mh_gA26, mh_gA27, mh_gA28, mh_gA29, Option.bind_some, Option.bind_none, ↓reduceIte, if_true, if_false, h14, h15, cM, m1, hw.1, i10, m_skip hN k14 hw.2 hL ka7 (show q2 + 1 ≤ L by omega), nI_1]
            refine ⟨R', W', P', v2, fT', fC', fI', s', a', fun i a b c d => by rw [i1 i a b c d, e3 i a b c d], fun i a b c d e => by rw [i2 i a b c d e, pk_un a, mk i a b c d e], fun k a b c => by rw [i3 k a b c, ma k a b c], ?_⟩
            rcases i4 with ⟨f, f1, f2, f3, f4, f5⟩ | ⟨f2, f4, rest⟩
            · exact Or.inl ⟨f, f1, e1.trans f2, f3, fun G => (eM G).trans (f4 G), f5⟩
            · exact Or.inr ⟨e1.trans f2, fun G => (eM G).trans (f4 G), rest⟩
          · have hw : w = 0 ∧ s2 15 = nI q2 := by
              rcases m2 with ⟨h1, h2, -⟩ | ⟨-, h⟩
              · exact absurd ⟨h1, h2⟩ cC
              · exact h
            obtain ⟨v', e1, e2, e3⟩ := x_it3 (N := N) (g := g) (s := s) (a := a) (t := t) (b := b) (p := p) (ip := ip) (fT := fT) (fC := fC) (fI := fI) hN hz h2 hL ht cL hk cA.1 cA.2 hq1 cB.1 cB.2 hq2 cC (K := K) (K0 := K0) (n := n) (c := R + W + P) (by omega)
            refine ⟨_, _, _, v', _, _, _, s2, a2, e3, mk, ma, Or.inl ⟨q2, g3', e1, e2, fun G => ?_, hw.2⟩⟩
            rw [fX6_box_L26]
            simp only [mh_O, mh_gJ, mh_pJ, mh_gI0, mh_gI1, mh_gI2, mh_gI5, mh_gI6, mh_gI9, mh_gI14, mh_gI15, mh_gI16, mh_gI17, mh_gI18, mh_gI19, mh_gI24, mh_pI0, mh_pI1, mh_pI2, mh_pI5, mh_pI6, mh_pI9, mh_pI14, mh_pI15, mh_pI16, mh_pI17, mh_pI18, mh_pI19, mh_pI24, mh_gA3, mh_gA4, mh_gA7, mh_gA8, mh_gA10, mh_gA11, mh_gA13, mh_gA20, mh_gA21, mh_gA22, mh_gA23, mh_gA25, mh_gA26, mh_gA27, mh_gA28, mh_gA29, Option.bind_some, Option.bind_none, ↓reduceIte, if_true, if_false, h14, h15, cM, m1, hw.1, i00]
        · obtain ⟨s2, m1, m2, mk⟩ := m_it2 (N := N) (m := m) (t := t) hN h14 h15 h16 h17 h18 hL ha7 cL cA.1 cA.2 hq1 cB
          obtain ⟨v', e1, e2, e3⟩ := x_it2 (N := N) (g := g) (s := s) (a := a) (t := t) (b := b) (p := p) (ip := ip) (fT := fT) (fC := fC) (fI := fI) hN hz h2 hL ht cL hk cA.1 cA.2 hq1 cB (K := K) (K0 := K0) (n := n) (c := R + W + P) (by omega)
          refine ⟨_, _, _, v', _, _, _, s2, a1, e3, fun i a b c d e => mk i a e, fun _ _ _ _ => rfl, Or.inl ⟨q1, g1', e1, e2, fun G => ?_, m2⟩⟩
          rw [fX6_box_L26]
          simp only [mh_O, mh_gJ, mh_pJ, mh_gI0, mh_gI1, mh_gI2, mh_gI5, mh_gI6, mh_gI9, mh_gI14, mh_gI15, mh_gI16, mh_gI17, mh_gI18, mh_gI19, mh_gI24, mh_pI0, mh_pI1, mh_pI2, mh_pI5, mh_pI6, mh_pI9, mh_pI14, mh_pI15, mh_pI16, mh_pI17, mh_pI18, mh_pI19, mh_pI24, mh_gA3, mh_gA4, mh_gA7, mh_gA8, mh_gA10, mh_gA11, mh_gA13, mh_gA20, mh_gA21, mh_gA22, mh_gA23, mh_gA25, mh_gA26, mh_gA27, mh_gA28, mh_gA29, Option.bind_some, Option.bind_none, ↓reduceIte, if_true, if_false, h14, h15, cM, m1, i00]
      · have e1 := x_it1 (N := N) (g := g) (s := s) (a := a) (t := t) (b := b) (p := p) (ip := ip) (r := r) (fT := fT) (fC := fC) (fI := fI) hz hR hW hP hb cL hk cA (K := K) (K0 := K0) (n := n) (c := R + W + P) (by omega)
        refine ⟨_, _, _, v, _, _, _, s1, a1, fun _ _ _ _ _ => rfl, fun _ _ _ _ _ _ => rfl, fun _ _ _ _ => rfl, Or.inl ⟨q, hqL, e1, hk.1, fun G => ?_, h15⟩⟩
        rw [fX6_box_L26]
        simp only [mh_O, mh_gJ, mh_pJ, mh_gI0, mh_gI1, mh_gI2, mh_gI5, mh_gI6, mh_gI9, mh_gI14, mh_gI15, mh_gI16, mh_gI17, mh_gI18, mh_gI19, mh_gI24, mh_pI0, mh_pI1, mh_pI2, mh_pI5, mh_pI6, mh_pI9, mh_pI14, mh_pI15, mh_pI16, mh_pI17, mh_pI18, mh_pI19, mh_pI24, mh_gA3, mh_gA4, mh_gA7, mh_gA8, mh_gA10, mh_gA11, mh_gA13, mh_gA20, mh_gA21, mh_gA22, mh_gA23, mh_gA25, mh_gA26, mh_gA27, mh_gA28, mh_gA29, Option.bind_some, Option.bind_none, ↓reduceIte, if_true, if_false, h14, h15, cM, m_it1 h14 h15 h16 h17 h18 hR hW hP hL ha7 cL cA, i00]
    · have cM : (nI L ≤ nI q) = True := eq_true (nI_le (by omega) (by omega))
      have c1 : ((100 : Int32) < nI (R + W + P)) = False := eq_false (Int32.not_lt.mpr (nI_le (b := 100) (by omega) (by omega)))
      have c2 : (v 5 = 0) = True := eq_true (tk_end hk (by omega))
      refine ⟨R, W, P, v, fT, fC, fI, s1, a1, fun _ _ _ _ _ => rfl, fun _ _ _ _ _ _ => rfl, fun _ _ _ _ => rfl, Or.inr ⟨?_, fun G => ?_, h16, h17, h18, hR, hW, hP, oT, oW, oP, h8, h9, h10⟩⟩
      · rw [fX4_faultIn_L11]
        simp only [xh_O5, xh_O4, xh_O3, xh_O8, xh_g5_0, xh_g5_1, xh_g5_2, xh_g5_3, xh_g5_4, xh_g5_5, xh_g5_7, xh_g5_8, xh_g5_9, xh_g5_10, xh_g5_6, xh_g8_0, xh_g8_1, xh_g4_0, xh_g4_1, xh_g4_2, xh_g4_3, xh_g4_4, xh_g4_5, xh_g3_0, xh_g3_1, xh_g3_2, xh_p5_2, xh_p5_3, xh_p8_1, xh_p5_6, xh_p5_10, xh_p4_1, xh_p4_2, xh_p4_3, xh_p4_4, xh_p4_5, xh_p3_2, xh_rd2, xh_wr2, xh_rd4, xh_wr4, xh_rd5, xh_wr5, xh_rd15, xh_wr15, xh_len15, xh_rd16, xh_wr16, xh_len16, xh_rd17, xh_wr17, xh_len17, xh_rdA, xh_rdP, xh_wrA, xh_wrP, Option.bind_some, Option.bind_none, ↓reduceIte, if_true, if_false, c1, c2]
      · rw [fX6_box_L26]
        simp only [mh_O, mh_gJ, mh_pJ, mh_gI0, mh_gI1, mh_gI2, mh_gI5, mh_gI6, mh_gI9, mh_gI14, mh_gI15, mh_gI16, mh_gI17, mh_gI18, mh_gI19, mh_gI24, mh_pI0, mh_pI1, mh_pI2, mh_pI5, mh_pI6, mh_pI9, mh_pI14, mh_pI15, mh_pI16, mh_pI17, mh_pI18, mh_pI19, mh_pI24, mh_gA3, mh_gA4, mh_gA7, mh_gA8, mh_gA10, mh_gA11, mh_gA13, mh_gA20, mh_gA21, mh_gA22, mh_gA23, mh_gA25, mh_gA26, mh_gA27, mh_gA28, mh_gA29, Option.bind_some, Option.bind_none, ↓reduceIte, if_true, if_false, h14, h15, cM]
end BH
