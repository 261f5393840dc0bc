theorem up_up (h : Hp) (a : Nat) (y z : AE) : up (up h a y) a z = up h a z := by
  funext q
  by_cases c : q = a
  · subst c; rw [up_s, up_s]
  · rw [up_n c, up_n c, up_n c]
section NW
variable {x : Nat} {N : Nat} {h : Hp} {sz : Nat} {g : Hp} {v : Nat → Int32} {t : Int64} {b p : Nat} {ip : Nat → Option Nat} {r : Nat → Nat → Int32} {s : Nat → Int32} {a : Nat → Nat → Int32} {R W P : Nat} {T C φ : Nat → Nat} {sn : Nat} {tt tp : Nat → Nat} {L U : Nat} {ψ : Nat → Nat → Nat}
theorem mh_new {q : Nat} {y : AE} (hq : x + 35 < q) : up (mH g (x + 19) s t a) q y = mH (up g q y) (x + 19) s t a := by
  funext k
  by_cases c : k = q
  · subst c
    rw [up_s]
    unfold mH
    rw [if_neg (by omega), if_neg (by omega), if_neg (by omega), up_s]
  · rw [up_n c]
    unfold mH
    rw [up_n c]
theorem xh_new {G : Hp} {q : Nat} {y : AE} (hq : x + 35 < q) : up (xH G x v t b p ip r) q y = xH (up G q y) x v t b p ip r := by
  funext k
  by_cases c : k = q
  · subst c
    rw [up_s, xh_out (by unfold nfx; omega), up_s]
  · rw [up_n c]
    unfold xH xHC
    rw [up_n c]
/-- a new cell behind all -/
theorem new_x {q : Nat} {y : AE} (hq : x + 35 < q) : up (xH (mH g (x + 19) s t a) x v t b p ip r) q y = xH (mH (up g q y) (x + 19) s t a) x v t b p ip r := by
  rw [xh_new hq, mh_new hq]
theorem new_at {q : Nat} {y : AE} (hq : x + 35 < q) : xH (mH (up g q y) (x + 19) s t a) x v t b p ip r q = some y := by
  rw [xh_dy q (Or.inr hq), mh_dy (Or.inr hq), up_s]
theorem new_le {q : Nat} {y : AE} (hq : g q = none) : ∀ k, dy x k → ∀ z, g k = some z → up g q y k = some z := by
  intro k _ z e
  rw [up_n (fun c => by rw [c, hq] at e; cases e)]
  exact e
theorem new_fr {q : Nat} {y : AE} (fr : ∀ k, q ≤ k → g k = none) : ∀ k, q + 1 ≤ k → up g q y k = none := by
  intro k hk
  rw [up_n (by omega)]
  exact fr k (by omega)
theorem CI.next {g' : Hp} {sz' p' V d : Nat} {φ' : Nat → Nat} {f' : Nat → Int32} {s' : Nat → Int32} {a' : Nat → Nat → Int32} (c : CI x h sz g v t b p ip r s a R W P T C φ sn tt tp L U ψ) (hg : ∀ q, dy x q → ∀ y, g q = some y → g' q = some y) (O : okN R W P T C φ') (Q : PP x g' P T C p' φ') (hV : V + d = U) (hd : d ≤ 1) (hV9 : V ≤ 9) (hm : V + 1 = min (U + 1) 10) (hf1 : ∀ j i, j < V → i < 78 → f' (78 * j + i) = a 11 (78 * (j + d) + i)) (hf2 : ∀ i, i < 78 → f' (78 * V + i) = curF s a i) (J : mN s' a' P φ') (hs : ∀ i, (i = 0 ∨ i = 1 ∨ i = 2 ∨ i = 9 ∨ i = 14) → s' i = s i) (um : s' 24 = nI (V + 1)) (ha : ∀ k, (k = 1 ∨ k = 2 ∨ k = 5 ∨ k = 6 ∨ k = 7 ∨ k = 16) → a' k = a k) (h11 : a' 11 = f') (fr : ∀ q, sz' ≤ q → g' q = none) (sx : x + 35 < sz') : IV x (mH (xH g' x (upd v 0 (nI (V + 1))) t b p' (cip ip U p) r) (x + 19) s' t a') sz' := by
  have hP := c.B.2.2.1
  have hO := c.O
  refine c.keep3 (U' := V + 1) (ψ' := fun j => if j = V then φ else ψ (j + d)) (φ' := φ') (fun i hi => pk_un hi) (fun _ => rfl) hs (fun k hk => ha k (by omega)) hg O J Q (by omega) um pk_us ⟨fun j hj => ?_, fun j h1 h2 => ?_⟩ (fun j hj => ?_) (fun k hk => ?_) fr sx
  · dsimp only
    by_cases e : j = V
    · subst e
      refine ⟨p, ?_, by rw [if_pos rfl]; exact c.O, by rw [if_pos rfl]; exact c.Q.moved hg⟩
      unfold cip
      by_cases cU : U < 10
      · rw [if_pos cU]
        unfold va_up
        rw [if_pos (by omega)]
      · rw [if_neg cU]
        unfold va_up
        rw [if_pos (by omega)]
    · rw [if_neg e]
      obtain ⟨q, q1, q2, q3⟩ := c.ch.1 (j + d) (by omega)
      dsimp only at q1
      refine ⟨q, ?_, q2, q3.moved hg⟩
      rw [← q1]
      unfold cip
      by_cases cU : U < 10
      · rw [if_pos cU]
        unfold va_up
        rw [if_neg (by omega), show j + d + 2 = j + 2 by omega]
      · rw [if_neg cU]
        unfold va_up lip
        rw [if_neg (by omega), if_pos (by omega), show j + 2 + 1 = j + d + 2 by omega]
  · dsimp only
    have cU : U < 10 := by omega
    unfold cip
    rw [if_pos cU]
    unfold va_up
    rw [if_neg (by omega)]
    exact c.ch.2 j (by omega) h2
  · rw [h11]
    by_cases e : j = V
    · subst e
      rw [if_pos rfl]
      exact nF_congr hP hO.2.1 (nF_cur hP c.J) (fun i hi => hf2 i hi)
    · rw [if_neg e]
      exact nF_congr hP (CH.ok c.ch (j + d) (by omega)).2.1 (c.cm (j + d) (by omega)) (fun i hi => hf1 j i (by omega) hi)
  · rw [ha 16 (by decide), cip_i hk]
    exact (c.im k hk).moved hg
theorem x_change (hN : 2000 ≤ N) {G : Hp} {q V d : Nat} (hV : V + d = U) (hd : V + 1 = min (U + 1) 10) (hU : U ≤ 10) (hv : v 0 = nI U) (ok : (dy x p ∧ isO G (some p) 2 = true) ∧ ∀ j, j < 10 → opP x G (ip (j + 2))) : fX5_changeTo N (xH G x v t b p ip r) (some x) (some q) = some (xH G x (upd v 0 (nI (V + 1))) t b q (cip ip U p) r) := by
  rw [hd]
  simp only [fX5_changeTo, xh_O5, xh_O4, xh_O3, xh_O8, xh_g5_0, xh_g5_1, xh_g5_2, xh_g5_3, xh_g5_4, xh_g5_5, xh_g5_7, xh_g5_8, xh_g5_9, xh_g5_10, xh_g5_6, xh_g8_0, xh_g8_1, xh_g4_0, xh_g4_1, xh_g4_2, xh_g4_3, xh_g4_4, xh_g4_5, xh_g3_0, xh_g3_1, xh_g3_2, xh_p5_2, xh_p5_3, xh_p8_1, xh_p5_6, xh_p5_10, xh_p4_1, xh_p4_2, xh_p4_3, xh_p4_4, xh_p4_5, xh_p3_2, xh_rd2, xh_wr2, xh_rd4, xh_wr4, xh_rd5, xh_wr5, xh_rd15, xh_wr15, xh_len15, xh_rd16, xh_wr16, xh_len16, xh_rd17, xh_wr17, xh_len17, xh_rdA, xh_rdP, xh_wrA, xh_wrP, Option.bind_some, Option.bind_none, ↓reduceIte, if_true, if_false, x_adds hN hU hv ok.1 ok.2]
/-- a paper laid behind all -/
theorem x_paper {E : Hp} {q : Nat} {z : Int32} {i1 i2 : Nat} (e : E q = some (oO 2 [.int 0, .null, .null])) : fX2_init N E (some q) z (some i1) (some i2) = some (up E q (oO 2 [.int z, .ref i1, .ref i2])) := by
  unfold fX2_init
  rw [if_neg (by simp), pV_eq e (by decide)]
  simp only [Option.bind_some, Option.bind_none, ↓reduceIte, if_true, if_false]
  rw [pV_eq (up_s _ _ _) (by simp)]
  simp only [Option.bind_some, Option.bind_none, ↓reduceIte, if_true, if_false, up_up]
  rw [pV_eq (up_s _ _ _) (by simp)]
  simp only [Option.bind_some, Option.bind_none, ↓reduceIte, if_true, if_false, up_up]
  rfl
end NW
