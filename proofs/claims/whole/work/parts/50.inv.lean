theorem mh_dy {g : Hp} {x : Nat} {s : Nat → Int32} {t : Int64} {a : Nat → Nat → Int32} {q : Nat} (h : dy x q) : mH g (x + 19) s t a q = g q := by
  unfold dy at h
  unfold mH
  by_cases c : q < x + 19
  · rw [if_pos c]
  · rw [if_neg c, if_neg (by omega), if_neg (by omega)]
theorem BXX.moved {x : Nat} {G G' : Hp} {b R W P : Nat} {T C : Nat → Nat} (h : BXX x G b R W P T C) (e : ∀ q, dy x q → ∀ y, G q = some y → G' q = some y) : BXX x G' b R W P T C := by
  obtain ⟨⟨h1, ⟨f, h2, h3⟩, ⟨f', h4, h5⟩⟩, d0, d1, d2⟩ := h
  exact ⟨⟨e _ d0 _ h1, ⟨f, e _ d1 _ h2, h3⟩, ⟨f', e _ d2 _ h4, h5⟩⟩, d0, d1, d2⟩
/-- the papers before, the oldest first -/
def CH (x : Nat) (g : Hp) (R W P : Nat) (T C : Nat → Nat) (U : Nat) (pp : Nat → Option Nat) (ψ : Nat → Nat → Nat) : Prop :=
  (∀ j, j < U → ∃ q, pp j = some q ∧ okN R W P T C (ψ j) ∧ PP x g P T C q (ψ j)) ∧ ∀ j, U ≤ j → j < 10 → pp j = none
theorem CH.moved {x : Nat} {g g' : Hp} {R W P : Nat} {T C : Nat → Nat} {U : Nat} {pp : Nat → Option Nat} {ψ : Nat → Nat → Nat} (h : CH x g R W P T C U pp ψ) (e : ∀ q, dy x q → ∀ y, g q = some y → g' q = some y) : CH x g' R W P T C U pp ψ := by
  refine ⟨fun j hj => ?_, h.2⟩
  obtain ⟨q, h1, h2, h3⟩ := h.1 j hj
  exact ⟨q, h1, h2, h3.moved e⟩
theorem CH.ok {x : Nat} {g : Hp} {R W P : Nat} {T C : Nat → Nat} {U : Nat} {pp : Nat → Option Nat} {ψ : Nat → Nat → Nat} (h : CH x g R W P T C U pp ψ) (j : Nat) (hj : j < U) : okN R W P T C (ψ j) := by
  obtain ⟨q, h1, h2, h3⟩ := h.1 j hj
  exact h2
/-- the same papers in another row -/
theorem CH.row {x : Nat} {g : Hp} {R W P : Nat} {T C : Nat → Nat} {U : Nat} {pp pp' : Nat → Option Nat} {ψ : Nat → Nat → Nat} (h : CH x g R W P T C U pp ψ) (hU : U ≤ 10) (e : ∀ j, j < 10 → pp' j = pp j) : CH x g R W P T C U pp' ψ :=
  ⟨fun j hj => by rw [e j (by omega)]; exact h.1 j hj, fun j h1 h2 => by rw [e j h2]; exact h.2 j h1 h2⟩
/-- a place for a paper: empty, or a paper lies there -/
def opP (x : Nat) (g : Hp) (o : Option Nat) : Prop := o = none ∨ ∃ q, o = some q ∧ dy x q ∧ isO g (some q) 2 = true
theorem PP.io {x : Nat} {g : Hp} {P : Nat} {T C : Nat → Nat} {q : Nat} {φ : Nat → Nat} (h : PP x g P T C q φ) : isO g (some q) 2 = true := by
  obtain ⟨-, ia, ca, h2, -⟩ := h
  exact isO_eq h2
theorem CH.op {x : Nat} {g : Hp} {R W P : Nat} {T C : Nat → Nat} {U : Nat} {pp : Nat → Option Nat} {ψ : Nat → Nat → Nat} (h : CH x g R W P T C U pp ψ) (j : Nat) (hj : j < 10) : opP x g (pp j) := by
  by_cases c : j < U
  · obtain ⟨q, h1, h2, h3⟩ := h.1 j c
    exact Or.inr ⟨q, h1, h3.1, h3.io⟩
  · exact Or.inl (h.2 j (by omega) hj)
/-- a kept image -/
def IMG (x : Nat) (g : Hp) (R W P : Nat) (T C : Nat → Nat) (ik : Option Nat) (f : Nat → Int32) : Prop :=
  (ik = none ∧ f 0 = 0) ∨ ∃ i ps pa q φ U pp ψ, (ik = some i ∧ dy x i ∧ g i = some (oO 7 [.ref q, .ref ps]) ∧ dy x ps ∧ g ps = some (oO 8 [.ref pa, .int (nI U)]) ∧ dy x pa ∧ g pa = some (oA 3 10 pp)) ∧ f 0 = 1 ∧ f 1 = nI U ∧ U ≤ 10 ∧ okN R W P T C φ ∧ PP x g P T C q φ ∧ nF (fun i => f (2 + i)) P φ ∧ CH x g R W P T C U pp ψ ∧ ∀ j, j < U → nF (fun i => f (80 + 78 * j + i)) P (ψ j)
theorem IMG.moved {x : Nat} {g g' : Hp} {R W P : Nat} {T C : Nat → Nat} {ik : Option Nat} {f : Nat → Int32} (h : IMG x g R W P T C ik f) (e : ∀ q, dy x q → ∀ y, g q = some y → g' q = some y) : IMG x g' R W P T C ik f := by
  rcases h with h | ⟨i, ps, pa, q, φ, U, pp, ψ, ⟨a1, a2, a3, a4, a5, a6, a7⟩, h2, h4, h5, h6, h7, h8, h9, h10⟩
  · exact Or.inl h
  · exact Or.inr ⟨i, ps, pa, q, φ, U, pp, ψ, ⟨a1, a2, e _ a2 _ a3, a4, e _ a4 _ a5, a6, e _ a6 _ a7⟩, h2, h4, h5, h6, h7.moved e, h8, h9.moved e, h10⟩
/-- how both stand between two calls -/
def CI (x : Nat) (h : Hp) (sz : Nat) (g : Hp) (v : Nat → Int32) (t : Int64) (b p : Nat) (ip : Nat → Option Nat) (r : Nat → Nat → Int32) (s : Nat → Int32) (a : Nat → Nat → Int32) (R W P : Nat) (T C φ : Nat → Nat) (sn : Nat) (tt tp : Nat → Nat) (L U : Nat) (ψ : Nat → Nat → Nat) : Prop :=
  (h = mH (xH g x v t b p ip r) (x + 19) s t a) ∧
  (okB R W P T C) ∧
  (mB s a R W P T C) ∧
  (BXX x g b R W P T C) ∧
  (okN R W P T C φ) ∧
  (mN s a P φ) ∧
  (PP x g P T C p φ) ∧
  (mS s a sn tt tp) ∧
  (xS v r sn tt tp) ∧
  (v 1 = 0 ∨ ∀ i, i < 1000 → r 17 i = nI (xR T C W (fun _ => 0) R i)) ∧
  (L ≤ 100) ∧
  (s 14 = nI L) ∧
  (v 2 = nI L) ∧
  (∀ i, i < L → a 7 i = r 2 i ∧ ∃ k, k ≤ 255 ∧ a 7 i = nI k) ∧
  (U ≤ 10) ∧
  (s 24 = nI U) ∧
  (v 0 = nI U) ∧
  (CH x g R W P T C U (fun j => ip (j + 2)) ψ) ∧
  (∀ j, j < U → nF (fun i => a 11 (78 * j + i)) P (ψ j)) ∧
  (∀ k, k < 2 → IMG x g R W P T C (ip k) (fun i => a 16 (860 * k + i))) ∧
  (∀ q, sz ≤ q → g q = none) ∧
  (x + 35 < sz)
theorem CI.hh {x : Nat} {h : Hp} {sz : Nat} {g : Hp} {v : Nat → Int32} {t : Int64} {b p : Nat} {ip : Nat → Option Nat} {r : Nat → Nat → Int32} {s : Nat → Int32} {a : Nat → Nat → Int32} {R W P : Nat} {T C φ : Nat → Nat} {sn : Nat} {tt tp : Nat → Nat} {L U : Nat} {ψ : Nat → Nat → Nat} (c : CI x h sz g v t b p ip r s a R W P T C φ sn tt tp L U ψ) : h = mH (xH g x v t b p ip r) (x + 19) s t a := c.1
theorem CI.B {x : Nat} {h : Hp} {sz : Nat} {g : Hp} {v : Nat → Int32} {t : Int64} {b p : Nat} {ip : Nat → Option Nat} {r : Nat → Nat → Int32} {s : Nat → Int32} {a : Nat → Nat → Int32} {R W P : Nat} {T C φ : Nat → Nat} {sn : Nat} {tt tp : Nat → Nat} {L U : Nat} {ψ : Nat → Nat → Nat} (c : CI x h sz g v t b p ip r s a R W P T C φ sn tt tp L U ψ) : okB R W P T C := c.2.1
theorem CI.H {x : Nat} {h : Hp} {sz : Nat} {g : Hp} {v : Nat → Int32} {t : Int64} {b p : Nat} {ip : Nat → Option Nat} {r : Nat → Nat → Int32} {s : Nat → Int32} {a : Nat → Nat → Int32} {R W P : Nat} {T C φ : Nat → Nat} {sn : Nat} {tt tp : Nat → Nat} {L U : Nat} {ψ : Nat → Nat → Nat} (c : CI x h sz g v t b p ip r s a R W P T C φ sn tt tp L U ψ) : mB s a R W P T C := c.2.2.1
theorem CI.X {x : Nat} {h : Hp} {sz : Nat} {g : Hp} {v : Nat → Int32} {t : Int64} {b p : Nat} {ip : Nat → Option Nat} {r : Nat → Nat → Int32} {s : Nat → Int32} {a : Nat → Nat → Int32} {R W P : Nat} {T C φ : Nat → Nat} {sn : Nat} {tt tp : Nat → Nat} {L U : Nat} {ψ : Nat → Nat → Nat} (c : CI x h sz g v t b p ip r s a R W P T C φ sn tt tp L U ψ) : BXX x g b R W P T C := c.2.2.2.1
theorem CI.O {x : Nat} {h : Hp} {sz : Nat} {g : Hp} {v : Nat → Int32} {t : Int64} {b p : Nat} {ip : Nat → Option Nat} {r : Nat → Nat → Int32} {s : Nat → Int32} {a : Nat → Nat → Int32} {R W P : Nat} {T C φ : Nat → Nat} {sn : Nat} {tt tp : Nat → Nat} {L U : Nat} {ψ : Nat → Nat → Nat} (c : CI x h sz g v t b p ip r s a R W P T C φ sn tt tp L U ψ) : okN R W P T C φ := c.2.2.2.2.1
theorem CI.J {x : Nat} {h : Hp} {sz : Nat} {g : Hp} {v : Nat → Int32} {t : Int64} {b p : Nat} {ip : Nat → Option Nat} {r : Nat → Nat → Int32} {s : Nat → Int32} {a : Nat → Nat → Int32} {R W P : Nat} {T C φ : Nat → Nat} {sn : Nat} {tt tp : Nat → Nat} {L U : Nat} {ψ : Nat → Nat → Nat} (c : CI x h sz g v t b p ip r s a R W P T C φ sn tt tp L U ψ) : mN s a P φ := c.2.2.2.2.2.1
theorem CI.Q {x : Nat} {h : Hp} {sz : Nat} {g : Hp} {v : Nat → Int32} {t : Int64} {b p : Nat} {ip : Nat → Option Nat} {r : Nat → Nat → Int32} {s : Nat → Int32} {a : Nat → Nat → Int32} {R W P : Nat} {T C φ : Nat → Nat} {sn : Nat} {tt tp : Nat → Nat} {L U : Nat} {ψ : Nat → Nat → Nat} (c : CI x h sz g v t b p ip r s a R W P T C φ sn tt tp L U ψ) : PP x g P T C p φ := c.2.2.2.2.2.2.1
theorem CI.S {x : Nat} {h : Hp} {sz : Nat} {g : Hp} {v : Nat → Int32} {t : Int64} {b p : Nat} {ip : Nat → Option Nat} {r : Nat → Nat → Int32} {s : Nat → Int32} {a : Nat → Nat → Int32} {R W P : Nat} {T C φ : Nat → Nat} {sn : Nat} {tt tp : Nat → Nat} {L U : Nat} {ψ : Nat → Nat → Nat} (c : CI x h sz g v t b p ip r s a R W P T C φ sn tt tp L U ψ) : mS s a sn tt tp := c.2.2.2.2.2.2.2.1
theorem CI.Y {x : Nat} {h : Hp} {sz : Nat} {g : Hp} {v : Nat → Int32} {t : Int64} {b p : Nat} {ip : Nat → Option Nat} {r : Nat → Nat → Int32} {s : Nat → Int32} {a : Nat → Nat → Int32} {R W P : Nat} {T C φ : Nat → Nat} {sn : Nat} {tt tp : Nat → Nat} {L U : Nat} {ψ : Nat → Nat → Nat} (c : CI x h sz g v t b p ip r s a R W P T C φ sn tt tp L U ψ) : xS v r sn tt tp := c.2.2.2.2.2.2.2.2.1
theorem CI.ca {x : Nat} {h : Hp} {sz : Nat} {g : Hp} {v : Nat → Int32} {t : Int64} {b p : Nat} {ip : Nat → Option Nat} {r : Nat → Nat → Int32} {s : Nat → Int32} {a : Nat → Nat → Int32} {R W P : Nat} {T C φ : Nat → Nat} {sn : Nat} {tt tp : Nat → Nat} {L U : Nat} {ψ : Nat → Nat → Nat} (c : CI x h sz g v t b p ip r s a R W P T C φ sn tt tp L U ψ) : v 1 = 0 ∨ ∀ i, i < 1000 → r 17 i = nI (xR T C W (fun _ => 0) R i) := c.2.2.2.2.2.2.2.2.2.1
theorem CI.tl {x : Nat} {h : Hp} {sz : Nat} {g : Hp} {v : Nat → Int32} {t : Int64} {b p : Nat} {ip : Nat → Option Nat} {r : Nat → Nat → Int32} {s : Nat → Int32} {a : Nat → Nat → Int32} {R W P : Nat} {T C φ : Nat → Nat} {sn : Nat} {tt tp : Nat → Nat} {L U : Nat} {ψ : Nat → Nat → Nat} (c : CI x h sz g v t b p ip r s a R W P T C φ sn tt tp L U ψ) : L ≤ 100 := c.2.2.2.2.2.2.2.2.2.2.1
theorem CI.tm {x : Nat} {h : Hp} {sz : Nat} {g : Hp} {v : Nat → Int32} {t : Int64} {b p : Nat} {ip : Nat → Option Nat} {r : Nat → Nat → Int32} {s : Nat → Int32} {a : Nat → Nat → Int32} {R W P : Nat} {T C φ : Nat → Nat} {sn : Nat} {tt tp : Nat → Nat} {L U : Nat} {ψ : Nat → Nat → Nat} (c : CI x h sz g v t b p ip r s a R W P T C φ sn tt tp L U ψ) : s 14 = nI L := c.2.2.2.2.2.2.2.2.2.2.2.1
theorem CI.tx {x : Nat} {h : Hp} {sz : Nat} {g : Hp} {v : Nat → Int32} {t : Int64} {b p : Nat} {ip : Nat → Option Nat} {r : Nat → Nat → Int32} {s : Nat → Int32} {a : Nat → Nat → Int32} {R W P : Nat} {T C φ : Nat → Nat} {sn : Nat} {tt tp : Nat → Nat} {L U : Nat} {ψ : Nat → Nat → Nat} (c : CI x h sz g v t b p ip r s a R W P T C φ sn tt tp L U ψ) : v 2 = nI L := c.2.2.2.2.2.2.2.2.2.2.2.2.1
theorem CI.te {x : Nat} {h : Hp} {sz : Nat} {g : Hp} {v : Nat → Int32} {t : Int64} {b p : Nat} {ip : Nat → Option Nat} {r : Nat → Nat → Int32} {s : Nat → Int32} {a : Nat → Nat → Int32} {R W P : Nat} {T C φ : Nat → Nat} {sn : Nat} {tt tp : Nat → Nat} {L U : Nat} {ψ : Nat → Nat → Nat} (c : CI x h sz g v t b p ip r s a R W P T C φ sn tt tp L U ψ) : ∀ i, i < L → a 7 i = r 2 i ∧ ∃ k, k ≤ 255 ∧ a 7 i = nI k := c.2.2.2.2.2.2.2.2.2.2.2.2.2.1
theorem CI.ul {x : Nat} {h : Hp} {sz : Nat} {g : Hp} {v : Nat → Int32} {t : Int64} {b p : Nat} {ip : Nat → Option Nat} {r : Nat → Nat → Int32} {s : Nat → Int32} {a : Nat → Nat → Int32} {R W P : Nat} {T C φ : Nat → Nat} {sn : Nat} {tt tp : Nat → Nat} {L U : Nat} {ψ : Nat → Nat → Nat} (c : CI x h sz g v t b p ip r s a R W P T C φ sn tt tp L U ψ) : U ≤ 10 := c.2.2.2.2.2.2.2.2.2.2.2.2.2.2.1
theorem CI.um {x : Nat} {h : Hp} {sz : Nat} {g : Hp} {v : Nat → Int32} {t : Int64} {b p : Nat} {ip : Nat → Option Nat} {r : Nat → Nat → Int32} {s : Nat → Int32} {a : Nat → Nat → Int32} {R W P : Nat} {T C φ : Nat → Nat} {sn : Nat} {tt tp : Nat → Nat} {L U : Nat} {ψ : Nat → Nat → Nat} (c : CI x h sz g v t b p ip r s a R W P T C φ sn tt tp L U ψ) : s 24 = nI U := c.2.2.2.2.2.2.2.2.2.2.2.2.2.2.2.1
theorem CI.ux {x : Nat} {h : Hp} {sz : Nat} {g : Hp} {v : Nat → Int32} {t : Int64} {b p : Nat} {ip : Nat → Option Nat} {r : Nat → Nat → Int32} {s : Nat → Int32} {a : Nat → Nat → Int32} {R W P : Nat} {T C φ : Nat → Nat} {sn : Nat} {tt tp : Nat → Nat} {L U : Nat} {ψ : Nat → Nat → Nat} (c : CI x h sz g v t b p ip r s a R W P T C φ sn tt tp L U ψ) : v 0 = nI U := c.2.2.2.2.2.2.2.2.2.2.2.2.2.2.2.2.1
theorem CI.ch {x : Nat} {h : Hp} {sz : Nat} {g : Hp} {v : Nat → Int32} {t : Int64} {b p : Nat} {ip : Nat → Option Nat} {r : Nat → Nat → Int32} {s : Nat → Int32} {a : Nat → Nat → Int32} {R W P : Nat} {T C φ : Nat → Nat} {sn : Nat} {tt tp : Nat → Nat} {L U : Nat} {ψ : Nat → Nat → Nat} (c : CI x h sz g v t b p ip r s a R W P T C φ sn tt tp L U ψ) : CH x g R W P T C U (fun j => ip (j + 2)) ψ := c.2.2.2.2.2.2.2.2.2.2.2.2.2.2.2.2.2.1
theorem CI.cm {x : Nat} {h : Hp} {sz : Nat} {g : Hp} {v : Nat → Int32} {t : Int64} {b p : Nat} {ip : Nat → Option Nat} {r : Nat → Nat → Int32} {s : Nat → Int32} {a : Nat → Nat → Int32} {R W P : Nat} {T C φ : Nat → Nat} {sn : Nat} {tt tp : Nat → Nat} {L U : Nat} {ψ : Nat → Nat → Nat} (c : CI x h sz g v t b p ip r s a R W P T C φ sn tt tp L U ψ) : ∀ j, j < U → nF (fun i => a 11 (78 * j + i)) P (ψ j) := c.2.2.2.2.2.2.2.2.2.2.2.2.2.2.2.2.2.2.1
theorem CI.im {x : Nat} {h : Hp} {sz : Nat} {g : Hp} {v : Nat → Int32} {t : Int64} {b p : Nat} {ip : Nat → Option Nat} {r : Nat → Nat → Int32} {s : Nat → Int32} {a : Nat → Nat → Int32} {R W P : Nat} {T C φ : Nat → Nat} {sn : Nat} {tt tp : Nat → Nat} {L U : Nat} {ψ : Nat → Nat → Nat} (c : CI x h sz g v t b p ip r s a R W P T C φ sn tt tp L U ψ) : ∀ k, k < 2 → IMG x g R W P T C (ip k) (fun i => a 16 (860 * k + i)) := c.2.2.2.2.2.2.2.2.2.2.2.2.2.2.2.2.2.2.2.1
theorem CI.fr {x : Nat} {h : Hp} {sz : Nat} {g : Hp} {v : Nat → Int32} {t : Int64} {b p : Nat} {ip : Nat → Option Nat} {r : Nat → Nat → Int32} {s : Nat → Int32} {a : Nat → Nat → Int32} {R W P : Nat} {T C φ : Nat → Nat} {sn : Nat} {tt tp : Nat → Nat} {L U : Nat} {ψ : Nat → Nat → Nat} (c : CI x h sz g v t b p ip r s a R W P T C φ sn tt tp L U ψ) : ∀ q, sz ≤ q → g q = none := c.2.2.2.2.2.2.2.2.2.2.2.2.2.2.2.2.2.2.2.2.1
theorem CI.sx {x : Nat} {h : Hp} {sz : Nat} {g : Hp} {v : Nat → Int32} {t : Int64} {b p : Nat} {ip : Nat → Option Nat} {r : Nat → Nat → Int32} {s : Nat → Int32} {a : Nat → Nat → Int32} {R W P : Nat} {T C φ : Nat → Nat} {sn : Nat} {tt tp : Nat → Nat} {L U : Nat} {ψ : Nat → Nat → Nat} (c : CI x h sz g v t b p ip r s a R W P T C φ sn tt tp L U ψ) : x + 35 < sz := c.2.2.2.2.2.2.2.2.2.2.2.2.2.2.2.2.2.2.2.2.2
theorem CI.mk {x : Nat} {h : Hp} {sz : Nat} {g : Hp} {v : Nat → Int32} {t : Int64} {b p : Nat} {ip : Nat → Option Nat} {r : Nat → Nat → Int32} {s : Nat → Int32} {a : Nat → Nat → Int32} {R W P : Nat} {T C φ : Nat → Nat} {sn : Nat} {tt tp : Nat → Nat} {L U : Nat} {ψ : Nat → Nat → Nat} (hh : h = mH (xH g x v t b p ip r) (x + 19) s t a) (B : okB R W P T C) (H : mB s a R W P T C) (X : BXX x g b R W P T C) (O : okN R W P T C φ) (J : mN s a P φ) (Q : PP x g P T C p φ) (S : mS s a sn tt tp) (Y : xS v r sn tt tp) (ca : v 1 = 0 ∨ ∀ i, i < 1000 → r 17 i = nI (xR T C W (fun _ => 0) R i)) (tl : L ≤ 100) (tm : s 14 = nI L) (tx : v 2 = nI L) (te : ∀ i, i < L → a 7 i = r 2 i ∧ ∃ k, k ≤ 255 ∧ a 7 i = nI k) (ul : U ≤ 10) (um : s 24 = nI U) (ux : v 0 = nI U) (ch : CH x g R W P T C U (fun j => ip (j + 2)) ψ) (cm : ∀ j, j < U → nF (fun i => a 11 (78 * j + i)) P (ψ j)) (im : ∀ k, k < 2 → IMG x g R W P T C (ip k) (fun i => a 16 (860 * k + i))) (fr : ∀ q, sz ≤ q → g q = none) (sx : x + 35 < sz) : CI x h sz g v t b p ip r s a R W P T C φ sn tt tp L U ψ := ⟨hh, B, H, X, O, J, Q, S, Y, ca, tl, tm, tx, te, ul, um, ux, ch, cm, im, fr, sx⟩
def IV (x : Nat) (h : Hp) (sz : Nat) : Prop := ∃ g v t b p ip r s a R W P T C φ sn tt tp L U ψ, CI x h sz g v t b p ip r s a R W P T C φ sn tt tp L U ψ
section IVS
variable {x : Nat} {h : Hp} {sz : Nat} {g : Hp} {v : Nat → Int32} {t : Int64} {b p : Nat} {ip : Nat → Option Nat} {r : Nat → Nat → Int32} {s : Nat → Int32} {a : Nat → Nat → Int32} {R W P : Nat} {T C φ : Nat → Nat} {sn : Nat} {tt tp : Nat → Nat} {L U : Nat} {ψ : Nat → Nat → Nat} {N : Nat}
theorem CI.iv (c : CI x h sz g v t b p ip r s a R W P T C φ sn tt tp L U ψ) : IV x h sz := ⟨g, v, t, b, p, ip, r, s, a, R, W, P, T, C, φ, sn, tt, tp, L, U, ψ, c⟩
/-- the class's view -/
theorem CI.hx (c : CI x h sz g v t b p ip r s a R W P T C φ sn tt tp L U ψ) : h = xH (mH g (x + 19) s t a) x v t b p ip r := by rw [c.hh, xh_mh rfl]
theorem CI.Xx (c : CI x h sz g v t b p ip r s a R W P T C φ sn tt tp L U ψ) : BXX x (mH g (x + 19) s t a) b R W P T C := c.X.moved (fun q d y e => by rw [mh_dy d]; exact e)
theorem CI.Qx (c : CI x h sz g v t b p ip r s a R W P T C φ sn tt tp L U ψ) : PP x (mH g (x + 19) s t a) P T C p φ := c.Q.moved (fun q d y e => by rw [mh_dy d]; exact e)
theorem CI.XX (c : CI x h sz g v t b p ip r s a R W P T C φ sn tt tp L U ψ) : BX (xH (mH g (x + 19) s t a) x v t b p ip r) b R W P T C := c.Xx.at xh_dy
/-- only what is noted for a while has changed -/
theorem CI.keep {v' : Nat → Int32} {t' : Int64} {r' : Nat → Nat → Int32} {s' : Nat → Int32} {a' : Nat → Nat → Int32} (c : CI x h sz g v t b p ip r s a R W P T C φ sn tt tp L U ψ) (hv : ∀ i, (i = 0 ∨ i = 2 ∨ i = 7) → v' i = v i) (hr : ∀ k, (k = 2 ∨ k = 4 ∨ k = 5) → r' k = r k) (hs : ∀ i, (i = 0 ∨ i = 1 ∨ i = 2 ∨ i = 5 ∨ i = 6 ∨ i = 9 ∨ i = 14 ∨ i = 24) → s' i = s i) (ha : ∀ k, (k = 1 ∨ k = 2 ∨ k = 3 ∨ k = 4 ∨ k = 5 ∨ k = 6 ∨ k = 7 ∨ k = 11 ∨ k = 16) → a' k = a k) (hc : v' 1 = 0 ∨ ∀ i, i < 1000 → r' 17 i = nI (xR T C W (fun _ => 0) R i)) : CI x (mH (xH g x v' t' b p ip r') (x + 19) s' t' a') sz g v' t' b p ip r' s' a' R W P T C φ sn tt tp L U ψ := by
  refine CI.mk ?_ ?_ ?_ ?_ ?_ ?_ ?_ ?_ ?_ ?_ ?_ ?_ ?_ ?_ ?_ ?_ ?_ ?_ ?_ ?_ ?_ ?_
  · exact rfl
  · exact c.B
  · have H := c.H
    unfold mB at H ⊢
    rw [hs 0 (by decide), hs 1 (by decide), hs 2 (by decide), ha 1 (by decide), ha 2 (by decide)]
    exact H
  · exact c.X
  · exact c.O
  · have J := c.J
    unfold mN at J ⊢
    rw [hs 5 (by decide), hs 6 (by decide), ha 3 (by decide), ha 4 (by decide)]
    exact J
  · exact c.Q
  · have S := c.S
    unfold mS at S ⊢
    rw [hs 9 (by decide), ha 5 (by decide), ha 6 (by decide)]
    exact S
  · have Y := c.Y
    unfold xS at Y ⊢
    rw [hv 7 (by decide), hr 4 (by decide), hr 5 (by decide)]
    exact Y
  · exact hc
  · exact c.tl
  · rw [hs 14 (by decide)]; exact c.tm
  · rw [hv 2 (by decide)]; exact c.tx
  · rw [ha 7 (by decide), hr 2 (by decide)]; exact c.te
  · exact c.ul
  · rw [hs 24 (by decide)]; exact c.um
  · rw [hv 0 (by decide)]; exact c.ux
  · exact c.ch
  · rw [ha 11 (by decide)]; exact c.cm
  · rw [ha 16 (by decide)]; exact c.im
  · exact c.fr
  · exact c.sx
/-- whatever is laid behind, papers stay papers -/
theorem CI.oks {g' : Hp} {s' : Nat → Int32} {t' : Int64} {a' : Nat → Nat → Int32} (c : CI x h sz g v t b p ip r s a R W P T C φ sn tt tp L U ψ) (hg : ∀ q, dy x q → ∀ y, g q = some y → g' q = some y) : (dy x p ∧ isO (mH g' (x + 19) s' t' a') (some p) 2 = true) ∧ ∀ j, j < 10 → opP x (mH g' (x + 19) s' t' a') (ip (j + 2)) := by
  have hm : ∀ q, dy x q → ∀ y, g q = some y → mH g' (x + 19) s' t' a' q = some y := fun q d y e => by rw [mh_dy d]; exact hg q d y e
  exact ⟨⟨c.Q.1, (c.Q.moved hm).io⟩, fun j hj => (c.ch.moved hm).op j hj⟩
theorem in_or (z : Int32) {n : Nat} (hn : n ≤ 100000) : (∃ j, j < n ∧ z = nI j) ∨ ¬ vp_in z n := by
  by_cases c : z < 0
  · refine Or.inr (fun hv => ?_)
    have := (ix_iff hn).mpr hv
    exact absurd c (Int32.not_lt.mpr this.1)
  · obtain ⟨j, hj, rfl⟩ := nI_of c
    by_cases d : j < n
    · exact Or.inl ⟨j, d, rfl⟩
    · refine Or.inr (fun hv => ?_)
      have this := ((ix_iff hn).mpr hv).2
      rw [Int32.le_iff_toInt_le, nI_toInt hj] at this
      have e : (nI n - 1).toInt = (n : Int) - 1 := pk_sub_toInt (a := n) (b := 1) (by omega) (by omega)
      omega
theorem in_rng (z : Int32) {lo hi : Nat} (hl : lo ≤ 100000) (hh : hi ≤ 100000) : (∃ j, lo ≤ j ∧ j ≤ hi ∧ z = nI j) ∨ ¬ (nI lo ≤ z ∧ z ≤ nI hi) := by
  by_cases c : nI lo ≤ z ∧ z ≤ nI hi
  · have h0 : ¬ z < 0 := by
      rw [Int32.not_lt]
      refine Int32.le_trans ?_ c.1
      rw [i_0]; exact nI_le (by omega) (by omega)
    obtain ⟨j, hj, rfl⟩ := nI_of h0
    rw [nI_leI (by omega) hj, nI_leI hj (by omega)] at c
    exact Or.inl ⟨j, c.1, c.2, rfl⟩
  · exact Or.inr c
end IVS
