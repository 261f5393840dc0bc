/-- how the two objects come about -/
def St_init (I : Hp → Nat → Prop) (base x m N : Nat) : Prop := x = base ∧ ∃ (h1 : Hp) (h2 : Hp) (sz2 : Nat), fX5_init N (up (fun _ => none) base (oO 5 [.null, .null, .null, .null, .null, .null, .long 0, .null, .null, .null, .int 0])) (base + 1) (some base) = some (h1, m) ∧ fX6_init N (up h1 m (oO 6 [.int 0, .int 0, .int 0, .null, .null, .int 0, .int 0, .null, .null, .int 0, .null, .null, .long 0, .null, .int 0, .int 0, .int 0, .int 0, .int 0, .int 0, .null, .null, .null, .null, .int 0, .null, .null, .null, .null, .null])) (m + 1) (some m) = some (h2, sz2) ∧ I h2 sz2
theorem known_all {args : Array Value} {s : State} (hts : ∀ w ∈ lw_tbl, w.before args s = true) : ∃ (D : va_G) (dA : Nat → ClassId), KK D dA s := by
  have hg : ∀ w ∈ gw, w.before args s = true := fun w hw => hts w (List.mem_filter.mp hw).1
  obtain ⟨c0, iS0, hKn0⟩ := u_known (C := RX0) (T := TX0) (N := 6) (n := 6) hg inX0 (hg _ (gw_at 137 (by decide +kernel) rfl))
  obtain ⟨c1, iS1, hKn1⟩ := u_known (C := RX1) (T := TX1) (N := 10) (n := 10) hg inX1 (hg _ (gw_at 461 (by decide +kernel) rfl))
  obtain ⟨c2, iS2, hKn2⟩ := u_known (C := RX2) (T := TX2) (N := 3) (n := 3) hg inX2 (hg _ (gw_at 165 (by decide +kernel) rfl))
  obtain ⟨c3, iS3, hKn3⟩ := u_known (C := RX3) (T := TX3) (N := 3) (n := 3) hg inX3 (hg _ (gw_at 119 (by decide +kernel) rfl))
  obtain ⟨c4, iS4, hKn4⟩ := u_known (C := RX4) (T := TX4) (N := 6) (n := 6) hg inX4 (hg _ (gw_at 92 (by decide +kernel) rfl))
  obtain ⟨c5, iS5, hKn5⟩ := u_known (C := RX5) (T := TX5) (N := 11) (n := 11) hg inX5 (hg _ (gw_at 84 (by decide +kernel) rfl))
  obtain ⟨c6, iS6, hKn6⟩ := u_known (C := RX6) (T := TX6) (N := 30) (n := 30) hg inX6 (hg _ (gw_at 773 (by decide +kernel) rfl))
  obtain ⟨c7, iS7, hKn7⟩ := u_known (C := RX7) (T := TX7) (N := 2) (n := 2) hg inX7 (hg _ (gw_at 739 (by decide +kernel) rfl))
  obtain ⟨c8, iS8, hKn8⟩ := u_known (C := RX8) (T := TX8) (N := 2) (n := 2) hg inX8 (hg _ (gw_at 185 (by decide +kernel) rfl))
  obtain ⟨dC, dI, hKc⟩ : ∃ (dC : Nat → ClassId) (dI : Nat → Nat → Nat), ∀ (k : Nat) (q : vw_C), vwCl[k]? = some q → u_Kn s q.1 q.2.1 q.2.2 (dC k) (dI k) := by
    refine ⟨fun k => if k = 0 then c0 else if k = 1 then c1 else if k = 2 then c2 else if k = 3 then c3 else if k = 4 then c4 else if k = 5 then c5 else if k = 6 then c6 else if k = 7 then c7 else c8, fun k => if k = 0 then iS0 else if k = 1 then iS1 else if k = 2 then iS2 else if k = 3 then iS3 else if k = 4 then iS4 else if k = 5 then iS5 else if k = 6 then iS6 else if k = 7 then iS7 else iS8, ?_⟩
    intro k q hq
    match k, hq with
    | 0, hq => cases hq; exact hKn0
    | 1, hq => cases hq; exact hKn1
    | 2, hq => cases hq; exact hKn2
    | 3, hq => cases hq; exact hKn3
    | 4, hq => cases hq; exact hKn4
    | 5, hq => cases hq; exact hKn5
    | 6, hq => cases hq; exact hKn6
    | 7, hq => cases hq; exact hKn7
    | 8, hq => cases hq; exact hKn8
    | k + 9, hq => simp [vwCl] at hq
  obtain ⟨a0, k0, m0, f0, g0, t0⟩ := Cond.arrayClass_spec (hg _ q_117)
  obtain ⟨a1, k1, m1, f1, g1, t1⟩ := Cond.arrayClass_spec (hg _ q_135)
  have o2 : va_AO "PetalWheels$Curve" s := va_AO.of (hts (.arrayOver (.object "PetalWheels$Curve")) (List.mem_of_getElem? (i := 167) (by decide +kernel)))
  have o3 : va_AO "PetalWheels$Paper" s := va_AO.of (hts (.arrayOver (.object "PetalWheels$Paper")) (List.mem_of_getElem? (i := 191) (by decide +kernel)))
  have o4 : va_AO "PetalWheels$Image" s := va_AO.of (hts (.arrayOver (.object "PetalWheels$Image")) (List.mem_of_getElem? (i := 201) (by decide +kernel)))
  obtain ⟨m2, a2, k2, p2, -, g2, t2, f2⟩ := Cond.arrayOver_spec o2
  obtain ⟨m3, a3, k3, p3, -, g3, t3, f3⟩ := Cond.arrayOver_spec o3
  obtain ⟨m4, a4, k4, p4, -, g4, t4, f4⟩ := Cond.arrayOver_spec o4
  refine ⟨(dC, dI), fun k => if k = 0 then a0 else if k = 1 then a1 else if k = 2 then a2 else if k = 3 then a3 else a4, ⟨hKc, ?_⟩, ?_, o2, o3, ?_, o4⟩
  · intro k q hk
    match k, hk with
    | 0, hk => cases hk; exact ⟨fun n z => ⟨fun k h => (by cases h), k0, g0, m0, t0⟩, f0⟩
    | 1, hk => cases hk; exact ⟨fun n z => ⟨fun k h => (by cases h), k1, g1, m1, t1⟩, f1⟩
    | 2, hk => cases hk; exact ⟨fun n z => ⟨fun k h => (by cases h), k2, g2, m2, t2⟩, k2, m2, g2, t2, p2, f2⟩
    | 3, hk => cases hk; exact ⟨fun n z => ⟨fun k h => (by cases h), k3, g3, m3, t3⟩, k3, m3, g3, t3, p3, f3⟩
    | 4, hk => cases hk; exact ⟨fun n z => ⟨fun k h => (by cases h), k4, g4, m4, t4⟩, k4, m4, g4, t4, p4, f4⟩
    | k + 5, hk => simp [tyA] at hk
  · intro w hw
    have h1 := hts w (List.mem_filter.mp hw).1
    have h2 := (List.mem_filter.mp hw).2
    cases w <;> first | exact va_Nw.of rfl h1 | (simp [isNestW] at h2)
  · exact va_Nw.of rfl (hts (.castable "[I" "java/lang/Cloneable") (List.mem_of_getElem? (i := 331) (by decide +kernel)))
set_option maxHeartbeats 4000000 in
set_option maxRecDepth 100000 in
theorem start_of {p : Program} {e : Env} {s : State} {m : MethodId} {below : List Frame} {meth : Method} {c : Code} (l : Launch) {b L : Nat} {xs : Nat → Int32} (hL : L ≤ 3072) (C0 : lw_At p s m meth c b L xs) {I : Hp → Nat → Prop} {x mo N : Nat} (S0 : St_init I s.heap.size x mo N) (S : St_all I x mo N) : W p l e room_1 s m #[Value.ref b] below meth c s.heap [] 0 0 (lw_Z below #[Value.ref b] s) (entryFrame m ([Value.ref b] : List Value).toArray 4) := by
  obtain ⟨hx, hb, hr, hml, hown, hts, hX, hbl, hlocks, hgv⟩ := id C0
  obtain ⟨D, dA, hKK⟩ := known_all hts
  have C : CX (p, l, e, room_1, s, m, #[Value.ref b], below, meth, c, lw_Z below #[Value.ref b] s, D, dA, s.heap.size) cL_law 4 RL 8 717199 6950652 :=
    ⟨hx, hb, hml, hown, fun w hw => hts w (List.mem_filter.mp hw).1, hKK, Nat.le_refl _, hlocks, Nat.le_of_ble_eq_true rfl, Nat.le_of_ble_eq_true rfl, Nat.le_of_ble_eq_true rfl, Nat.le_of_ble_eq_true rfl⟩
  have Q : LC (p, l, e, room_1, s, m, #[Value.ref b], below, meth, c, lw_Z below #[Value.ref b] s, D, dA, s.heap.size) b L xs := ⟨C, hX, hbl, rfl, hL⟩
  obtain ⟨rfl, h1, h2, sz2, e1, e2, hI⟩ := S0
  have hent := lv_entry ([.ref b]) (n := 4) (Nat.le_of_ble_eq_true rfl)
  rw [lg_entry_eq]
  have key : AW (p, l, e, room_1, s, m, #[Value.ref b], below, meth, c, lw_Z below #[Value.ref b] s, D, dA, s.heap.size) 4 (fun _ => none) s.heap.size 0 0 0 [(0, .inr (some b))] [] := by
    refine aw_new C nk_L_7 dL_law_0 (Nat.le_of_ble_eq_true rfl) (Nat.le_of_ble_eq_true rfl) ?_
    refine aw_dup C dL_law_3 rfl ?_
    refine aw_callI C mb_L_9 ⟨rfl, q_86⟩ (cX5_init_ _ _ _ _ e1) dL_law_4 rfl (rest := [va_rf (some s.heap.size)]) rfl (cat_le _ (Nat.le_of_ble_eq_true rfl)) (Nat.le_of_ble_eq_true rfl) (Nat.le_of_ble_eq_true rfl) (Nat.le_of_ble_eq_true rfl) (st2 := [va_rf (some s.heap.size)]) rfl ?_
    refine aw_astore_n C dL_law_7 rfl (by decide) rfl (lv' := [(0, .inr (some b)), (1, .inr (some s.heap.size))]) rfl ?_
    refine aw_new C nk_L_10 dL_law_8 (Nat.le_of_ble_eq_true rfl) (Nat.le_of_ble_eq_true rfl) ?_
    refine aw_dup C dL_law_11 rfl ?_
    refine aw_callI C mb_L_12 ⟨rfl, q_775⟩ (cX6_init_ _ _ _ _ e2) dL_law_12 rfl (rest := [va_rf (some mo)]) rfl (cat_le _ (Nat.le_of_ble_eq_true rfl)) (Nat.le_of_ble_eq_true rfl) (Nat.le_of_ble_eq_true rfl) (Nat.le_of_ble_eq_true rfl) (st2 := [va_rf (some mo)]) rfl ?_
    refine aw_astore_n C dL_law_15 rfl (by decide) rfl (lv' := [(0, .inr (some b)), (1, .inr (some s.heap.size)), (2, .inr (some mo))]) rfl ?_
    refine aw_iconst (v := 0) C dL_law_16 (by decide) ?_
    refine aw_istore_n C dL_law_17 rfl (by decide) rfl (lv' := lawv b s.heap.size mo 0) rfl ?_
    exact law_loop Q hr S 513 0 _ _ _ _ (by omega) hI (Nat.le_of_ble_eq_true rfl) (Nat.le_of_ble_eq_true rfl) (Nat.le_of_ble_eq_true rfl)
  exact key s.heap [] _ rfl (fun q x hq => by cases hq) va_S.rf hent
