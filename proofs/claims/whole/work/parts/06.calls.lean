section CROWS
variable {Γ : GG} {cc : ByteArray} {nL fr mc ms : Nat} {own : String} {h h' : Hp} {sz sz' k n pc : Nat} {lv lv' : LV} {st : List Value}
theorem S_more {Γ : GG} {H H1 : Heap} {locs : List Loc} (c : va_S (fun q => g_z Γ ≤ q) (g_s Γ).heap H locs) (hz : g_z Γ ≤ (g_s Γ).heap.size) (h1 : H.size ≤ H1.size) (h2 : ∀ q : Nat, q < g_z Γ → H1[q]? = H[q]?) {L : List Loc} (hL : ∀ q ∈ L, g_z Γ ≤ q.base) : va_S (fun q => g_z Γ ≤ q) (g_s Γ).heap H1 (locs ++ L) := by
  refine ⟨Nat.le_trans c.1 h1, fun q g1 g2 => ?_, fun q hq => ?_⟩
  · rw [h2 q (Nat.not_le.mp g2)]
    exact c.2.1 q g1 g2
  · rcases List.mem_append.mp hq with e | e
    · exact c.2.2 q e
    · exact hL q e
/-- behind a call -/
theorem aw_after (C : CX Γ cc nL own fr mc ms) {mc' ms' : Nat} {r : Option Value} {rest st2 : List Value} {a0 : Array Value}
    (hr : ∀ (H : Heap) (locs : List Loc) (ls : Array Slot), H.size = sz → Rp (g_D Γ) (g_A Γ) (g_z Γ) h H → g_z Γ ≤ sz → ls.size = nL → va_Run (g_p Γ) (g_l Γ) (g_e Γ) (g_R Γ) (g_s Γ) (g_m Γ) (g_a Γ) (g_b Γ) (g_t Γ) (g_c Γ) H locs k n mc' ms' (F0 (g_m Γ) pc ls st) rest (aPost (g_D Γ) (g_A Γ) (g_z Γ) r h' sz' a0) (fun q => g_z Γ ≤ q))
    (h2 : r.toList ++ rest = st2) (kk : AW Γ nL h' sz' (k + mc') (n + ms') (pc + 3) lv st2) : AW Γ nL h sz k n pc lv st := by
  intro H locs ls a b c d T hT X
  have hz : g_z Γ ≤ (g_s Γ).heap.size := C.2.2.2.2.2.2.1
  obtain ⟨v, st₀, t, T', L, h0, X', hL, e1, e2, ⟨hv, hs, hR, hzz, hk⟩, stp⟩ := hr H locs ls a b (by have := c.1; omega) d.1 T hT X
  cases hv
  rw [h0] at hzz hk
  subst h2
  obtain ⟨t2, a1, b1⟩ := kk T'.heap (locs ++ L) ls (by rw [e1]; exact hs) (by rw [e1]; exact hR) (S_more c hz (by rw [e1]; exact hzz) (fun q hq => by rw [e1]; exact hk q hq) hL) d T' rfl X'
  exact ⟨t2, stp t2 a1, b1⟩
variable {ix np maxL' fr' mc' ms' : Nat} {y : MethodName} {cc' : ByteArray} {ret' : Option FieldType} {as : List LL} {r : Option Value} {rest st2 : List Value}
theorem ws_ok (C : CX Γ cc nL own fr mc ms) (hc : Cond.code y cc' maxL' ret' ∈ gw) : ∀ w ∈ Cond.code y cc' maxL' ret' :: gw, ∀ (a' : Array Value) (U : State), (g_s Γ).WarmedH U.vm → w.before a' U = true := pay_in C.2.2.2.2.1 (gw_ok hc (fun _ h => h))
theorem aw_callS (C : CX Γ cc nL own fr mc ms) (K : MB own ix y cc' maxL' ret' np) (hs : Cond.static y ∈ gw) (M : AM (g_l Γ) (g_D Γ) (g_A Γ) (g_z Γ) y cc' maxL' ret' fr' mc' ms' as h sz r h' sz') (hd : decode cc pc = .ok (.invokestatic ix, 3)) (hn : as.length = np) (hst : st = (as.map vL).reverse ++ rest) (hl : (rest.map fun v => v.category).sum ≤ 8) (hf : fr' + 1 ≤ fr) (h1 : k + mc' ≤ mc) (h2 : n + ms' ≤ ms) (h3 : r.toList ++ rest = st2) (kk : AW Γ nL h' sz' (k + mc') (n + ms') (pc + 3) lv st2) : AW Γ nL h sz k n pc lv st := by
  obtain ⟨hx, hb, hml, hown, hts, hK, hz, -, r1, r2, r3, r4⟩ := id C
  obtain ⟨hlk, hc, hi, ⟨y1, y2, y3⟩, hm⟩ := K
  have hlen : ∀ sig, parseMethodDescriptor y.desc = some sig → np = sig.parameters.length := fun sig e => by rw [e] at y3; exact (Option.some.inj y3).symm
  refine aw_after C (rest := rest) (a0 := (as.map vL).toArray) (fun H locs ls e1 e2 e3 e4 => ?_) h3 kk
  have hp : PreS (g_s Γ) H (aPre (g_D Γ) (g_A Γ) (g_z Γ) (as.map vL) h sz) (as.map vL) := ⟨aPre_blind, fun U hU hW => ⟨rfl, by rw [hU]; exact e1, e3, by rw [hU]; exact e2, KK.moved hW hK⟩⟩
  rcases hlk with hlk | ⟨host, hlk⟩
  · exact va_runS (n := np) (Ts := gw) ⟨hx, hb, hml, hown, hts⟩ M ⟨⟨rfl, rfl, by show fr' + 1 ≤ _; omega, by show 8 + (maxL' + 11) + 40 * fr' ≤ _; omega, ws_ok C hc, List.mem_cons_self, hts _ hc, hts _ hi, ⟨y1, y2⟩, hlen, hts _ hlk⟩, hts _ hs⟩ hp rfl (by simpa using hn) e4 hst (lv_room hl) hd ⟨by omega, by omega⟩
  · exact va_runSN (n := np) (Ts := gw) ⟨hx, hb, hml, hown, hts⟩ M ⟨⟨⟨rfl, rfl, by show fr' + 1 ≤ _; omega, by show 8 + (maxL' + 11) + 40 * fr' ≤ _; omega, ws_ok C hc, List.mem_cons_self⟩, hts _ hc, hts _ hi, ⟨y1, y2⟩, hlen, va_Nw.use rfl (hK.2.1 _ hlk)⟩, hts _ hs, trivial⟩ hp rfl (by simpa using hn) e4 hst (lv_room hl) hd ⟨by omega, by omega⟩
theorem aw_callI (C : CX Γ cc nL own fr mc ms) {b0 : Nat} (K : MB own ix y cc' maxL' none np) (hs : y.name = "<init>" ∧ Cond.instanceMethod y ∈ gw) (M : AM (g_l Γ) (g_D Γ) (g_A Γ) (g_z Γ) y cc' maxL' none fr' mc' ms' (.inr (some b0) :: as) h sz r h' sz') (hd : decode cc pc = .ok (.invokespecial ix, 3)) (hn : as.length = np) (hst : st = (as.map vL).reverse ++ va_rf (some b0) :: rest) (hl : (rest.map fun v => v.category).sum ≤ 8) (hf : fr' + 1 ≤ fr) (h1 : k + mc' ≤ mc) (h2 : n + ms' ≤ ms) (h3 : r.toList ++ rest = st2) (kk : AW Γ nL h' sz' (k + mc') (n + ms') (pc + 3) lv st2) : AW Γ nL h sz k n pc lv st := by
  obtain ⟨hx, hb, hml, hown, hts, hK, hz, -, r1, r2, r3, r4⟩ := id C
  obtain ⟨hlk, hc, hi, ⟨y1, y2, y3⟩, hm⟩ := K
  have hlen : ∀ sig, parseMethodDescriptor y.desc = some sig → np = sig.parameters.length := fun sig e => by rw [e] at y3; exact (Option.some.inj y3).symm
  refine aw_after C (rest := rest) (a0 := (Value.ref b0 :: as.map vL).toArray) (fun H locs ls e1 e2 e3 e4 => ?_) h3 kk
  have hp : PreS (g_s Γ) H (aPre (g_D Γ) (g_A Γ) (g_z Γ) ((.inr (some b0) :: as).map vL) h sz) (Value.ref b0 :: as.map vL) := ⟨aPre_blind, fun U hU hW => ⟨rfl, by rw [hU]; exact e1, e3, by rw [hU]; exact e2, KK.moved hW hK⟩⟩
  rcases hlk with hlk | ⟨host, hlk⟩
  · exact va_runI (n := np) (Ts := gw) ⟨hx, hb, hml, hown, hts⟩ M ⟨⟨rfl, rfl, by show fr' + 1 ≤ _; omega, by show 8 + (maxL' + 11) + 40 * fr' ≤ _; omega, ws_ok C hc, List.mem_cons_self, hts _ hc, hts _ hi, ⟨y1, y2⟩, hlen, hts _ hlk⟩, hs.1, hts _ hs.2⟩ hp rfl (by simpa using hn) e4 hst (lv_room hl) hd ⟨by omega, by omega⟩
  · exact va_runIN (n := np) (Ts := gw) ⟨hx, hb, hml, hown, hts⟩ M ⟨⟨⟨rfl, rfl, by show fr' + 1 ≤ _; omega, by show 8 + (maxL' + 11) + 40 * fr' ≤ _; omega, ws_ok C hc, List.mem_cons_self⟩, hts _ hc, hts _ hi, ⟨y1, y2⟩, hlen, va_Nw.use rfl (hK.2.1 _ hlk)⟩, hs.1, hts _ hs.2⟩ hp rfl (by simpa using hn) e4 hst (lv_room hl) hd ⟨by omega, by omega⟩
theorem aw_callV (C : CX Γ cc nL own fr mc ms) {r0 : Option Nat} {ci : Nat} (K : MB own ix y cc' maxL' ret' np) (hs : Cond.instanceMethod y ∈ gw ∧ Cond.selects y.cls y y ∈ gw ∧ vwCl[ci]?.map (·.1) = some y.cls) (hO : isO h r0 ci = true) (M : AM (g_l Γ) (g_D Γ) (g_A Γ) (g_z Γ) y cc' maxL' ret' fr' mc' ms' (.inr r0 :: as) h sz r h' sz') (hd : decode cc pc = .ok (.invokevirtual ix, 3)) (hn : as.length = np) (hst : st = (as.map vL).reverse ++ va_rf r0 :: rest) (hl : (rest.map fun v => v.category).sum ≤ 8) (hf : fr' + 1 ≤ fr) (h1 : k + mc' ≤ mc) (h2 : n + ms' ≤ ms) (h3 : r.toList ++ rest = st2) (kk : AW Γ nL h' sz' (k + mc') (n + ms') (pc + 3) lv st2) : AW Γ nL h sz k n pc lv st := by
  obtain ⟨hx, hb, hml, hown, hts, hK, hz, -, r1, r2, r3, r4⟩ := id C
  obtain ⟨hlk, hc, hi, ⟨y1, y2, y3⟩, hm⟩ := K
  obtain ⟨s1, s2, s3⟩ := hs
  obtain ⟨b0, fs, rfl, hq⟩ := isO_spec hO
  obtain ⟨x, hx1, hx2⟩ : ∃ x, vwCl[ci]? = some x ∧ x.1 = y.cls := by
    cases hcl : vwCl[ci]? with
    | none => rw [hcl] at s3; cases s3
    | some x => rw [hcl] at s3; exact ⟨x, rfl, Option.some.inj s3⟩
  have hlen : ∀ sig, parseMethodDescriptor y.desc = some sig → np = sig.parameters.length := fun sig e => by rw [e] at y3; exact (Option.some.inj y3).symm
  refine aw_after C (rest := rest) (a0 := (Value.ref b0 :: as.map vL).toArray) (fun H locs ls e1 e2 e3 e4 => ?_) h3 kk
  have hrc := va_recv hK.1 (one_P (e2 b0 _ hq).2) hx1 (q0 := 0) rfl
  rw [hx2] at hrc
  have hp : PreV (g_s Γ) H y.cls b0 (aPre (g_D Γ) (g_A Γ) (g_z Γ) ((.inr (some b0) :: as).map vL) h sz) (as.map vL) := ⟨aPre_blind, hrc, fun U hU hW => ⟨rfl, by rw [hU]; exact e1, e3, by rw [hU]; exact e2, KK.moved hW hK⟩⟩
  rcases hlk with hlk | ⟨host, hlk⟩
  · exact va_runV (n := np) (Ts := gw) ⟨hx, hb, hml, hown, hts⟩ M ⟨⟨rfl, rfl, by show fr' + 1 ≤ _; omega, by show 8 + (maxL' + 11) + 40 * fr' ≤ _; omega, ws_ok C hc, List.mem_cons_self, hts _ hc, hts _ hi, ⟨y1, y2⟩, hlen, hts _ hlk⟩, hts _ s1, hts _ s2⟩ hp rfl (by simpa using hn) e4 hst (lv_room hl) hd ⟨by omega, by omega⟩
  · exact va_runVN (n := np) (Ts := gw) ⟨hx, hb, hml, hown, hts⟩ M ⟨⟨⟨rfl, rfl, by show fr' + 1 ≤ _; omega, by show 8 + (maxL' + 11) + 40 * fr' ≤ _; omega, ws_ok C hc, List.mem_cons_self⟩, hts _ hc, hts _ hi, ⟨y1, y2⟩, hlen, va_Nw.use rfl (hK.2.1 _ hlk)⟩, hts _ s1, hts _ s2⟩ hp rfl (by simpa using hn) e4 hst (lv_room hl) hd ⟨by omega, by omega⟩
/-! the ends -/
theorem ends_ok {Γ : GG} (C : CX Γ cc nL own fr mc ms) {r : Option Value} {H : Heap} {locs : List Loc} (a : H.size = sz) (b : Rp (g_D Γ) (g_A Γ) (g_z Γ) h H) (c : va_S (fun q => g_z Γ ≤ q) (g_s Γ).heap H locs) : ∀ t : State, t.heap = H → (g_s Γ).WarmedH t.vm → aPost (g_D Γ) (g_A Γ) (g_z Γ) r h sz (g_a Γ) (g_s Γ) (.returned r) t := by
  intro t ht hW
  have hz : g_z Γ ≤ (g_s Γ).heap.size := C.2.2.2.2.2.2.1
  refine ⟨rfl, by rw [ht]; exact a, by rw [ht]; exact b, by rw [ht]; exact c.1, fun q hq => by rw [ht]; exact c.2.1 q (by omega) (by omega)⟩
theorem aw_iret (C : CX Γ cc nL own fr mc ms) {v : Int32} (X : RX Γ (some .int) (some (.int v)) h sz mc' ms') (hd : decode cc pc = .ok (.ireturn, 1)) (h1 : k ≤ mc') (h2 : n ≤ ms') : AW Γ nL h sz k n pc lv [.int v] := by
  intro H locs ls a b c d
  refine W.widen h1 h2 ?_
  rw [X.2]
  exact W.iret C.1 C.2.1 X.1 (ends_ok C a b c) c.2.2 hd C.2.2.2.2.2.2.2.1
theorem aw_zret (C : CX Γ cc nL own fr mc ms) {v : Int32} (X : RX Γ (some .boolean) (some (.int v)) h sz mc' ms') (hv : v = 0 ∨ v = 1) (hd : decode cc pc = .ok (.ireturn, 1)) (h1 : k ≤ mc') (h2 : n ≤ ms') : AW Γ nL h sz k n pc lv [.int v] := by
  intro H locs ls a b c d
  refine W.widen h1 h2 ?_
  rw [X.2]
  exact W.zret C.1 C.2.1 X.1 (by rcases hv with rfl | rfl <;> rfl) (ends_ok C a b c) c.2.2 hd C.2.2.2.2.2.2.2.1
theorem aw_lret (C : CX Γ cc nL own fr mc ms) {v : Int64} (X : RX Γ (some .long) (some (.long v)) h sz mc' ms') (hd : decode cc pc = .ok (.lreturn, 1)) (h1 : k ≤ mc') (h2 : n ≤ ms') : AW Γ nL h sz k n pc lv [.long v] := by
  intro H locs ls a b c d
  refine W.widen h1 h2 ?_
  rw [X.2]
  exact W.lret C.1 C.2.1 X.1 (ends_ok C a b c) c.2.2 hd C.2.2.2.2.2.2.2.1
theorem aw_aret (C : CX Γ cc nL own fr mc ms) {v : Option Nat} {rt : FieldType} (X : RX Γ (some rt) (some (va_rf v)) h sz mc' ms') (hrt : (∃ n, rt = .object n) ∨ ∃ t, rt = .array t) (hd : decode cc pc = .ok (.areturn, 1)) (h1 : k ≤ mc') (h2 : n ≤ ms') : AW Γ nL h sz k n pc lv [va_rf v] := by
  intro H locs ls a b c d
  refine W.widen h1 h2 ?_
  rw [X.2]
  exact W.aret C.1 C.2.1 X.1 hrt (by cases v with | none => exact Or.inl rfl | some x => exact Or.inr ⟨x, rfl⟩) (ends_ok C a b c) c.2.2 hd C.2.2.2.2.2.2.2.1
theorem aw_vret (C : CX Γ cc nL own fr mc ms) (X : RX Γ none none h sz mc' ms') (hd : decode cc pc = .ok (.return_, 1)) (h1 : k ≤ mc') (h2 : n ≤ ms') : AW Γ nL h sz k n pc lv [] := by
  intro H locs ls a b c d
  refine W.widen h1 h2 ?_
  rw [X.2]
  exact W.vret C.1 C.2.1 X.1 (ends_ok C a b c) c.2.2 hd C.2.2.2.2.2.2.2.1
/-! an array's copy -/
theorem aw_clone (C : CX Γ cc nL own fr mc ms) {r0 : Option Nat} (w1 : Cond.methodLink own ix ⟨"[I", "clone", "()Ljava/lang/Object;"⟩ ∈ gw) (w2 : Cond.sameMethod "[I" "java/lang/Object" "clone" "()Ljava/lang/Object;" ∈ gw) (w3 : Cond.native ⟨"java/lang/Object", "clone", "()Ljava/lang/Object;"⟩ ∈ gw) (w4 : Cond.instanceMethod ⟨"java/lang/Object", "clone", "()Ljava/lang/Object;"⟩ ∈ gw) (w5 : Cond.selects "[I" ⟨"[I", "clone", "()Ljava/lang/Object;"⟩ ⟨"java/lang/Object", "clone", "()Ljava/lang/Object;"⟩ ∈ gw)
    (hd : decode cc pc = .ok (.invokevirtual ix, 3)) (hf : 1 ≤ fr) (hl : rest.length ≤ 4) (h1 : k + 1 ≤ mc) (h2 : n + 16 ≤ ms) (hv : clI h sz r0 = some h') (kk : AW Γ nL h' (sz + 1) (k + 1) (n + 16) (pc + 3) lv (va_rf (some sz) :: rest)) : AW Γ nL h sz k n pc lv (va_rf r0 :: rest) := by
  intro H locs ls a b c d
  obtain ⟨hx, hb, hml, hown, hts, hK, hz, -, r1, r2, r3, r4⟩ := id C
  obtain ⟨q, N, f, rfl, hq, hN, rfl⟩ := clI_spec hv
  have hat : H[q]? = some (vp_cell ((g_A Γ) 0) (N, .inl f)) := (b q _ hq).2
  have hnm : (g_s Γ).vm.findClass "[I" = some ((g_A Γ) 0) := (hK.1.2 0 _ rfl).2
  obtain ⟨c0, t0', f1, f2, f3⟩ := Cond.castable_spec (va_Nw.use (A := g_a Γ) rfl hK.2.2.2.2.1)
  cases hnm.symm.trans f1
  have hsz : (vp_cell ((g_A Γ) 0) (N, .inl f)).slots.size = N := arrV_size _ _ _
  refine W.widen (k := k) (n := n + (16 - N)) (Nat.le_refl _) (by omega) ?_
  intro T hT X
  have hcellT : T.heap[q]? = some (vp_cell ((g_A Γ) 0) (N, .inl f)) := by rw [hT]; exact hat
  obtain ⟨-, kA, hkA, comp, hkind⟩ := State.isArrayOf_alike X.warmed.alike ((hK.1.2 0 _ rfl).1 0 (fun _ => .null))
  obtain ⟨-, kS, hkS, compS, hkindS⟩ := (hK.1.2 0 _ rfl).1 0 (fun _ => .null)
  obtain ⟨vm', X', stp⟩ := X.cloneArray hx hown (hts _ w1) (hts _ w2) (hts _ w3) (hts _ w4) (hts _ w5) (a := q) (cell := vp_cell ((g_A Γ) 0) (N, .inl f)) hcellT (fun k h => by cases h) (fun h => by cases h) hnm f2 f3
    (fun i v hv => by
      have hk' : T.vm.classes[(g_A Γ) 0]? = some kA := hkA
      have hfit : fits .int v = true := va_fit (F := fun j => .int (f j)) (fun _ _ => rfl) i v hv
      show T.fitsSlot ((g_A Γ) 0) .none i v = true
      simpa [State.fitsSlot, State.slotType?, hk', hkind] using hfit)
    (g := F0 (g_m Γ) pc ls (.ref q :: rest)) rfl (by rw [hml]; exact d.1) rfl (by rw [hb]; exact hd) (by omega) (by show 2 * 0 + _ + 14 ≤ _; have := cat_le rest hl; omega) (by omega) (by rw [hsz]; omega) (hloader := Vm.clonesLoader_of_array hkS hkindS)
  generalize hH1 : H.push (vp_cell ((g_A Γ) 0) (N, .inl f)) = H1
  have z1 : H1.size = H.size + 1 := by rw [← hH1, Array.size_push]
  have e1 : H1[H.size]? = some (vp_cell ((g_A Γ) 0) (N, .inl f)) := by rw [← hH1, Array.getElem?_push_size]
  have o1 : ∀ q : Nat, q < H.size → H1[q]? = H[q]? := fun q hq => by rw [← hH1, Array.getElem?_push, if_neg (Nat.ne_of_lt hq)]
  have hcellE : ({ cls := (vp_cell ((g_A Γ) 0) (N, .inl f)).cls, slots := (vp_cell ((g_A Γ) 0) (N, .inl f)).slots } : Cell) = vp_cell ((g_A Γ) 0) (N, .inl f) := rfl
  rw [hcellE, hsz] at X'
  subst a
  have e16 : n + (16 - N) + N = n + 16 := by omega
  rw [e16] at X'
  obtain ⟨t, b1, b2⟩ := kk H1 locs ls z1 (b.push rfl o1 (by have := c.1; omega) e1) ⟨by have := c.1; omega, fun x g1 g2 => (o1 x (by have := c.1; omega)).trans (c.2.1 x g1 g2), c.2.2⟩ d ((T.setVm vm').pushCell (vp_cell ((g_A Γ) 0) (N, .inl f))) (by rw [← hH1, ← hT]; rfl) X'
  refine ⟨t, stp t ?_, b2⟩
  rw [hcellE, hT]
  exact b1
theorem aw_acopy (C : CX Γ cc nL own fr mc ms) {r0 r1 : Option Nat} {sp dp m : Int32} (w1 : Cond.methodLink own ix arraycopyName ∈ gw) (w2 : Cond.native arraycopyName ∈ gw) (w3 : Cond.static arraycopyName ∈ gw) (w4 : Cond.initialized "java/lang/System" ∈ gw) (hd : decode cc pc = .ok (.invokestatic ix, 3)) (hf : 1 ≤ fr) (hl : rest.length ≤ 4) (hv : cpI h r0 sp r1 dp m = some h') (kk : AW Γ nL h' sz k n (pc + 3) lv rest) : AW Γ nL h sz k n pc lv (.int m :: .int dp :: va_rf r1 :: .int sp :: va_rf r0 :: rest) := by
  intro H locs ls a b c d
  obtain ⟨hx, hb, hml, hown, hts, hK, hz, -, r1, r2, r3, r4⟩ := id C
  obtain ⟨a0, a1, n0, n1, f, g, rfl, rfl, q0, q1, c2, c3, c4, c5, c6, rfl⟩ := cpI_spec hv
  have hat0 := b a0 _ q0
  have hat1 := b a1 _ q1
  have nn : ∀ z : Int32, ¬ z < 0 → z.toInt = (z.toNatClampNeg : Int) := by
    intro z hz
    have hz0 : (0 : Int) ≤ z.toInt := by
      have := Int32.not_lt.mp hz
      simpa using Int32.le_iff_toInt_le.mp this
    show z.toInt = ((z.toInt.toNat : Nat) : Int)
    omega
  intro T hT X
  have hc0 : H[a0]? = some (vp_cell ((g_A Γ) 0) (n0, .inl f)) := hat0.2
  have hc1 : H[a1]? = some (vp_cell ((g_A Γ) 0) (n1, .inl g)) := hat1.2
  obtain ⟨-, k0, hk0, cm0, hkk0⟩ := (hK.1.2 0 _ rfl).1 n0 (fun j => .int (f j))
  obtain ⟨-, k1, hk1, cm1, hkk1⟩ := (hK.1.2 0 _ rfl).1 n1 (fun j => .int (g j))
  obtain ⟨vm', X', step⟩ := X.arraycopy hx hown (hts _ w1) (hts _ w2) (hts _ w3) (hts _ w4) (src := a0) (dst := a1) (cs := vp_cell ((g_A Γ) 0) (n0, .inl f)) (cd := vp_cell ((g_A Γ) 0) (n1, .inl g)) (srcPos := sp) (destPos := dp) (n := m) (by rw [hT]; exact hc0) (by rw [hT]; exact hc1)
    (fun _ h => by cases h) (fun _ h => by cases h) (fun h => by cases h) (fun h => by cases h) hk0 hk1 hkk0 hkk1 (by simp [refKind]) c2 c3 c4
    (by rw [nn sp c2, nn m c4]; show ¬ _ > ((arrV ((g_A Γ) 0) n0 (fun j => .int (f j))).slots.size : Int); rw [arrV_size]; omega)
    (by rw [nn dp c3, nn m c4]; show ¬ _ > ((arrV ((g_A Γ) 0) n1 (fun j => .int (g j))).slots.size : Int); rw [arrV_size]; omega)
    (fun vm₁ _ i hi => by
      have e : (vp_cell ((g_A Γ) 0) (n0, .inl f)).slots.getD (sp.toNatClampNeg + i) .null = .int (f (sp.toNatClampNeg + i)) := by
        show (arrV ((g_A Γ) 0) n0 (fun j => .int (f j))).slots.getD _ _ = _
        rw [Array.getD_eq_getD_getElem?, arrV_read _ _ (by omega)]
        rfl
      refine ⟨?_, ?_⟩
      · rw [e]
        rfl
      · rw [e]
        exact trivial)
    (g := F0 (g_m Γ) pc ls (.int m :: .int dp :: .ref a1 :: .int sp :: .ref a0 :: rest)) rfl (by rw [hml]; exact d.1) (rest := rest) rfl (by rw [hb]; exact hd) (by omega) (by show 2 * 0 + _ + _ ≤ _; have := cat_le rest hl; have e : nativeFrameWords "java/lang/System" "arraycopy" 5 + 11 ≤ 32 := (by decide +kernel); omega)
  have e1 : copied (vp_cell ((g_A Γ) 0) (n0, .inl f)) (vp_cell ((g_A Γ) 0) (n1, .inl g)) sp dp m = vp_cell ((g_A Γ) 0) (n1, .inl (va_cpy f g sp.toNatClampNeg dp.toNatClampNeg m.toNatClampNeg)) := va_copied (fun z => .int z) ((g_A Γ) 0) ((g_A Γ) 0) f g c5
  rw [e1] at X' step
  have hl : a1 < H.size := (Array.getElem?_eq_some_iff.mp hc1).1
  have hheap : ((T.setVm vm').setCell a1 (vp_cell ((g_A Γ) 0) (n1, .inl (va_cpy f g sp.toNatClampNeg dp.toNatClampNeg m.toNatClampNeg)))).heap = H.setIfInBounds a1 (vp_cell ((g_A Γ) 0) (n1, .inl (va_cpy f g sp.toNatClampNeg dp.toNatClampNeg m.toNatClampNeg))) := by rw [← hT]; rfl
  have oq : ∀ q : Nat, q ≠ a1 → (H.setIfInBounds a1 (vp_cell ((g_A Γ) 0) (n1, .inl (va_cpy f g sp.toNatClampNeg dp.toNatClampNeg m.toNatClampNeg))))[q]? = H[q]? := fun q hq => by simp [Array.getElem?_setIfInBounds, Ne.symm hq]
  obtain ⟨t, b1, b2⟩ := kk _ _ ls (by simp; exact a) (b.set oq hat1.1 (show (H.setIfInBounds a1 _)[a1]? = some _ by simp [Array.getElem?_setIfInBounds, hl])) ⟨by simp; exact c.1, fun q g1 g2 => by
      rw [oq q (fun e => g2 (by rw [e]; exact hat1.1))]
      exact c.2.1 q g1 g2, fun q hq => by
      rcases List.mem_append.mp hq with h | h
      · exact c.2.2 q h
      · obtain ⟨z, -, hz⟩ := List.mem_map.mp h
        rw [← hz]
        exact hat1.1⟩ d _ hheap X'
  exact ⟨t, step t b1, b2⟩
end CROWS
theorem AM.ofF {l : Launch} {D : va_G} {dA : Nat → ClassId} {base : Nat} {y : MethodName} {cc : ByteArray} {maxL : Nat} {ret : Option FieldType} {fr mc ms : Nat} {as : List LL} {h : Hp} {sz : Nat} {r : Option Value} {h' : Hp} {sz' : Nat}
    (hy : plainFor y = true) (hl : as.length ≤ maxL) {lv : LV} (hlv : lnum 0 as = lv)
    (body : ∀ Γ : GG, CX Γ cc maxL y.cls fr mc ms → RX Γ ret r h' sz' mc ms → (g_t Γ).name = y.name → AW Γ maxL h sz 0 0 0 lv []) : AM l D dA base y cc maxL ret fr mc ms as h sz r h' sz' := by
  refine va_MetF (cc := cc) (maxL := maxL) (ret := ret) hy rfl ?_
  intro p e s m args below meth c s₁ B hml hv
  obtain ⟨rfl, hsz, hbase, hR, hK⟩ := hv
  have hts := atoms_spec (ws := Cond.code y cc maxL ret :: gw) B.pre
  have hent := lv_entry (as.map vL) (n := maxL) (by rw [lg_len]; exact hl)
  rw [lg_entry_eq]
  rw [lnum_args, hlv] at hent
  exact body (p, l, e, _, s, m, _, below, meth, c, _, D, dA, base) ⟨B.exec, B.bytes, hml, findClass_of_methodNamed B.named, fun w hw => hts w (List.mem_cons_of_mem _ hw), hK, by rw [hsz]; exact hbase, B.notSynchronized, Nat.le_refl _, Nat.le_refl _, Nat.le_refl _, Nat.le_refl _⟩ ⟨B.returns, rfl⟩ (name_of_methodNamed B.named B.method).1 s.heap [] _ hsz hR va_S.rf hent
