/-! Where a method's walk stands: program, launch, env, room, start, method, args, frames below, its code, what is sought, tables, base -/
abbrev GG : Type := Program × Launch × Env × Room × State × MethodId × Array Value × List Frame × Method × Code × (State → Prop) × va_G × (Nat → ClassId) × Nat
abbrev g_p (Γ : GG) : Program := Γ.1
abbrev g_l (Γ : GG) : Launch := Γ.2.1
abbrev g_e (Γ : GG) : Env := Γ.2.2.1
abbrev g_R (Γ : GG) : Room := Γ.2.2.2.1
abbrev g_s (Γ : GG) : State := Γ.2.2.2.2.1
abbrev g_m (Γ : GG) : MethodId := Γ.2.2.2.2.2.1
abbrev g_a (Γ : GG) : Array Value := Γ.2.2.2.2.2.2.1
abbrev g_b (Γ : GG) : List Frame := Γ.2.2.2.2.2.2.2.1
abbrev g_t (Γ : GG) : Method := Γ.2.2.2.2.2.2.2.2.1
abbrev g_c (Γ : GG) : Code := Γ.2.2.2.2.2.2.2.2.2.1
abbrev g_Q (Γ : GG) : State → Prop := Γ.2.2.2.2.2.2.2.2.2.2.1
abbrev g_D (Γ : GG) : va_G := Γ.2.2.2.2.2.2.2.2.2.2.2.1
abbrev g_A (Γ : GG) : Nat → ClassId := Γ.2.2.2.2.2.2.2.2.2.2.2.2.1
abbrev g_z (Γ : GG) : Nat := Γ.2.2.2.2.2.2.2.2.2.2.2.2.2
abbrev LL : Type := Int32 ⊕ Option Nat
abbrev LV : Type := List (Nat × LL)
def vL (x : LL) : Value := match x with
  | .inl v => .int v
  | .inr r => va_rf r
def vLq (q : Nat × LL) : Nat × Value := (q.1, vL q.2)
theorem rf_cat (r : Option Nat) : (va_rf r).category = 1 := by cases r <;> rfl
theorem vL_cat (x : LL) : (vL x).category = 1 := by
  cases x with
  | inl v => rfl
  | inr r => exact rf_cat r
def lset (lv : LV) (i : Nat) (v : LL) : LV := match lv with
  | [] => [(i, v)]
  | (j, w) :: l => if i < j then (i, v) :: (j, w) :: l else if i = j then (i, v) :: l else (j, w) :: lset l i v
theorem lset_in (lv : LV) (i : Nat) (v : LL) (q : Nat × LL) (h : q ∈ lset lv i v) : q = (i, v) ∨ (q ∈ lv ∧ q.1 ≠ i) ∨ (q ∈ lv ∧ q.1 = i ∧ ¬ (lv.map (·.1)).Pairwise (· < ·)) := by
  induction lv with
  | nil => simp [lset] at h; exact Or.inl h
  | cons x l ih =>
    obtain ⟨j, w⟩ := x
    unfold lset at h
    by_cases h1 : i < j
    · rw [if_pos h1] at h
      rcases List.mem_cons.mp h with e | e
      · exact Or.inl e
      · by_cases hq : q.1 = i
        · refine Or.inr (Or.inr ⟨e, hq, ?_⟩)
          intro hp
          rw [List.map_cons, List.pairwise_cons] at hp
          rcases List.mem_cons.mp e with e2 | e2
          · rw [e2] at hq; simp at hq; omega
          · have := hp.1 q.1 (List.mem_map.mpr ⟨q, e2, rfl⟩); simp at this; omega
        · exact Or.inr (Or.inl ⟨e, hq⟩)
    · rw [if_neg h1] at h
      by_cases h2 : i = j
      · rw [if_pos h2] at h
        rcases List.mem_cons.mp h with e | e
        · exact Or.inl e
        · by_cases hq : q.1 = i
          · refine Or.inr (Or.inr ⟨List.mem_cons_of_mem _ e, hq, ?_⟩)
            intro hp
            rw [List.map_cons, List.pairwise_cons] at hp
            have := hp.1 q.1 (List.mem_map.mpr ⟨q, e, rfl⟩); simp at this; omega
          · exact Or.inr (Or.inl ⟨List.mem_cons_of_mem _ e, hq⟩)
      · rw [if_neg h2] at h
        rcases List.mem_cons.mp h with e | e
        · exact Or.inr (Or.inl ⟨by rw [e]; exact List.mem_cons_self, by rw [e]; exact fun z => h2 z.symm⟩)
        · rcases ih e with c | c | c
          · exact Or.inl c
          · exact Or.inr (Or.inl ⟨List.mem_cons_of_mem _ c.1, c.2⟩)
          · refine Or.inr (Or.inr ⟨List.mem_cons_of_mem _ c.1, c.2.1, ?_⟩)
            intro hp
            rw [List.map_cons, List.pairwise_cons] at hp
            exact c.2.2 hp.2
/-- the locals are told in their order -/
def lord (lv : LV) : Bool := match lv with
  | [] => true
  | [_] => true
  | x :: y :: l => (x.1 < y.1) && lord (y :: l)
theorem lord_spec (lv : LV) (h : lord lv = true) : (lv.map (·.1)).Pairwise (· < ·) := by
  induction lv with
  | nil => exact List.Pairwise.nil
  | cons x l ih =>
    cases l with
    | nil => simp
    | cons y l =>
      simp only [lord, Bool.and_eq_true, decide_eq_true_eq] at h
      have h2 := ih h.2
      rw [List.map_cons, List.pairwise_cons]
      refine ⟨?_, h2⟩
      intro z hz
      rw [List.map_cons] at hz h2
      rw [List.pairwise_cons] at h2
      rcases List.mem_cons.mp hz with e | e
      · rw [e]; exact h.1
      · exact Nat.lt_trans h.1 (h2.1 z e)
theorem lset_has {ls : Array Slot} {nL i : Nat} {lv : LV} {v : LL} (ho : lord lv = true) (h : lv_has ls nL ((i, vL v) :: (lv.map vLq).filter (fun q => !(q.1 == i) && !(q.1 + 1 == i && q.2.category == 2)))) : lv_has ls nL ((lset lv i v).map vLq) := by
  refine ⟨h.1, h.2.1, fun q hq => ?_⟩
  obtain ⟨x, hx, rfl⟩ := List.mem_map.mp hq
  rcases lset_in lv i v x hx with e | e | e
  · subst e
    exact h.2.2 _ List.mem_cons_self
  · refine h.2.2 _ (List.mem_cons_of_mem _ (List.mem_filter.mpr ⟨List.mem_map.mpr ⟨x, e.1, rfl⟩, ?_⟩))
    have hc : (vLq x).2.category = 1 := vL_cat x.2
    have hn : ((vLq x).1 == i) = false := by simp [vLq]; exact e.2
    simp [hc, hn]
  · exact absurd (lord_spec lv ho) e.2.2
/-- the walk stands at pc, with that heap, size, room used, locals and stack, and comes to its end -/
def AW (Γ : GG) (nL : Nat) (h : Hp) (sz k n pc : Nat) (lv : LV) (st : List Value) : Prop :=
  ∀ (H : Heap) (locs : List Loc) (ls : Array Slot), H.size = sz → Rp (g_D Γ) (g_A Γ) (g_z Γ) h H → va_S (fun q => g_z Γ ≤ q) (g_s Γ).heap H locs → lv_has ls nL (lv.map vLq) →
    W (g_p Γ) (g_l Γ) (g_e Γ) (g_R Γ) (g_s Γ) (g_m Γ) (g_a Γ) (g_b Γ) (g_t Γ) (g_c Γ) H locs k n (g_Q Γ) (F0 (g_m Γ) pc ls st)
def CX (Γ : GG) (cc : ByteArray) (nL : Nat) (own : String) (fr mc ms : Nat) : Prop :=
  (g_p Γ).tables.exec = Jvm.exec ∧ (g_c Γ).code = cc ∧ (g_c Γ).maxLocals = nL ∧ (g_s Γ).vm.findClass own = some (g_m Γ).cls ∧ (∀ w ∈ gw, w.before (g_a Γ) (g_s Γ) = true) ∧ KK (g_D Γ) (g_A Γ) (g_s Γ) ∧ g_z Γ ≤ (g_s Γ).heap.size ∧ (g_t Γ).locks = false ∧ fr ≤ (g_R Γ).frames ∧ 40 * fr ≤ (g_R Γ).locals ∧ mc ≤ (g_R Γ).cells ∧ ms ≤ (g_R Γ).slots
def aPre (D : va_G) (dA : Nat → ClassId) (base : Nat) (av : List Value) (h : Hp) (sz : Nat) : Array Value → State → Prop := va_Pc av (fun U => U.heap.size = sz ∧ base ≤ sz ∧ Rp D dA base h U.heap ∧ KK D dA U)
def aPost (D : va_G) (dA : Nat → ClassId) (base : Nat) (r : Option Value) (h : Hp) (sz : Nat) : Array Value → State → Outcome → State → Prop := fun _ st oc t => oc = .returned r ∧ t.heap.size = sz ∧ Rp D dA base h t.heap ∧ st.heap.size ≤ t.heap.size ∧ ∀ q : Nat, q < base → t.heap[q]? = st.heap[q]?
def RX (Γ : GG) (ret : Option FieldType) (r : Option Value) (h : Hp) (sz mc ms : Nat) : Prop := (g_t Γ).sig.returnType = ret ∧ g_Q Γ = MQ (g_b Γ) (aPost (g_D Γ) (g_A Γ) (g_z Γ) r h sz) (g_a Γ) (g_s Γ) mc ms (fun q => g_z Γ ≤ q)
/-- a method's contract: from that heap with these arguments it returns that, with that heap -/
def AM (l : Launch) (D : va_G) (dA : Nat → ClassId) (base : Nat) (y : MethodName) (cc : ByteArray) (maxL : Nat) (ret : Option FieldType) (fr mc ms : Nat) (as : List LL) (h : Hp) (sz : Nat) (r : Option Value) (h' : Hp) (sz' : Nat) : Prop :=
  Met l y (Cond.code y cc maxL ret :: gw) ({ frames := fr, cells := mc, slots := ms, locals := 40 * fr }) (aPre D dA base (as.map vL) h sz) (aPost D dA base r h' sz') mc ms (fun q => base ≤ q)
def lnum (i : Nat) (as : List LL) : LV := match as with
  | [] => []
  | x :: l => (i, x) :: lnum (i + 1) l
theorem lnum_args (as : List LL) (i : Nat) : lv_args i (as.map vL) = (lnum i as).map vLq := by
  induction as generalizing i with
  | nil => rfl
  | cons x l ih =>
    show (i, vL x) :: lv_args (if (vL x).category = 2 then i + 2 else i + 1) (l.map vL) = (i, vL x) :: (lnum (i + 1) l).map vLq
    rw [vL_cat, if_neg (by decide), ih]
theorem lg_len (as : List LL) : (lg_sl (as.map vL)).length = as.length := by
  induction as with
  | nil => rfl
  | cons x l ih =>
    have e : lg_sl ((x :: l).map vL) = [.val (vL x)] ++ lg_sl (l.map vL) := by
      simp [lg_sl, vL_cat]
    rw [e, List.length_append, ih]
    simp; omega
theorem AM.of {l : Launch} {D : va_G} {dA : Nat → ClassId} {base : Nat} {y : MethodName} {cc : ByteArray} {maxL : Nat} {ret : Option FieldType} {fr mc ms : Nat} {as : List LL} {h : Hp} {sz : Nat} {r : Option Value} {h' : Hp} {sz' : Nat}
    (hy : plainName y.cls = true) (hl : as.length ≤ maxL) {lv : LV} (hlv : lnum 0 as = lv)
    (body : ∀ Γ : GG, CX Γ cc maxL y.cls fr mc ms → RX Γ ret r h' sz' mc ms → (g_t Γ).name = y.name → AW Γ maxL h sz 0 0 0 lv []) : AM l D dA base y cc maxL ret fr mc ms as h sz r h' sz' := by
  refine Met.ofW (cc := cc) (maxL := maxL) (ret := ret) hy rfl ?_
  intro p e s m args below meth c s₁ B hml hv
  obtain ⟨rfl, hsz, hbase, hR, hK⟩ := hv
  have hts := atoms_spec (ws := Cond.code y cc maxL ret :: gw) B.pre
  have hent := lv_entry (as.map vL) (n := maxL) (by rw [lg_len]; exact hl)
  rw [lg_entry_eq]
  rw [lnum_args, hlv] at hent
  exact body (p, l, e, _, s, m, _, below, meth, c, _, D, dA, base) ⟨B.exec, B.bytes, hml, findClass_of_methodNamed B.named, fun w hw => hts w (List.mem_cons_of_mem _ hw), hK, by rw [hsz]; exact hbase, B.notSynchronized, Nat.le_refl _, Nat.le_refl _, Nat.le_refl _, Nat.le_refl _⟩ ⟨B.returns, rfl⟩ (name_of_methodNamed B.named B.method).1 s.heap [] _ hsz hR va_S.rf hent
section ROWS
variable {Γ : GG} {cc : ByteArray} {nL fr mc ms : Nat} {own : String} {h h' : Hp} {sz k n pc : Nat} {lv lv' : LV} {st : List Value}
theorem aw_sub (ks : List Nat) (hl : ks.filterMap (fun i => lv[i]?) = lv') (kk : AW Γ nL h sz k n pc lv' st) : AW Γ nL h sz k n pc lv st := by
  intro H locs ls a b c d
  refine kk H locs ls a b c ⟨d.1, d.2.1, fun q hq => ?_⟩
  obtain ⟨x, hx, rfl⟩ := List.mem_map.mp hq
  rw [← hl] at hx
  obtain ⟨i, -, hi⟩ := List.mem_filterMap.mp hx
  exact d.2.2 _ (List.mem_map.mpr ⟨x, List.mem_of_getElem? hi, rfl⟩)
theorem aw_wide {k' n' : Nat} (h1 : k ≤ k') (h2 : n ≤ n') (kk : AW Γ nL h sz k' n' pc lv st) : AW Γ nL h sz k n pc lv st :=
  fun H locs ls a b c d => W.widen h1 h2 (kk H locs ls a b c d)
theorem aw_iconst (C : CX Γ cc nL own fr mc ms) {i : Int} {v : Int32} (hd : decode cc pc = .ok (.iconst i, 1)) (hv : Int32.ofInt i = v) (kk : AW Γ nL h sz k n (pc + 1) lv (.int v :: st)) : AW Γ nL h sz k n pc lv st :=
  fun H locs ls a b c d => lv_iconst C.1 C.2.1 hd hv (kk H locs ls a b c d)
theorem aw_bipush (C : CX Γ cc nL own fr mc ms) {i : Int} {v : Int32} (hd : decode cc pc = .ok (.bipush i, 2)) (hv : (Int8.ofInt i).toInt32 = v) (kk : AW Γ nL h sz k n (pc + 2) lv (.int v :: st)) : AW Γ nL h sz k n pc lv st :=
  fun H locs ls a b c d => lv_bipush C.1 C.2.1 hd hv (kk H locs ls a b c d)
theorem aw_sipush (C : CX Γ cc nL own fr mc ms) {i : Int} {v : Int32} (hd : decode cc pc = .ok (.sipush i, 3)) (hv : (Int16.ofInt i).toInt32 = v) (kk : AW Γ nL h sz k n (pc + 3) lv (.int v :: st)) : AW Γ nL h sz k n pc lv st :=
  fun H locs ls a b c d => lv_sipush C.1 C.2.1 hd hv (kk H locs ls a b c d)
theorem aw_ldc (C : CX Γ cc nL own fr mc ms) {i : Nat} {v : Int32} (hd : decode cc pc = .ok (.ldc i, 2)) (hw : Cond.constant own i v ∈ gw) (kk : AW Γ nL h sz k n (pc + 2) lv (.int v :: st)) : AW Γ nL h sz k n pc lv st :=
  fun H locs ls a b c d => lv_ldc C.1 C.2.1 C.2.2.2.1 (C.2.2.2.2.1 _ hw) hd (kk H locs ls a b c d)
theorem aw_ldcw (C : CX Γ cc nL own fr mc ms) {i : Nat} {v : Int32} (hd : decode cc pc = .ok (.ldc_w i, 3)) (hw : Cond.constant own i v ∈ gw) (kk : AW Γ nL h sz k n (pc + 3) lv (.int v :: st)) : AW Γ nL h sz k n pc lv st :=
  fun H locs ls a b c d => lv_ldcw C.1 C.2.1 C.2.2.2.1 (C.2.2.2.2.1 _ hw) hd (kk H locs ls a b c d)
theorem aw_ldc2 (C : CX Γ cc nL own fr mc ms) {i : Nat} {v : Int64} (hd : decode cc pc = .ok (.ldc2_w i, 3)) (hw : Cond.constantLong own i v ∈ gw) (kk : AW Γ nL h sz k n (pc + 3) lv (.long v :: st)) : AW Γ nL h sz k n pc lv st :=
  fun H locs ls a b c d => lv_ldc2 C.1 C.2.1 C.2.2.2.1 (C.2.2.2.2.1 _ hw) hd (kk H locs ls a b c d)
theorem aw_lconst (C : CX Γ cc nL own fr mc ms) {i : Fin 2} {v : Int64} (hd : decode cc pc = .ok (.lconst i, 1)) (hv : Int64.ofNat i.val = v) (kk : AW Γ nL h sz k n (pc + 1) lv (.long v :: st)) : AW Γ nL h sz k n pc lv st :=
  fun H locs ls a b c d => lv_lconst C.1 C.2.1 hd hv (kk H locs ls a b c d)
theorem at_vL {ls : Array Slot} {i j : Nat} {x : LL} (d : lv_has ls nL (lv.map vLq)) (hj : lv[j]? = some (i, x)) : ls[i]? = some (.val (vL x)) := d.2.2 (i, vL x) (List.mem_map.mpr ⟨(i, x), List.mem_of_getElem? hj, rfl⟩)
theorem aw_iload_n (C : CX Γ cc nL own fr mc ms) {q : Fin 4} {i j : Nat} {x : Int32} (hd : decode cc pc = .ok (.iload_n q, 1)) (hi : (q : Nat) = i) (hj : lv[j]? = some (i, .inl x)) (kk : AW Γ nL h sz k n (pc + 1) lv (.int x :: st)) : AW Γ nL h sz k n pc lv st :=
  fun H locs ls a b c d => lv_iload_n C.1 C.2.1 hd hi (at_vL d hj) (kk H locs ls a b c d)
theorem aw_iload (C : CX Γ cc nL own fr mc ms) {i j : Nat} {x : Int32} (hd : decode cc pc = .ok (.iload i, 2)) (hj : lv[j]? = some (i, .inl x)) (kk : AW Γ nL h sz k n (pc + 2) lv (.int x :: st)) : AW Γ nL h sz k n pc lv st :=
  fun H locs ls a b c d => lv_iload C.1 C.2.1 hd (at_vL d hj) (kk H locs ls a b c d)
theorem aw_aload_n (C : CX Γ cc nL own fr mc ms) {q : Fin 4} {i j : Nat} {x : Option Nat} (hd : decode cc pc = .ok (.aload_n q, 1)) (hi : (q : Nat) = i) (hj : lv[j]? = some (i, .inr x)) (kk : AW Γ nL h sz k n (pc + 1) lv (va_rf x :: st)) : AW Γ nL h sz k n pc lv st := by
  intro H locs ls a b c d
  have e := at_vL d hj
  have kk := kk H locs ls a b c d
  cases x with
  | none => exact lv_aload_nN C.1 C.2.1 hd hi e kk
  | some x => exact lv_aload_n C.1 C.2.1 hd hi e kk
theorem aw_aload (C : CX Γ cc nL own fr mc ms) {i j : Nat} {x : Option Nat} (hd : decode cc pc = .ok (.aload i, 2)) (hj : lv[j]? = some (i, .inr x)) (kk : AW Γ nL h sz k n (pc + 2) lv (va_rf x :: st)) : AW Γ nL h sz k n pc lv st := by
  intro H locs ls a b c d
  have e := at_vL d hj
  have kk := kk H locs ls a b c d
  cases x with
  | none => exact lv_aloadN C.1 C.2.1 hd e kk
  | some x => exact lv_aload C.1 C.2.1 hd e kk
theorem aw_istore_n (C : CX Γ cc nL own fr mc ms) {q : Fin 4} {i : Nat} {x : Int32} (hd : decode cc pc = .ok (.istore_n q, 1)) (hi : (q : Nat) = i) (hn : i < nL) (ho : lord lv = true) (hl : lset lv i (.inl x) = lv') (kk : AW Γ nL h sz k n (pc + 1) lv' st) : AW Γ nL h sz k n pc lv (.int x :: st) :=
  fun H locs ls a b c d => lv_istore_n C.1 C.2.1 hd hi d hn rfl (fun ls' d' => kk H locs ls' a b c (by rw [← hl]; exact lset_has (v := .inl x) ho d'))
theorem aw_istore (C : CX Γ cc nL own fr mc ms) {i : Nat} {x : Int32} (hd : decode cc pc = .ok (.istore i, 2)) (hn : i < nL) (ho : lord lv = true) (hl : lset lv i (.inl x) = lv') (kk : AW Γ nL h sz k n (pc + 2) lv' st) : AW Γ nL h sz k n pc lv (.int x :: st) :=
  fun H locs ls a b c d => lv_istore C.1 C.2.1 hd d hn rfl (fun ls' d' => kk H locs ls' a b c (by rw [← hl]; exact lset_has (v := .inl x) ho d'))
theorem aw_astore_n (C : CX Γ cc nL own fr mc ms) {q : Fin 4} {i : Nat} {x : Option Nat} (hd : decode cc pc = .ok (.astore_n q, 1)) (hi : (q : Nat) = i) (hn : i < nL) (ho : lord lv = true) (hl : lset lv i (.inr x) = lv') (kk : AW Γ nL h sz k n (pc + 1) lv' st) : AW Γ nL h sz k n pc lv (va_rf x :: st) := by
  intro H locs ls a b c d
  cases x with
  | none => exact lv_astore_nN C.1 C.2.1 hd hi d hn rfl (fun ls' d' => kk H locs ls' a b c (by rw [← hl]; exact lset_has (v := .inr none) ho d'))
  | some x => exact lv_astore_n C.1 C.2.1 hd hi d hn rfl (fun ls' d' => kk H locs ls' a b c (by rw [← hl]; exact lset_has (v := .inr (some x)) ho d'))
theorem aw_astore (C : CX Γ cc nL own fr mc ms) {i : Nat} {x : Option Nat} (hd : decode cc pc = .ok (.astore i, 2)) (hn : i < nL) (ho : lord lv = true) (hl : lset lv i (.inr x) = lv') (kk : AW Γ nL h sz k n (pc + 2) lv' st) : AW Γ nL h sz k n pc lv (va_rf x :: st) := by
  intro H locs ls a b c d
  cases x with
  | none => exact lv_astoreN C.1 C.2.1 hd d hn rfl (fun ls' d' => kk H locs ls' a b c (by rw [← hl]; exact lset_has (v := .inr none) ho d'))
  | some x => exact lv_astore C.1 C.2.1 hd d hn rfl (fun ls' d' => kk H locs ls' a b c (by rw [← hl]; exact lset_has (v := .inr (some x)) ho d'))
theorem aw_iinc (C : CX Γ cc nL own fr mc ms) {i j : Nat} {z : Int} {x y : Int32} (hd : decode cc pc = .ok (.iinc i z, 3)) (hz : Int32.ofInt z = y) (hj : lv[j]? = some (i, .inl x)) (hn : i < nL) (ho : lord lv = true) (hl : lset lv i (.inl (x + y)) = lv') (kk : AW Γ nL h sz k n (pc + 3) lv' st) : AW Γ nL h sz k n pc lv st :=
  fun H locs ls a b c d => lv_iinc (k := j) (v := x + y) C.1 C.2.1 hd d (by rw [List.getElem?_map, hj]; rfl) (by rw [hz]) hn rfl (fun ls' d' => kk H locs ls' a b c (by rw [← hl]; exact lset_has (v := .inl (x + y)) ho d'))
theorem aw_null (C : CX Γ cc nL own fr mc ms) (hd : decode cc pc = .ok (.aconst_null, 1)) (kk : AW Γ nL h sz k n (pc + 1) lv (va_rf none :: st)) : AW Γ nL h sz k n pc lv st :=
  fun H locs ls a b c d => lv_null C.1 C.2.1 hd (kk H locs ls a b c d)
theorem aw_iadd (C : CX Γ cc nL own fr mc ms) {x y : Int32} (hd : decode cc pc = .ok (.iadd, 1)) (kk : AW Γ nL h sz k n (pc + 1) lv (.int (x + y) :: st)) : AW Γ nL h sz k n pc lv (.int y :: .int x :: st) :=
  fun H locs ls a b c d => lv_iadd C.1 C.2.1 hd (kk H locs ls a b c d)
theorem aw_isub (C : CX Γ cc nL own fr mc ms) {x y : Int32} (hd : decode cc pc = .ok (.isub, 1)) (kk : AW Γ nL h sz k n (pc + 1) lv (.int (x - y) :: st)) : AW Γ nL h sz k n pc lv (.int y :: .int x :: st) :=
  fun H locs ls a b c d => lv_isub C.1 C.2.1 hd (kk H locs ls a b c d)
theorem aw_imul (C : CX Γ cc nL own fr mc ms) {x y : Int32} (hd : decode cc pc = .ok (.imul, 1)) (kk : AW Γ nL h sz k n (pc + 1) lv (.int (x * y) :: st)) : AW Γ nL h sz k n pc lv (.int y :: .int x :: st) :=
  fun H locs ls a b c d => lv_imul C.1 C.2.1 hd (kk H locs ls a b c d)
theorem aw_iand (C : CX Γ cc nL own fr mc ms) {x y : Int32} (hd : decode cc pc = .ok (.iand, 1)) (kk : AW Γ nL h sz k n (pc + 1) lv (.int (x &&& y) :: st)) : AW Γ nL h sz k n pc lv (.int y :: .int x :: st) :=
  fun H locs ls a b c d => lv_iand C.1 C.2.1 hd (kk H locs ls a b c d)
theorem aw_ixor (C : CX Γ cc nL own fr mc ms) {x y : Int32} (hd : decode cc pc = .ok (.ixor, 1)) (kk : AW Γ nL h sz k n (pc + 1) lv (.int (x ^^^ y) :: st)) : AW Γ nL h sz k n pc lv (.int y :: .int x :: st) :=
  fun H locs ls a b c d => lv_ixor C.1 C.2.1 hd (kk H locs ls a b c d)
theorem aw_idiv (C : CX Γ cc nL own fr mc ms) {x y : Int32} (hd : decode cc pc = .ok (.idiv, 1)) (hy : ¬ y = 0) (kk : AW Γ nL h sz k n (pc + 1) lv (.int (x / y) :: st)) : AW Γ nL h sz k n pc lv (.int y :: .int x :: st) :=
  fun H locs ls a b c d => lv_idiv C.1 C.2.1 hd hy (kk H locs ls a b c d)
theorem aw_irem (C : CX Γ cc nL own fr mc ms) {x y : Int32} (hd : decode cc pc = .ok (.irem, 1)) (hy : ¬ y = 0) (kk : AW Γ nL h sz k n (pc + 1) lv (.int (jrem x y) :: st)) : AW Γ nL h sz k n pc lv (.int y :: .int x :: st) :=
  fun H locs ls a b c d => lv_irem C.1 C.2.1 hd hy (kk H locs ls a b c d)
theorem aw_ladd (C : CX Γ cc nL own fr mc ms) {x y : Int64} (hd : decode cc pc = .ok (.ladd, 1)) (kk : AW Γ nL h sz k n (pc + 1) lv (.long (x + y) :: st)) : AW Γ nL h sz k n pc lv (.long y :: .long x :: st) :=
  fun H locs ls a b c d => lv_ladd C.1 C.2.1 hd (kk H locs ls a b c d)
theorem aw_lcmp (C : CX Γ cc nL own fr mc ms) {x y : Int64} (hd : decode cc pc = .ok (.lcmp, 1)) (kk : AW Γ nL h sz k n (pc + 1) lv (.int (lg_cmp x y) :: st)) : AW Γ nL h sz k n pc lv (.long y :: .long x :: st) :=
  fun H locs ls a b c d => W.lcmp C.1 C.2.1 hd (kk H locs ls a b c d)
theorem aw_dup (C : CX Γ cc nL own fr mc ms) {v : Value} (hd : decode cc pc = .ok (.dup, 1)) (hc : v.category = 1) (kk : AW Γ nL h sz k n (pc + 1) lv (v :: v :: st)) : AW Γ nL h sz k n pc lv (v :: st) :=
  fun H locs ls a b c d => lv_dup C.1 C.2.1 hd hc (kk H locs ls a b c d)
theorem aw_dup2 (C : CX Γ cc nL own fr mc ms) {v w : Value} (hd : decode cc pc = .ok (.dup2, 1)) (hc : v.category = 1) (hw : w.category = 1) (kk : AW Γ nL h sz k n (pc + 1) lv (v :: w :: v :: w :: st)) : AW Γ nL h sz k n pc lv (v :: w :: st) :=
  fun H locs ls a b c d => lv_dup2_11 C.1 C.2.1 hd hc hw (kk H locs ls a b c d)
theorem aw_pop (C : CX Γ cc nL own fr mc ms) {v : Value} (hd : decode cc pc = .ok (.pop, 1)) (hc : v.category = 1) (kk : AW Γ nL h sz k n (pc + 1) lv st) : AW Γ nL h sz k n pc lv (v :: st) :=
  fun H locs ls a b c d => lv_pop C.1 C.2.1 hd hc (kk H locs ls a b c d)
theorem aw_goto (C : CX Γ cc nL own fr mc ms) {off : Int} {tgt : Nat} (hd : decode cc pc = .ok (.goto off, 3)) (ht : (pc : Int) + off = (tgt : Int)) (kk : AW Γ nL h sz k n tgt lv st) : AW Γ nL h sz k n pc lv st :=
  fun H locs ls a b c d => lv_goto C.1 C.2.1 hd ht (kk H locs ls a b c d)
theorem aw_if_eq (C : CX Γ cc nL own fr mc ms) {x : Int32} {off : Int} {tgt : Nat} (hd : decode cc pc = .ok (.ifCond .eq off, 3)) (ht : (pc : Int) + off = (tgt : Int)) (kt : x = 0 → AW Γ nL h sz k n tgt lv st) (kf : ¬ x = 0 → AW Γ nL h sz k n (pc + 3) lv st) : AW Γ nL h sz k n pc lv (.int x :: st) :=
  fun H locs ls a b c d => lv_if_eq C.1 C.2.1 hd ht (fun z => kt z H locs ls a b c d) (fun z => kf z H locs ls a b c d)
theorem aw_if_ne (C : CX Γ cc nL own fr mc ms) {x : Int32} {off : Int} {tgt : Nat} (hd : decode cc pc = .ok (.ifCond .ne off, 3)) (ht : (pc : Int) + off = (tgt : Int)) (kt : x = 0 → AW Γ nL h sz k n (pc + 3) lv st) (kf : ¬ x = 0 → AW Γ nL h sz k n tgt lv st) : AW Γ nL h sz k n pc lv (.int x :: st) :=
  fun H locs ls a b c d => lv_if_ne C.1 C.2.1 hd ht (fun z => kf z H locs ls a b c d) (fun z => kt z H locs ls a b c d)
theorem aw_if_lt (C : CX Γ cc nL own fr mc ms) {x : Int32} {off : Int} {tgt : Nat} (hd : decode cc pc = .ok (.ifCond .lt off, 3)) (ht : (pc : Int) + off = (tgt : Int)) (kt : x < 0 → AW Γ nL h sz k n tgt lv st) (kf : ¬ x < 0 → AW Γ nL h sz k n (pc + 3) lv st) : AW Γ nL h sz k n pc lv (.int x :: st) :=
  fun H locs ls a b c d => lv_if_lt C.1 C.2.1 hd ht (fun z => kt z H locs ls a b c d) (fun z => kf z H locs ls a b c d)
theorem aw_if_ge (C : CX Γ cc nL own fr mc ms) {x : Int32} {off : Int} {tgt : Nat} (hd : decode cc pc = .ok (.ifCond .ge off, 3)) (ht : (pc : Int) + off = (tgt : Int)) (kt : 0 ≤ x → AW Γ nL h sz k n tgt lv st) (kf : ¬ 0 ≤ x → AW Γ nL h sz k n (pc + 3) lv st) : AW Γ nL h sz k n pc lv (.int x :: st) :=
  fun H locs ls a b c d => lv_if_ge C.1 C.2.1 hd ht (fun z => kt z H locs ls a b c d) (fun z => kf z H locs ls a b c d)
theorem aw_if_gt (C : CX Γ cc nL own fr mc ms) {x : Int32} {off : Int} {tgt : Nat} (hd : decode cc pc = .ok (.ifCond .gt off, 3)) (ht : (pc : Int) + off = (tgt : Int)) (kt : 0 < x → AW Γ nL h sz k n tgt lv st) (kf : ¬ 0 < x → AW Γ nL h sz k n (pc + 3) lv st) : AW Γ nL h sz k n pc lv (.int x :: st) :=
  fun H locs ls a b c d => lv_if_gt C.1 C.2.1 hd ht (fun z => kt z H locs ls a b c d) (fun z => kf z H locs ls a b c d)
theorem aw_if_le (C : CX Γ cc nL own fr mc ms) {x : Int32} {off : Int} {tgt : Nat} (hd : decode cc pc = .ok (.ifCond .le off, 3)) (ht : (pc : Int) + off = (tgt : Int)) (kt : x ≤ 0 → AW Γ nL h sz k n tgt lv st) (kf : ¬ x ≤ 0 → AW Γ nL h sz k n (pc + 3) lv st) : AW Γ nL h sz k n pc lv (.int x :: st) :=
  fun H locs ls a b c d => lv_if_le C.1 C.2.1 hd ht (fun z => kt z H locs ls a b c d) (fun z => kf z H locs ls a b c d)
theorem aw_ic_eq (C : CX Γ cc nL own fr mc ms) {x y : Int32} {off : Int} {tgt : Nat} (hd : decode cc pc = .ok (.if_icmp .eq off, 3)) (ht : (pc : Int) + off = (tgt : Int)) (kt : x = y → AW Γ nL h sz k n tgt lv st) (kf : ¬ x = y → AW Γ nL h sz k n (pc + 3) lv st) : AW Γ nL h sz k n pc lv (.int y :: .int x :: st) :=
  fun H locs ls a b c d => lv_icmp_eq C.1 C.2.1 hd ht (fun z => kt z H locs ls a b c d) (fun z => kf z H locs ls a b c d)
theorem aw_ic_ne (C : CX Γ cc nL own fr mc ms) {x y : Int32} {off : Int} {tgt : Nat} (hd : decode cc pc = .ok (.if_icmp .ne off, 3)) (ht : (pc : Int) + off = (tgt : Int)) (kt : x = y → AW Γ nL h sz k n (pc + 3) lv st) (kf : ¬ x = y → AW Γ nL h sz k n tgt lv st) : AW Γ nL h sz k n pc lv (.int y :: .int x :: st) :=
  fun H locs ls a b c d => lv_icmp_ne C.1 C.2.1 hd ht (fun z => kf z H locs ls a b c d) (fun z => kt z H locs ls a b c d)
theorem aw_ic_lt (C : CX Γ cc nL own fr mc ms) {x y : Int32} {off : Int} {tgt : Nat} (hd : decode cc pc = .ok (.if_icmp .lt off, 3)) (ht : (pc : Int) + off = (tgt : Int)) (kt : x < y → AW Γ nL h sz k n tgt lv st) (kf : ¬ x < y → AW Γ nL h sz k n (pc + 3) lv st) : AW Γ nL h sz k n pc lv (.int y :: .int x :: st) :=
  fun H locs ls a b c d => lv_icmp_lt C.1 C.2.1 hd ht (fun z => kt z H locs ls a b c d) (fun z => kf z H locs ls a b c d)
theorem aw_ic_ge (C : CX Γ cc nL own fr mc ms) {x y : Int32} {off : Int} {tgt : Nat} (hd : decode cc pc = .ok (.if_icmp .ge off, 3)) (ht : (pc : Int) + off = (tgt : Int)) (kt : y ≤ x → AW Γ nL h sz k n tgt lv st) (kf : ¬ y ≤ x → AW Γ nL h sz k n (pc + 3) lv st) : AW Γ nL h sz k n pc lv (.int y :: .int x :: st) :=
  fun H locs ls a b c d => lv_icmp_ge C.1 C.2.1 hd ht (fun z => kt z H locs ls a b c d) (fun z => kf z H locs ls a b c d)
theorem aw_ic_gt (C : CX Γ cc nL own fr mc ms) {x y : Int32} {off : Int} {tgt : Nat} (hd : decode cc pc = .ok (.if_icmp .gt off, 3)) (ht : (pc : Int) + off = (tgt : Int)) (kt : y < x → AW Γ nL h sz k n tgt lv st) (kf : ¬ y < x → AW Γ nL h sz k n (pc + 3) lv st) : AW Γ nL h sz k n pc lv (.int y :: .int x :: st) :=
  fun H locs ls a b c d => lv_icmp_gt C.1 C.2.1 hd ht (fun z => kt z H locs ls a b c d) (fun z => kf z H locs ls a b c d)
theorem aw_ic_le (C : CX Γ cc nL own fr mc ms) {x y : Int32} {off : Int} {tgt : Nat} (hd : decode cc pc = .ok (.if_icmp .le off, 3)) (ht : (pc : Int) + off = (tgt : Int)) (kt : x ≤ y → AW Γ nL h sz k n tgt lv st) (kf : ¬ x ≤ y → AW Γ nL h sz k n (pc + 3) lv st) : AW Γ nL h sz k n pc lv (.int y :: .int x :: st) :=
  fun H locs ls a b c d => lv_icmp_le C.1 C.2.1 hd ht (fun z => kt z H locs ls a b c d) (fun z => kf z H locs ls a b c d)
theorem aw_ifnull (C : CX Γ cc nL own fr mc ms) {r : Option Nat} {off : Int} {tgt : Nat} (hd : decode cc pc = .ok (.ifnull off, 3)) (ht : (pc : Int) + off = (tgt : Int)) (kt : r = none → AW Γ nL h sz k n tgt lv st) (kf : ¬ r = none → AW Γ nL h sz k n (pc + 3) lv st) : AW Γ nL h sz k n pc lv (va_rf r :: st) := by
  intro H locs ls a b c d
  cases r with
  | none => exact lv_ifnullN C.1 C.2.1 hd ht (kt rfl H locs ls a b c d)
  | some x => exact lv_ifnull C.1 C.2.1 hd (kf (by simp) H locs ls a b c d)
theorem aw_ifnonnull (C : CX Γ cc nL own fr mc ms) {r : Option Nat} {off : Int} {tgt : Nat} (hd : decode cc pc = .ok (.ifnonnull off, 3)) (ht : (pc : Int) + off = (tgt : Int)) (kt : r = none → AW Γ nL h sz k n (pc + 3) lv st) (kf : ¬ r = none → AW Γ nL h sz k n tgt lv st) : AW Γ nL h sz k n pc lv (va_rf r :: st) := by
  intro H locs ls a b c d
  cases r with
  | none => exact lv_ifnonnullN C.1 C.2.1 hd (kt rfl H locs ls a b c d)
  | some x => exact lv_ifnonnull C.1 C.2.1 hd ht (kf (by simp) H locs ls a b c d)
theorem aw_tsIn (C : CX Γ cc nL own fr mc ms) {x v : Int32} {dflt lo hi off : Int} {offs : Array Int} {len tgt : Nat} (hd : decode cc pc = .ok (.tableswitch dflt lo hi offs, len)) (hx : x = v) (h1 : ¬ v.toInt < lo) (h2 : ¬ hi < v.toInt) (ho : offs[(v.toInt - lo).toNat]? = some off) (ht : (pc : Int) + off = (tgt : Int)) (kk : AW Γ nL h sz k n tgt lv st) : AW Γ nL h sz k n pc lv (.int x :: st) := by
  subst hx
  exact fun H locs ls a b c d => lv_tableIn C.1 C.2.1 hd h1 h2 ho ht (kk H locs ls a b c d)
theorem aw_tsOut (C : CX Γ cc nL own fr mc ms) {x : Int32} {dflt lo hi : Int} {offs : Array Int} {len tgt : Nat} (hd : decode cc pc = .ok (.tableswitch dflt lo hi offs, len)) (hx : x.toInt < lo ∨ hi < x.toInt) (ht : (pc : Int) + dflt = (tgt : Int)) (kk : AW Γ nL h sz k n tgt lv st) : AW Γ nL h sz k n pc lv (.int x :: st) :=
  fun H locs ls a b c d => lv_tableOut C.1 C.2.1 hd hx ht (kk H locs ls a b c d)
theorem aw_lsw (C : CX Γ cc nL own fr mc ms) {x : Int32} {dflt off : Int} {ps : Array (Int × Int)} {len tgt : Nat} (hd : decode cc pc = .ok (.lookupswitch dflt ps, len)) (hp : (ps.toList.zip (ps.toList.drop 1)).all (fun (a, next) => a.1 < next.1) = true) (ho : Op.lookupswitch.offset ps.toList dflt x.toInt = off) (ht : (pc : Int) + off = (tgt : Int)) (kk : AW Γ nL h sz k n tgt lv st) : AW Γ nL h sz k n pc lv (.int x :: st) :=
  fun H locs ls a b c d => lv_lookup C.1 C.2.1 hd hp ho ht (kk H locs ls a b c d)
end ROWS
