def FK (own : String) (ix ci j : Nat) (ty : FieldType) (fin : Bool) : Prop :=
  ∃ (Cn : String) (T : u_T) (N : Nat) (ty0 : Nat → FieldType), vwCl[ci]? = some (Cn, T, N) ∧ j < N ∧ (∀ w ∈ u_ws Cn T N, w ∈ gw) ∧ (Cond.fieldLink own ix (T j).1 (T j).2.1 (T j).2.2.1 ∈ gw ∨ ∃ host, Cond.fieldLinkNest own ix (T j).1 (T j).2.1 (T j).2.2.1 host ∈ nw) ∧ (∀ k, k < N → parseFieldDescriptor (T k).2.2.1 = some (ty0 k)) ∧ (∀ a, a < N → ∀ b, b < N → a ≠ b → (T a).2.1 ≠ (T b).2.1) ∧ parseFieldDescriptor (T j).2.2.1 = some ty ∧ (T j).2.2.2 = fin ∧ (T j).1 = Cn
def NK (own : String) (ix ci N : Nat) (fs : List Value) : Prop :=
  ∃ (Cn : String) (T : u_T) (ty0 : Nat → FieldType), vwCl[ci]? = some (Cn, T, N) ∧ (∀ w ∈ u_ws Cn T N, w ∈ gw) ∧ (∀ k, k < N → parseFieldDescriptor (T k).2.2.1 = some (ty0 k)) ∧ Cond.classLink own ix Cn ∈ gw ∧ Cond.instantiable Cn N ∈ gw ∧ Cond.initialized Cn ∈ gw ∧ (∀ j, j < N → defaultValue (ty0 j) = vp_V fs j)
def MB (own : String) (ix : Nat) (y : MethodName) (cc : ByteArray) (maxL : Nat) (ret : Option FieldType) (np : Nat) : Prop :=
  (Cond.methodLink own ix y ∈ gw ∨ ∃ host, Cond.methodLinkNest own ix y host ∈ nw) ∧ Cond.code y cc maxL ret ∈ gw ∧ Cond.initialized y.cls ∈ gw ∧ (y.cls ≠ "java/lang/invoke/MethodHandle" ∧ y.cls ≠ "java/lang/invoke/VarHandle" ∧ (parseMethodDescriptor y.desc).map (fun d => d.parameters.length) = some np) ∧ maxL ≤ 21
def clI (h : Hp) (sz : Nat) (r : Option Nat) : Option Hp := match r with
  | none => none
  | some a => match h a with
    | some (.inl (t, n, f)) => if t = 0 ∧ n ≤ 16 then some (up h sz (oI 0 n f)) else none
    | _ => none
theorem clI_spec {h h' : Hp} {sz : Nat} {r : Option Nat} (e : clI h sz r = some h') : ∃ (a n : Nat) (f : Nat → Int32), r = some a ∧ h a = some (oI 0 n f) ∧ n ≤ 16 ∧ h' = up h sz (oI 0 n f) := by
  unfold clI at e
  split at e
  · cases e
  · split at e
    · rename_i a _ t' n f he
      split at e
      · rename_i hc
        obtain ⟨hc, hl⟩ := hc
        subst hc
        cases e
        exact ⟨a, n, f, rfl, he, hl, rfl⟩
      · cases e
    · cases e
/-- whether it is an array of ints -/
def isI (h : Hp) (r : Option Nat) : Bool := match r with
  | none => false
  | some a => match h a with
    | some (.inl (t, _, _)) => t == 0
    | _ => false
theorem isI_spec {h : Hp} {r : Option Nat} (e : isI h r = true) : ∃ (a n : Nat) (f : Nat → Int32), r = some a ∧ h a = some (oI 0 n f) := by
  unfold isI at e
  split at e
  · cases e
  · split at e
    · rename_i a _ c n f he
      have hc : c = 0 := by simpa using e
      subst hc
      exact ⟨a, n, f, rfl, he⟩
    · cases e
def cpI (h : Hp) (r0 : Option Nat) (sp : Int32) (r1 : Option Nat) (dp m : Int32) : Option Hp := match r0, r1 with
  | some a0, some a1 => match h a0, h a1 with
    | some (.inl (t0, n0, f)), some (.inl (t1, n1, g)) => if t0 = 0 ∧ t1 = 0 ∧ ¬ sp < 0 ∧ ¬ dp < 0 ∧ ¬ m < 0 ∧ sp.toNatClampNeg + m.toNatClampNeg ≤ n0 ∧ dp.toNatClampNeg + m.toNatClampNeg ≤ n1 then some (up h a1 (oI 0 n1 (va_cpy f g sp.toNatClampNeg dp.toNatClampNeg m.toNatClampNeg))) else none
    | _, _ => none
  | _, _ => none
theorem cpI_spec {h h' : Hp} {r0 r1 : Option Nat} {sp dp m : Int32} (e : cpI h r0 sp r1 dp m = some h') : ∃ (a0 a1 n0 n1 : Nat) (f g : Nat → Int32), r0 = some a0 ∧ r1 = some a1 ∧ h a0 = some (oI 0 n0 f) ∧ h a1 = some (oI 0 n1 g) ∧ ¬ sp < 0 ∧ ¬ dp < 0 ∧ ¬ m < 0 ∧ sp.toNatClampNeg + m.toNatClampNeg ≤ n0 ∧ dp.toNatClampNeg + m.toNatClampNeg ≤ n1 ∧ h' = up h a1 (oI 0 n1 (va_cpy f g sp.toNatClampNeg dp.toNatClampNeg m.toNatClampNeg)) := by
  unfold cpI at e
  split at e
  · rename_i a0 a1
    split at e
    · rename_i t0 n0 f t1 n1 g e0 e1
      split at e
      · rename_i hc
        obtain ⟨c0, c1, c2, c3, c4, c5, c6⟩ := hc
        subst c0
        subst c1
        cases e
        exact ⟨a0, a1, n0, n1, f, g, rfl, rfl, e0, e1, c2, c3, c4, c5, c6, rfl⟩
      · cases e
    · cases e
  · cases e
theorem set_i (cA : ClassId) (n i : Nat) (f : Nat → Int32) (x : Int32) : (vp_cell cA (n, .inl f)).setSlot i (.int x) = vp_cell cA (n, .inl (upd f i x)) := by
  rw [vp_cell_i, vp_cell_i, arrV_store]
  congr 1
  funext q
  by_cases hq : q = i
  · subst hq
    simp [updV, upd]
  · simp [updV, upd, hq]
theorem set_q (cA : ClassId) (n i : Nat) (f : Nat → Option Nat) (v : Option Nat) : (vp_cell cA (n, .inr (.inr (.inr (.inr f))))).setSlot i (va_rf v) = vp_cell cA (n, .inr (.inr (.inr (.inr (va_up f i v))))) := by
  rw [vp_cell_q, vp_cell_q, arrV_store]
  congr 1
  funext q
  by_cases hq : q = i
  · subst hq
    simp [updV, va_up]
  · simp [updV, va_up, hq]
theorem cat_le (st : List Value) (h : st.length ≤ 4) : (st.map fun v => v.category).sum ≤ 8 := by
  have key : ∀ l : List Value, (l.map fun v => v.category).sum ≤ 2 * l.length := by
    intro l
    induction l with
    | nil => simp
    | cons x l ih =>
      rw [List.map_cons, List.sum_cons, List.length_cons]
      rcases lv_cat x with e | e <;> omega
  have := key st
  omega
theorem aPre_blind {D : va_G} {dA : Nat → ClassId} {base : Nat} {av : List Value} {h : Hp} {sz : Nat} : FrameBlind (aPre D dA base av h sz) := fun a U g mk q => ⟨q.1, q.2.1, q.2.2.1, q.2.2.2.1, KK.same (u := U) (U := U.calling g mk a) rfl q.2.2.2.2⟩
section HROWS
variable {Γ : GG} {cc : ByteArray} {nL fr mc ms : Nat} {own : String} {h h' : Hp} {sz k n pc : Nat} {lv lv' : LV} {st : List Value}
theorem aw_get (C : CX Γ cc nL own fr mc ms) {ix ci j : Nat} {ty : FieldType} {fin : Bool} (F : FK own ix ci j ty fin) (hd : decode cc pc = .ok (.getfield ix, 3)) {r : Option Nat} {v : Value} (hv : gV h r ci j = some v) (kk : AW Γ nL h sz k n (pc + 3) lv (v :: st)) : AW Γ nL h sz k n pc lv (va_rf r :: st) := by
  intro H locs ls a b c d
  obtain ⟨q, fs, rfl, hq, hfs⟩ := gV_spec hv
  obtain ⟨Cn, T, N, ty0, f1, f2, f3, f4, f5, f6, f7, f8, f9⟩ := F
  have hP := one_P (b q _ hq).2
  rcases f4 with f4 | ⟨host, f4⟩
  · exact va_get C.1 C.2.1 C.2.2.2.2.1 f3 C.2.2.2.1 C.2.2.2.2.2.1.1 hP 0 rfl f1 j f2 (C.2.2.2.2.1 _ f4) (fun _ z => z) hfs hd (kk H locs ls a b c d)
  · exact va_getN C.1 C.2.1 C.2.2.2.2.1 f3 C.2.2.2.1 C.2.2.2.2.2.1.1 hP 0 rfl f1 j f2 (va_Nw.use rfl (C.2.2.2.2.2.1.2.1 _ f4)) (fun _ z => z) hfs hd (kk H locs ls a b c d)
theorem aw_gI (C : CX Γ cc nL own fr mc ms) {ix ci j : Nat} {ty : FieldType} {fin : Bool} (F : FK own ix ci j ty fin) (hd : decode cc pc = .ok (.getfield ix, 3)) {r : Option Nat} {v : Int32} (hv : gI h r ci j = some v) (kk : AW Γ nL h sz k n (pc + 3) lv (.int v :: st)) : AW Γ nL h sz k n pc lv (va_rf r :: st) := aw_get C F hd (gI_spec hv) kk
theorem aw_gJ (C : CX Γ cc nL own fr mc ms) {ix ci j : Nat} {ty : FieldType} {fin : Bool} (F : FK own ix ci j ty fin) (hd : decode cc pc = .ok (.getfield ix, 3)) {r : Option Nat} {v : Int64} (hv : gJ h r ci j = some v) (kk : AW Γ nL h sz k n (pc + 3) lv (.long v :: st)) : AW Γ nL h sz k n pc lv (va_rf r :: st) := aw_get C F hd (gJ_spec hv) kk
theorem aw_gA (C : CX Γ cc nL own fr mc ms) {ix ci j : Nat} {ty : FieldType} {fin : Bool} (F : FK own ix ci j ty fin) (hd : decode cc pc = .ok (.getfield ix, 3)) {r v : Option Nat} (hv : gA h r ci j = some v) (kk : AW Γ nL h sz k n (pc + 3) lv (va_rf v :: st)) : AW Γ nL h sz k n pc lv (va_rf r :: st) := aw_get C F hd (gA_spec hv) kk
theorem aw_put (C : CX Γ cc nL own fr mc ms) {ix ci j : Nat} {ty : FieldType} (F : FK own ix ci j ty false) (hd : decode cc pc = .ok (.putfield ix, 3)) {r : Option Nat} {v : Value} (hn : narrow ty v = v) (hf : fits ty v = true) (hv : pV h r ci j v = some h') (kk : AW Γ nL h' sz k n (pc + 3) lv st) : AW Γ nL h sz k n pc lv (v :: va_rf r :: st) := by
  intro H locs ls a b c d
  obtain ⟨q, fs, rfl, hq, hl, rfl⟩ := pV_spec hv
  obtain ⟨Cn, T, N, ty0, f1, f2, f3, f4, f5, f6, f7, f8, f9⟩ := F
  have hts := C.2.2.2.2.1
  have hK := C.2.2.2.2.2.1.1
  have hap := va_apart (own := own) hts f3 ty0 f5 f6 hK f1
  obtain ⟨hbq, r', h1, cell, q1, q2, q3, q4⟩ := b q _ hq
  have hr : r' = (Cn, T, N) := Option.some.inj (h1.symm.trans f1)
  subst hr
  obtain ⟨hS, hfc, kC, hkC, hkind⟩ := hK.1 ci _ f1
  obtain ⟨cf, kf, fi, f, hi, hsl⟩ := hS j f2
  have hlay := hts _ (f3 _ (u_in_lay f2))
  unfold u_lay at hlay
  rw [if_neg (by rw [f8]; decide)] at hlay
  have hst := (u_facts hfc hkC (u_lays hts f3 f2) hi).1
  have h6 := u_store hfc hkC hkind hlay hi f7 hn hf
  rcases f4 with f4 | ⟨host, f4⟩
  · refine W.putK C.1 C.2.1 (f := f) ⟨C.2.2.2.1, hts _ f4, ⟨_, _, _, hi⟩, hst⟩ (by rw [q2]; exact h6) q1 q3 (by rw [hsl]; exact k2_hasslot (q4 j f2)) rfl rfl hd fun H' e1 e2 e3 => ?_
    rw [hsl] at e1 ⊢
    exact kk H' _ ls (e2.trans a) (b.set e3 hbq ⟨_, f1, t_OB.to (V := updV (vp_V fs) j v) ⟨_, e1, q2, q3, t_set q4 hap f2 v⟩ (fun i _ => vp_updV_set hl v i)⟩) (c.put e2 e3 hbq) d
  · refine va_WputK C.1 C.2.1 (f := f) C.2.2.2.1 (va_Nw.use rfl (C.2.2.2.2.2.1.2.1 _ f4)) hi hst (by rw [q2]; exact h6) q1 q3 (by rw [hsl]; exact k2_hasslot (q4 j f2)) rfl rfl hd fun H' e1 e2 e3 => ?_
    rw [hsl] at e1 ⊢
    exact kk H' _ ls (e2.trans a) (b.set e3 hbq ⟨_, f1, t_OB.to (V := updV (vp_V fs) j v) ⟨_, e1, q2, q3, t_set q4 hap f2 v⟩ (fun i _ => vp_updV_set hl v i)⟩) (c.put e2 e3 hbq) d
theorem aw_putF (C : CX Γ cc nL own fr mc ms) {ix ci j : Nat} {ty : FieldType} (F : FK own ix ci j ty true) (ho : vwCl[ci]?.map (·.1) = some own) (hin : (g_t Γ).name = "<init>") (hd : decode cc pc = .ok (.putfield ix, 3)) {r : Option Nat} {v : Value} (hn : narrow ty v = v) (hf : fits ty v = true) (hv : pV h r ci j v = some h') (kk : AW Γ nL h' sz k n (pc + 3) lv st) : AW Γ nL h sz k n pc lv (v :: va_rf r :: st) := by
  intro H locs ls a b c d
  obtain ⟨q, fs, rfl, hq, hl, rfl⟩ := pV_spec hv
  obtain ⟨Cn, T, N, ty0, f1, f2, f3, f4, f5, f6, f7, f8, f9⟩ := F
  have hts := C.2.2.2.2.1
  have hK := C.2.2.2.2.2.1.1
  have hap := va_apart (own := own) hts f3 ty0 f5 f6 hK f1
  obtain ⟨hbq, r', h1, cell, q1, q2, q3, q4⟩ := b q _ hq
  have hr : r' = (Cn, T, N) := Option.some.inj (h1.symm.trans f1)
  subst hr
  rw [f1] at ho
  have ho : Cn = own := Option.some.inj ho
  obtain ⟨hS, hfc, kC, hkC, hkind⟩ := hK.1 ci _ f1
  obtain ⟨cf, kf, fi, f, hi, hsl⟩ := hS j f2
  have hlay := hts _ (f3 _ (u_in_lay f2))
  unfold u_lay at hlay
  rw [if_pos f8] at hlay
  have hst := (u_facts hfc hkC (u_lays hts f3 f2) hi).1
  have hcf : (g_m Γ).cls = cf := by
    obtain ⟨_, _, c', _, _, _, -, -, hf', -, -, -, hown2, -⟩ := Cond.laysFinal_spec hlay
    have e1 : c' = cf := by have := hi.symm.trans hf'; simp at this; exact this.1.symm
    rw [f9, ho] at hown2
    rw [← e1]; exact Option.some.inj (C.2.2.2.1.symm.trans hown2)
  have h6 := u_fits hfc hkC hkind (Or.inr hlay) hi f7 hn hf
  rcases f4 with f4 | ⟨host, f4⟩
  · refine W.putFinK C.1 C.2.1 C.2.2.2.1 (hts _ f4) hi hst hcf hin (by rw [q2]; exact h6) q1 q3 (by rw [hsl]; exact k2_hasslot (q4 j f2)) rfl rfl hd fun H' e1 e2 e3 => ?_
    rw [hsl] at e1 ⊢
    exact kk H' _ ls (e2.trans a) (b.set e3 hbq ⟨_, f1, t_OB.to (V := updV (vp_V fs) j v) ⟨_, e1, q2, q3, t_set q4 hap f2 v⟩ (fun i _ => vp_updV_set hl v i)⟩) (c.put e2 e3 hbq) d
  · have ha : q < H.size := (Array.getElem?_eq_some_iff.mp q1).1
    refine va_Wputf C.1 C.2.1 C.2.2.2.1 (va_Nw.use rfl (C.2.2.2.2.2.1.2.1 _ f4)) hi hst (Or.inr ⟨hcf, hin⟩) q1 (by rw [q3]; exact fun h => by cases h) (by rw [hsl]; exact k2_hasslot (q4 j f2)) h6.1 (by rw [q2, q3]; exact h6.2) rfl rfl hd ?_
    have e1 : (H.setIfInBounds q (cell.setSlot f.slot v))[q]? = some (cell.setSlot f.slot v) := by simp [Array.getElem?_setIfInBounds, ha]
    have e3 : ∀ x : Nat, x ≠ q → (H.setIfInBounds q (cell.setSlot f.slot v))[x]? = H[x]? := fun x hx => by simp [Array.getElem?_setIfInBounds, Ne.symm hx]
    have e2 : (H.setIfInBounds q (cell.setSlot f.slot v)).size = H.size := by simp
    rw [hsl] at e1 e2 e3 ⊢
    exact kk _ _ ls (e2.trans a) (b.set e3 hbq ⟨_, f1, t_OB.to (V := updV (vp_V fs) j v) ⟨_, e1, q2, q3, t_set q4 hap f2 v⟩ (fun i _ => vp_updV_set hl v i)⟩) (c.put e2 e3 hbq) d
theorem nf_ref {ty : FieldType} (ht : (∃ c, ty = .object c) ∨ ∃ t, ty = .array t) (r : Option Nat) : narrow ty (va_rf r) = va_rf r ∧ fits ty (va_rf r) = true := by
  rcases ht with ⟨c, rfl⟩ | ⟨c, rfl⟩ <;> cases r <;> exact ⟨rfl, rfl⟩
theorem aw_iald (C : CX Γ cc nL own fr mc ms) {i v : Int32} {r : Option Nat} (hd : decode cc pc = .ok (.iaload, 1)) (hv : rI h r 0 i = some v) (kk : AW Γ nL h sz k n (pc + 1) lv (.int v :: st)) : AW Γ nL h sz k n pc lv (.int i :: va_rf r :: st) := by
  intro H locs ls a b c d
  obtain ⟨q, z, f, rfl, hq, hin, rfl⟩ := rI_spec hv
  exact va_iald C.1 C.2.1 C.2.2.2.2.2.1.1 (one_P (b q _ hq).2) 0 0 rfl rfl hin hd (kk H locs ls a b c d)
theorem aw_zald (C : CX Γ cc nL own fr mc ms) {i v : Int32} {r : Option Nat} (hd : decode cc pc = .ok (.baload, 1)) (hv : rI h r 1 i = some v) (kk : AW Γ nL h sz k n (pc + 1) lv (.int v :: st)) : AW Γ nL h sz k n pc lv (.int i :: va_rf r :: st) := by
  intro H locs ls a b c d
  obtain ⟨q, z, f, rfl, hq, hin, rfl⟩ := rI_spec hv
  exact va_zald C.1 C.2.1 C.2.2.2.2.2.1.1 (one_P (b q _ hq).2) 0 1 rfl rfl hin hd (kk H locs ls a b c d)
theorem aw_iast (C : CX Γ cc nL own fr mc ms) {i x : Int32} {r : Option Nat} (hd : decode cc pc = .ok (.iastore, 1)) (hv : wI h r 0 i x = some h') (kk : AW Γ nL h' sz k n (pc + 1) lv st) : AW Γ nL h sz k n pc lv (.int x :: .int i :: va_rf r :: st) := by
  intro H locs ls a b c d
  obtain ⟨q, z, f, rfl, hq, hin, rfl⟩ := wI_spec hv
  have hb := b q _ hq
  refine W.iast C.1 C.2.1 hb.2 ((C.2.2.2.2.2.1.1.2 0 _ rfl).1 z (fun j => .int (f j))) (fun z => by cases z) (by show ¬ (i < 0 ∨ (arrV _ _ _).slots.size ≤ _); rw [arrV_size]; exact hin) rfl rfl hd fun H1 e ez oq => ?_
  refine kk H1 _ ls (ez.trans a) (b.set oq hb.1 ?_) (c.put ez oq hb.1) d
  show H1[q]? = some (vp_cell _ _)
  rw [e]
  exact congrArg some (set_i _ _ _ _ _)
theorem aw_zast (C : CX Γ cc nL own fr mc ms) {i x : Int32} {r : Option Nat} (hd : decode cc pc = .ok (.bastore, 1)) (hv : wI h r 1 i (vp_nar .boolean x) = some h') (kk : AW Γ nL h' sz k n (pc + 1) lv st) : AW Γ nL h sz k n pc lv (.int x :: .int i :: va_rf r :: st) := by
  intro H locs ls a b c d
  obtain ⟨q, z, f, rfl, hq, hin, rfl⟩ := wI_spec hv
  have hb := b q _ hq
  refine W.zast C.1 C.2.1 hb.2 ((C.2.2.2.2.2.1.1.2 1 _ rfl).1 z (fun j => .int (f j))) (fun z => by cases z) (by show ¬ (i < 0 ∨ (arrV _ _ _).slots.size ≤ _); rw [arrV_size]; exact hin) rfl rfl hd fun H1 e ez oq => ?_
  refine kk H1 _ ls (ez.trans a) (b.set oq hb.1 ?_) (c.put ez oq hb.1) d
  show H1[q]? = some (vp_cell _ _)
  rw [e]
  exact congrArg some (set_i _ _ _ _ _)
theorem aw_aald (C : CX Γ cc nL own fr mc ms) {i : Int32} {t : Nat} {r v : Option Nat} (ht : t = 2 ∨ t = 3 ∨ t = 8) (hd : decode cc pc = .ok (.aaload, 1)) (hv : rA h r t i = some v) (kk : AW Γ nL h sz k n (pc + 1) lv (va_rf v :: st)) : AW Γ nL h sz k n pc lv (.int i :: va_rf r :: st) := by
  intro H locs ls a b c d
  obtain ⟨q, z, f, rfl, hq, hin, rfl⟩ := rA_spec hv
  rcases ht with rfl | rfl | rfl
  · exact va_aldq C.1 C.2.1 C.2.2.2.2.2.1.1 (one_P (b q _ hq).2) 0 2 rfl rfl hin hd (kk H locs ls a b c d)
  · exact va_aldq C.1 C.2.1 C.2.2.2.2.2.1.1 (one_P (b q _ hq).2) 0 3 rfl rfl hin hd (kk H locs ls a b c d)
  · exact va_aldq C.1 C.2.1 C.2.2.2.2.2.1.1 (one_P (b q _ hq).2) 0 4 rfl rfl hin hd (kk H locs ls a b c d)
theorem aw_aast (C : CX Γ cc nL own fr mc ms) {i : Int32} {t : Nat} {r v : Option Nat} (ht : t = 2 ∨ t = 3 ∨ t = 8) (hd : decode cc pc = .ok (.aastore, 1)) (hv : wA h r t i v = some h') (kk : AW Γ nL h' sz k n (pc + 1) lv st) : AW Γ nL h sz k n pc lv (va_rf v :: .int i :: va_rf r :: st) := by
  intro H locs ls a b c d
  obtain ⟨q, z, f, rfl, hq, hin, hO, rfl⟩ := wA_spec hv
  have hb := b q _ hq
  have hK := C.2.2.2.2.2.1.1
  have hlt : i.toNatClampNeg < z := Nat.not_le.mp fun q => hin (Or.inr q)
  have h0 : ¬ i < 0 := fun q => hin (Or.inl q)
  obtain ⟨Cn, j0, htt, hcc⟩ : ∃ (Cn : String) (j0 : Nat), (tyA (g_A Γ))[j0]? = some ((g_A Γ) t, .object Cn) ∧ (∃ T N, vwCl[t - 1]? = some (Cn, T, N)) := by
    rcases ht with rfl | rfl | rfl
    · exact ⟨_, 2, rfl, _, _, rfl⟩
    · exact ⟨_, 3, rfl, _, _, rfl⟩
    · exact ⟨_, 4, rfl, _, _, rfl⟩
  cases v with
  | none =>
    refine va_WaastN (C := Cn) C.1 C.2.1 hb.2 ((hK.2 j0 _ htt).1 z (fun j => va_rf (f j))) (fun h => by cases h) (by show ¬ (i < 0 ∨ (arrV _ _ _).slots.size ≤ _); rw [arrV_size]; exact hin) rfl rfl hd fun H1 e ez oq => ?_
    refine kk H1 _ ls (ez.trans a) (b.set oq hb.1 ?_) (c.put ez oq hb.1) d
    show H1[q]? = some (vp_cell _ _)
    rw [e]
    exact congrArg some (set_q _ _ _ _ none)
  | some v =>
    rcases hO with hO | hO
    · cases hO
    obtain ⟨v', vs, ev, hv'⟩ := isO_spec hO
    cases ev
    obtain ⟨T, N, hcc⟩ := hcc
    obtain ⟨hbv, r', hr', cellV, g1, g2, g3, -⟩ := b v _ hv'
    have hcls := (hK.1 (t - 1) _ hcc).2
    obtain ⟨kA, comp, k1, k2, k3, -⟩ := (hK.2 j0 _ htt).2
    have hcomp : comp = (g_D Γ).1 (t - 1) := Option.some.inj (k3.symm.trans hcls.1)
    subst hcomp
    obtain ⟨kC, hkC, -⟩ := hcls.2
    refine W.aast C.1 C.2.1 hb.2 (fun q h => by cases h) (fun h => by cases h) k1 k2 rfl hkC ⟨h0, by show _ < (arrV _ _ _).slots.size; rw [arrV_size]; exact hlt⟩ g1 (fun q h => by rw [g3] at h; cases h) (by rw [g2]; exact hkC) (by rw [g2]; exact va_assign hcls) rfl rfl hd fun H1 e ez oq => ?_
    refine kk H1 _ ls (ez.trans a) (b.set oq hb.1 ?_) (c.put ez oq hb.1) d
    show H1[q]? = some (vp_cell _ _)
    rw [e]
    exact congrArg some (set_q _ _ _ _ (some v))
theorem aw_alen (C : CX Γ cc nL own fr mc ms) {v : Int32} {r : Option Nat} (hd : decode cc pc = .ok (.arraylength, 1)) (hv : aL h r = some v) (kk : AW Γ nL h sz k n (pc + 1) lv (.int v :: st)) : AW Γ nL h sz k n pc lv (va_rf r :: st) := by
  intro H locs ls a b c d
  obtain ⟨q, rfl, ⟨t, z, f, hq, ht, hz⟩ | ⟨t, z, f, hq, ht, hz⟩⟩ := aL_spec hv
  · rcases (show t = 0 ∨ t = 1 by omega) with rfl | rfl
    · exact va_alen C.1 C.2.1 C.2.2.2.2.2.1.1 (one_P (b q _ hq).2) 0 0 rfl rfl hz hd (kk H locs ls a b c d)
    · exact va_alen C.1 C.2.1 C.2.2.2.2.2.1.1 (one_P (b q _ hq).2) 0 1 rfl rfl hz hd (kk H locs ls a b c d)
  · rcases ht with rfl | rfl
    · exact va_alen C.1 C.2.1 C.2.2.2.2.2.1.1 (one_P (b q _ hq).2) 0 2 rfl rfl hz hd (kk H locs ls a b c d)
    · exact va_alen C.1 C.2.1 C.2.2.2.2.2.1.1 (one_P (b q _ hq).2) 0 3 rfl rfl hz hd (kk H locs ls a b c d)
theorem aw_new (C : CX Γ cc nL own fr mc ms) {ix ci N : Nat} {fs : List Value} (F : NK own ix ci N fs) (hd : decode cc pc = .ok (.new ix, 3)) (h1 : k + 1 ≤ mc) (h2 : n + N ≤ ms) (kk : AW Γ nL (up h sz (oO ci fs)) (sz + 1) (k + 1) (n + N) (pc + 3) lv (va_rf (some sz) :: st)) : AW Γ nL h sz k n pc lv st := by
  intro H locs ls a b c d
  obtain ⟨Cn, T, ty0, f1, f2, f3, f4, f5, f6, f7⟩ := F
  have hts := C.2.2.2.2.1
  have hKn := C.2.2.2.2.2.1.1.1 ci _ f1
  obtain ⟨-, -, -, -, -, -, hz, -, -, -, r1, r2⟩ := id C
  refine W.newcK C.1 C.2.1 C.2.2.2.1 (hts _ f4) (hts _ f5) (hts _ f6) rfl hd (Nat.le_trans h1 r1) (Nat.le_trans h2 r2) hKn.2.1 a fun H1 kC hkC e1 z1 o1 => ?_
  refine kk H1 locs ls z1 (b.push a o1 (by have := c.1; omega) ⟨_, f1, (u_born ty0 hts f2 hKn hkC e1 f3).to f7⟩) ⟨by have := c.1; omega, fun x g1 g2 => (o1 x (by have := c.1; omega)).trans (c.2.1 x g1 g2), c.2.2⟩ d
theorem aw_newI (C : CX Γ cc nL own fr mc ms) {x : Int32} {N : Nat} (hw : Cond.arrayClass .int ∈ gw) (hd : decode cc pc = .ok (.newarray .int, 2)) (hx : ¬ x < 0) (hN : x.toNatClampNeg = N) (hb : N ≤ 100000) (h1 : k + 1 ≤ mc) (h2 : n + N ≤ ms) (kk : AW Γ nL (up h sz (oI 0 N (fun _ => 0))) (sz + 1) (k + 1) (n + N) (pc + 2) lv (va_rf (some sz) :: st)) : AW Γ nL h sz k n pc lv (.int x :: st) := by
  intro H locs ls a b c d
  obtain ⟨-, -, -, -, hts, hK, hz, -, -, -, r1, r2⟩ := id C
  refine va_newaK (atype := .int) C.1 C.2.1 (hts _ hw) rfl hd rfl hx hN (by show N * 4 ≤ _; omega) (Nat.le_trans h1 r1) (Nat.le_trans h2 r2) a fun H1 cA e1 z1 o1 hAr hNm => ?_
  have hc : cA = (g_A Γ) 0 := Option.some.inj (hNm.symm.trans (hK.1.2 0 _ rfl).2)
  subst hc
  refine kk H1 locs ls z1 (b.push a o1 (by have := c.1; omega) ?_) ⟨by have := c.1; omega, fun x g1 g2 => (o1 x (by have := c.1; omega)).trans (c.2.1 x g1 g2), c.2.2⟩ d
  exact e1
theorem aw_newZ (C : CX Γ cc nL own fr mc ms) {x : Int32} {N : Nat} (hw : Cond.arrayClass .boolean ∈ gw) (hd : decode cc pc = .ok (.newarray .boolean, 2)) (hx : ¬ x < 0) (hN : x.toNatClampNeg = N) (hb : N ≤ 100000) (h1 : k + 1 ≤ mc) (h2 : n + N ≤ ms) (kk : AW Γ nL (up h sz (oI 1 N (fun _ => 0))) (sz + 1) (k + 1) (n + N) (pc + 2) lv (va_rf (some sz) :: st)) : AW Γ nL h sz k n pc lv (.int x :: st) := by
  intro H locs ls a b c d
  obtain ⟨-, -, -, -, hts, hK, hz, -, -, -, r1, r2⟩ := id C
  refine va_newaK (atype := .boolean) C.1 C.2.1 (hts _ hw) rfl hd rfl hx hN (by show N * 1 ≤ _; omega) (Nat.le_trans h1 r1) (Nat.le_trans h2 r2) a fun H1 cA e1 z1 o1 hAr hNm => ?_
  have hc : cA = (g_A Γ) 1 := Option.some.inj (hNm.symm.trans (hK.1.2 1 _ rfl).2)
  subst hc
  refine kk H1 locs ls z1 (b.push a o1 (by have := c.1; omega) ?_) ⟨by have := c.1; omega, fun x g1 g2 => (o1 x (by have := c.1; omega)).trans (c.2.1 x g1 g2), c.2.2⟩ d
  exact e1
theorem aw_newA (C : CX Γ cc nL own fr mc ms) {x : Int32} {N ix i t : Nat} {Cn : String} (ht : (tyA (g_A Γ))[i]? = some ((g_A Γ) t, .object Cn)) (hO : KK (g_D Γ) (g_A Γ) (g_s Γ) → va_AO Cn (g_s Γ)) (hw : Cond.classLink own ix Cn ∈ gw) (hd : decode cc pc = .ok (.anewarray ix, 3)) (hx : ¬ x < 0) (hN : x.toNatClampNeg = N) (hb : N ≤ 100000) (h1 : k + 1 ≤ mc) (h2 : n + N ≤ ms) (kk : AW Γ nL (up h sz (oA t N (fun _ => none))) (sz + 1) (k + 1) (n + N) (pc + 3) lv (va_rf (some sz) :: st)) : AW Γ nL h sz k n pc lv (.int x :: st) := by
  intro H locs ls a b c d
  obtain ⟨-, -, -, -, hts, hK, hz, -, -, -, r1, r2⟩ := id C
  subst hN
  refine W.anew C.1 C.2.1 C.2.2.2.1 (hts _ hw) (va_AO.use (hO hK)) rfl hd rfl hx (by omega) (Nat.le_trans h1 r1) (Nat.le_trans h2 r2) fun cA kA comp f1 f2 f3 f4 => ?_
  obtain ⟨kA', comp', k1, k2, k3, k4⟩ := (hK.1.2 i _ ht).2
  have hc : cA = (g_A Γ) t := Option.some.inj (f1.symm.trans k4)
  subst hc
  generalize hH1 : H.push ({ cls := (g_A Γ) t, slots := Array.replicate x.toNatClampNeg .null, vm := .none } : Cell) = H1
  have z1 : H1.size = H.size + 1 := by rw [← hH1, Array.size_push]
  have e1 : H1[H.size]? = some (arrV ((g_A Γ) t) x.toNatClampNeg (fun _ => .null)) := by rw [← hH1, Array.getElem?_push_size, ← arrV_new]
  have o1 : ∀ q : Nat, q < H.size → H1[q]? = H[q]? := fun q hq => by rw [← hH1, Array.getElem?_push, if_neg (Nat.ne_of_lt hq)]
  subst a
  exact kk H1 locs ls z1 (b.push rfl o1 (by have := c.1; omega) e1) ⟨by have := c.1; omega, fun x g1 g2 => (o1 x (by have := c.1; omega)).trans (c.2.1 x g1 g2), c.2.2⟩ d
theorem aw_castI (C : CX Γ cc nL own fr mc ms) {ix : Nat} {r : Option Nat} (hw : Cond.classLink own ix "[I" ∈ gw) (hd : decode cc pc = .ok (.checkcast ix, 3)) (hv : isI h r = true) (kk : AW Γ nL h sz k n (pc + 3) lv (va_rf r :: st)) : AW Γ nL h sz k n pc lv (va_rf r :: st) := by
  intro H locs ls a b c d
  obtain ⟨q, z, f, rfl, hq⟩ := isI_spec hv
  exact va_castA C.1 C.2.1 C.2.2.2.1 (C.2.2.2.2.1 _ hw) (one_P (b q _ hq).2) 0 rfl (C.2.2.2.2.2.1.1.2 0 _ rfl).2 hd (kk H locs ls a b c d)
theorem aw_mmax (C : CX Γ cc nL own fr mc ms) {ix : Nat} {x y : Int32} (w1 : Cond.methodLink own ix Lib.Math.max.name ∈ gw) (w2 : Cond.static Lib.Math.max.name ∈ gw) (w3 : Cond.initialized "java/lang/Math" ∈ gw) (w4 : Cond.code Lib.Math.max.name Lib.Math.max.code 2 (some .int) ∈ gw) (hf : 1 ≤ fr) (hr : st.length ≤ 4) (hk : k ≤ mc) (hn : n ≤ ms) (hd : decode cc pc = .ok (.invokestatic ix, 3)) (kk : AW Γ nL h sz k n (pc + 3) lv (.int (jmax x y) :: st)) : AW Γ nL h sz k n pc lv (.int y :: .int x :: st) := by
  intro H locs ls a b c d
  obtain ⟨-, -, hml, hown, hts, -, -, -, r1, r2, r3, r4⟩ := id C
  exact va_mmax C.1 C.2.1 (hml.trans d.1.symm) hown (hts _ w1) (hts _ w2) (hts _ w3) (hts _ w4) (by omega) (by have := cat_le st hr; omega) (by omega) (by omega) hd (kk H locs ls a b c d)
theorem aw_mmin (C : CX Γ cc nL own fr mc ms) {ix : Nat} {x y : Int32} (w1 : Cond.methodLink own ix Lib.Math.min.name ∈ gw) (w2 : Cond.static Lib.Math.min.name ∈ gw) (w3 : Cond.initialized "java/lang/Math" ∈ gw) (w4 : Cond.code Lib.Math.min.name Lib.Math.min.code 2 (some .int) ∈ gw) (hf : 1 ≤ fr) (hr : st.length ≤ 4) (hk : k ≤ mc) (hn : n ≤ ms) (hd : decode cc pc = .ok (.invokestatic ix, 3)) (kk : AW Γ nL h sz k n (pc + 3) lv (.int (jmin x y) :: st)) : AW Γ nL h sz k n pc lv (.int y :: .int x :: st) := by
  intro H locs ls a b c d
  obtain ⟨-, -, hml, hown, hts, -, -, -, r1, r2, r3, r4⟩ := id C
  exact va_mmin C.1 C.2.1 (hml.trans d.1.symm) hown (hts _ w1) (hts _ w2) (hts _ w3) (hts _ w4) (by omega) (by have := cat_le st hr; omega) (by omega) (by omega) hd (kk H locs ls a b c d)
theorem aw_objInit (C : CX Γ cc nL own fr mc ms) {ix : Nat} {r : Option Nat} (w1 : Cond.methodLink own ix Lib.objectInit ∈ gw) (w2 : Cond.instanceMethod Lib.objectInit ∈ gw) (w3 : Cond.code Lib.objectInit ⟨#[0xb1]⟩ 1 none ∈ gw) (hf : 1 ≤ fr) (hr : st.length ≤ 4) (hO : ¬ r = none) (hd : decode cc pc = .ok (.invokespecial ix, 3)) (kk : AW Γ nL h sz k n (pc + 3) lv st) : AW Γ nL h sz k n pc lv (va_rf r :: st) := by
  intro H locs ls a b c d
  obtain ⟨-, -, hml, hown, hts, -, -, -, r1, r2, r3, r4⟩ := id C
  cases r with
  | none => exact absurd rfl hO
  | some x => exact W.objInit C.1 C.2.1 hown (hts _ w1) (hts _ w2) (hts _ w3) rfl (by rw [hml]; exact d.1) rfl hd (by omega) (by show 2 * 0 + _ + 12 ≤ _; have := cat_le st hr; omega) (kk H locs ls a b c d)
end HROWS
