/-! The words: those that hold on in a callee as they stand, and the links between nest mates -/
def isNestW : Cond → Bool
  | .fieldLinkNest .. => true
  | .methodLinkNest .. => true
  | _ => false
def gw : List Cond := lw_tbl.filter goodWord
def nw : List Cond := lw_tbl.filter isNestW
theorem gw_at (i : Nat) {w : Cond} (h : lw_tbl[i]? = some w) (g : goodWord w = true) : w ∈ gw := List.mem_filter.mpr ⟨List.mem_of_getElem? h, g⟩
theorem nw_at (i : Nat) {w : Cond} (h : lw_tbl[i]? = some w) (g : isNestW w = true) : w ∈ nw := List.mem_filter.mpr ⟨List.mem_of_getElem? h, g⟩
theorem gw_ok {ws : List Cond} {w0 : Cond} (h0 : w0 ∈ gw) (h : ∀ w ∈ gw, w ∈ ws) : GoodIn ws (w0 :: gw) := by
  intro w hw
  have hg : w ∈ gw := by
    rcases List.mem_cons.mp hw with e | e
    · rw [e]; exact h0
    · exact e
  exact ⟨h w hg, good_of_word (List.mem_filter.mp hg).2⟩
theorem nw_warm {s U : State} (hW : s.WarmedH U.vm) (h : ∀ w ∈ nw, va_Nw w s) : ∀ w ∈ nw, va_Nw w U := by
  intro w hw
  have h1 := h w hw
  have h2 := (List.mem_filter.mp hw).2
  cases w <;> first | exact va_Nw.warmF hW h1 | exact va_Nw.warmM hW h1 | (simp [isNestW] at h2)
theorem nw_same {u U : State} (hv : u.vm = U.vm) (h : ∀ w ∈ nw, va_Nw w u) : ∀ w ∈ nw, va_Nw w U := by
  intro w hw
  have h1 := h w hw
  have h2 := (List.mem_filter.mp hw).2
  cases w <;> first | exact va_Nw.same rfl hv h1 | (simp [isNestW] at h2)
/-! The kinds: classes of objects, and of arrays (0 ints, 1 booleans, 2 Curves, 3 Papers, 8 Images) -/
abbrev tyA (dA : Nat → ClassId) : List (ClassId × FieldType) := [(dA 0, .int), (dA 1, .boolean), (dA 2, .object "PetalWheels$Curve"), (dA 3, .object "PetalWheels$Paper"), (dA 8, .object "PetalWheels$Image")]
def KK (D : va_G) (dA : Nat → ClassId) (U : State) : Prop := va_K D vwCl (tyA dA) U ∧ (∀ w ∈ nw, va_Nw w U) ∧ va_AO "PetalWheels$Curve" U ∧ va_AO "PetalWheels$Paper" U ∧ va_Nw (.castable "[I" "java/lang/Cloneable") U ∧ va_AO "PetalWheels$Image" U
theorem KK.moved {D : va_G} {dA : Nat → ClassId} {s U : State} (hW : s.WarmedH U.vm) (h : KK D dA s) : KK D dA U := ⟨va_K.moved hW.alike h.1, nw_warm hW h.2.1, va_AO.moved hW.alike h.2.2.1, va_AO.moved hW.alike h.2.2.2.1, va_Nw.warmC hW h.2.2.2.2.1, va_AO.moved hW.alike h.2.2.2.2.2⟩
theorem KK.same {D : va_G} {dA : Nat → ClassId} {u U : State} (hv : u.vm = U.vm) (h : KK D dA u) : KK D dA U := by
  have ha : u.vm.Alike U.vm := by rw [hv]; exact Vm.Alike.refl _
  exact ⟨va_K.moved ha h.1, nw_same hv h.2.1, va_AO.moved ha h.2.2.1, va_AO.moved ha h.2.2.2.1, va_Nw.same rfl hv h.2.2.2.2.1, va_AO.moved ha h.2.2.2.2.2⟩
/-! The heap above a base, as a function -/
abbrev AE : Type := (Nat × Nat × (Nat → Int32)) ⊕ ((Nat × Nat × (Nat → Option Nat)) ⊕ (Nat × List Value))
abbrev Hp : Type := Nat → Option AE
abbrev oI (t n : Nat) (f : Nat → Int32) : AE := .inl (t, n, f)
abbrev oA (t n : Nat) (f : Nat → Option Nat) : AE := .inr (.inl (t, n, f))
abbrev oO (c : Nat) (fs : List Value) : AE := .inr (.inr (c, fs))
def up (h : Hp) (a : Nat) (x : AE) : Hp := fun q => if q = a then some x else h q
theorem up_s (h : Hp) (a : Nat) (x : AE) : up h a x a = some x := by simp [up]
theorem up_n {h : Hp} {a q : Nat} {x : AE} (e : q ≠ a) : up h a x q = h q := by simp [up, e]
def aE (dA : Nat → ClassId) (x : AE) : va_E := match x with
  | .inl z => .inl (dA z.1, z.2.1, .inl z.2.2)
  | .inr (.inl z) => .inl (dA z.1, z.2.1, .inr (.inr (.inr (.inr z.2.2))))
  | .inr (.inr o) => .inr o
def Rp (D : va_G) (dA : Nat → ClassId) (base : Nat) (h : Hp) (H : Heap) : Prop := ∀ (q : Nat) (x : AE), h q = some x → base ≤ q ∧ va_at D vwCl (q, aE dA x) H
theorem Rp.set {D : va_G} {dA : Nat → ClassId} {base a : Nat} {h : Hp} {H H1 : Heap} {x : AE} (hR : Rp D dA base h H) (oq : ∀ q : Nat, q ≠ a → H1[q]? = H[q]?) (ha : base ≤ a) (he : va_at D vwCl (a, aE dA x) H1) : Rp D dA base (up h a x) H1 := by
  intro q y hy
  by_cases e : q = a
  · subst e
    rw [up_s] at hy
    cases hy
    exact ⟨ha, he⟩
  · rw [up_n e] at hy
    exact ⟨(hR q y hy).1, (hR q y hy).2.kept (oq q e)⟩
theorem Rp.push {D : va_G} {dA : Nat → ClassId} {base sz : Nat} {h : Hp} {H H1 : Heap} {x : AE} (hR : Rp D dA base h H) (hz : H.size = sz) (oq : ∀ q : Nat, q < sz → H1[q]? = H[q]?) (ha : base ≤ sz) (he : va_at D vwCl (sz, aE dA x) H1) : Rp D dA base (up h sz x) H1 := by
  intro q y hy
  by_cases e : q = sz
  · subst e
    rw [up_s] at hy
    cases hy
    exact ⟨ha, he⟩
  · rw [up_n e] at hy
    have h1 := hR q y hy
    exact ⟨h1.1, h1.2.kept (oq q (by rw [← hz]; exact h1.2.lt))⟩
theorem one_P {D : va_G} {cl : List vw_C} {x : Nat × va_E} {H : Heap} (h : va_at D cl x H) : va_P D cl [x] H := by
  intro k q hk
  have hz : k < 1 := (List.getElem?_eq_some_iff.mp hk).1
  rw [show k = 0 by omega] at hk
  cases hk
  exact h
/-! Reads and writes of that heap -/
def gV (h : Hp) (r : Option Nat) (ci j : Nat) : Option Value := match r with
  | none => none
  | some a => match h a with
    | some (.inr (.inr (c, fs))) => if c = ci then fs[j]? else none
    | _ => none
def gI (h : Hp) (r : Option Nat) (ci j : Nat) : Option Int32 := match gV h r ci j with
  | some (.int v) => some v
  | _ => none
def gJ (h : Hp) (r : Option Nat) (ci j : Nat) : Option Int64 := match gV h r ci j with
  | some (.long v) => some v
  | _ => none
def gA (h : Hp) (r : Option Nat) (ci j : Nat) : Option (Option Nat) := match gV h r ci j with
  | some (.ref a) => some (some a)
  | some .null => some none
  | _ => none
def pV (h : Hp) (r : Option Nat) (ci j : Nat) (v : Value) : Option Hp := match r with
  | none => none
  | some a => match h a with
    | some (.inr (.inr (c, fs))) => if c = ci ∧ j < fs.length then some (up h a (oO ci (fs.set j v))) else none
    | _ => none
def rI (h : Hp) (r : Option Nat) (t : Nat) (i : Int32) : Option Int32 := match r with
  | none => none
  | some a => match h a with
    | some (.inl (t', n, f)) => if t' = t ∧ ¬ (i < 0 ∨ n ≤ i.toNatClampNeg) then some (f i.toNatClampNeg) else none
    | _ => none
def wI (h : Hp) (r : Option Nat) (t : Nat) (i x : Int32) : Option Hp := match r with
  | none => none
  | some a => match h a with
    | some (.inl (t', n, f)) => if t' = t ∧ ¬ (i < 0 ∨ n ≤ i.toNatClampNeg) then some (up h a (oI t n (upd f i.toNatClampNeg x))) else none
    | _ => none
def rA (h : Hp) (r : Option Nat) (t : Nat) (i : Int32) : Option (Option Nat) := match r with
  | none => none
  | some a => match h a with
    | some (.inr (.inl (t', n, f))) => if t' = t ∧ ¬ (i < 0 ∨ n ≤ i.toNatClampNeg) then some (f i.toNatClampNeg) else none
    | _ => none
def isO (h : Hp) (r : Option Nat) (ci : Nat) : Bool := match r with
  | none => false
  | some a => match h a with
    | some (.inr (.inr (c, _))) => c == ci
    | _ => false
def wA (h : Hp) (r : Option Nat) (t : Nat) (i : Int32) (v : Option Nat) : Option Hp := match r with
  | none => none
  | some a => match h a with
    | some (.inr (.inl (t', n, f))) => if t' = t ∧ ¬ (i < 0 ∨ n ≤ i.toNatClampNeg) ∧ (v = none ∨ isO h v (t - 1) = true) then some (up h a (oA t n (va_up f i.toNatClampNeg v))) else none
    | _ => none
def aL (h : Hp) (r : Option Nat) : Option Int32 := match r with
  | none => none
  | some a => match h a with
    | some (.inl (t, n, _)) => if t < 2 then some (Int32.ofNat n) else none
    | some (.inr (.inl (t, n, _))) => if t = 2 ∨ t = 3 then some (Int32.ofNat n) else none
    | _ => none
def zB (v : Int32) : Option Int32 := if v = 0 ∨ v = 1 then some v else none
def jrem (x y : Int32) : Int32 := x - x / y * y
def jmax (x y : Int32) : Int32 := if x < y then y else x
def jmin (x y : Int32) : Int32 := if y < x then y else x
theorem gV_spec {h : Hp} {r : Option Nat} {ci j : Nat} {v : Value} (e : gV h r ci j = some v) : ∃ (a : Nat) (fs : List Value), r = some a ∧ h a = some (oO ci fs) ∧ fs[j]? = some v := by
  unfold gV at e
  split at e
  · cases e
  · split at e
    · rename_i a _ c fs he
      split at e
      · rename_i hc
        subst hc
        exact ⟨a, fs, rfl, he, e⟩
      · cases e
    · cases e
theorem gI_spec {h : Hp} {r : Option Nat} {ci j : Nat} {v : Int32} (e : gI h r ci j = some v) : gV h r ci j = some (.int v) := by
  unfold gI at e
  split at e
  · rename_i h1
    cases e
    exact h1
  · cases e
theorem gJ_spec {h : Hp} {r : Option Nat} {ci j : Nat} {v : Int64} (e : gJ h r ci j = some v) : gV h r ci j = some (.long v) := by
  unfold gJ at e
  split at e
  · rename_i h1
    cases e
    exact h1
  · cases e
theorem gA_spec {h : Hp} {r : Option Nat} {ci j : Nat} {v : Option Nat} (e : gA h r ci j = some v) : gV h r ci j = some (va_rf v) := by
  unfold gA at e
  split at e
  · rename_i h1
    cases e
    exact h1
  · rename_i h1
    cases e
    exact h1
  · cases e
theorem pV_spec {h h' : Hp} {r : Option Nat} {ci j : Nat} {v : Value} (e : pV h r ci j v = some h') : ∃ (a : Nat) (fs : List Value), r = some a ∧ h a = some (oO ci fs) ∧ j < fs.length ∧ h' = up h a (oO ci (fs.set j v)) := by
  unfold pV at e
  split at e
  · cases e
  · split at e
    · rename_i a _ c fs he
      split at e
      · rename_i hc
        obtain ⟨hc, hl⟩ := hc
        subst hc
        cases e
        exact ⟨a, fs, rfl, he, hl, rfl⟩
      · cases e
    · cases e
theorem rI_spec {h : Hp} {r : Option Nat} {t : Nat} {i v : Int32} (e : rI h r t i = some v) : ∃ (a n : Nat) (f : Nat → Int32), r = some a ∧ h a = some (oI t n f) ∧ vp_in i n ∧ v = f i.toNatClampNeg := by
  unfold rI at e
  split at e
  · cases e
  · split at e
    · rename_i a _ t' n f he
      split at e
      · rename_i hc
        obtain ⟨hc, hl⟩ := hc
        subst hc
        cases e
        exact ⟨a, n, f, rfl, he, hl, rfl⟩
      · cases e
    · cases e
theorem wI_spec {h h' : Hp} {r : Option Nat} {t : Nat} {i x : Int32} (e : wI h r t i x = some h') : ∃ (a n : Nat) (f : Nat → Int32), r = some a ∧ h a = some (oI t n f) ∧ vp_in i n ∧ h' = up h a (oI t n (upd f i.toNatClampNeg x)) := by
  unfold wI at e
  split at e
  · cases e
  · split at e
    · rename_i a _ t' n f he
      split at e
      · rename_i hc
        obtain ⟨hc, hl⟩ := hc
        subst hc
        cases e
        exact ⟨a, n, f, rfl, he, hl, rfl⟩
      · cases e
    · cases e
theorem rA_spec {h : Hp} {r : Option Nat} {t : Nat} {i : Int32} {v : Option Nat} (e : rA h r t i = some v) : ∃ (a n : Nat) (f : Nat → Option Nat), r = some a ∧ h a = some (oA t n f) ∧ vp_in i n ∧ v = f i.toNatClampNeg := by
  unfold rA at e
  split at e
  · cases e
  · split at e
    · rename_i a _ t' n f he
      split at e
      · rename_i hc
        obtain ⟨hc, hl⟩ := hc
        subst hc
        cases e
        exact ⟨a, n, f, rfl, he, hl, rfl⟩
      · cases e
    · cases e
theorem isO_spec {h : Hp} {r : Option Nat} {ci : Nat} (e : isO h r ci = true) : ∃ (a : Nat) (fs : List Value), r = some a ∧ h a = some (oO ci fs) := by
  unfold isO at e
  split at e
  · cases e
  · split at e
    · rename_i a _ c fs he
      have hc : c = ci := by simpa using e
      subst hc
      exact ⟨a, fs, rfl, he⟩
    · cases e
theorem wA_spec {h h' : Hp} {r : Option Nat} {t : Nat} {i : Int32} {v : Option Nat} (e : wA h r t i v = some h') : ∃ (a n : Nat) (f : Nat → Option Nat), r = some a ∧ h a = some (oA t n f) ∧ vp_in i n ∧ (v = none ∨ isO h v (t - 1) = true) ∧ h' = up h a (oA t n (va_up f i.toNatClampNeg v)) := by
  unfold wA at e
  split at e
  · cases e
  · split at e
    · rename_i a _ t' n f he
      split at e
      · rename_i hc
        obtain ⟨hc, hl, hv⟩ := hc
        subst hc
        cases e
        exact ⟨a, n, f, rfl, he, hl, hv, rfl⟩
      · cases e
    · cases e
theorem aL_spec {h : Hp} {r : Option Nat} {v : Int32} (e : aL h r = some v) : ∃ a : Nat, r = some a ∧ ((∃ (t n : Nat) (f : Nat → Int32), h a = some (oI t n f) ∧ t < 2 ∧ Int32.ofNat n = v) ∨ (∃ (t n : Nat) (f : Nat → Option Nat), h a = some (oA t n f) ∧ (t = 2 ∨ t = 3) ∧ Int32.ofNat n = v)) := by
  unfold aL at e
  split at e
  · cases e
  · rename_i a
    refine ⟨a, rfl, ?_⟩
    split at e
    · rename_i t n f he
      split at e
      · rename_i hc
        cases e
        exact Or.inl ⟨t, n, f, he, hc, rfl⟩
      · cases e
    · rename_i t n f he
      split at e
      · rename_i hc
        cases e
        exact Or.inr ⟨t, n, f, he, hc, rfl⟩
      · cases e
    · cases e
theorem ob {α β : Type} {o : Option α} {f : α → Option β} {b : β} (h : o.bind f = some b) : ∃ a, o = some a ∧ f a = some b := Option.bind_eq_some_iff.mp h
theorem ift {c : Prop} [Decidable c] {α : Type} {a b o : α} (hc : c) (h : (if c then a else b) = o) : a = o := by rw [if_pos hc] at h; exact h
theorem iff_ {c : Prop} [Decidable c] {α : Type} {a b o : α} (hc : ¬ c) (h : (if c then a else b) = o) : b = o := by rw [if_neg hc] at h; exact h
