set_option maxHeartbeats 4000000 in
set_option maxRecDepth 100000 in
theorem wX6_isLike_L23 {Γ : GG} (C : CX Γ cX6_isLike 6 RX6 0 0 0) {N : Nat} {sz : Nat} {h : Hp} {α : Type} {out : α} {K74 : Option Nat → Int32 → Int32 → Int32 → Option α} (k74 : ∀ (l0 : Option Nat) (l1 : Int32) (l2 : Int32) (l3 : Int32), K74 l0 l1 l2 l3 = some out → AW Γ 6 h sz 0 0 74 [(0, .inr l0), (1, .inl l1), (2, .inl l2), (3, .inl l3)] []) : ∀ (n : Nat) (l0 : Option Nat) (l1 : Int32) (l2 : Int32) (l3 : Int32) (l4 : Int32) (l5 : Int32), fX6_isLike_L23 N h K74 n l0 l1 l2 l3 l4 l5 = some out → AW Γ 6 h sz 0 0 23 [(0, .inr l0), (1, .inl l1), (2, .inl l2), (3, .inl l3), (4, .inl l4), (5, .inl l5)] [] := by
  intro n
  induction n with
  | zero =>
    intro l0 l1 l2 l3 l4 l5 he
    rw [fX6_isLike_L23] at he
    cases he
  | succ n ih =>
    intro l0 l1 l2 l3 l4 l5 he
    rw [fX6_isLike_L23] at he
    refine aw_iload C dX6_isLike_23 (j := 5) rfl ?_
    refine aw_bipush (v := 9) C dX6_isLike_25 (by decide) ?_
    refine aw_ic_ge (tgt := 74) C dX6_isLike_27 (by decide) (fun hc => ?_) (fun hc => ?_)
    · have he := ift hc he
      refine aw_sub [0, 1, 2, 3] (lv' := [(0, .inr l0), (1, .inl l1), (2, .inl l2), (3, .inl l3)]) rfl ?_
      exact k74 _ _ _ _ he
    · have he := iff_ hc he
      refine aw_iload_n C dX6_isLike_30 rfl (j := 2) rfl ?_
      refine aw_if_eq (tgt := 66) C dX6_isLike_31 (by decide) (fun hc => ?_) (fun hc => ?_)
      · have he := ift hc he
        refine aw_iconst (v := 0) C dX6_isLike_66 (by decide) ?_
        refine aw_istore_n C dX6_isLike_67 rfl (by decide) rfl (lv' := [(0, .inr l0), (1, .inl l1), (2, .inl (0 : Int32)), (3, .inl l3), (4, .inl l4), (5, .inl l5)]) rfl ?_
        refine aw_iinc (y := 1) C dX6_isLike_68 (by decide) (j := 5) rfl (by decide) rfl (lv' := [(0, .inr l0), (1, .inl l1), (2, .inl (0 : Int32)), (3, .inl l3), (4, .inl l4), (5, .inl (l5 + 1))]) rfl ?_
        refine aw_goto (tgt := 23) C dX6_isLike_71 (by decide) ?_
        exact ih _ _ _ _ _ _ he
      · have he := iff_ hc he
        refine aw_aload_n C dX6_isLike_34 rfl (j := 0) rfl ?_
        obtain ⟨v35, hv, he⟩ := ob he
        refine aw_gA C fk_X6_43 dX6_isLike_35 hv ?_
        refine aw_bipush (v := 9) C dX6_isLike_38 (by decide) ?_
        refine aw_iload_n C dX6_isLike_40 rfl (j := 3) rfl ?_
        refine aw_imul C dX6_isLike_41 ?_
        refine aw_iload C dX6_isLike_42 (j := 5) rfl ?_
        refine aw_iadd C dX6_isLike_44 ?_
        obtain ⟨v45, hv, he⟩ := ob he
        refine aw_iald C dX6_isLike_45 hv ?_
        refine aw_aload_n C dX6_isLike_46 rfl (j := 0) rfl ?_
        obtain ⟨v47, hv, he⟩ := ob he
        refine aw_gA C fk_X6_43 dX6_isLike_47 hv ?_
        refine aw_bipush (v := 9) C dX6_isLike_50 (by decide) ?_
        refine aw_iload C dX6_isLike_52 (j := 4) rfl ?_
        refine aw_imul C dX6_isLike_54 ?_
        refine aw_iload C dX6_isLike_55 (j := 5) rfl ?_
        refine aw_iadd C dX6_isLike_57 ?_
        obtain ⟨v58, hv, he⟩ := ob he
        refine aw_iald C dX6_isLike_58 hv ?_
        refine aw_ic_ne (tgt := 66) C dX6_isLike_59 (by decide) (fun hc => ?_) (fun hc => ?_)
        · have he := ift hc he
          refine aw_iconst (v := 1) C dX6_isLike_62 (by decide) ?_
          refine aw_goto (tgt := 67) C dX6_isLike_63 (by decide) ?_
          refine aw_istore_n C dX6_isLike_67 rfl (by decide) rfl (lv' := [(0, .inr l0), (1, .inl l1), (2, .inl (1 : Int32)), (3, .inl l3), (4, .inl l4), (5, .inl l5)]) rfl ?_
          refine aw_iinc (y := 1) C dX6_isLike_68 (by decide) (j := 5) rfl (by decide) rfl (lv' := [(0, .inr l0), (1, .inl l1), (2, .inl (1 : Int32)), (3, .inl l3), (4, .inl l4), (5, .inl (l5 + 1))]) rfl ?_
          refine aw_goto (tgt := 23) C dX6_isLike_71 (by decide) ?_
          exact ih _ _ _ _ _ _ he
        · have he := iff_ hc he
          refine aw_iconst (v := 0) C dX6_isLike_66 (by decide) ?_
          refine aw_istore_n C dX6_isLike_67 rfl (by decide) rfl (lv' := [(0, .inr l0), (1, .inl l1), (2, .inl (0 : Int32)), (3, .inl l3), (4, .inl l4), (5, .inl l5)]) rfl ?_
          refine aw_iinc (y := 1) C dX6_isLike_68 (by decide) (j := 5) rfl (by decide) rfl (lv' := [(0, .inr l0), (1, .inl l1), (2, .inl (0 : Int32)), (3, .inl l3), (4, .inl l4), (5, .inl (l5 + 1))]) rfl ?_
          refine aw_goto (tgt := 23) C dX6_isLike_71 (by decide) ?_
          exact ih _ _ _ _ _ _ he
set_option maxHeartbeats 4000000 in
set_option maxRecDepth 100000 in
theorem wX6_isLike_L4 {Γ : GG} (C : CX Γ cX6_isLike 6 RX6 0 0 0) {N : Nat} {sz : Nat} {h : Hp} {α : Type} {out : α} {K80 : Int32 → Option α} (k80 : ∀ (l2 : Int32), K80 l2 = some out → AW Γ 6 h sz 0 0 80 [(2, .inl l2)] []) : ∀ (n : Nat) (l0 : Option Nat) (l1 : Int32) (l2 : Int32) (l3 : Int32), fX6_isLike_L4 N h K80 n l0 l1 l2 l3 = some out → AW Γ 6 h sz 0 0 4 [(0, .inr l0), (1, .inl l1), (2, .inl l2), (3, .inl l3)] [] := by
  intro n
  induction n with
  | zero =>
    intro l0 l1 l2 l3 he
    rw [fX6_isLike_L4] at he
    cases he
  | succ n ih =>
    intro l0 l1 l2 l3 he
    rw [fX6_isLike_L4] at he
    refine aw_iload_n C dX6_isLike_4 rfl (j := 3) rfl ?_
    refine aw_sipush (v := 360) C dX6_isLike_5 (by decide) ?_
    refine aw_ic_ge (tgt := 80) C dX6_isLike_8 (by decide) (fun hc => ?_) (fun hc => ?_)
    · have he := ift hc he
      refine aw_sub [2] (lv' := [(2, .inl l2)]) rfl ?_
      exact k80 _ he
    · have he := iff_ hc he
      refine aw_iload_n C dX6_isLike_11 rfl (j := 3) rfl ?_
      refine aw_iload_n C dX6_isLike_12 rfl (j := 1) rfl ?_
      refine aw_iadd C dX6_isLike_13 ?_
      refine aw_sipush (v := 360) C dX6_isLike_14 (by decide) ?_
      refine aw_irem C dX6_isLike_17 (by decide) ?_
      refine aw_istore C dX6_isLike_18 (by decide) rfl (lv' := [(0, .inr l0), (1, .inl l1), (2, .inl l2), (3, .inl l3), (4, .inl (jrem (l3 + l1) (360 : Int32)))]) rfl ?_
      refine aw_iconst (v := 0) C dX6_isLike_20 (by decide) ?_
      refine aw_istore C dX6_isLike_21 (by decide) rfl (lv' := [(0, .inr l0), (1, .inl l1), (2, .inl l2), (3, .inl l3), (4, .inl (jrem (l3 + l1) (360 : Int32))), (5, .inl (0 : Int32))]) rfl ?_
      refine wX6_isLike_L23 C ?_ N _ _ _ _ _ _ he
      intro l0 l1 l2 l3 he
      refine aw_iinc (y := 1) C dX6_isLike_74 (by decide) (j := 3) rfl (by decide) rfl (lv' := [(0, .inr l0), (1, .inl l1), (2, .inl l2), (3, .inl (l3 + 1))]) rfl ?_
      refine aw_goto (tgt := 4) C dX6_isLike_77 (by decide) ?_
      exact ih _ _ _ _ he
set_option maxHeartbeats 4000000 in
set_option maxRecDepth 100000 in
theorem wX6_isLike {Γ : GG} (C : CX Γ cX6_isLike 6 RX6 0 0 0) {N : Nat} {sz : Nat} {h : Hp} {out : Int32} (X : RX Γ (some .boolean) (some (.int out)) h sz 0 0) {l0 : Option Nat} {l1 : Int32} (he : fX6_isLike N h l0 l1 = some out) : AW Γ 6 h sz 0 0 0 [(0, .inr l0), (1, .inl l1)] [] := by
  unfold fX6_isLike at he
  refine aw_iconst (v := 1) C dX6_isLike_0 (by decide) ?_
  refine aw_istore_n C dX6_isLike_1 rfl (by decide) rfl (lv' := [(0, .inr l0), (1, .inl l1), (2, .inl (1 : Int32))]) rfl ?_
  refine aw_iconst (v := 0) C dX6_isLike_2 (by decide) ?_
  refine aw_istore_n C dX6_isLike_3 rfl (by decide) rfl (lv' := [(0, .inr l0), (1, .inl l1), (2, .inl (1 : Int32)), (3, .inl (0 : Int32))]) rfl ?_
  refine wX6_isLike_L4 C ?_ N _ _ _ _ he
  intro l2 he
  refine aw_iload_n C dX6_isLike_80 rfl (j := 0) rfl ?_
  obtain ⟨hz, he⟩ := ifs he
  have he := Option.some.inj he
  subst he
  exact aw_zret C X hz dX6_isLike_81 (by decide) (by decide)
theorem cX6_isLike_ (l : Launch) (D : va_G) (dA : Nat → ClassId) (base : Nat) {N : Nat} {h : Hp} {sz : Nat} {l0 : Option Nat} {l1 : Int32} {out : Int32} (he : fX6_isLike N h l0 l1 = some out) : AM l D dA base yX6_isLike cX6_isLike 6 (some .boolean) 0 0 0 [.inr l0, .inl l1] h sz (some (.int out)) h sz :=
  AM.of (by decide +kernel) (Nat.le_of_ble_eq_true rfl) rfl (fun Γ C X hn => wX6_isLike C X he)
set_option maxHeartbeats 4000000 in
set_option maxRecDepth 100000 in
theorem wX6_like_L11 {Γ : GG} (C : CX Γ cX6_like 3 RX6 5 0 0) {N : Nat} {sz : Nat} {α : Type} {out : α} {K42 : Hp → Option Nat → Int32 → Option α} (k42 : ∀ (h : Hp) (l0 : Option Nat) (l1 : Int32), K42 h l0 l1 = some out → AW Γ 3 h sz 0 0 42 [(0, .inr l0), (1, .inl l1)] []) : ∀ (n : Nat) (h : Hp) (l0 : Option Nat) (l1 : Int32) (l2 : Int32), fX6_like_L11 N K42 n h l0 l1 l2 = some out → AW Γ 3 h sz 0 0 11 [(0, .inr l0), (1, .inl l1), (2, .inl l2)] [] := by
  intro n
  induction n with
  | zero =>
    intro h l0 l1 l2 he
    rw [fX6_like_L11] at he
    cases he
  | succ n ih =>
    intro h l0 l1 l2 he
    rw [fX6_like_L11] at he
    refine aw_iload_n C dX6_like_11 rfl (j := 2) rfl ?_
    refine aw_bipush (v := 9) C dX6_like_12 (by decide) ?_
    refine aw_ic_ge (tgt := 42) C dX6_like_14 (by decide) (fun hc => ?_) (fun hc => ?_)
    · have he := ift hc he
      refine aw_sub [0, 1] (lv' := [(0, .inr l0), (1, .inl l1)]) rfl ?_
      exact k42 _ _ _ he
    · have he := iff_ hc he
      refine aw_aload_n C dX6_like_17 rfl (j := 0) rfl ?_
      obtain ⟨v18, hv, he⟩ := ob he
      refine aw_gA C fk_X6_43 dX6_like_18 hv ?_
      refine aw_bipush (v := 9) C dX6_like_21 (by decide) ?_
      refine aw_iload_n C dX6_like_23 rfl (j := 1) rfl ?_
      refine aw_imul C dX6_like_24 ?_
      refine aw_iload_n C dX6_like_25 rfl (j := 2) rfl ?_
      refine aw_iadd C dX6_like_26 ?_
      refine aw_aload_n C dX6_like_27 rfl (j := 0) rfl ?_
      refine aw_iload_n C dX6_like_28 rfl (j := 1) rfl ?_
      refine aw_iload_n C dX6_like_29 rfl (j := 2) rfl ?_
      refine aw_iconst (v := 1) C dX6_like_30 (by decide) ?_
      refine aw_iadd C dX6_like_31 ?_
      obtain ⟨hO, he⟩ := ifs he
      obtain ⟨v32, hv, he⟩ := ob he
      refine aw_callV (ci := 6) C mb_X6_168 ⟨q_969, q_52, rfl⟩ hO (cX6_penAt_ _ _ _ _ hv) dX6_like_32 rfl (rest := [.int (((9 : Int32) * l1) + l2), va_rf v18]) rfl (cat_le _ (Nat.le_of_ble_eq_true rfl)) (Nat.le_of_ble_eq_true rfl) (Nat.le_of_ble_eq_true rfl) (Nat.le_of_ble_eq_true rfl) (st2 := [.int v32, .int (((9 : Int32) * l1) + l2), va_rf v18]) rfl ?_
      obtain ⟨h35, hv, he⟩ := ob he
      refine aw_iast C dX6_like_35 hv ?_
      refine aw_iinc (y := 1) C dX6_like_36 (by decide) (j := 2) rfl (by decide) rfl (lv' := [(0, .inr l0), (1, .inl l1), (2, .inl (l2 + 1))]) rfl ?_
      refine aw_goto (tgt := 11) C dX6_like_39 (by decide) ?_
      exact ih _ _ _ _ he
set_option maxHeartbeats 4000000 in
set_option maxRecDepth 100000 in
theorem wX6_like_L2 {Γ : GG} (C : CX Γ cX6_like 3 RX6 5 0 0) {N : Nat} {sz : Nat} {α : Type} {out : α} {K48 : Hp → Option Nat → Option α} (k48 : ∀ (h : Hp) (l0 : Option Nat), K48 h l0 = some out → AW Γ 3 h sz 0 0 48 [(0, .inr l0)] []) : ∀ (n : Nat) (h : Hp) (l0 : Option Nat) (l1 : Int32), fX6_like_L2 N K48 n h l0 l1 = some out → AW Γ 3 h sz 0 0 2 [(0, .inr l0), (1, .inl l1)] [] := by
  intro n
  induction n with
  | zero =>
    intro h l0 l1 he
    rw [fX6_like_L2] at he
    cases he
  | succ n ih =>
    intro h l0 l1 he
    rw [fX6_like_L2] at he
    refine aw_iload_n C dX6_like_2 rfl (j := 1) rfl ?_
    refine aw_sipush (v := 360) C dX6_like_3 (by decide) ?_
    refine aw_ic_ge (tgt := 48) C dX6_like_6 (by decide) (fun hc => ?_) (fun hc => ?_)
    · have he := ift hc he
      refine aw_sub [0] (lv' := [(0, .inr l0)]) rfl ?_
      exact k48 _ _ he
    · have he := iff_ hc he
      refine aw_iconst (v := 0) C dX6_like_9 (by decide) ?_
      refine aw_istore_n C dX6_like_10 rfl (by decide) rfl (lv' := [(0, .inr l0), (1, .inl l1), (2, .inl (0 : Int32))]) rfl ?_
      refine wX6_like_L11 C ?_ N _ _ _ _ he
      intro h l0 l1 he
      refine aw_iinc (y := 1) C dX6_like_42 (by decide) (j := 1) rfl (by decide) rfl (lv' := [(0, .inr l0), (1, .inl (l1 + 1))]) rfl ?_
      refine aw_goto (tgt := 2) C dX6_like_45 (by decide) ?_
      exact ih _ _ _ he
set_option maxHeartbeats 4000000 in
set_option maxRecDepth 100000 in
theorem wX6_like_L52 {Γ : GG} (C : CX Γ cX6_like 3 RX6 5 0 0) {N : Nat} {sz : Nat} {α : Type} {out : α} {K78 : Hp → Int32 → Option α} (k78 : ∀ (h : Hp) (l1 : Int32), K78 h l1 = some out → AW Γ 3 h sz 0 0 78 [(1, .inl l1)] []) : ∀ (n : Nat) (h : Hp) (l0 : Option Nat) (l1 : Int32), fX6_like_L52 N K78 n h l0 l1 = some out → AW Γ 3 h sz 0 0 52 [(0, .inr l0), (1, .inl l1)] [] := by
  intro n
  induction n with
  | zero =>
    intro h l0 l1 he
    rw [fX6_like_L52] at he
    cases he
  | succ n ih =>
    intro h l0 l1 he
    rw [fX6_like_L52] at he
    refine aw_sipush (v := 360) C dX6_like_52 (by decide) ?_
    refine aw_iload_n C dX6_like_55 rfl (j := 1) rfl ?_
    obtain ⟨hy, he⟩ := ifn he
    refine aw_irem C dX6_like_56 hy ?_
    refine aw_if_ne (tgt := 72) C dX6_like_57 (by decide) (fun hc => ?_) (fun hc => ?_)
    · have he := ift hc he
      refine aw_aload_n C dX6_like_60 rfl (j := 0) rfl ?_
      refine aw_sipush (v := 360) C dX6_like_61 (by decide) ?_
      refine aw_iload_n C dX6_like_64 rfl (j := 1) rfl ?_
      obtain ⟨hy, he⟩ := ifn he
      refine aw_idiv C dX6_like_65 hy ?_
      obtain ⟨hO, he⟩ := ifs he
      obtain ⟨v66, hv, he⟩ := ob he
      refine aw_callV (ci := 6) C mb_X6_194 ⟨q_1044, q_63, rfl⟩ hO (cX6_isLike_ _ _ _ _ hv) dX6_like_66 rfl (rest := []) rfl (cat_le _ (Nat.le_of_ble_eq_true rfl)) (Nat.le_of_ble_eq_true rfl) (Nat.le_of_ble_eq_true rfl) (Nat.le_of_ble_eq_true rfl) (st2 := [.int v66]) rfl ?_
      refine aw_if_ne (tgt := 78) C dX6_like_69 (by decide) (fun hc => ?_) (fun hc => ?_)
      · have he := ift hc he
        refine aw_iinc (y := -1) C dX6_like_72 (by decide) (j := 1) rfl (by decide) rfl (lv' := [(0, .inr l0), (1, .inl (l1 + (-1)))]) rfl ?_
        refine aw_goto (tgt := 52) C dX6_like_75 (by decide) ?_
        exact ih _ _ _ he
      · have he := iff_ hc he
        refine aw_sub [1] (lv' := [(1, .inl l1)]) rfl ?_
        exact k78 _ _ he
    · have he := iff_ hc he
      refine aw_iinc (y := -1) C dX6_like_72 (by decide) (j := 1) rfl (by decide) rfl (lv' := [(0, .inr l0), (1, .inl (l1 + (-1)))]) rfl ?_
      refine aw_goto (tgt := 52) C dX6_like_75 (by decide) ?_
      exact ih _ _ _ he
set_option maxHeartbeats 4000000 in
set_option maxRecDepth 100000 in
theorem wX6_like {Γ : GG} (C : CX Γ cX6_like 3 RX6 5 0 0) {N : Nat} {sz : Nat} {out : Int32 × Hp} (X : RX Γ (some .int) (some (.int out.1)) out.2 sz 0 0) {h : Hp} {l0 : Option Nat} (he : fX6_like N h l0 = some out) : AW Γ 3 h sz 0 0 0 [(0, .inr l0)] [] := by
  unfold fX6_like at he
  refine aw_iconst (v := 0) C dX6_like_0 (by decide) ?_
  refine aw_istore_n C dX6_like_1 rfl (by decide) rfl (lv' := [(0, .inr l0), (1, .inl (0 : Int32))]) rfl ?_
  refine wX6_like_L2 C ?_ N _ _ _ he
  intro h l0 he
  refine aw_sipush (v := 360) C dX6_like_48 (by decide) ?_
  refine aw_istore_n C dX6_like_51 rfl (by decide) rfl (lv' := [(0, .inr l0), (1, .inl (360 : Int32))]) rfl ?_
  refine wX6_like_L52 C ?_ N _ _ _ he
  intro h l1 he
  refine aw_iload_n C dX6_like_78 rfl (j := 0) rfl ?_
  have he := Option.some.inj he
  subst he
  exact aw_iret C X dX6_like_79 (by decide) (by decide)
theorem cX6_like_ (l : Launch) (D : va_G) (dA : Nat → ClassId) (base : Nat) {N : Nat} {h : Hp} {sz : Nat} {l0 : Option Nat} {out : Int32 × Hp} (he : fX6_like N h l0 = some out) : AM l D dA base yX6_like cX6_like 3 (some .int) 5 0 0 [.inr l0] h sz (some (.int out.1)) out.2 sz :=
  AM.of (by decide +kernel) (Nat.le_of_ble_eq_true rfl) rfl (fun Γ C X hn => wX6_like C X he)
set_option maxHeartbeats 4000000 in
set_option maxRecDepth 100000 in
theorem wX6_now {Γ : GG} (C : CX Γ cX6_now 2 RX6 6 0 0) {N : Nat} {sz : Nat} {out : Int32 × Hp} (X : RX Γ (some .int) (some (.int out.1)) out.2 sz 0 0) {h : Hp} {l0 : Option Nat} {l1 : Int32} (he : fX6_now N h l0 l1 = some out) : AW Γ 2 h sz 0 0 0 [(0, .inr l0), (1, .inl l1)] [] := by
  unfold fX6_now at he
  refine aw_iload_n C dX6_now_0 rfl (j := 1) rfl ?_
  refine aw_iconst (v := 0) C dX6_now_1 (by decide) ?_
  refine aw_iconst (v := 3) C dX6_now_2 (by decide) ?_
  obtain ⟨v3, hv, he⟩ := ob he
  refine aw_callS C mb_X6_62 q_874 (cX6_in_ _ _ _ _ hv) dX6_now_3 rfl (rest := []) rfl (cat_le _ (Nat.le_of_ble_eq_true rfl)) (Nat.le_of_ble_eq_true rfl) (Nat.le_of_ble_eq_true rfl) (Nat.le_of_ble_eq_true rfl) (st2 := [.int v3]) rfl ?_
  refine aw_if_ne (tgt := 11) C dX6_now_6 (by decide) (fun hc => ?_) (fun hc => ?_)
  · have he := ift hc he
    refine aw_iconst (v := -1) C dX6_now_9 (by decide) ?_
    have he := Option.some.inj he
    subst he
    exact aw_iret C X dX6_now_10 (by decide) (by decide)
  · have he := iff_ hc he
    refine aw_iload_n C dX6_now_11 rfl (j := 1) rfl ?_
    refine aw_if_ne (tgt := 22) C dX6_now_12 (by decide) (fun hc => ?_) (fun hc => ?_)
    · have he := ift hc he
      refine aw_aload_n C dX6_now_15 rfl (j := 0) rfl ?_
      obtain ⟨v16, hv, he⟩ := ob he
      refine aw_gI C fk_X6_120 dX6_now_16 hv ?_
      refine aw_goto (tgt := 50) C dX6_now_19 (by decide) ?_
      have he := Option.some.inj he
      subst he
      exact aw_iret C X dX6_now_50 (by decide) (by decide)
    · have he := iff_ hc he
      refine aw_iload_n C dX6_now_22 rfl (j := 1) rfl ?_
      refine aw_iconst (v := 1) C dX6_now_23 (by decide) ?_
      refine aw_ic_ne (tgt := 34) C dX6_now_24 (by decide) (fun hc => ?_) (fun hc => ?_)
      · have he := ift hc he
        refine aw_aload_n C dX6_now_27 rfl (j := 0) rfl ?_
        obtain ⟨v28, hv, he⟩ := ob he
        refine aw_gI C fk_X6_72 dX6_now_28 hv ?_
        refine aw_goto (tgt := 50) C dX6_now_31 (by decide) ?_
        have he := Option.some.inj he
        subst he
        exact aw_iret C X dX6_now_50 (by decide) (by decide)
      · have he := iff_ hc he
        refine aw_iload_n C dX6_now_34 rfl (j := 1) rfl ?_
        refine aw_iconst (v := 2) C dX6_now_35 (by decide) ?_
        refine aw_ic_ne (tgt := 46) C dX6_now_36 (by decide) (fun hc => ?_) (fun hc => ?_)
        · have he := ift hc he
          refine aw_aload_n C dX6_now_39 rfl (j := 0) rfl ?_
          obtain ⟨hO, he⟩ := ifs he
          obtain ⟨v40, hv, he⟩ := ob he
          refine aw_callV (ci := 6) C mb_X6_197 ⟨q_1036, q_61, rfl⟩ hO (cX6_shownMany_ _ _ _ _ hv) dX6_now_40 rfl (rest := []) rfl (cat_le _ (Nat.le_of_ble_eq_true rfl)) (Nat.le_of_ble_eq_true rfl) (Nat.le_of_ble_eq_true rfl) (Nat.le_of_ble_eq_true rfl) (st2 := [.int v40]) rfl ?_
          refine aw_goto (tgt := 50) C dX6_now_43 (by decide) ?_
          have he := Option.some.inj he
          subst he
          exact aw_iret C X dX6_now_50 (by decide) (by decide)
        · have he := iff_ hc he
          refine aw_aload_n C dX6_now_46 rfl (j := 0) rfl ?_
          obtain ⟨hO, he⟩ := ifs he
          obtain ⟨z47, hv, he⟩ := ob he
          refine aw_callV (ci := 6) C mb_X6_200 ⟨q_1040, q_62, rfl⟩ hO (cX6_like_ _ _ _ _ hv) dX6_now_47 rfl (rest := []) rfl (cat_le _ (Nat.le_of_ble_eq_true rfl)) (Nat.le_of_ble_eq_true rfl) (Nat.le_of_ble_eq_true rfl) (Nat.le_of_ble_eq_true rfl) (st2 := [.int z47.1]) rfl ?_
          have he := Option.some.inj he
          subst he
          exact aw_iret C X dX6_now_50 (by decide) (by decide)
theorem cX6_now_ (l : Launch) (D : va_G) (dA : Nat → ClassId) (base : Nat) {N : Nat} {h : Hp} {sz : Nat} {l0 : Option Nat} {l1 : Int32} {out : Int32 × Hp} (he : fX6_now N h l0 l1 = some out) : AM l D dA base yX6_now cX6_now 2 (some .int) 6 0 0 [.inr l0, .inl l1] h sz (some (.int out.1)) out.2 sz :=
  AM.of (by decide +kernel) (Nat.le_of_ble_eq_true rfl) rfl (fun Γ C X hn => wX6_now C X he)
set_option maxHeartbeats 4000000 in
set_option maxRecDepth 100000 in
theorem wX1_hasTip {Γ : GG} (C : CX Γ cX1_hasTip 3 RX1 2 0 0) {N : Nat} {sz : Nat} {h : Hp} {out : Int32} (X : RX Γ (some .boolean) (some (.int out)) h sz 0 0) {l0 : Option Nat} {l1 : Int32} {l2 : Int32} (he : fX1_hasTip N h l0 l1 l2 = some out) : AW Γ 3 h sz 0 0 0 [(0, .inr l0), (1, .inl l1), (2, .inl l2)] [] := by
  unfold fX1_hasTip at he
  refine aw_iload_n C dX1_hasTip_0 rfl (j := 2) rfl ?_
  refine aw_aload_n C dX1_hasTip_1 rfl (j := 0) rfl ?_
  obtain ⟨v2, hv, he⟩ := ob he
  refine aw_gI C fk_X1_18 dX1_hasTip_2 hv ?_
  refine aw_ic_ne (tgt := 28) C dX1_hasTip_5 (by decide) (fun hc => ?_) (fun hc => ?_)
  · have he := ift hc he
    refine aw_iload_n C dX1_hasTip_8 rfl (j := 1) rfl ?_
    refine aw_aload_n C dX1_hasTip_9 rfl (j := 0) rfl ?_
    obtain ⟨v10, hv, he⟩ := ob he
    refine aw_gI C fk_X1_55 dX1_hasTip_10 hv ?_
    refine aw_isub C dX1_hasTip_13 ?_
    refine aw_aload_n C dX1_hasTip_14 rfl (j := 0) rfl ?_
    obtain ⟨v15, hv, he⟩ := ob he
    refine aw_gI C fk_X1_48 dX1_hasTip_15 hv ?_
    obtain ⟨v18, hv, he⟩ := ob he
    refine aw_callS C mb_X1_58 q_302 (cX5_rest_ _ _ _ _ hv) dX1_hasTip_18 rfl (rest := []) rfl (cat_le _ (Nat.le_of_ble_eq_true rfl)) (Nat.le_of_ble_eq_true rfl) (Nat.le_of_ble_eq_true rfl) (Nat.le_of_ble_eq_true rfl) (st2 := [.int v18]) rfl ?_
    refine aw_if_ne (tgt := 28) C dX1_hasTip_21 (by decide) (fun hc => ?_) (fun hc => ?_)
    · have he := ift hc he
      refine aw_iconst (v := 1) C dX1_hasTip_24 (by decide) ?_
      refine aw_goto (tgt := 29) C dX1_hasTip_25 (by decide) ?_
      have he := Option.some.inj he
      subst he
      exact aw_zret C X (by decide) dX1_hasTip_29 (by decide) (by decide)
    · have he := iff_ hc he
      refine aw_iconst (v := 0) C dX1_hasTip_28 (by decide) ?_
      have he := Option.some.inj he
      subst he
      exact aw_zret C X (by decide) dX1_hasTip_29 (by decide) (by decide)
  · have he := iff_ hc he
    refine aw_iconst (v := 0) C dX1_hasTip_28 (by decide) ?_
    have he := Option.some.inj he
    subst he
    exact aw_zret C X (by decide) dX1_hasTip_29 (by decide) (by decide)
theorem cX1_hasTip_ (l : Launch) (D : va_G) (dA : Nat → ClassId) (base : Nat) {N : Nat} {h : Hp} {sz : Nat} {l0 : Option Nat} {l1 : Int32} {l2 : Int32} {out : Int32} (he : fX1_hasTip N h l0 l1 l2 = some out) : AM l D dA base yX1_hasTip cX1_hasTip 3 (some .boolean) 2 0 0 [.inr l0, .inl l1, .inl l2] h sz (some (.int out)) h sz :=
  AM.of (by decide +kernel) (Nat.le_of_ble_eq_true rfl) rfl (fun Γ C X hn => wX1_hasTip C X he)
set_option maxHeartbeats 4000000 in
set_option maxRecDepth 100000 in
theorem wX5_shown_L34 {Γ : GG} (C : CX Γ cX5_shown 5 RX5 3 0 0) {N : Nat} {sz : Nat} {h : Hp} {α : Type} {out : α} {K63 : Int32 → Option α} (k63 : ∀ (l3 : Int32), K63 l3 = some out → AW Γ 5 h sz 0 0 63 [(3, .inl l3)] []) {K71 : Option α} (k71 : K71  = some out → AW Γ 5 h sz 0 0 71 [] []) : ∀ (n : Nat) (l0 : Option Nat) (l1 : Int32) (l2 : Int32) (l3 : Int32), fX5_shown_L34 N h K63 K71 n l0 l1 l2 l3 = some out → AW Γ 5 h sz 0 0 34 [(0, .inr l0), (1, .inl l1), (2, .inl l2), (3, .inl l3)] [] := by
  intro n
  induction n with
  | zero =>
    intro l0 l1 l2 l3 he
    rw [fX5_shown_L34] at he
    cases he
  | succ n ih =>
    intro l0 l1 l2 l3 he
    rw [fX5_shown_L34] at he
    refine aw_iload_n C dX5_shown_34 rfl (j := 3) rfl ?_
    refine aw_if_lt (tgt := 71) C dX5_shown_35 (by decide) (fun hc => ?_) (fun hc => ?_)
    · have he := ift hc he
      refine aw_sub [] (lv' := []) rfl ?_
      exact k71  he
    · have he := iff_ hc he
      refine aw_aload_n C dX5_shown_38 rfl (j := 0) rfl ?_
      obtain ⟨v39, hv, he⟩ := ob he
      refine aw_gA C fk_X5_37 dX5_shown_39 hv ?_
      refine aw_iload_n C dX5_shown_42 rfl (j := 3) rfl ?_
      obtain ⟨hO, he⟩ := ifs he
      obtain ⟨v43, hv, he⟩ := ob he
      refine aw_callV (ci := 2) C mb_X5_135 ⟨q_425, q_426, rfl⟩ hO (cX2_curveAt_ _ _ _ _ hv) dX5_shown_43 rfl (rest := []) rfl (cat_le _ (Nat.le_of_ble_eq_true rfl)) (Nat.le_of_ble_eq_true rfl) (Nat.le_of_ble_eq_true rfl) (Nat.le_of_ble_eq_true rfl) (st2 := [va_rf v43]) rfl ?_
      refine aw_astore C dX5_shown_46 (by decide) rfl (lv' := [(0, .inr l0), (1, .inl l1), (2, .inl l2), (3, .inl l3), (4, .inr v43)]) rfl ?_
      refine aw_aload C dX5_shown_48 (j := 4) rfl ?_
      refine aw_ifnull (tgt := 65) C dX5_shown_50 (by decide) (fun hc => ?_) (fun hc => ?_)
      · have he := ift hc he
        refine aw_iinc (y := -1) C dX5_shown_65 (by decide) (j := 3) rfl (by decide) rfl (lv' := [(0, .inr l0), (1, .inl l1), (2, .inl l2), (3, .inl (l3 + (-1))), (4, .inr v43)]) rfl ?_
        refine aw_goto (tgt := 34) C dX5_shown_68 (by decide) ?_
        refine aw_sub [0, 1, 2, 3] (lv' := [(0, .inr l0), (1, .inl l1), (2, .inl l2), (3, .inl (l3 + (-1)))]) rfl ?_
        exact ih _ _ _ _ he
      · have he := iff_ hc he
        refine aw_aload C dX5_shown_53 (j := 4) rfl ?_
        refine aw_iload_n C dX5_shown_55 rfl (j := 1) rfl ?_
        refine aw_iload_n C dX5_shown_56 rfl (j := 2) rfl ?_
        obtain ⟨hO, he⟩ := ifs he
        obtain ⟨v57, hv, he⟩ := ob he
        refine aw_callV (ci := 1) C mb_X5_202 ⟨q_604, q_605, rfl⟩ hO (cX1_hasTip_ _ _ _ _ hv) dX5_shown_57 rfl (rest := []) rfl (cat_le _ (Nat.le_of_ble_eq_true rfl)) (Nat.le_of_ble_eq_true rfl) (Nat.le_of_ble_eq_true rfl) (Nat.le_of_ble_eq_true rfl) (st2 := [.int v57]) rfl ?_
        refine aw_if_eq (tgt := 65) C dX5_shown_60 (by decide) (fun hc => ?_) (fun hc => ?_)
        · have he := ift hc he
          refine aw_iinc (y := -1) C dX5_shown_65 (by decide) (j := 3) rfl (by decide) rfl (lv' := [(0, .inr l0), (1, .inl l1), (2, .inl l2), (3, .inl (l3 + (-1))), (4, .inr v43)]) rfl ?_
          refine aw_goto (tgt := 34) C dX5_shown_68 (by decide) ?_
          refine aw_sub [0, 1, 2, 3] (lv' := [(0, .inr l0), (1, .inl l1), (2, .inl l2), (3, .inl (l3 + (-1)))]) rfl ?_
          exact ih _ _ _ _ he
        · have he := iff_ hc he
          refine aw_sub [3] (lv' := [(3, .inl l3)]) rfl ?_
          exact k63 _ he
set_option maxHeartbeats 4000000 in
set_option maxRecDepth 100000 in
theorem wX5_shown {Γ : GG} (C : CX Γ cX5_shown 5 RX5 3 0 0) {N : Nat} {sz : Nat} {h : Hp} {out : Int32} (X : RX Γ (some .int) (some (.int out)) h sz 0 0) {l0 : Option Nat} {l1 : Int32} {l2 : Int32} (he : fX5_shown N h l0 l1 l2 = some out) : AW Γ 5 h sz 0 0 0 [(0, .inr l0), (1, .inl l1), (2, .inl l2)] [] := by
  unfold fX5_shown at he
  refine aw_iload_n C dX5_shown_0 rfl (j := 1) rfl ?_
  refine aw_iconst (v := 0) C dX5_shown_1 (by decide) ?_
  refine aw_sipush (v := 359) C dX5_shown_2 (by decide) ?_
  obtain ⟨v5, hv, he⟩ := ob he
  refine aw_callS C mb_X5_72 q_241 (cX5_within_ _ _ _ _ hv) dX5_shown_5 rfl (rest := []) rfl (cat_le _ (Nat.le_of_ble_eq_true rfl)) (Nat.le_of_ble_eq_true rfl) (Nat.le_of_ble_eq_true rfl) (Nat.le_of_ble_eq_true rfl) (st2 := [.int v5]) rfl ?_
  refine aw_if_eq (tgt := 21) C dX5_shown_8 (by decide) (fun hc => ?_) (fun hc => ?_)
  · have he := ift hc he
    refine aw_iconst (v := -1) C dX5_shown_21 (by decide) ?_
    have he := Option.some.inj he
    subst he
    exact aw_iret C X dX5_shown_22 (by decide) (by decide)
  · have he := iff_ hc he
    refine aw_iload_n C dX5_shown_11 rfl (j := 2) rfl ?_
    refine aw_iconst (v := 1) C dX5_shown_12 (by decide) ?_
    refine aw_bipush (v := 9) C dX5_shown_13 (by decide) ?_
    obtain ⟨v15, hv, he⟩ := ob he
    refine aw_callS C mb_X5_72 q_241 (cX5_within_ _ _ _ _ hv) dX5_shown_15 rfl (rest := []) rfl (cat_le _ (Nat.le_of_ble_eq_true rfl)) (Nat.le_of_ble_eq_true rfl) (Nat.le_of_ble_eq_true rfl) (Nat.le_of_ble_eq_true rfl) (st2 := [.int v15]) rfl ?_
    refine aw_if_ne (tgt := 23) C dX5_shown_18 (by decide) (fun hc => ?_) (fun hc => ?_)
    · have he := ift hc he
      refine aw_iconst (v := -1) C dX5_shown_21 (by decide) ?_
      have he := Option.some.inj he
      subst he
      exact aw_iret C X dX5_shown_22 (by decide) (by decide)
    · have he := iff_ hc he
      refine aw_aload_n C dX5_shown_23 rfl (j := 0) rfl ?_
      obtain ⟨v24, hv, he⟩ := ob he
      refine aw_gA C fk_X5_37 dX5_shown_24 hv ?_
      obtain ⟨v27, hv, he⟩ := ob he
      refine aw_gA C fk_X5_160 dX5_shown_27 hv ?_
      obtain ⟨v30, hv, he⟩ := ob he
      refine aw_alen C dX5_shown_30 hv ?_
      refine aw_iconst (v := 1) C dX5_shown_31 (by decide) ?_
      refine aw_isub C dX5_shown_32 ?_
      refine aw_istore_n C dX5_shown_33 rfl (by decide) rfl (lv' := [(0, .inr l0), (1, .inl l1), (2, .inl l2), (3, .inl (v30 - (1 : Int32)))]) rfl ?_
      refine wX5_shown_L34 C ?_ ?_ N _ _ _ _ he
      · intro l3 he
        refine aw_iload_n C dX5_shown_63 rfl (j := 0) rfl ?_
        have he := Option.some.inj he
        subst he
        exact aw_iret C X dX5_shown_64 (by decide) (by decide)
      · intro he
        refine aw_bipush (v := -9) C dX5_shown_71 (by decide) ?_
        have he := Option.some.inj he
        subst he
        exact aw_iret C X dX5_shown_73 (by decide) (by decide)
theorem cX5_shown_ (l : Launch) (D : va_G) (dA : Nat → ClassId) (base : Nat) {N : Nat} {h : Hp} {sz : Nat} {l0 : Option Nat} {l1 : Int32} {l2 : Int32} {out : Int32} (he : fX5_shown N h l0 l1 l2 = some out) : AM l D dA base yX5_shown cX5_shown 5 (some .int) 3 0 0 [.inr l0, .inl l1, .inl l2] h sz (some (.int out)) h sz :=
  AM.of (by decide +kernel) (Nat.le_of_ble_eq_true rfl) rfl (fun Γ C X hn => wX5_shown C X he)
set_option maxHeartbeats 4000000 in
set_option maxRecDepth 100000 in
theorem wX6_shown {Γ : GG} (C : CX Γ cX6_shown 3 RX6 4 0 0) {N : Nat} {sz : Nat} {h : Hp} {out : Int32} (X : RX Γ (some .int) (some (.int out)) h sz 0 0) {l0 : Option Nat} {l1 : Int32} {l2 : Int32} (he : fX6_shown N h l0 l1 l2 = some out) : AW Γ 3 h sz 0 0 0 [(0, .inr l0), (1, .inl l1), (2, .inl l2)] [] := by
  unfold fX6_shown at he
  refine aw_iload_n C dX6_shown_0 rfl (j := 1) rfl ?_
  refine aw_iconst (v := 0) C dX6_shown_1 (by decide) ?_
  refine aw_sipush (v := 359) C dX6_shown_2 (by decide) ?_
  obtain ⟨v5, hv, he⟩ := ob he
  refine aw_callS C mb_X6_62 q_874 (cX6_in_ _ _ _ _ hv) dX6_shown_5 rfl (rest := []) rfl (cat_le _ (Nat.le_of_ble_eq_true rfl)) (Nat.le_of_ble_eq_true rfl) (Nat.le_of_ble_eq_true rfl) (Nat.le_of_ble_eq_true rfl) (st2 := [.int v5]) rfl ?_
  refine aw_if_eq (tgt := 30) C dX6_shown_8 (by decide) (fun hc => ?_) (fun hc => ?_)
  · have he := ift hc he
    refine aw_iconst (v := -1) C dX6_shown_30 (by decide) ?_
    have he := Option.some.inj he
    subst he
    exact aw_iret C X dX6_shown_31 (by decide) (by decide)
  · have he := iff_ hc he
    refine aw_iload_n C dX6_shown_11 rfl (j := 2) rfl ?_
    refine aw_iconst (v := 1) C dX6_shown_12 (by decide) ?_
    refine aw_bipush (v := 9) C dX6_shown_13 (by decide) ?_
    obtain ⟨v15, hv, he⟩ := ob he
    refine aw_callS C mb_X6_62 q_874 (cX6_in_ _ _ _ _ hv) dX6_shown_15 rfl (rest := []) rfl (cat_le _ (Nat.le_of_ble_eq_true rfl)) (Nat.le_of_ble_eq_true rfl) (Nat.le_of_ble_eq_true rfl) (Nat.le_of_ble_eq_true rfl) (st2 := [.int v15]) rfl ?_
    refine aw_if_eq (tgt := 30) C dX6_shown_18 (by decide) (fun hc => ?_) (fun hc => ?_)
    · have he := ift hc he
      refine aw_iconst (v := -1) C dX6_shown_30 (by decide) ?_
      have he := Option.some.inj he
      subst he
      exact aw_iret C X dX6_shown_31 (by decide) (by decide)
    · have he := iff_ hc he
      refine aw_aload_n C dX6_shown_21 rfl (j := 0) rfl ?_
      refine aw_iload_n C dX6_shown_22 rfl (j := 1) rfl ?_
      refine aw_iload_n C dX6_shown_23 rfl (j := 2) rfl ?_
      obtain ⟨hO, he⟩ := ifs he
      obtain ⟨v24, hv, he⟩ := ob he
      refine aw_callV (ci := 6) C mb_X6_165 ⟨q_973, q_53, rfl⟩ hO (cX6_shownAt_ _ _ _ _ hv) dX6_shown_24 rfl (rest := []) rfl (cat_le _ (Nat.le_of_ble_eq_true rfl)) (Nat.le_of_ble_eq_true rfl) (Nat.le_of_ble_eq_true rfl) (Nat.le_of_ble_eq_true rfl) (st2 := [.int v24]) rfl ?_
      refine aw_goto (tgt := 31) C dX6_shown_27 (by decide) ?_
      have he := Option.some.inj he
      subst he
      exact aw_iret C X dX6_shown_31 (by decide) (by decide)
theorem cX6_shown_ (l : Launch) (D : va_G) (dA : Nat → ClassId) (base : Nat) {N : Nat} {h : Hp} {sz : Nat} {l0 : Option Nat} {l1 : Int32} {l2 : Int32} {out : Int32} (he : fX6_shown N h l0 l1 l2 = some out) : AM l D dA base yX6_shown cX6_shown 3 (some .int) 4 0 0 [.inr l0, .inl l1, .inl l2] h sz (some (.int out)) h sz :=
  AM.of (by decide +kernel) (Nat.le_of_ble_eq_true rfl) rfl (fun Γ C X hn => wX6_shown C X he)
set_option maxHeartbeats 4000000 in
set_option maxRecDepth 100000 in
theorem wX5_petals_L25 {Γ : GG} (C : CX Γ cX5_petals 4 RX5 4 0 0) {N : Nat} {sz : Nat} {h : Hp} {α : Type} {out : α} {K61 : Int32 → Option α} (k61 : ∀ (l3 : Int32), K61 l3 = some out → AW Γ 4 h sz 0 0 61 [(3, .inl l3)] []) {K69 : Option α} (k69 : K69  = some out → AW Γ 4 h sz 0 0 69 [] []) : ∀ (n : Nat) (l0 : Option Nat) (l1 : Int32) (l2 : Int32) (l3 : Int32), fX5_petals_L25 N h K61 K69 n l0 l1 l2 l3 = some out → AW Γ 4 h sz 0 0 25 [(0, .inr l0), (1, .inl l1), (2, .inl l2), (3, .inl l3)] [] := by
  intro n
  induction n with
  | zero =>
    intro l0 l1 l2 l3 he
    rw [fX5_petals_L25] at he
    cases he
  | succ n ih =>
    intro l0 l1 l2 l3 he
    rw [fX5_petals_L25] at he
    refine aw_iload_n C dX5_petals_25 rfl (j := 3) rfl ?_
    refine aw_aload_n C dX5_petals_26 rfl (j := 0) rfl ?_
    obtain ⟨v27, hv, he⟩ := ob he
    refine aw_gA C fk_X5_26 dX5_petals_27 hv ?_
    obtain ⟨v30, hv, he⟩ := ob he
    refine aw_gI C fk_X5_205 dX5_petals_30 hv ?_
    refine aw_ic_ge (tgt := 69) C dX5_petals_33 (by decide) (fun hc => ?_) (fun hc => ?_)
    · have he := ift hc he
      refine aw_sub [] (lv' := []) rfl ?_
      exact k69  he
    · have he := iff_ hc he
      refine aw_aload_n C dX5_petals_36 rfl (j := 0) rfl ?_
      obtain ⟨v37, hv, he⟩ := ob he
      refine aw_gA C fk_X5_26 dX5_petals_37 hv ?_
      refine aw_iload_n C dX5_petals_40 rfl (j := 1) rfl ?_
      refine aw_iload_n C dX5_petals_41 rfl (j := 3) rfl ?_
      obtain ⟨hO, he⟩ := ifs he
      obtain ⟨v42, hv, he⟩ := ob he
      refine aw_callV (ci := 0) C mb_X5_112 ⟨q_376, q_377, rfl⟩ hO (cX0_fits_ _ _ _ _ hv) dX5_petals_42 rfl (rest := []) rfl (cat_le _ (Nat.le_of_ble_eq_true rfl)) (Nat.le_of_ble_eq_true rfl) (Nat.le_of_ble_eq_true rfl) (Nat.le_of_ble_eq_true rfl) (st2 := [.int v42]) rfl ?_
      refine aw_if_eq (tgt := 63) C dX5_petals_45 (by decide) (fun hc => ?_) (fun hc => ?_)
      · have he := ift hc he
        refine aw_iinc (y := 1) C dX5_petals_63 (by decide) (j := 3) rfl (by decide) rfl (lv' := [(0, .inr l0), (1, .inl l1), (2, .inl l2), (3, .inl (l3 + 1))]) rfl ?_
        refine aw_goto (tgt := 25) C dX5_petals_66 (by decide) ?_
        exact ih _ _ _ _ he
      · have he := iff_ hc he
        refine aw_aload_n C dX5_petals_48 rfl (j := 0) rfl ?_
        obtain ⟨v49, hv, he⟩ := ob he
        refine aw_gA C fk_X5_26 dX5_petals_49 hv ?_
        refine aw_iload_n C dX5_petals_52 rfl (j := 1) rfl ?_
        refine aw_iload_n C dX5_petals_53 rfl (j := 3) rfl ?_
        obtain ⟨hO, he⟩ := ifs he
        obtain ⟨v54, hv, he⟩ := ob he
        refine aw_callV (ci := 0) C mb_X5_116 ⟨q_382, q_383, rfl⟩ hO (cX0_petalsOf_ _ _ _ _ hv) dX5_petals_54 rfl (rest := []) rfl (cat_le _ (Nat.le_of_ble_eq_true rfl)) (Nat.le_of_ble_eq_true rfl) (Nat.le_of_ble_eq_true rfl) (Nat.le_of_ble_eq_true rfl) (st2 := [.int v54]) rfl ?_
        refine aw_iload_n C dX5_petals_57 rfl (j := 2) rfl ?_
        refine aw_ic_ne (tgt := 63) C dX5_petals_58 (by decide) (fun hc => ?_) (fun hc => ?_)
        · have he := ift hc he
          refine aw_sub [3] (lv' := [(3, .inl l3)]) rfl ?_
          exact k61 _ he
        · have he := iff_ hc he
          refine aw_iinc (y := 1) C dX5_petals_63 (by decide) (j := 3) rfl (by decide) rfl (lv' := [(0, .inr l0), (1, .inl l1), (2, .inl l2), (3, .inl (l3 + 1))]) rfl ?_
          refine aw_goto (tgt := 25) C dX5_petals_66 (by decide) ?_
          exact ih _ _ _ _ he
set_option maxHeartbeats 4000000 in
set_option maxRecDepth 100000 in
theorem wX5_petals {Γ : GG} (C : CX Γ cX5_petals 4 RX5 4 0 0) {N : Nat} {sz : Nat} {h : Hp} {out : Int32} (X : RX Γ (some .int) (some (.int out)) h sz 0 0) {l0 : Option Nat} {l1 : Int32} {l2 : Int32} (he : fX5_petals N h l0 l1 l2 = some out) : AW Γ 4 h sz 0 0 0 [(0, .inr l0), (1, .inl l1), (2, .inl l2)] [] := by
  unfold fX5_petals at he
  refine aw_aload_n C dX5_petals_0 rfl (j := 0) rfl ?_
  obtain ⟨v1, hv, he⟩ := ob he
  refine aw_gA C fk_X5_26 dX5_petals_1 hv ?_
  refine aw_iload_n C dX5_petals_4 rfl (j := 1) rfl ?_
  obtain ⟨hO, he⟩ := ifs he
  obtain ⟨v5, hv, he⟩ := ob he
  refine aw_callV (ci := 0) C mb_X5_99 ⟨q_354, q_355, rfl⟩ hO (cX0_hasRing_ _ _ _ _ hv) dX5_petals_5 rfl (rest := []) rfl (cat_le _ (Nat.le_of_ble_eq_true rfl)) (Nat.le_of_ble_eq_true rfl) (Nat.le_of_ble_eq_true rfl) (Nat.le_of_ble_eq_true rfl) (st2 := [.int v5]) rfl ?_
  refine aw_if_eq (tgt := 21) C dX5_petals_8 (by decide) (fun hc => ?_) (fun hc => ?_)
  · have he := ift hc he
    refine aw_iconst (v := -1) C dX5_petals_21 (by decide) ?_
    have he := Option.some.inj he
    subst he
    exact aw_iret C X dX5_petals_22 (by decide) (by decide)
  · have he := iff_ hc he
    refine aw_iload_n C dX5_petals_11 rfl (j := 2) rfl ?_
    refine aw_iconst (v := 1) C dX5_petals_12 (by decide) ?_
    refine aw_bipush (v := 120) C dX5_petals_13 (by decide) ?_
    obtain ⟨v15, hv, he⟩ := ob he
    refine aw_callS C mb_X5_72 q_241 (cX5_within_ _ _ _ _ hv) dX5_petals_15 rfl (rest := []) rfl (cat_le _ (Nat.le_of_ble_eq_true rfl)) (Nat.le_of_ble_eq_true rfl) (Nat.le_of_ble_eq_true rfl) (Nat.le_of_ble_eq_true rfl) (st2 := [.int v15]) rfl ?_
    refine aw_if_ne (tgt := 23) C dX5_petals_18 (by decide) (fun hc => ?_) (fun hc => ?_)
    · have he := ift hc he
      refine aw_iconst (v := -1) C dX5_petals_21 (by decide) ?_
      have he := Option.some.inj he
      subst he
      exact aw_iret C X dX5_petals_22 (by decide) (by decide)
    · have he := iff_ hc he
      refine aw_iconst (v := 0) C dX5_petals_23 (by decide) ?_
      refine aw_istore_n C dX5_petals_24 rfl (by decide) rfl (lv' := [(0, .inr l0), (1, .inl l1), (2, .inl l2), (3, .inl (0 : Int32))]) rfl ?_
      refine wX5_petals_L25 C ?_ ?_ N _ _ _ _ he
      · intro l3 he
        refine aw_iload_n C dX5_petals_61 rfl (j := 0) rfl ?_
        have he := Option.some.inj he
        subst he
        exact aw_iret C X dX5_petals_62 (by decide) (by decide)
      · intro he
        refine aw_bipush (v := -9) C dX5_petals_69 (by decide) ?_
        have he := Option.some.inj he
        subst he
        exact aw_iret C X dX5_petals_71 (by decide) (by decide)
theorem cX5_petals_ (l : Launch) (D : va_G) (dA : Nat → ClassId) (base : Nat) {N : Nat} {h : Hp} {sz : Nat} {l0 : Option Nat} {l1 : Int32} {l2 : Int32} {out : Int32} (he : fX5_petals N h l0 l1 l2 = some out) : AM l D dA base yX5_petals cX5_petals 4 (some .int) 4 0 0 [.inr l0, .inl l1, .inl l2] h sz (some (.int out)) h sz :=
  AM.of (by decide +kernel) (Nat.le_of_ble_eq_true rfl) rfl (fun Γ C X hn => wX5_petals C X he)
set_option maxHeartbeats 4000000 in
set_option maxRecDepth 100000 in
theorem wX6_petals_L22 {Γ : GG} (C : CX Γ cX6_petals 4 RX6 3 0 0) {N : Nat} {sz : Nat} {h : Hp} {α : Type} {out : α} {K49 : Int32 → Option α} (k49 : ∀ (l3 : Int32), K49 l3 = some out → AW Γ 4 h sz 0 0 49 [(3, .inl l3)] []) {K57 : Option α} (k57 : K57  = some out → AW Γ 4 h sz 0 0 57 [] []) : ∀ (n : Nat) (l0 : Option Nat) (l1 : Int32) (l2 : Int32) (l3 : Int32), fX6_petals_L22 N h K49 K57 n l0 l1 l2 l3 = some out → AW Γ 4 h sz 0 0 22 [(0, .inr l0), (1, .inl l1), (2, .inl l2), (3, .inl l3)] [] := by
  intro n
  induction n with
  | zero =>
    intro l0 l1 l2 l3 he
    rw [fX6_petals_L22] at he
    cases he
  | succ n ih =>
    intro l0 l1 l2 l3 he
    rw [fX6_petals_L22] at he
    refine aw_iload_n C dX6_petals_22 rfl (j := 3) rfl ?_
    refine aw_aload_n C dX6_petals_23 rfl (j := 0) rfl ?_
    obtain ⟨v24, hv, he⟩ := ob he
    refine aw_gI C fk_X6_66 dX6_petals_24 hv ?_
    refine aw_ic_ge (tgt := 57) C dX6_petals_27 (by decide) (fun hc => ?_) (fun hc => ?_)
    · have he := ift hc he
      refine aw_sub [] (lv' := []) rfl ?_
      exact k57  he
    · have he := iff_ hc he
      refine aw_aload_n C dX6_petals_30 rfl (j := 0) rfl ?_
      refine aw_iload_n C dX6_petals_31 rfl (j := 1) rfl ?_
      refine aw_iload_n C dX6_petals_32 rfl (j := 3) rfl ?_
      obtain ⟨hO, he⟩ := ifs he
      obtain ⟨v33, hv, he⟩ := ob he
      refine aw_callV (ci := 6) C mb_X6_146 ⟨q_934, q_45, rfl⟩ hO (cX6_fits_ _ _ _ _ hv) dX6_petals_33 rfl (rest := []) rfl (cat_le _ (Nat.le_of_ble_eq_true rfl)) (Nat.le_of_ble_eq_true rfl) (Nat.le_of_ble_eq_true rfl) (Nat.le_of_ble_eq_true rfl) (st2 := [.int v33]) rfl ?_
      refine aw_if_eq (tgt := 51) C dX6_petals_36 (by decide) (fun hc => ?_) (fun hc => ?_)
      · have he := ift hc he
        refine aw_iinc (y := 1) C dX6_petals_51 (by decide) (j := 3) rfl (by decide) rfl (lv' := [(0, .inr l0), (1, .inl l1), (2, .inl l2), (3, .inl (l3 + 1))]) rfl ?_
        refine aw_goto (tgt := 22) C dX6_petals_54 (by decide) ?_
        exact ih _ _ _ _ he
      · have he := iff_ hc he
        refine aw_aload_n C dX6_petals_39 rfl (j := 0) rfl ?_
        refine aw_iload_n C dX6_petals_40 rfl (j := 1) rfl ?_
        refine aw_iload_n C dX6_petals_41 rfl (j := 3) rfl ?_
        obtain ⟨hO, he⟩ := ifs he
        obtain ⟨v42, hv, he⟩ := ob he
        refine aw_callV (ci := 6) C mb_X6_149 ⟨q_938, q_46, rfl⟩ hO (cX6_petalsOf_ _ _ _ _ hv) dX6_petals_42 rfl (rest := []) rfl (cat_le _ (Nat.le_of_ble_eq_true rfl)) (Nat.le_of_ble_eq_true rfl) (Nat.le_of_ble_eq_true rfl) (Nat.le_of_ble_eq_true rfl) (st2 := [.int v42]) rfl ?_
        refine aw_iload_n C dX6_petals_45 rfl (j := 2) rfl ?_
        refine aw_ic_ne (tgt := 51) C dX6_petals_46 (by decide) (fun hc => ?_) (fun hc => ?_)
        · have he := ift hc he
          refine aw_sub [3] (lv' := [(3, .inl l3)]) rfl ?_
          exact k49 _ he
        · have he := iff_ hc he
          refine aw_iinc (y := 1) C dX6_petals_51 (by decide) (j := 3) rfl (by decide) rfl (lv' := [(0, .inr l0), (1, .inl l1), (2, .inl l2), (3, .inl (l3 + 1))]) rfl ?_
          refine aw_goto (tgt := 22) C dX6_petals_54 (by decide) ?_
          exact ih _ _ _ _ he
set_option maxHeartbeats 4000000 in
set_option maxRecDepth 100000 in
theorem wX6_petals {Γ : GG} (C : CX Γ cX6_petals 4 RX6 3 0 0) {N : Nat} {sz : Nat} {h : Hp} {out : Int32} (X : RX Γ (some .int) (some (.int out)) h sz 0 0) {l0 : Option Nat} {l1 : Int32} {l2 : Int32} (he : fX6_petals N h l0 l1 l2 = some out) : AW Γ 4 h sz 0 0 0 [(0, .inr l0), (1, .inl l1), (2, .inl l2)] [] := by
  unfold fX6_petals at he
  refine aw_aload_n C dX6_petals_0 rfl (j := 0) rfl ?_
  refine aw_iload_n C dX6_petals_1 rfl (j := 1) rfl ?_
  obtain ⟨hO, he⟩ := ifs he
  obtain ⟨v2, hv, he⟩ := ob he
  refine aw_callV (ci := 6) C mb_X6_139 ⟨q_922, q_43, rfl⟩ hO (cX6_isRing_ _ _ _ _ hv) dX6_petals_2 rfl (rest := []) rfl (cat_le _ (Nat.le_of_ble_eq_true rfl)) (Nat.le_of_ble_eq_true rfl) (Nat.le_of_ble_eq_true rfl) (Nat.le_of_ble_eq_true rfl) (st2 := [.int v2]) rfl ?_
  refine aw_if_eq (tgt := 18) C dX6_petals_5 (by decide) (fun hc => ?_) (fun hc => ?_)
  · have he := ift hc he
    refine aw_iconst (v := -1) C dX6_petals_18 (by decide) ?_
    have he := Option.some.inj he
    subst he
    exact aw_iret C X dX6_petals_19 (by decide) (by decide)
  · have he := iff_ hc he
    refine aw_iload_n C dX6_petals_8 rfl (j := 2) rfl ?_
    refine aw_iconst (v := 1) C dX6_petals_9 (by decide) ?_
    refine aw_bipush (v := 120) C dX6_petals_10 (by decide) ?_
    obtain ⟨v12, hv, he⟩ := ob he
    refine aw_callS C mb_X6_62 q_874 (cX6_in_ _ _ _ _ hv) dX6_petals_12 rfl (rest := []) rfl (cat_le _ (Nat.le_of_ble_eq_true rfl)) (Nat.le_of_ble_eq_true rfl) (Nat.le_of_ble_eq_true rfl) (Nat.le_of_ble_eq_true rfl) (st2 := [.int v12]) rfl ?_
    refine aw_if_ne (tgt := 20) C dX6_petals_15 (by decide) (fun hc => ?_) (fun hc => ?_)
    · have he := ift hc he
      refine aw_iconst (v := -1) C dX6_petals_18 (by decide) ?_
      have he := Option.some.inj he
      subst he
      exact aw_iret C X dX6_petals_19 (by decide) (by decide)
    · have he := iff_ hc he
      refine aw_iconst (v := 0) C dX6_petals_20 (by decide) ?_
      refine aw_istore_n C dX6_petals_21 rfl (by decide) rfl (lv' := [(0, .inr l0), (1, .inl l1), (2, .inl l2), (3, .inl (0 : Int32))]) rfl ?_
      refine wX6_petals_L22 C ?_ ?_ N _ _ _ _ he
      · intro l3 he
        refine aw_iload_n C dX6_petals_49 rfl (j := 0) rfl ?_
        have he := Option.some.inj he
        subst he
        exact aw_iret C X dX6_petals_50 (by decide) (by decide)
      · intro he
        refine aw_bipush (v := -9) C dX6_petals_57 (by decide) ?_
        have he := Option.some.inj he
        subst he
        exact aw_iret C X dX6_petals_59 (by decide) (by decide)
theorem cX6_petals_ (l : Launch) (D : va_G) (dA : Nat → ClassId) (base : Nat) {N : Nat} {h : Hp} {sz : Nat} {l0 : Option Nat} {l1 : Int32} {l2 : Int32} {out : Int32} (he : fX6_petals N h l0 l1 l2 = some out) : AM l D dA base yX6_petals cX6_petals 4 (some .int) 3 0 0 [.inr l0, .inl l1, .inl l2] h sz (some (.int out)) h sz :=
  AM.of (by decide +kernel) (Nat.le_of_ble_eq_true rfl) rfl (fun Γ C X hn => wX6_petals C X he)
set_option maxHeartbeats 4000000 in
set_option maxRecDepth 100000 in
theorem wX5_noteBareTeeth_j86 {Γ : GG} (C : CX Γ cX5_noteBareTeeth 7 RX5 4 0 0) {N : Nat} {sz : Nat} {α : Type} {out : α} {K20 : Hp → Option Nat → Int32 → Int32 → Int32 → Int32 → Option α} (k20 : ∀ (h : Hp) (l0 : Option Nat) (l1 : Int32) (l3 : Int32) (l4 : Int32) (l5 : Int32), K20 h l0 l1 l3 l4 l5 = some out → AW Γ 7 h sz 0 0 20 [(0, .inr l0), (1, .inl l1), (3, .inl l3), (4, .inl l4), (5, .inl l5)] []) {h : Hp} {l0 : Option Nat} {l1 : Int32} {l3 : Int32} {l4 : Int32} {l5 : Int32} {s0 : Int32} {s1 : Int32} {s2 : Option Nat} (he : fX5_noteBareTeeth_j86 N K20 h l0 l1 l3 l4 l5 s0 s1 s2 = some out) : AW Γ 7 h sz 0 0 86 [(0, .inr l0), (1, .inl l1), (3, .inl l3), (4, .inl l4), (5, .inl l5)] [.int s0, .int s1, va_rf s2] := by
  unfold fX5_noteBareTeeth_j86 at he
  obtain ⟨h86, hv, he⟩ := ob he
  refine aw_iast C dX5_noteBareTeeth_86 hv ?_
  refine aw_iload C dX5_noteBareTeeth_87 (j := 3) rfl ?_
  refine aw_aload_n C dX5_noteBareTeeth_89 rfl (j := 0) rfl ?_
  obtain ⟨v90, hv, he⟩ := ob he
  refine aw_gA C fk_X5_62 dX5_noteBareTeeth_90 hv ?_
  refine aw_iload C dX5_noteBareTeeth_93 (j := 4) rfl ?_
  obtain ⟨v95, hv, he⟩ := ob he
  refine aw_iald C dX5_noteBareTeeth_95 hv ?_
  refine aw_iadd C dX5_noteBareTeeth_96 ?_
  refine aw_istore C dX5_noteBareTeeth_97 (by decide) rfl (lv' := [(0, .inr l0), (1, .inl l1), (3, .inl l3), (4, .inl (l4 + v95)), (5, .inl l5)]) rfl ?_
  refine aw_iinc (y := 1) C dX5_noteBareTeeth_99 (by decide) (j := 4) rfl (by decide) rfl (lv' := [(0, .inr l0), (1, .inl l1), (3, .inl l3), (4, .inl (l4 + v95)), (5, .inl (l5 + 1))]) rfl ?_
  refine aw_goto (tgt := 20) C dX5_noteBareTeeth_102 (by decide) ?_
  exact k20 _ _ _ _ _ _ he
set_option maxHeartbeats 4000000 in
set_option maxRecDepth 100000 in
theorem wX5_noteBareTeeth_L20 {Γ : GG} (C : CX Γ cX5_noteBareTeeth 7 RX5 4 0 0) {N : Nat} {sz : Nat} {α : Type} {out : α} {K105 : Hp → Int32 → Option α} (k105 : ∀ (h : Hp) (l4 : Int32), K105 h l4 = some out → AW Γ 7 h sz 0 0 105 [(4, .inl l4)] []) : ∀ (n : Nat) (h : Hp) (l0 : Option Nat) (l1 : Int32) (l3 : Int32) (l4 : Int32) (l5 : Int32), fX5_noteBareTeeth_L20 N K105 n h l0 l1 l3 l4 l5 = some out → AW Γ 7 h sz 0 0 20 [(0, .inr l0), (1, .inl l1), (3, .inl l3), (4, .inl l4), (5, .inl l5)] [] := by
  intro n
  induction n with
  | zero =>
    intro h l0 l1 l3 l4 l5 he
    rw [fX5_noteBareTeeth_L20] at he
    cases he
  | succ n ih =>
    intro h l0 l1 l3 l4 l5 he
    rw [fX5_noteBareTeeth_L20] at he
    refine aw_iload C dX5_noteBareTeeth_20 (j := 4) rfl ?_
    refine aw_aload_n C dX5_noteBareTeeth_22 rfl (j := 0) rfl ?_
    obtain ⟨v23, hv, he⟩ := ob he
    refine aw_gA C fk_X5_26 dX5_noteBareTeeth_23 hv ?_
    refine aw_iload_n C dX5_noteBareTeeth_26 rfl (j := 1) rfl ?_
    obtain ⟨hO, he⟩ := ifs he
    obtain ⟨v27, hv, he⟩ := ob he
    refine aw_callV (ci := 0) C mb_X5_102 ⟨q_358, q_359, rfl⟩ hO (cX0_teethOf_ _ _ _ _ hv) dX5_noteBareTeeth_27 rfl (rest := [.int l5]) rfl (cat_le _ (Nat.le_of_ble_eq_true rfl)) (Nat.le_of_ble_eq_true rfl) (Nat.le_of_ble_eq_true rfl) (Nat.le_of_ble_eq_true rfl) (st2 := [.int v27, .int l5]) rfl ?_
    refine aw_ic_ge (tgt := 105) C dX5_noteBareTeeth_30 (by decide) (fun hc => ?_) (fun hc => ?_)
    · have he := ift hc he
      refine aw_sub [3] (lv' := [(4, .inl l4)]) rfl ?_
      exact k105 _ _ he
    · have he := iff_ hc he
      refine aw_iload C dX5_noteBareTeeth_33 (j := 4) rfl ?_
      refine aw_aload_n C dX5_noteBareTeeth_35 rfl (j := 0) rfl ?_
      obtain ⟨v36, hv, he⟩ := ob he
      refine aw_gA C fk_X5_62 dX5_noteBareTeeth_36 hv ?_
      obtain ⟨v39, hv, he⟩ := ob he
      refine aw_alen C dX5_noteBareTeeth_39 hv ?_
      refine aw_ic_ge (tgt := 105) C dX5_noteBareTeeth_40 (by decide) (fun hc => ?_) (fun hc => ?_)
      · have he := ift hc he
        refine aw_sub [3] (lv' := [(4, .inl l4)]) rfl ?_
        exact k105 _ _ he
      · have he := iff_ hc he
        refine aw_iload_n C dX5_noteBareTeeth_43 rfl (j := 2) rfl ?_
        refine aw_iload C dX5_noteBareTeeth_44 (j := 4) rfl ?_
        refine aw_imul C dX5_noteBareTeeth_46 ?_
        refine aw_aload_n C dX5_noteBareTeeth_47 rfl (j := 0) rfl ?_
        obtain ⟨v48, hv, he⟩ := ob he
        refine aw_gA C fk_X5_37 dX5_noteBareTeeth_48 hv ?_
        obtain ⟨v51, hv, he⟩ := ob he
        refine aw_gI C fk_X5_164 dX5_noteBareTeeth_51 hv ?_
        refine aw_iadd C dX5_noteBareTeeth_54 ?_
        refine aw_sipush (v := 360) C dX5_noteBareTeeth_55 (by decide) ?_
        obtain ⟨v58, hv, he⟩ := ob he
        refine aw_callS C mb_X5_237 q_302 (cX5_rest_ _ _ _ _ hv) dX5_noteBareTeeth_58 rfl (rest := []) rfl (cat_le _ (Nat.le_of_ble_eq_true rfl)) (Nat.le_of_ble_eq_true rfl) (Nat.le_of_ble_eq_true rfl) (Nat.le_of_ble_eq_true rfl) (st2 := [.int v58]) rfl ?_
        refine aw_istore C dX5_noteBareTeeth_61 (by decide) rfl (lv' := [(0, .inr l0), (1, .inl l1), (3, .inl l3), (4, .inl l4), (5, .inl l5), (6, .inl v58)]) rfl ?_
        refine aw_aload_n C dX5_noteBareTeeth_63 rfl (j := 0) rfl ?_
        obtain ⟨v64, hv, he⟩ := ob he
        refine aw_gA C fk_X5_62 dX5_noteBareTeeth_64 hv ?_
        refine aw_iload C dX5_noteBareTeeth_67 (j := 4) rfl ?_
        refine aw_aload_n C dX5_noteBareTeeth_69 rfl (j := 0) rfl ?_
        obtain ⟨v70, hv, he⟩ := ob he
        refine aw_gA C fk_X5_58 dX5_noteBareTeeth_70 hv ?_
        refine aw_iload C dX5_noteBareTeeth_73 (j := 5) rfl ?_
        obtain ⟨v75, hv, he⟩ := ob he
        refine aw_iald C dX5_noteBareTeeth_75 hv ?_
        refine aw_bipush (v := -9) C dX5_noteBareTeeth_76 (by decide) ?_
        refine aw_ic_ne (tgt := 85) C dX5_noteBareTeeth_78 (by decide) (fun hc => ?_) (fun hc => ?_)
        · have he := ift hc he
          refine aw_iconst (v := 1) C dX5_noteBareTeeth_81 (by decide) ?_
          refine aw_goto (tgt := 86) C dX5_noteBareTeeth_82 (by decide) ?_
          refine aw_sub [0, 1, 2, 3, 4] (lv' := [(0, .inr l0), (1, .inl l1), (3, .inl l3), (4, .inl l4), (5, .inl l5)]) rfl ?_
          exact wX5_noteBareTeeth_j86 C ih he
        · have he := iff_ hc he
          refine aw_iconst (v := 0) C dX5_noteBareTeeth_85 (by decide) ?_
          refine aw_sub [0, 1, 2, 3, 4] (lv' := [(0, .inr l0), (1, .inl l1), (3, .inl l3), (4, .inl l4), (5, .inl l5)]) rfl ?_
          exact wX5_noteBareTeeth_j86 C ih he
set_option maxHeartbeats 4000000 in
set_option maxRecDepth 100000 in
theorem wX5_noteBareTeeth {Γ : GG} (C : CX Γ cX5_noteBareTeeth 7 RX5 4 0 0) {N : Nat} {sz : Nat} {out : Int32 × Hp} (X : RX Γ (some .int) (some (.int out.1)) out.2 sz 0 0) {h : Hp} {l0 : Option Nat} {l1 : Int32} {l2 : Int32} (he : fX5_noteBareTeeth N h l0 l1 l2 = some out) : AW Γ 7 h sz 0 0 0 [(0, .inr l0), (1, .inl l1), (2, .inl l2)] [] := by
  unfold fX5_noteBareTeeth at he
  refine aw_aload_n C dX5_noteBareTeeth_0 rfl (j := 0) rfl ?_
  refine aw_iload_n C dX5_noteBareTeeth_1 rfl (j := 2) rfl ?_
  obtain ⟨hO, he⟩ := ifs he
  obtain ⟨z2, hv, he⟩ := ob he
  refine aw_callV (ci := 5) C mb_X5_310 ⟨q_434, q_10, rfl⟩ hO (cX5_noteShown_ _ _ _ _ hv) dX5_noteBareTeeth_2 rfl (rest := []) rfl (cat_le _ (Nat.le_of_ble_eq_true rfl)) (Nat.le_of_ble_eq_true rfl) (Nat.le_of_ble_eq_true rfl) (Nat.le_of_ble_eq_true rfl) (st2 := []) rfl ?_
  refine aw_aload_n C dX5_noteBareTeeth_5 rfl (j := 0) rfl ?_
  obtain ⟨v6, hv, he⟩ := ob he
  refine aw_gA C fk_X5_26 dX5_noteBareTeeth_6 hv ?_
  refine aw_iload_n C dX5_noteBareTeeth_9 rfl (j := 1) rfl ?_
  obtain ⟨hO, he⟩ := ifs he
  obtain ⟨v10, hv, he⟩ := ob he
  refine aw_callV (ci := 0) C mb_X5_234 ⟨q_470, q_471, rfl⟩ hO (cX0_stepOf_ _ _ _ _ hv) dX5_noteBareTeeth_10 rfl (rest := []) rfl (cat_le _ (Nat.le_of_ble_eq_true rfl)) (Nat.le_of_ble_eq_true rfl) (Nat.le_of_ble_eq_true rfl) (Nat.le_of_ble_eq_true rfl) (st2 := [.int v10]) rfl ?_
  refine aw_istore_n C dX5_noteBareTeeth_13 rfl (by decide) rfl (lv' := [(0, .inr l0), (1, .inl l1), (2, .inl l2), (3, .inl v10)]) rfl ?_
  refine aw_iconst (v := 0) C dX5_noteBareTeeth_14 (by decide) ?_
  refine aw_istore C dX5_noteBareTeeth_15 (by decide) rfl (lv' := [(0, .inr l0), (1, .inl l1), (2, .inl l2), (3, .inl v10), (4, .inl (0 : Int32))]) rfl ?_
  refine aw_iconst (v := 0) C dX5_noteBareTeeth_17 (by decide) ?_
  refine aw_istore C dX5_noteBareTeeth_18 (by decide) rfl (lv' := [(0, .inr l0), (1, .inl l1), (2, .inl l2), (3, .inl v10), (4, .inl (0 : Int32)), (5, .inl (0 : Int32))]) rfl ?_
  refine aw_sub [0, 1, 3, 4, 5] (lv' := [(0, .inr l0), (1, .inl l1), (3, .inl v10), (4, .inl (0 : Int32)), (5, .inl (0 : Int32))]) rfl ?_
  refine wX5_noteBareTeeth_L20 C ?_ N _ _ _ _ _ _ he
  intro h l4 he
  refine aw_iload C dX5_noteBareTeeth_105 (j := 0) rfl ?_
  have he := Option.some.inj he
  subst he
  exact aw_iret C X dX5_noteBareTeeth_107 (by decide) (by decide)
theorem cX5_noteBareTeeth_ (l : Launch) (D : va_G) (dA : Nat → ClassId) (base : Nat) {N : Nat} {h : Hp} {sz : Nat} {l0 : Option Nat} {l1 : Int32} {l2 : Int32} {out : Int32 × Hp} (he : fX5_noteBareTeeth N h l0 l1 l2 = some out) : AM l D dA base yX5_noteBareTeeth cX5_noteBareTeeth 7 (some .int) 4 0 0 [.inr l0, .inl l1, .inl l2] h sz (some (.int out.1)) out.2 sz :=
  AM.of (by decide +kernel) (Nat.le_of_ble_eq_true rfl) rfl (fun Γ C X hn => wX5_noteBareTeeth C X he)
set_option maxHeartbeats 4000000 in
set_option maxRecDepth 100000 in
theorem wX5_isClassBare_L10 {Γ : GG} (C : CX Γ cX5_isClassBare 6 RX5 1 0 0) {N : Nat} {sz : Nat} {h : Hp} {α : Type} {out : α} {K37 : Option α} (k37 : K37  = some out → AW Γ 6 h sz 0 0 37 [] []) {K49 : Option α} (k49 : K49  = some out → AW Γ 6 h sz 0 0 49 [] []) : ∀ (n : Nat) (l0 : Option Nat) (l2 : Int32) (l4 : Int32) (l5 : Int32), fX5_isClassBare_L10 N h K37 K49 n l0 l2 l4 l5 = some out → AW Γ 6 h sz 0 0 10 [(0, .inr l0), (2, .inl l2), (4, .inl l4), (5, .inl l5)] [] := by
  intro n
  induction n with
  | zero =>
    intro l0 l2 l4 l5 he
    rw [fX5_isClassBare_L10] at he
    cases he
  | succ n ih =>
    intro l0 l2 l4 l5 he
    rw [fX5_isClassBare_L10] at he
    refine aw_iload C dX5_isClassBare_10 (j := 3) rfl ?_
    refine aw_iload_n C dX5_isClassBare_12 rfl (j := 1) rfl ?_
    refine aw_ic_ge (tgt := 49) C dX5_isClassBare_13 (by decide) (fun hc => ?_) (fun hc => ?_)
    · have he := ift hc he
      refine aw_sub [] (lv' := []) rfl ?_
      exact k49  he
    · have he := iff_ hc he
      refine aw_iload C dX5_isClassBare_16 (j := 3) rfl ?_
      refine aw_aload_n C dX5_isClassBare_18 rfl (j := 0) rfl ?_
      obtain ⟨v19, hv, he⟩ := ob he
      refine aw_gA C fk_X5_62 dX5_isClassBare_19 hv ?_
      obtain ⟨v22, hv, he⟩ := ob he
      refine aw_alen C dX5_isClassBare_22 hv ?_
      refine aw_ic_ge (tgt := 49) C dX5_isClassBare_23 (by decide) (fun hc => ?_) (fun hc => ?_)
      · have he := ift hc he
        refine aw_sub [] (lv' := []) rfl ?_
        exact k49  he
      · have he := iff_ hc he
        refine aw_aload_n C dX5_isClassBare_26 rfl (j := 0) rfl ?_
        obtain ⟨v27, hv, he⟩ := ob he
        refine aw_gA C fk_X5_62 dX5_isClassBare_27 hv ?_
        refine aw_iload C dX5_isClassBare_30 (j := 3) rfl ?_
        obtain ⟨v32, hv, he⟩ := ob he
        refine aw_iald C dX5_isClassBare_32 hv ?_
        refine aw_iconst (v := 1) C dX5_isClassBare_33 (by decide) ?_
        refine aw_ic_ne (tgt := 39) C dX5_isClassBare_34 (by decide) (fun hc => ?_) (fun hc => ?_)
        · have he := ift hc he
          refine aw_sub [] (lv' := []) rfl ?_
          exact k37  he
        · have he := iff_ hc he
          refine aw_iload C dX5_isClassBare_39 (j := 3) rfl ?_
          refine aw_iload C dX5_isClassBare_41 (j := 2) rfl ?_
          refine aw_iadd C dX5_isClassBare_43 ?_
          refine aw_istore C dX5_isClassBare_44 (by decide) rfl (lv' := [(0, .inr l0), (2, .inl l2), (4, .inl l4), (5, .inl (l5 + l4))]) rfl ?_
          refine aw_goto (tgt := 10) C dX5_isClassBare_46 (by decide) ?_
          exact ih _ _ _ _ he
set_option maxHeartbeats 4000000 in
set_option maxRecDepth 100000 in
theorem wX5_isClassBare {Γ : GG} (C : CX Γ cX5_isClassBare 6 RX5 1 0 0) {N : Nat} {sz : Nat} {h : Hp} {out : Int32} (X : RX Γ (some .boolean) (some (.int out)) h sz 0 0) {l0 : Option Nat} {l1 : Int32} {l2 : Int32} {l3 : Int32} (he : fX5_isClassBare N h l0 l1 l2 l3 = some out) : AW Γ 6 h sz 0 0 0 [(0, .inr l0), (1, .inl l1), (2, .inl l2), (3, .inl l3)] [] := by
  unfold fX5_isClassBare at he
  refine aw_iload_n C dX5_isClassBare_0 rfl (j := 3) rfl ?_
  refine aw_iconst (v := 1) C dX5_isClassBare_1 (by decide) ?_
  refine aw_mmax C q_629 q_549 q_78 q_550 (Nat.le_of_ble_eq_true rfl) (Nat.le_of_ble_eq_true rfl) (Nat.le_of_ble_eq_true rfl) (Nat.le_of_ble_eq_true rfl) dX5_isClassBare_2 ?_
  refine aw_istore C dX5_isClassBare_5 (by decide) rfl (lv' := [(0, .inr l0), (1, .inl l1), (2, .inl l2), (3, .inl l3), (4, .inl (jmax l3 (1 : Int32)))]) rfl ?_
  refine aw_iload_n C dX5_isClassBare_7 rfl (j := 1) rfl ?_
  refine aw_istore C dX5_isClassBare_8 (by decide) rfl (lv' := [(0, .inr l0), (1, .inl l1), (2, .inl l2), (3, .inl l3), (4, .inl (jmax l3 (1 : Int32))), (5, .inl l1)]) rfl ?_
  refine aw_sub [0, 2, 4, 5] (lv' := [(0, .inr l0), (2, .inl l2), (4, .inl (jmax l3 (1 : Int32))), (5, .inl l1)]) rfl ?_
  refine wX5_isClassBare_L10 C ?_ ?_ N _ _ _ _ he
  · intro he
    refine aw_iconst (v := 1) C dX5_isClassBare_37 (by decide) ?_
    have he := Option.some.inj he
    subst he
    exact aw_zret C X (by decide) dX5_isClassBare_38 (by decide) (by decide)
  · intro he
    refine aw_iconst (v := 0) C dX5_isClassBare_49 (by decide) ?_
    have he := Option.some.inj he
    subst he
    exact aw_zret C X (by decide) dX5_isClassBare_50 (by decide) (by decide)
theorem cX5_isClassBare_ (l : Launch) (D : va_G) (dA : Nat → ClassId) (base : Nat) {N : Nat} {h : Hp} {sz : Nat} {l0 : Option Nat} {l1 : Int32} {l2 : Int32} {l3 : Int32} {out : Int32} (he : fX5_isClassBare N h l0 l1 l2 l3 = some out) : AM l D dA base yX5_isClassBare cX5_isClassBare 6 (some .boolean) 1 0 0 [.inr l0, .inl l1, .inl l2, .inl l3] h sz (some (.int out)) h sz :=
  AM.of (by decide +kernel) (Nat.le_of_ble_eq_true rfl) rfl (fun Γ C X hn => wX5_isClassBare C X he)
set_option maxHeartbeats 4000000 in
set_option maxRecDepth 100000 in
theorem wX5_curvesNeeded_L5 {Γ : GG} (C : CX Γ cX5_curvesNeeded 5 RX5 2 0 0) {N : Nat} {sz : Nat} {h : Hp} {α : Type} {out : α} {K31 : Int32 → Option α} (k31 : ∀ (l3 : Int32), K31 l3 = some out → AW Γ 5 h sz 0 0 31 [(3, .inl l3)] []) : ∀ (n : Nat) (l0 : Option Nat) (l1 : Int32) (l2 : Int32) (l3 : Int32) (l4 : Int32), fX5_curvesNeeded_L5 N h K31 n l0 l1 l2 l3 l4 = some out → AW Γ 5 h sz 0 0 5 [(0, .inr l0), (1, .inl l1), (2, .inl l2), (3, .inl l3), (4, .inl l4)] [] := by
  intro n
  induction n with
  | zero =>
    intro l0 l1 l2 l3 l4 he
    rw [fX5_curvesNeeded_L5] at he
    cases he
  | succ n ih =>
    intro l0 l1 l2 l3 l4 he
    rw [fX5_curvesNeeded_L5] at he
    refine aw_iload C dX5_curvesNeeded_5 (j := 4) rfl ?_
    refine aw_iload_n C dX5_curvesNeeded_7 rfl (j := 2) rfl ?_
    refine aw_ic_ge (tgt := 31) C dX5_curvesNeeded_8 (by decide) (fun hc => ?_) (fun hc => ?_)
    · have he := ift hc he
      refine aw_sub [3] (lv' := [(3, .inl l3)]) rfl ?_
      exact k31 _ he
    · have he := iff_ hc he
      refine aw_aload_n C dX5_curvesNeeded_11 rfl (j := 0) rfl ?_
      refine aw_iload C dX5_curvesNeeded_12 (j := 4) rfl ?_
      refine aw_iload_n C dX5_curvesNeeded_14 rfl (j := 1) rfl ?_
      refine aw_iload_n C dX5_curvesNeeded_15 rfl (j := 2) rfl ?_
      obtain ⟨hO, he⟩ := ifs he
      obtain ⟨v16, hv, he⟩ := ob he
      refine aw_callV (ci := 5) C mb_X5_331 ⟨q_627, q_22, rfl⟩ hO (cX5_isClassBare_ _ _ _ _ hv) dX5_curvesNeeded_16 rfl (rest := []) rfl (cat_le _ (Nat.le_of_ble_eq_true rfl)) (Nat.le_of_ble_eq_true rfl) (Nat.le_of_ble_eq_true rfl) (Nat.le_of_ble_eq_true rfl) (st2 := [.int v16]) rfl ?_
      refine aw_if_eq (tgt := 25) C dX5_curvesNeeded_19 (by decide) (fun hc => ?_) (fun hc => ?_)
      · have he := ift hc he
        refine aw_iinc (y := 1) C dX5_curvesNeeded_25 (by decide) (j := 4) rfl (by decide) rfl (lv' := [(0, .inr l0), (1, .inl l1), (2, .inl l2), (3, .inl l3), (4, .inl (l4 + 1))]) rfl ?_
        refine aw_goto (tgt := 5) C dX5_curvesNeeded_28 (by decide) ?_
        exact ih _ _ _ _ _ he
      · have he := iff_ hc he
        refine aw_iinc (y := 1) C dX5_curvesNeeded_22 (by decide) (j := 3) rfl (by decide) rfl (lv' := [(0, .inr l0), (1, .inl l1), (2, .inl l2), (3, .inl (l3 + 1)), (4, .inl l4)]) rfl ?_
        refine aw_iinc (y := 1) C dX5_curvesNeeded_25 (by decide) (j := 4) rfl (by decide) rfl (lv' := [(0, .inr l0), (1, .inl l1), (2, .inl l2), (3, .inl (l3 + 1)), (4, .inl (l4 + 1))]) rfl ?_
        refine aw_goto (tgt := 5) C dX5_curvesNeeded_28 (by decide) ?_
        exact ih _ _ _ _ _ he
set_option maxHeartbeats 4000000 in
set_option maxRecDepth 100000 in
theorem wX5_curvesNeeded {Γ : GG} (C : CX Γ cX5_curvesNeeded 5 RX5 2 0 0) {N : Nat} {sz : Nat} {h : Hp} {out : Int32} (X : RX Γ (some .int) (some (.int out)) h sz 0 0) {l0 : Option Nat} {l1 : Int32} {l2 : Int32} (he : fX5_curvesNeeded N h l0 l1 l2 = some out) : AW Γ 5 h sz 0 0 0 [(0, .inr l0), (1, .inl l1), (2, .inl l2)] [] := by
  unfold fX5_curvesNeeded at he
  refine aw_iconst (v := 0) C dX5_curvesNeeded_0 (by decide) ?_
  refine aw_istore_n C dX5_curvesNeeded_1 rfl (by decide) rfl (lv' := [(0, .inr l0), (1, .inl l1), (2, .inl l2), (3, .inl (0 : Int32))]) rfl ?_
  refine aw_iconst (v := 0) C dX5_curvesNeeded_2 (by decide) ?_
  refine aw_istore C dX5_curvesNeeded_3 (by decide) rfl (lv' := [(0, .inr l0), (1, .inl l1), (2, .inl l2), (3, .inl (0 : Int32)), (4, .inl (0 : Int32))]) rfl ?_
  refine wX5_curvesNeeded_L5 C ?_ N _ _ _ _ _ he
  intro l3 he
  refine aw_iload_n C dX5_curvesNeeded_31 rfl (j := 0) rfl ?_
  have he := Option.some.inj he
  subst he
  exact aw_iret C X dX5_curvesNeeded_32 (by decide) (by decide)
theorem cX5_curvesNeeded_ (l : Launch) (D : va_G) (dA : Nat → ClassId) (base : Nat) {N : Nat} {h : Hp} {sz : Nat} {l0 : Option Nat} {l1 : Int32} {l2 : Int32} {out : Int32} (he : fX5_curvesNeeded N h l0 l1 l2 = some out) : AM l D dA base yX5_curvesNeeded cX5_curvesNeeded 5 (some .int) 2 0 0 [.inr l0, .inl l1, .inl l2] h sz (some (.int out)) h sz :=
  AM.of (by decide +kernel) (Nat.le_of_ble_eq_true rfl) rfl (fun Γ C X hn => wX5_curvesNeeded C X he)
set_option maxHeartbeats 4000000 in
set_option maxRecDepth 100000 in
theorem wX5_closes_L63 {Γ : GG} (C : CX Γ cX5_closes 8 RX5 5 0 0) {N : Nat} {sz : Nat} {α : Type} {out : α} {K140 : Hp → Int32 → Int32 → Int32 → Option α} (k140 : ∀ (h : Hp) (l3 : Int32) (l4 : Int32) (l5 : Int32), K140 h l3 l4 l5 = some out → AW Γ 8 h sz 0 0 140 [(3, .inl l3), (4, .inl l4), (5, .inl l5)] []) : ∀ (n : Nat) (h : Hp) (l0 : Option Nat) (l1 : Int32) (l3 : Int32) (l4 : Int32) (l5 : Int32) (l6 : Int32), fX5_closes_L63 N K140 n h l0 l1 l3 l4 l5 l6 = some out → AW Γ 8 h sz 0 0 63 [(0, .inr l0), (1, .inl l1), (3, .inl l3), (4, .inl l4), (5, .inl l5), (6, .inl l6)] [] := by
  intro n
  induction n with
  | zero =>
    intro h l0 l1 l3 l4 l5 l6 he
    rw [fX5_closes_L63] at he
    cases he
  | succ n ih =>
    intro h l0 l1 l3 l4 l5 l6 he
    rw [fX5_closes_L63] at he
    refine aw_iload C dX5_closes_63 (j := 5) rfl ?_
    refine aw_aload_n C dX5_closes_65 rfl (j := 0) rfl ?_
    obtain ⟨v66, hv, he⟩ := ob he
    refine aw_gA C fk_X5_26 dX5_closes_66 hv ?_
    obtain ⟨v69, hv, he⟩ := ob he
    refine aw_gI C fk_X5_205 dX5_closes_69 hv ?_
    refine aw_ic_ge (tgt := 140) C dX5_closes_72 (by decide) (fun hc => ?_) (fun hc => ?_)
    · have he := ift hc he
      refine aw_sub [2, 3, 4] (lv' := [(3, .inl l3), (4, .inl l4), (5, .inl l5)]) rfl ?_
      exact k140 _ _ _ _ he
    · have he := iff_ hc he
      refine aw_aload_n C dX5_closes_75 rfl (j := 0) rfl ?_
      obtain ⟨v76, hv, he⟩ := ob he
      refine aw_gA C fk_X5_26 dX5_closes_76 hv ?_
      refine aw_iload_n C dX5_closes_79 rfl (j := 1) rfl ?_
      refine aw_iload C dX5_closes_80 (j := 5) rfl ?_
      obtain ⟨hO, he⟩ := ifs he
      obtain ⟨v82, hv, he⟩ := ob he
      refine aw_callV (ci := 0) C mb_X5_112 ⟨q_376, q_377, rfl⟩ hO (cX0_fits_ _ _ _ _ hv) dX5_closes_82 rfl (rest := []) rfl (cat_le _ (Nat.le_of_ble_eq_true rfl)) (Nat.le_of_ble_eq_true rfl) (Nat.le_of_ble_eq_true rfl) (Nat.le_of_ble_eq_true rfl) (st2 := [.int v82]) rfl ?_
      refine aw_if_eq (tgt := 134) C dX5_closes_85 (by decide) (fun hc => ?_) (fun hc => ?_)
      · have he := ift hc he
        refine aw_iinc (y := 1) C dX5_closes_134 (by decide) (j := 5) rfl (by decide) rfl (lv' := [(0, .inr l0), (1, .inl l1), (3, .inl l3), (4, .inl l4), (5, .inl l5), (6, .inl (l6 + 1))]) rfl ?_
        refine aw_goto (tgt := 63) C dX5_closes_137 (by decide) ?_
        exact ih _ _ _ _ _ _ _ he
      · have he := iff_ hc he
        refine aw_aload_n C dX5_closes_88 rfl (j := 0) rfl ?_
        refine aw_aload_n C dX5_closes_89 rfl (j := 0) rfl ?_
        obtain ⟨v90, hv, he⟩ := ob he
        refine aw_gA C fk_X5_26 dX5_closes_90 hv ?_
        refine aw_iload_n C dX5_closes_93 rfl (j := 1) rfl ?_
        obtain ⟨hO, he⟩ := ifs he
        obtain ⟨v94, hv, he⟩ := ob he
        refine aw_callV (ci := 0) C mb_X5_102 ⟨q_358, q_359, rfl⟩ hO (cX0_teethOf_ _ _ _ _ hv) dX5_closes_94 rfl (rest := [va_rf l0]) rfl (cat_le _ (Nat.le_of_ble_eq_true rfl)) (Nat.le_of_ble_eq_true rfl) (Nat.le_of_ble_eq_true rfl) (Nat.le_of_ble_eq_true rfl) (st2 := [.int v94, va_rf l0]) rfl ?_
        refine aw_aload_n C dX5_closes_97 rfl (j := 0) rfl ?_
        obtain ⟨v98, hv, he⟩ := ob he
        refine aw_gA C fk_X5_26 dX5_closes_98 hv ?_
        refine aw_iload_n C dX5_closes_101 rfl (j := 1) rfl ?_
        refine aw_iload C dX5_closes_102 (j := 5) rfl ?_
        obtain ⟨hO, he⟩ := ifs he
        obtain ⟨v104, hv, he⟩ := ob he
        refine aw_callV (ci := 0) C mb_X5_211 ⟨q_386, q_387, rfl⟩ hO (cX0_divisorOf_ _ _ _ _ hv) dX5_closes_104 rfl (rest := [.int v94, va_rf l0]) rfl (cat_le _ (Nat.le_of_ble_eq_true rfl)) (Nat.le_of_ble_eq_true rfl) (Nat.le_of_ble_eq_true rfl) (Nat.le_of_ble_eq_true rfl) (st2 := [.int v104, .int v94, va_rf l0]) rfl ?_
        obtain ⟨hO, he⟩ := ifs he
        obtain ⟨v107, hv, he⟩ := ob he
        refine aw_callV (ci := 5) C mb_X5_214 ⟨q_623, q_21, rfl⟩ hO (cX5_curvesNeeded_ _ _ _ _ hv) dX5_closes_107 rfl (rest := []) rfl (cat_le _ (Nat.le_of_ble_eq_true rfl)) (Nat.le_of_ble_eq_true rfl) (Nat.le_of_ble_eq_true rfl) (Nat.le_of_ble_eq_true rfl) (st2 := [.int v107]) rfl ?_
        refine aw_istore C dX5_closes_110 (by decide) rfl (lv' := [(0, .inr l0), (1, .inl l1), (3, .inl l3), (4, .inl l4), (5, .inl l5), (6, .inl l6), (7, .inl v107)]) rfl ?_
        refine aw_iload C dX5_closes_112 (j := 4) rfl ?_
        refine aw_bipush (v := -9) C dX5_closes_114 (by decide) ?_
        refine aw_ic_eq (tgt := 126) C dX5_closes_116 (by decide) (fun hc => ?_) (fun hc => ?_)
        · have he := ift hc he
          refine aw_iload C dX5_closes_126 (j := 6) rfl ?_
          refine aw_istore C dX5_closes_128 (by decide) rfl (lv' := [(0, .inr l0), (1, .inl l1), (3, .inl l3), (4, .inl v107), (5, .inl l5), (6, .inl l6), (7, .inl v107)]) rfl ?_
          refine aw_iload C dX5_closes_130 (j := 5) rfl ?_
          refine aw_istore C dX5_closes_132 (by decide) rfl (lv' := [(0, .inr l0), (1, .inl l1), (3, .inl l3), (4, .inl v107), (5, .inl l6), (6, .inl l6), (7, .inl v107)]) rfl ?_
          refine aw_iinc (y := 1) C dX5_closes_134 (by decide) (j := 5) rfl (by decide) rfl (lv' := [(0, .inr l0), (1, .inl l1), (3, .inl l3), (4, .inl v107), (5, .inl l6), (6, .inl (l6 + 1)), (7, .inl v107)]) rfl ?_
          refine aw_goto (tgt := 63) C dX5_closes_137 (by decide) ?_
          refine aw_sub [0, 1, 2, 3, 4, 5] (lv' := [(0, .inr l0), (1, .inl l1), (3, .inl l3), (4, .inl v107), (5, .inl l6), (6, .inl (l6 + 1))]) rfl ?_
          exact ih _ _ _ _ _ _ _ he
        · have he := iff_ hc he
          refine aw_iload C dX5_closes_119 (j := 6) rfl ?_
          refine aw_iload C dX5_closes_121 (j := 3) rfl ?_
          refine aw_ic_ge (tgt := 134) C dX5_closes_123 (by decide) (fun hc => ?_) (fun hc => ?_)
          · have he := ift hc he
            refine aw_iinc (y := 1) C dX5_closes_134 (by decide) (j := 5) rfl (by decide) rfl (lv' := [(0, .inr l0), (1, .inl l1), (3, .inl l3), (4, .inl l4), (5, .inl l5), (6, .inl (l6 + 1)), (7, .inl v107)]) rfl ?_
            refine aw_goto (tgt := 63) C dX5_closes_137 (by decide) ?_
            refine aw_sub [0, 1, 2, 3, 4, 5] (lv' := [(0, .inr l0), (1, .inl l1), (3, .inl l3), (4, .inl l4), (5, .inl l5), (6, .inl (l6 + 1))]) rfl ?_
            exact ih _ _ _ _ _ _ _ he
          · have he := iff_ hc he
            refine aw_iload C dX5_closes_126 (j := 6) rfl ?_
            refine aw_istore C dX5_closes_128 (by decide) rfl (lv' := [(0, .inr l0), (1, .inl l1), (3, .inl l3), (4, .inl v107), (5, .inl l5), (6, .inl l6), (7, .inl v107)]) rfl ?_
            refine aw_iload C dX5_closes_130 (j := 5) rfl ?_
            refine aw_istore C dX5_closes_132 (by decide) rfl (lv' := [(0, .inr l0), (1, .inl l1), (3, .inl l3), (4, .inl v107), (5, .inl l6), (6, .inl l6), (7, .inl v107)]) rfl ?_
            refine aw_iinc (y := 1) C dX5_closes_134 (by decide) (j := 5) rfl (by decide) rfl (lv' := [(0, .inr l0), (1, .inl l1), (3, .inl l3), (4, .inl v107), (5, .inl l6), (6, .inl (l6 + 1)), (7, .inl v107)]) rfl ?_
            refine aw_goto (tgt := 63) C dX5_closes_137 (by decide) ?_
            refine aw_sub [0, 1, 2, 3, 4, 5] (lv' := [(0, .inr l0), (1, .inl l1), (3, .inl l3), (4, .inl v107), (5, .inl l6), (6, .inl (l6 + 1))]) rfl ?_
            exact ih _ _ _ _ _ _ _ he
set_option maxHeartbeats 4000000 in
set_option maxRecDepth 100000 in
theorem wX5_closes {Γ : GG} (C : CX Γ cX5_closes 8 RX5 5 0 0) {N : Nat} {sz : Nat} {out : Int32 × Hp} (X : RX Γ (some .int) (some (.int out.1)) out.2 sz 0 0) {h : Hp} {l0 : Option Nat} {l1 : Int32} {l2 : Int32} {l3 : Int32} (he : fX5_closes N h l0 l1 l2 l3 = some out) : AW Γ 8 h sz 0 0 0 [(0, .inr l0), (1, .inl l1), (2, .inl l2), (3, .inl l3)] [] := by
  unfold fX5_closes at he
  refine aw_aload_n C dX5_closes_0 rfl (j := 0) rfl ?_
  obtain ⟨v1, hv, he⟩ := ob he
  refine aw_gA C fk_X5_26 dX5_closes_1 hv ?_
  refine aw_iload_n C dX5_closes_4 rfl (j := 1) rfl ?_
  obtain ⟨hO, he⟩ := ifs he
  obtain ⟨v5, hv, he⟩ := ob he
  refine aw_callV (ci := 0) C mb_X5_99 ⟨q_354, q_355, rfl⟩ hO (cX0_hasRing_ _ _ _ _ hv) dX5_closes_5 rfl (rest := []) rfl (cat_le _ (Nat.le_of_ble_eq_true rfl)) (Nat.le_of_ble_eq_true rfl) (Nat.le_of_ble_eq_true rfl) (Nat.le_of_ble_eq_true rfl) (st2 := [.int v5]) rfl ?_
  refine aw_if_eq (tgt := 30) C dX5_closes_8 (by decide) (fun hc => ?_) (fun hc => ?_)
  · have he := ift hc he
    refine aw_iconst (v := -1) C dX5_closes_30 (by decide) ?_
    have he := Option.some.inj he
    subst he
    exact aw_iret C X dX5_closes_31 (by decide) (by decide)
  · have he := iff_ hc he
    refine aw_iload_n C dX5_closes_11 rfl (j := 2) rfl ?_
    refine aw_iconst (v := 1) C dX5_closes_12 (by decide) ?_
    refine aw_bipush (v := 9) C dX5_closes_13 (by decide) ?_
    obtain ⟨v15, hv, he⟩ := ob he
    refine aw_callS C mb_X5_72 q_241 (cX5_within_ _ _ _ _ hv) dX5_closes_15 rfl (rest := []) rfl (cat_le _ (Nat.le_of_ble_eq_true rfl)) (Nat.le_of_ble_eq_true rfl) (Nat.le_of_ble_eq_true rfl) (Nat.le_of_ble_eq_true rfl) (st2 := [.int v15]) rfl ?_
    refine aw_if_eq (tgt := 30) C dX5_closes_18 (by decide) (fun hc => ?_) (fun hc => ?_)
    · have he := ift hc he
      refine aw_iconst (v := -1) C dX5_closes_30 (by decide) ?_
      have he := Option.some.inj he
      subst he
      exact aw_iret C X dX5_closes_31 (by decide) (by decide)
    · have he := iff_ hc he
      refine aw_iload_n C dX5_closes_21 rfl (j := 3) rfl ?_
      refine aw_iconst (v := 0) C dX5_closes_22 (by decide) ?_
      refine aw_iconst (v := 1) C dX5_closes_23 (by decide) ?_
      obtain ⟨v24, hv, he⟩ := ob he
      refine aw_callS C mb_X5_72 q_241 (cX5_within_ _ _ _ _ hv) dX5_closes_24 rfl (rest := []) rfl (cat_le _ (Nat.le_of_ble_eq_true rfl)) (Nat.le_of_ble_eq_true rfl) (Nat.le_of_ble_eq_true rfl) (Nat.le_of_ble_eq_true rfl) (st2 := [.int v24]) rfl ?_
      refine aw_if_ne (tgt := 32) C dX5_closes_27 (by decide) (fun hc => ?_) (fun hc => ?_)
      · have he := ift hc he
        refine aw_iconst (v := -1) C dX5_closes_30 (by decide) ?_
        have he := Option.some.inj he
        subst he
        exact aw_iret C X dX5_closes_31 (by decide) (by decide)
      · have he := iff_ hc he
        refine aw_aload_n C dX5_closes_32 rfl (j := 0) rfl ?_
        refine aw_iload_n C dX5_closes_33 rfl (j := 1) rfl ?_
        refine aw_iload_n C dX5_closes_34 rfl (j := 2) rfl ?_
        obtain ⟨hO, he⟩ := ifs he
        obtain ⟨z35, hv, he⟩ := ob he
        refine aw_callV (ci := 5) C mb_X5_208 ⟨q_617, q_20, rfl⟩ hO (cX5_noteBareTeeth_ _ _ _ _ hv) dX5_closes_35 rfl (rest := []) rfl (cat_le _ (Nat.le_of_ble_eq_true rfl)) (Nat.le_of_ble_eq_true rfl) (Nat.le_of_ble_eq_true rfl) (Nat.le_of_ble_eq_true rfl) (st2 := [.int z35.1]) rfl ?_
        refine aw_if_ne (tgt := 52) C dX5_closes_38 (by decide) (fun hc => ?_) (fun hc => ?_)
        · have he := ift hc he
          refine aw_iload_n C dX5_closes_41 rfl (j := 3) rfl ?_
          refine aw_if_ne (tgt := 49) C dX5_closes_42 (by decide) (fun hc => ?_) (fun hc => ?_)
          · have he := ift hc he
            refine aw_iconst (v := 0) C dX5_closes_45 (by decide) ?_
            refine aw_goto (tgt := 51) C dX5_closes_46 (by decide) ?_
            have he := Option.some.inj he
            subst he
            exact aw_iret C X dX5_closes_51 (by decide) (by decide)
          · have he := iff_ hc he
            refine aw_bipush (v := -9) C dX5_closes_49 (by decide) ?_
            have he := Option.some.inj he
            subst he
            exact aw_iret C X dX5_closes_51 (by decide) (by decide)
        · have he := iff_ hc he
          refine aw_bipush (v := -9) C dX5_closes_52 (by decide) ?_
          refine aw_istore C dX5_closes_54 (by decide) rfl (lv' := [(0, .inr l0), (1, .inl l1), (2, .inl l2), (3, .inl l3), (4, .inl (-9 : Int32))]) rfl ?_
          refine aw_bipush (v := -9) C dX5_closes_56 (by decide) ?_
          refine aw_istore C dX5_closes_58 (by decide) rfl (lv' := [(0, .inr l0), (1, .inl l1), (2, .inl l2), (3, .inl l3), (4, .inl (-9 : Int32)), (5, .inl (-9 : Int32))]) rfl ?_
          refine aw_iconst (v := 0) C dX5_closes_60 (by decide) ?_
          refine aw_istore C dX5_closes_61 (by decide) rfl (lv' := [(0, .inr l0), (1, .inl l1), (2, .inl l2), (3, .inl l3), (4, .inl (-9 : Int32)), (5, .inl (-9 : Int32)), (6, .inl (0 : Int32))]) rfl ?_
          refine aw_sub [0, 1, 3, 4, 5, 6] (lv' := [(0, .inr l0), (1, .inl l1), (3, .inl l3), (4, .inl (-9 : Int32)), (5, .inl (-9 : Int32)), (6, .inl (0 : Int32))]) rfl ?_
          refine wX5_closes_L63 C ?_ N _ _ _ _ _ _ _ he
          intro h l3 l4 l5 he
          refine aw_iload_n C dX5_closes_140 rfl (j := 0) rfl ?_
          refine aw_if_ne (tgt := 149) C dX5_closes_141 (by decide) (fun hc => ?_) (fun hc => ?_)
          · have he := ift hc he
            refine aw_iload C dX5_closes_144 (j := 1) rfl ?_
            refine aw_goto (tgt := 151) C dX5_closes_146 (by decide) ?_
            have he := Option.some.inj he
            subst he
            exact aw_iret C X dX5_closes_151 (by decide) (by decide)
          · have he := iff_ hc he
            refine aw_iload C dX5_closes_149 (j := 2) rfl ?_
            have he := Option.some.inj he
            subst he
            exact aw_iret C X dX5_closes_151 (by decide) (by decide)
theorem cX5_closes_ (l : Launch) (D : va_G) (dA : Nat → ClassId) (base : Nat) {N : Nat} {h : Hp} {sz : Nat} {l0 : Option Nat} {l1 : Int32} {l2 : Int32} {l3 : Int32} {out : Int32 × Hp} (he : fX5_closes N h l0 l1 l2 l3 = some out) : AM l D dA base yX5_closes cX5_closes 8 (some .int) 5 0 0 [.inr l0, .inl l1, .inl l2, .inl l3] h sz (some (.int out.1)) out.2 sz :=
  AM.of (by decide +kernel) (Nat.le_of_ble_eq_true rfl) rfl (fun Γ C X hn => wX5_closes C X he)
set_option maxHeartbeats 4000000 in
set_option maxRecDepth 100000 in
theorem wX6_pointOf {Γ : GG} (C : CX Γ cX6_pointOf 4 RX6 0 0 0) {N : Nat} {sz : Nat} {h : Hp} {out : Int32} (X : RX Γ (some .int) (some (.int out)) h sz 0 0) {l0 : Option Nat} {l1 : Int32} {l2 : Int32} {l3 : Int32} (he : fX6_pointOf N h l0 l1 l2 l3 = some out) : AW Γ 4 h sz 0 0 0 [(0, .inr l0), (1, .inl l1), (2, .inl l2), (3, .inl l3)] [] := by
  unfold fX6_pointOf at he
  refine aw_sipush (v := 360) C dX6_pointOf_0 (by decide) ?_
  refine aw_aload_n C dX6_pointOf_3 rfl (j := 0) rfl ?_
  obtain ⟨v4, hv, he⟩ := ob he
  refine aw_gA C fk_X6_7 dX6_pointOf_4 hv ?_
  refine aw_iload_n C dX6_pointOf_7 rfl (j := 1) rfl ?_
  obtain ⟨v8, hv, he⟩ := ob he
  refine aw_iald C dX6_pointOf_8 hv ?_
  obtain ⟨hy, he⟩ := ifn he
  refine aw_idiv C dX6_pointOf_9 hy ?_
  refine aw_iload_n C dX6_pointOf_10 rfl (j := 3) rfl ?_
  refine aw_imul C dX6_pointOf_11 ?_
  refine aw_iload_n C dX6_pointOf_12 rfl (j := 2) rfl ?_
  refine aw_iadd C dX6_pointOf_13 ?_
  refine aw_sipush (v := 360) C dX6_pointOf_14 (by decide) ?_
  refine aw_irem C dX6_pointOf_17 (by decide) ?_
  have he := Option.some.inj he
  subst he
  exact aw_iret C X dX6_pointOf_18 (by decide) (by decide)
theorem cX6_pointOf_ (l : Launch) (D : va_G) (dA : Nat → ClassId) (base : Nat) {N : Nat} {h : Hp} {sz : Nat} {l0 : Option Nat} {l1 : Int32} {l2 : Int32} {l3 : Int32} {out : Int32} (he : fX6_pointOf N h l0 l1 l2 l3 = some out) : AM l D dA base yX6_pointOf cX6_pointOf 4 (some .int) 0 0 0 [.inr l0, .inl l1, .inl l2, .inl l3] h sz (some (.int out)) h sz :=
  AM.of (by decide +kernel) (Nat.le_of_ble_eq_true rfl) rfl (fun Γ C X hn => wX6_pointOf C X he)
set_option maxHeartbeats 4000000 in
set_option maxRecDepth 100000 in
theorem wX6_openMany_L4 {Γ : GG} (C : CX Γ cX6_openMany 4 RX6 0 0 0) {N : Nat} {sz : Nat} {h : Hp} {α : Type} {out : α} {K37 : Int32 → Option α} (k37 : ∀ (l2 : Int32), K37 l2 = some out → AW Γ 4 h sz 0 0 37 [(2, .inl l2)] []) : ∀ (n : Nat) (l0 : Option Nat) (l1 : Int32) (l2 : Int32) (l3 : Int32), fX6_openMany_L4 N h K37 n l0 l1 l2 l3 = some out → AW Γ 4 h sz 0 0 4 [(0, .inr l0), (1, .inl l1), (2, .inl l2), (3, .inl l3)] [] := by
  intro n
  induction n with
  | zero =>
    intro l0 l1 l2 l3 he
    rw [fX6_openMany_L4] at he
    cases he
  | succ n ih =>
    intro l0 l1 l2 l3 he
    rw [fX6_openMany_L4] at he
    refine aw_iload_n C dX6_openMany_4 rfl (j := 3) rfl ?_
    refine aw_aload_n C dX6_openMany_5 rfl (j := 0) rfl ?_
    obtain ⟨v6, hv, he⟩ := ob he
    refine aw_gA C fk_X6_7 dX6_openMany_6 hv ?_
    refine aw_iload_n C dX6_openMany_9 rfl (j := 1) rfl ?_
    obtain ⟨v10, hv, he⟩ := ob he
    refine aw_iald C dX6_openMany_10 hv ?_
    refine aw_ic_ge (tgt := 37) C dX6_openMany_11 (by decide) (fun hc => ?_) (fun hc => ?_)
    · have he := ift hc he
      refine aw_sub [2] (lv' := [(2, .inl l2)]) rfl ?_
      exact k37 _ he
    · have he := iff_ hc he
      refine aw_iload_n C dX6_openMany_14 rfl (j := 2) rfl ?_
      refine aw_aload_n C dX6_openMany_15 rfl (j := 0) rfl ?_
      obtain ⟨v16, hv, he⟩ := ob he
      refine aw_gA C fk_X6_46 dX6_openMany_16 hv ?_
      refine aw_iload_n C dX6_openMany_19 rfl (j := 3) rfl ?_
      obtain ⟨v20, hv, he⟩ := ob he
      refine aw_iald C dX6_openMany_20 hv ?_
      refine aw_if_ne (tgt := 28) C dX6_openMany_21 (by decide) (fun hc => ?_) (fun hc => ?_)
      · have he := ift hc he
        refine aw_iconst (v := 1) C dX6_openMany_24 (by decide) ?_
        refine aw_goto (tgt := 29) C dX6_openMany_25 (by decide) ?_
        refine aw_iadd C dX6_openMany_29 ?_
        refine aw_istore_n C dX6_openMany_30 rfl (by decide) rfl (lv' := [(0, .inr l0), (1, .inl l1), (2, .inl (l2 + (1 : Int32))), (3, .inl l3)]) rfl ?_
        refine aw_iinc (y := 1) C dX6_openMany_31 (by decide) (j := 3) rfl (by decide) rfl (lv' := [(0, .inr l0), (1, .inl l1), (2, .inl (l2 + (1 : Int32))), (3, .inl (l3 + 1))]) rfl ?_
        refine aw_goto (tgt := 4) C dX6_openMany_34 (by decide) ?_
        exact ih _ _ _ _ he
      · have he := iff_ hc he
        refine aw_iconst (v := 0) C dX6_openMany_28 (by decide) ?_
        refine aw_iadd C dX6_openMany_29 ?_
        refine aw_istore_n C dX6_openMany_30 rfl (by decide) rfl (lv' := [(0, .inr l0), (1, .inl l1), (2, .inl (l2 + (0 : Int32))), (3, .inl l3)]) rfl ?_
        refine aw_iinc (y := 1) C dX6_openMany_31 (by decide) (j := 3) rfl (by decide) rfl (lv' := [(0, .inr l0), (1, .inl l1), (2, .inl (l2 + (0 : Int32))), (3, .inl (l3 + 1))]) rfl ?_
        refine aw_goto (tgt := 4) C dX6_openMany_34 (by decide) ?_
        exact ih _ _ _ _ he
set_option maxHeartbeats 4000000 in
set_option maxRecDepth 100000 in
theorem wX6_openMany {Γ : GG} (C : CX Γ cX6_openMany 4 RX6 0 0 0) {N : Nat} {sz : Nat} {h : Hp} {out : Int32} (X : RX Γ (some .int) (some (.int out)) h sz 0 0) {l0 : Option Nat} {l1 : Int32} (he : fX6_openMany N h l0 l1 = some out) : AW Γ 4 h sz 0 0 0 [(0, .inr l0), (1, .inl l1)] [] := by
  unfold fX6_openMany at he
  refine aw_iconst (v := 0) C dX6_openMany_0 (by decide) ?_
  refine aw_istore_n C dX6_openMany_1 rfl (by decide) rfl (lv' := [(0, .inr l0), (1, .inl l1), (2, .inl (0 : Int32))]) rfl ?_
  refine aw_iconst (v := 0) C dX6_openMany_2 (by decide) ?_
  refine aw_istore_n C dX6_openMany_3 rfl (by decide) rfl (lv' := [(0, .inr l0), (1, .inl l1), (2, .inl (0 : Int32)), (3, .inl (0 : Int32))]) rfl ?_
  refine wX6_openMany_L4 C ?_ N _ _ _ _ he
  intro l2 he
  refine aw_iload_n C dX6_openMany_37 rfl (j := 0) rfl ?_
  have he := Option.some.inj he
  subst he
  exact aw_iret C X dX6_openMany_38 (by decide) (by decide)
theorem cX6_openMany_ (l : Launch) (D : va_G) (dA : Nat → ClassId) (base : Nat) {N : Nat} {h : Hp} {sz : Nat} {l0 : Option Nat} {l1 : Int32} {out : Int32} (he : fX6_openMany N h l0 l1 = some out) : AM l D dA base yX6_openMany cX6_openMany 4 (some .int) 0 0 0 [.inr l0, .inl l1] h sz (some (.int out)) h sz :=
  AM.of (by decide +kernel) (Nat.le_of_ble_eq_true rfl) rfl (fun Γ C X hn => wX6_openMany C X he)
set_option maxHeartbeats 4000000 in
set_option maxRecDepth 100000 in
theorem wX6_openRests_L18 {Γ : GG} (C : CX Γ cX6_openRests 7 RX6 0 0 0) {N : Nat} {sz : Nat} {h : Hp} {α : Type} {out : α} {K60 : Option Nat → Int32 → Int32 → Int32 → Int32 → Int32 → Option α} (k60 : ∀ (l0 : Option Nat) (l1 : Int32) (l2 : Int32) (l3 : Int32) (l4 : Int32) (l5 : Int32), K60 l0 l1 l2 l3 l4 l5 = some out → AW Γ 7 h sz 0 0 60 [(0, .inr l0), (1, .inl l1), (2, .inl l2), (3, .inl l3), (4, .inl l4), (5, .inl l5)] []) : ∀ (n : Nat) (l0 : Option Nat) (l1 : Int32) (l2 : Int32) (l3 : Int32) (l4 : Int32) (l5 : Int32) (l6 : Int32), fX6_openRests_L18 N h K60 n l0 l1 l2 l3 l4 l5 l6 = some out → AW Γ 7 h sz 0 0 18 [(0, .inr l0), (1, .inl l1), (2, .inl l2), (3, .inl l3), (4, .inl l4), (5, .inl l5), (6, .inl l6)] [] := by
  intro n
  induction n with
  | zero =>
    intro l0 l1 l2 l3 l4 l5 l6 he
    rw [fX6_openRests_L18] at he
    cases he
  | succ n ih =>
    intro l0 l1 l2 l3 l4 l5 l6 he
    rw [fX6_openRests_L18] at he
    refine aw_iload C dX6_openRests_18 (j := 6) rfl ?_
    refine aw_aload_n C dX6_openRests_20 rfl (j := 0) rfl ?_
    obtain ⟨v21, hv, he⟩ := ob he
    refine aw_gA C fk_X6_7 dX6_openRests_21 hv ?_
    refine aw_iload_n C dX6_openRests_24 rfl (j := 1) rfl ?_
    obtain ⟨v25, hv, he⟩ := ob he
    refine aw_iald C dX6_openRests_25 hv ?_
    refine aw_ic_ge (tgt := 60) C dX6_openRests_26 (by decide) (fun hc => ?_) (fun hc => ?_)
    · have he := ift hc he
      refine aw_sub [0, 1, 2, 3, 4, 5] (lv' := [(0, .inr l0), (1, .inl l1), (2, .inl l2), (3, .inl l3), (4, .inl l4), (5, .inl l5)]) rfl ?_
      exact k60 _ _ _ _ _ _ he
    · have he := iff_ hc he
      refine aw_iload C dX6_openRests_29 (j := 5) rfl ?_
      refine aw_if_ne (tgt := 44) C dX6_openRests_31 (by decide) (fun hc => ?_) (fun hc => ?_)
      · have he := ift hc he
        refine aw_aload_n C dX6_openRests_34 rfl (j := 0) rfl ?_
        obtain ⟨v35, hv, he⟩ := ob he
        refine aw_gA C fk_X6_46 dX6_openRests_35 hv ?_
        refine aw_iload C dX6_openRests_38 (j := 6) rfl ?_
        obtain ⟨v40, hv, he⟩ := ob he
        refine aw_iald C dX6_openRests_40 hv ?_
        refine aw_if_ne (tgt := 48) C dX6_openRests_41 (by decide) (fun hc => ?_) (fun hc => ?_)
        · have he := ift hc he
          refine aw_iconst (v := 1) C dX6_openRests_44 (by decide) ?_
          refine aw_goto (tgt := 49) C dX6_openRests_45 (by decide) ?_
          refine aw_istore C dX6_openRests_49 (by decide) rfl (lv' := [(0, .inr l0), (1, .inl l1), (2, .inl l2), (3, .inl l3), (4, .inl l4), (5, .inl (1 : Int32)), (6, .inl l6)]) rfl ?_
          refine aw_iload C dX6_openRests_51 (j := 6) rfl ?_
          refine aw_iload_n C dX6_openRests_53 rfl (j := 2) rfl ?_
          refine aw_iadd C dX6_openRests_54 ?_
          refine aw_istore C dX6_openRests_55 (by decide) rfl (lv' := [(0, .inr l0), (1, .inl l1), (2, .inl l2), (3, .inl l3), (4, .inl l4), (5, .inl (1 : Int32)), (6, .inl (l6 + l2))]) rfl ?_
          refine aw_goto (tgt := 18) C dX6_openRests_57 (by decide) ?_
          exact ih _ _ _ _ _ _ _ he
        · have he := iff_ hc he
          refine aw_iconst (v := 0) C dX6_openRests_48 (by decide) ?_
          refine aw_istore C dX6_openRests_49 (by decide) rfl (lv' := [(0, .inr l0), (1, .inl l1), (2, .inl l2), (3, .inl l3), (4, .inl l4), (5, .inl (0 : Int32)), (6, .inl l6)]) rfl ?_
          refine aw_iload C dX6_openRests_51 (j := 6) rfl ?_
          refine aw_iload_n C dX6_openRests_53 rfl (j := 2) rfl ?_
          refine aw_iadd C dX6_openRests_54 ?_
          refine aw_istore C dX6_openRests_55 (by decide) rfl (lv' := [(0, .inr l0), (1, .inl l1), (2, .inl l2), (3, .inl l3), (4, .inl l4), (5, .inl (0 : Int32)), (6, .inl (l6 + l2))]) rfl ?_
          refine aw_goto (tgt := 18) C dX6_openRests_57 (by decide) ?_
          exact ih _ _ _ _ _ _ _ he
      · have he := iff_ hc he
        refine aw_iconst (v := 1) C dX6_openRests_44 (by decide) ?_
        refine aw_goto (tgt := 49) C dX6_openRests_45 (by decide) ?_
        refine aw_istore C dX6_openRests_49 (by decide) rfl (lv' := [(0, .inr l0), (1, .inl l1), (2, .inl l2), (3, .inl l3), (4, .inl l4), (5, .inl (1 : Int32)), (6, .inl l6)]) rfl ?_
        refine aw_iload C dX6_openRests_51 (j := 6) rfl ?_
        refine aw_iload_n C dX6_openRests_53 rfl (j := 2) rfl ?_
        refine aw_iadd C dX6_openRests_54 ?_
        refine aw_istore C dX6_openRests_55 (by decide) rfl (lv' := [(0, .inr l0), (1, .inl l1), (2, .inl l2), (3, .inl l3), (4, .inl l4), (5, .inl (1 : Int32)), (6, .inl (l6 + l2))]) rfl ?_
        refine aw_goto (tgt := 18) C dX6_openRests_57 (by decide) ?_
        exact ih _ _ _ _ _ _ _ he
set_option maxHeartbeats 4000000 in
set_option maxRecDepth 100000 in
theorem wX6_openRests_L5 {Γ : GG} (C : CX Γ cX6_openRests 7 RX6 0 0 0) {N : Nat} {sz : Nat} {h : Hp} {α : Type} {out : α} {K79 : Int32 → Option α} (k79 : ∀ (l3 : Int32), K79 l3 = some out → AW Γ 7 h sz 0 0 79 [(3, .inl l3)] []) : ∀ (n : Nat) (l0 : Option Nat) (l1 : Int32) (l2 : Int32) (l3 : Int32) (l4 : Int32), fX6_openRests_L5 N h K79 n l0 l1 l2 l3 l4 = some out → AW Γ 7 h sz 0 0 5 [(0, .inr l0), (1, .inl l1), (2, .inl l2), (3, .inl l3), (4, .inl l4)] [] := by
  intro n
  induction n with
  | zero =>
    intro l0 l1 l2 l3 l4 he
    rw [fX6_openRests_L5] at he
    cases he
  | succ n ih =>
    intro l0 l1 l2 l3 l4 he
    rw [fX6_openRests_L5] at he
    refine aw_iload C dX6_openRests_5 (j := 4) rfl ?_
    refine aw_iload_n C dX6_openRests_7 rfl (j := 2) rfl ?_
    refine aw_ic_ge (tgt := 79) C dX6_openRests_8 (by decide) (fun hc => ?_) (fun hc => ?_)
    · have he := ift hc he
      refine aw_sub [3] (lv' := [(3, .inl l3)]) rfl ?_
      exact k79 _ he
    · have he := iff_ hc he
      refine aw_iconst (v := 0) C dX6_openRests_11 (by decide) ?_
      refine aw_istore C dX6_openRests_12 (by decide) rfl (lv' := [(0, .inr l0), (1, .inl l1), (2, .inl l2), (3, .inl l3), (4, .inl l4), (5, .inl (0 : Int32))]) rfl ?_
      refine aw_iload C dX6_openRests_14 (j := 4) rfl ?_
      refine aw_istore C dX6_openRests_16 (by decide) rfl (lv' := [(0, .inr l0), (1, .inl l1), (2, .inl l2), (3, .inl l3), (4, .inl l4), (5, .inl (0 : Int32)), (6, .inl l4)]) rfl ?_
      refine wX6_openRests_L18 C ?_ N _ _ _ _ _ _ _ he
      intro l0 l1 l2 l3 l4 l5 he
      refine aw_iload_n C dX6_openRests_60 rfl (j := 3) rfl ?_
      refine aw_iload C dX6_openRests_61 (j := 5) rfl ?_
      refine aw_if_eq (tgt := 70) C dX6_openRests_63 (by decide) (fun hc => ?_) (fun hc => ?_)
      · have he := ift hc he
        refine aw_iconst (v := 0) C dX6_openRests_70 (by decide) ?_
        refine aw_iadd C dX6_openRests_71 ?_
        refine aw_istore_n C dX6_openRests_72 rfl (by decide) rfl (lv' := [(0, .inr l0), (1, .inl l1), (2, .inl l2), (3, .inl (l3 + (0 : Int32))), (4, .inl l4), (5, .inl l5)]) rfl ?_
        refine aw_iinc (y := 1) C dX6_openRests_73 (by decide) (j := 4) rfl (by decide) rfl (lv' := [(0, .inr l0), (1, .inl l1), (2, .inl l2), (3, .inl (l3 + (0 : Int32))), (4, .inl (l4 + 1)), (5, .inl l5)]) rfl ?_
        refine aw_goto (tgt := 5) C dX6_openRests_76 (by decide) ?_
        refine aw_sub [0, 1, 2, 3, 4] (lv' := [(0, .inr l0), (1, .inl l1), (2, .inl l2), (3, .inl (l3 + (0 : Int32))), (4, .inl (l4 + 1))]) rfl ?_
        exact ih _ _ _ _ _ he
      · have he := iff_ hc he
        refine aw_iconst (v := 1) C dX6_openRests_66 (by decide) ?_
        refine aw_goto (tgt := 71) C dX6_openRests_67 (by decide) ?_
        refine aw_iadd C dX6_openRests_71 ?_
        refine aw_istore_n C dX6_openRests_72 rfl (by decide) rfl (lv' := [(0, .inr l0), (1, .inl l1), (2, .inl l2), (3, .inl (l3 + (1 : Int32))), (4, .inl l4), (5, .inl l5)]) rfl ?_
        refine aw_iinc (y := 1) C dX6_openRests_73 (by decide) (j := 4) rfl (by decide) rfl (lv' := [(0, .inr l0), (1, .inl l1), (2, .inl l2), (3, .inl (l3 + (1 : Int32))), (4, .inl (l4 + 1)), (5, .inl l5)]) rfl ?_
        refine aw_goto (tgt := 5) C dX6_openRests_76 (by decide) ?_
        refine aw_sub [0, 1, 2, 3, 4] (lv' := [(0, .inr l0), (1, .inl l1), (2, .inl l2), (3, .inl (l3 + (1 : Int32))), (4, .inl (l4 + 1))]) rfl ?_
        exact ih _ _ _ _ _ he
set_option maxHeartbeats 4000000 in
set_option maxRecDepth 100000 in
theorem wX6_openRests {Γ : GG} (C : CX Γ cX6_openRests 7 RX6 0 0 0) {N : Nat} {sz : Nat} {h : Hp} {out : Int32} (X : RX Γ (some .int) (some (.int out)) h sz 0 0) {l0 : Option Nat} {l1 : Int32} {l2 : Int32} (he : fX6_openRests N h l0 l1 l2 = some out) : AW Γ 7 h sz 0 0 0 [(0, .inr l0), (1, .inl l1), (2, .inl l2)] [] := by
  unfold fX6_openRests at he
  refine aw_iconst (v := 0) C dX6_openRests_0 (by decide) ?_
  refine aw_istore_n C dX6_openRests_1 rfl (by decide) rfl (lv' := [(0, .inr l0), (1, .inl l1), (2, .inl l2), (3, .inl (0 : Int32))]) rfl ?_
  refine aw_iconst (v := 0) C dX6_openRests_2 (by decide) ?_
  refine aw_istore C dX6_openRests_3 (by decide) rfl (lv' := [(0, .inr l0), (1, .inl l1), (2, .inl l2), (3, .inl (0 : Int32)), (4, .inl (0 : Int32))]) rfl ?_
  refine wX6_openRests_L5 C ?_ N _ _ _ _ _ he
  intro l3 he
  refine aw_iload_n C dX6_openRests_79 rfl (j := 0) rfl ?_
  have he := Option.some.inj he
  subst he
  exact aw_iret C X dX6_openRests_80 (by decide) (by decide)
theorem cX6_openRests_ (l : Launch) (D : va_G) (dA : Nat → ClassId) (base : Nat) {N : Nat} {h : Hp} {sz : Nat} {l0 : Option Nat} {l1 : Int32} {l2 : Int32} {out : Int32} (he : fX6_openRests N h l0 l1 l2 = some out) : AM l D dA base yX6_openRests cX6_openRests 7 (some .int) 0 0 0 [.inr l0, .inl l1, .inl l2] h sz (some (.int out)) h sz :=
  AM.of (by decide +kernel) (Nat.le_of_ble_eq_true rfl) rfl (fun Γ C X hn => wX6_openRests C X he)
set_option maxHeartbeats 4000000 in
set_option maxRecDepth 100000 in
theorem wX6_closes_L32 {Γ : GG} (C : CX Γ cX6_closes 8 RX6 4 0 0) {N : Nat} {sz : Nat} {α : Type} {out : α} {K82 : Hp → Option Nat → Int32 → Int32 → Option α} (k82 : ∀ (h : Hp) (l0 : Option Nat) (l1 : Int32) (l3 : Int32), K82 h l0 l1 l3 = some out → AW Γ 8 h sz 0 0 82 [(0, .inr l0), (1, .inl l1), (3, .inl l3)] []) : ∀ (n : Nat) (h : Hp) (l0 : Option Nat) (l1 : Int32) (l2 : Int32) (l3 : Int32) (l4 : Int32), fX6_closes_L32 N K82 n h l0 l1 l2 l3 l4 = some out → AW Γ 8 h sz 0 0 32 [(0, .inr l0), (1, .inl l1), (2, .inl l2), (3, .inl l3), (4, .inl l4)] [] := by
  intro n
  induction n with
  | zero =>
    intro h l0 l1 l2 l3 l4 he
    rw [fX6_closes_L32] at he
    cases he
  | succ n ih =>
    intro h l0 l1 l2 l3 l4 he
    rw [fX6_closes_L32] at he
    refine aw_iload C dX6_closes_32 (j := 4) rfl ?_
    refine aw_aload_n C dX6_closes_34 rfl (j := 0) rfl ?_
    obtain ⟨v35, hv, he⟩ := ob he
    refine aw_gA C fk_X6_7 dX6_closes_35 hv ?_
    refine aw_iload_n C dX6_closes_38 rfl (j := 1) rfl ?_
    obtain ⟨v39, hv, he⟩ := ob he
    refine aw_iald C dX6_closes_39 hv ?_
    refine aw_ic_ge (tgt := 82) C dX6_closes_40 (by decide) (fun hc => ?_) (fun hc => ?_)
    · have he := ift hc he
      refine aw_sub [0, 1, 3] (lv' := [(0, .inr l0), (1, .inl l1), (3, .inl l3)]) rfl ?_
      exact k82 _ _ _ _ he
    · have he := iff_ hc he
      refine aw_aload_n C dX6_closes_43 rfl (j := 0) rfl ?_
      obtain ⟨v44, hv, he⟩ := ob he
      refine aw_gA C fk_X6_46 dX6_closes_44 hv ?_
      refine aw_iload C dX6_closes_47 (j := 4) rfl ?_
      refine aw_aload_n C dX6_closes_49 rfl (j := 0) rfl ?_
      refine aw_aload_n C dX6_closes_50 rfl (j := 0) rfl ?_
      refine aw_iload_n C dX6_closes_51 rfl (j := 1) rfl ?_
      refine aw_aload_n C dX6_closes_52 rfl (j := 0) rfl ?_
      obtain ⟨v53, hv, he⟩ := ob he
      refine aw_gI C fk_X6_120 dX6_closes_53 hv ?_
      refine aw_iload C dX6_closes_56 (j := 4) rfl ?_
      obtain ⟨hO, he⟩ := ifs he
      obtain ⟨v58, hv, he⟩ := ob he
      refine aw_callV (ci := 6) C mb_X6_203 ⟨q_1060, q_64, rfl⟩ hO (cX6_pointOf_ _ _ _ _ hv) dX6_closes_58 rfl (rest := [va_rf l0, .int l4, va_rf v44]) rfl (cat_le _ (Nat.le_of_ble_eq_true rfl)) (Nat.le_of_ble_eq_true rfl) (Nat.le_of_ble_eq_true rfl) (Nat.le_of_ble_eq_true rfl) (st2 := [.int v58, va_rf l0, .int l4, va_rf v44]) rfl ?_
      refine aw_iload_n C dX6_closes_61 rfl (j := 2) rfl ?_
      obtain ⟨hO, he⟩ := ifs he
      obtain ⟨v62, hv, he⟩ := ob he
      refine aw_callV (ci := 6) C mb_X6_165 ⟨q_973, q_53, rfl⟩ hO (cX6_shownAt_ _ _ _ _ hv) dX6_closes_62 rfl (rest := [.int l4, va_rf v44]) rfl (cat_le _ (Nat.le_of_ble_eq_true rfl)) (Nat.le_of_ble_eq_true rfl) (Nat.le_of_ble_eq_true rfl) (Nat.le_of_ble_eq_true rfl) (st2 := [.int v62, .int l4, va_rf v44]) rfl ?_
      refine aw_bipush (v := -9) C dX6_closes_65 (by decide) ?_
      refine aw_ic_ne (tgt := 74) C dX6_closes_67 (by decide) (fun hc => ?_) (fun hc => ?_)
      · have he := ift hc he
        refine aw_iconst (v := 0) C dX6_closes_70 (by decide) ?_
        refine aw_goto (tgt := 75) C dX6_closes_71 (by decide) ?_
        obtain ⟨h75, hv, he⟩ := ob he
        refine aw_iast C dX6_closes_75 hv ?_
        refine aw_iinc (y := 1) C dX6_closes_76 (by decide) (j := 4) rfl (by decide) rfl (lv' := [(0, .inr l0), (1, .inl l1), (2, .inl l2), (3, .inl l3), (4, .inl (l4 + 1))]) rfl ?_
        refine aw_goto (tgt := 32) C dX6_closes_79 (by decide) ?_
        exact ih _ _ _ _ _ _ he
      · have he := iff_ hc he
        refine aw_iconst (v := 1) C dX6_closes_74 (by decide) ?_
        obtain ⟨h75, hv, he⟩ := ob he
        refine aw_iast C dX6_closes_75 hv ?_
        refine aw_iinc (y := 1) C dX6_closes_76 (by decide) (j := 4) rfl (by decide) rfl (lv' := [(0, .inr l0), (1, .inl l1), (2, .inl l2), (3, .inl l3), (4, .inl (l4 + 1))]) rfl ?_
        refine aw_goto (tgt := 32) C dX6_closes_79 (by decide) ?_
        exact ih _ _ _ _ _ _ he
set_option maxHeartbeats 4000000 in
set_option maxRecDepth 100000 in
theorem wX6_closes_j164 {Γ : GG} (C : CX Γ cX6_closes 8 RX6 4 0 0) {N : Nat} {sz : Nat} {α : Type} {out : α} {K112 : Hp → Option Nat → Int32 → Int32 → Int32 → Int32 → Int32 → Option α} (k112 : ∀ (h : Hp) (l0 : Option Nat) (l1 : Int32) (l3 : Int32) (l4 : Int32) (l5 : Int32) (l6 : Int32), K112 h l0 l1 l3 l4 l5 l6 = some out → AW Γ 8 h sz 0 0 112 [(0, .inr l0), (1, .inl l1), (3, .inl l3), (4, .inl l4), (5, .inl l5), (6, .inl l6)] []) {h : Hp} {l0 : Option Nat} {l1 : Int32} {l3 : Int32} {l5 : Int32} {l6 : Int32} {l7 : Int32} {s0 : Int32} (he : fX6_closes_j164 N K112 h l0 l1 l3 l5 l6 l7 s0 = some out) : AW Γ 8 h sz 0 0 164 [(0, .inr l0), (1, .inl l1), (3, .inl l3), (5, .inl l5), (6, .inl l6), (7, .inl l7)] [.int s0] := by
  unfold fX6_closes_j164 at he
  refine aw_istore C dX6_closes_164 (by decide) rfl (lv' := [(0, .inr l0), (1, .inl l1), (3, .inl l3), (4, .inl s0), (5, .inl l5), (6, .inl l6), (7, .inl l7)]) rfl ?_
  refine aw_iload C dX6_closes_166 (j := 6) rfl ?_
  refine aw_iload C dX6_closes_168 (j := 4) rfl ?_
  refine aw_ic_ge (tgt := 178) C dX6_closes_170 (by decide) (fun hc => ?_) (fun hc => ?_)
  · have he := ift hc he
    refine aw_iload C dX6_closes_178 (j := 4) rfl ?_
    refine aw_istore C dX6_closes_180 (by decide) rfl (lv' := [(0, .inr l0), (1, .inl l1), (3, .inl l3), (4, .inl s0), (5, .inl l5), (6, .inl l6), (7, .inl l7)]) rfl ?_
    refine aw_iinc (y := 1) C dX6_closes_182 (by decide) (j := 5) rfl (by decide) rfl (lv' := [(0, .inr l0), (1, .inl l1), (3, .inl l3), (4, .inl s0), (5, .inl l5), (6, .inl (l6 + 1)), (7, .inl l7)]) rfl ?_
    refine aw_goto (tgt := 112) C dX6_closes_185 (by decide) ?_
    refine aw_sub [0, 1, 2, 3, 4, 5] (lv' := [(0, .inr l0), (1, .inl l1), (3, .inl l3), (4, .inl s0), (5, .inl l5), (6, .inl (l6 + 1))]) rfl ?_
    exact k112 _ _ _ _ _ _ _ he
  · have he := iff_ hc he
    refine aw_iload C dX6_closes_173 (j := 6) rfl ?_
    refine aw_goto (tgt := 180) C dX6_closes_175 (by decide) ?_
    refine aw_istore C dX6_closes_180 (by decide) rfl (lv' := [(0, .inr l0), (1, .inl l1), (3, .inl l3), (4, .inl s0), (5, .inl l7), (6, .inl l6), (7, .inl l7)]) rfl ?_
    refine aw_iinc (y := 1) C dX6_closes_182 (by decide) (j := 5) rfl (by decide) rfl (lv' := [(0, .inr l0), (1, .inl l1), (3, .inl l3), (4, .inl s0), (5, .inl l7), (6, .inl (l6 + 1)), (7, .inl l7)]) rfl ?_
    refine aw_goto (tgt := 112) C dX6_closes_185 (by decide) ?_
    refine aw_sub [0, 1, 2, 3, 4, 5] (lv' := [(0, .inr l0), (1, .inl l1), (3, .inl l3), (4, .inl s0), (5, .inl l7), (6, .inl (l6 + 1))]) rfl ?_
    exact k112 _ _ _ _ _ _ _ he
set_option maxHeartbeats 4000000 in
set_option maxRecDepth 100000 in
theorem wX6_closes_j148 {Γ : GG} (C : CX Γ cX6_closes 8 RX6 4 0 0) {N : Nat} {sz : Nat} {α : Type} {out : α} {K112 : Hp → Option Nat → Int32 → Int32 → Int32 → Int32 → Int32 → Option α} (k112 : ∀ (h : Hp) (l0 : Option Nat) (l1 : Int32) (l3 : Int32) (l4 : Int32) (l5 : Int32) (l6 : Int32), K112 h l0 l1 l3 l4 l5 l6 = some out → AW Γ 8 h sz 0 0 112 [(0, .inr l0), (1, .inl l1), (3, .inl l3), (4, .inl l4), (5, .inl l5), (6, .inl l6)] []) {h : Hp} {l0 : Option Nat} {l1 : Int32} {l3 : Int32} {l4 : Int32} {l5 : Int32} {l6 : Int32} {s0 : Int32} (he : fX6_closes_j148 N K112 h l0 l1 l3 l4 l5 l6 s0 = some out) : AW Γ 8 h sz 0 0 148 [(0, .inr l0), (1, .inl l1), (3, .inl l3), (4, .inl l4), (5, .inl l5), (6, .inl l6)] [.int s0] := by
  unfold fX6_closes_j148 at he
  refine aw_istore C dX6_closes_148 (by decide) rfl (lv' := [(0, .inr l0), (1, .inl l1), (3, .inl l3), (4, .inl l4), (5, .inl l5), (6, .inl l6), (7, .inl s0)]) rfl ?_
  refine aw_iload C dX6_closes_150 (j := 6) rfl ?_
  refine aw_iload C dX6_closes_152 (j := 4) rfl ?_
  refine aw_ic_ge (tgt := 162) C dX6_closes_154 (by decide) (fun hc => ?_) (fun hc => ?_)
  · have he := ift hc he
    refine aw_iload C dX6_closes_162 (j := 3) rfl ?_
    refine aw_sub [0, 1, 2, 4, 5, 6] (lv' := [(0, .inr l0), (1, .inl l1), (3, .inl l3), (5, .inl l5), (6, .inl l6), (7, .inl s0)]) rfl ?_
    exact wX6_closes_j164 C k112 he
  · have he := iff_ hc he
    refine aw_iload C dX6_closes_157 (j := 5) rfl ?_
    refine aw_goto (tgt := 164) C dX6_closes_159 (by decide) ?_
    refine aw_sub [0, 1, 2, 4, 5, 6] (lv' := [(0, .inr l0), (1, .inl l1), (3, .inl l3), (5, .inl l5), (6, .inl l6), (7, .inl s0)]) rfl ?_
    exact wX6_closes_j164 C k112 he
set_option maxHeartbeats 4000000 in
set_option maxRecDepth 100000 in
theorem wX6_closes_L112 {Γ : GG} (C : CX Γ cX6_closes 8 RX6 4 0 0) {N : Nat} {sz : Nat} {α : Type} {out : α} {K188 : Hp → Int32 → Int32 → Int32 → Option α} (k188 : ∀ (h : Hp) (l3 : Int32) (l4 : Int32) (l5 : Int32), K188 h l3 l4 l5 = some out → AW Γ 8 h sz 0 0 188 [(3, .inl l3), (4, .inl l4), (5, .inl l5)] []) : ∀ (n : Nat) (h : Hp) (l0 : Option Nat) (l1 : Int32) (l3 : Int32) (l4 : Int32) (l5 : Int32) (l6 : Int32), fX6_closes_L112 N K188 n h l0 l1 l3 l4 l5 l6 = some out → AW Γ 8 h sz 0 0 112 [(0, .inr l0), (1, .inl l1), (3, .inl l3), (4, .inl l4), (5, .inl l5), (6, .inl l6)] [] := by
  intro n
  induction n with
  | zero =>
    intro h l0 l1 l3 l4 l5 l6 he
    rw [fX6_closes_L112] at he
    cases he
  | succ n ih =>
    intro h l0 l1 l3 l4 l5 l6 he
    rw [fX6_closes_L112] at he
    refine aw_iload C dX6_closes_112 (j := 5) rfl ?_
    refine aw_aload_n C dX6_closes_114 rfl (j := 0) rfl ?_
    obtain ⟨v115, hv, he⟩ := ob he
    refine aw_gI C fk_X6_66 dX6_closes_115 hv ?_
    refine aw_ic_ge (tgt := 188) C dX6_closes_118 (by decide) (fun hc => ?_) (fun hc => ?_)
    · have he := ift hc he
      refine aw_sub [2, 3, 4] (lv' := [(3, .inl l3), (4, .inl l4), (5, .inl l5)]) rfl ?_
      exact k188 _ _ _ _ he
    · have he := iff_ hc he
      refine aw_aload_n C dX6_closes_121 rfl (j := 0) rfl ?_
      refine aw_iload_n C dX6_closes_122 rfl (j := 1) rfl ?_
      refine aw_iload C dX6_closes_123 (j := 5) rfl ?_
      obtain ⟨hO, he⟩ := ifs he
      obtain ⟨v125, hv, he⟩ := ob he
      refine aw_callV (ci := 6) C mb_X6_146 ⟨q_934, q_45, rfl⟩ hO (cX6_fits_ _ _ _ _ hv) dX6_closes_125 rfl (rest := []) rfl (cat_le _ (Nat.le_of_ble_eq_true rfl)) (Nat.le_of_ble_eq_true rfl) (Nat.le_of_ble_eq_true rfl) (Nat.le_of_ble_eq_true rfl) (st2 := [.int v125]) rfl ?_
      refine aw_if_eq (tgt := 146) C dX6_closes_128 (by decide) (fun hc => ?_) (fun hc => ?_)
      · have he := ift hc he
        refine aw_ldc (v := 1048576) C dX6_closes_146 q_1066 ?_
        exact wX6_closes_j148 C ih he
      · have he := iff_ hc he
        refine aw_aload_n C dX6_closes_131 rfl (j := 0) rfl ?_
        refine aw_iload_n C dX6_closes_132 rfl (j := 1) rfl ?_
        refine aw_aload_n C dX6_closes_133 rfl (j := 0) rfl ?_
        refine aw_iload_n C dX6_closes_134 rfl (j := 1) rfl ?_
        refine aw_iload C dX6_closes_135 (j := 5) rfl ?_
        obtain ⟨hO, he⟩ := ifs he
        obtain ⟨v137, hv, he⟩ := ob he
        refine aw_callV (ci := 6) C mb_X6_133 ⟨q_942, q_47, rfl⟩ hO (cX6_commonOf_ _ _ _ _ hv) dX6_closes_137 rfl (rest := [.int l1, va_rf l0]) rfl (cat_le _ (Nat.le_of_ble_eq_true rfl)) (Nat.le_of_ble_eq_true rfl) (Nat.le_of_ble_eq_true rfl) (Nat.le_of_ble_eq_true rfl) (st2 := [.int v137, .int l1, va_rf l0]) rfl ?_
        obtain ⟨hO, he⟩ := ifs he
        obtain ⟨v140, hv, he⟩ := ob he
        refine aw_callV (ci := 6) C mb_X6_210 ⟨q_1069, q_66, rfl⟩ hO (cX6_openRests_ _ _ _ _ hv) dX6_closes_140 rfl (rest := []) rfl (cat_le _ (Nat.le_of_ble_eq_true rfl)) (Nat.le_of_ble_eq_true rfl) (Nat.le_of_ble_eq_true rfl) (Nat.le_of_ble_eq_true rfl) (st2 := [.int v140]) rfl ?_
        refine aw_goto (tgt := 148) C dX6_closes_143 (by decide) ?_
        exact wX6_closes_j148 C ih he
set_option maxHeartbeats 4000000 in
set_option maxRecDepth 100000 in
theorem wX6_closes {Γ : GG} (C : CX Γ cX6_closes 8 RX6 4 0 0) {N : Nat} {sz : Nat} {out : Int32 × Hp} (X : RX Γ (some .int) (some (.int out.1)) out.2 sz 0 0) {h : Hp} {l0 : Option Nat} {l1 : Int32} {l2 : Int32} {l3 : Int32} (he : fX6_closes N h l0 l1 l2 l3 = some out) : AW Γ 8 h sz 0 0 0 [(0, .inr l0), (1, .inl l1), (2, .inl l2), (3, .inl l3)] [] := by
  unfold fX6_closes at he
  refine aw_aload_n C dX6_closes_0 rfl (j := 0) rfl ?_
  refine aw_iload_n C dX6_closes_1 rfl (j := 1) rfl ?_
  obtain ⟨hO, he⟩ := ifs he
  obtain ⟨v2, hv, he⟩ := ob he
  refine aw_callV (ci := 6) C mb_X6_139 ⟨q_922, q_43, rfl⟩ hO (cX6_isRing_ _ _ _ _ hv) dX6_closes_2 rfl (rest := []) rfl (cat_le _ (Nat.le_of_ble_eq_true rfl)) (Nat.le_of_ble_eq_true rfl) (Nat.le_of_ble_eq_true rfl) (Nat.le_of_ble_eq_true rfl) (st2 := [.int v2]) rfl ?_
  refine aw_if_eq (tgt := 27) C dX6_closes_5 (by decide) (fun hc => ?_) (fun hc => ?_)
  · have he := ift hc he
    refine aw_iconst (v := -1) C dX6_closes_27 (by decide) ?_
    have he := Option.some.inj he
    subst he
    exact aw_iret C X dX6_closes_28 (by decide) (by decide)
  · have he := iff_ hc he
    refine aw_iload_n C dX6_closes_8 rfl (j := 2) rfl ?_
    refine aw_iconst (v := 1) C dX6_closes_9 (by decide) ?_
    refine aw_bipush (v := 9) C dX6_closes_10 (by decide) ?_
    obtain ⟨v12, hv, he⟩ := ob he
    refine aw_callS C mb_X6_62 q_874 (cX6_in_ _ _ _ _ hv) dX6_closes_12 rfl (rest := []) rfl (cat_le _ (Nat.le_of_ble_eq_true rfl)) (Nat.le_of_ble_eq_true rfl) (Nat.le_of_ble_eq_true rfl) (Nat.le_of_ble_eq_true rfl) (st2 := [.int v12]) rfl ?_
    refine aw_if_eq (tgt := 27) C dX6_closes_15 (by decide) (fun hc => ?_) (fun hc => ?_)
    · have he := ift hc he
      refine aw_iconst (v := -1) C dX6_closes_27 (by decide) ?_
      have he := Option.some.inj he
      subst he
      exact aw_iret C X dX6_closes_28 (by decide) (by decide)
    · have he := iff_ hc he
      refine aw_iload_n C dX6_closes_18 rfl (j := 3) rfl ?_
      refine aw_iconst (v := 0) C dX6_closes_19 (by decide) ?_
      refine aw_iconst (v := 1) C dX6_closes_20 (by decide) ?_
      obtain ⟨v21, hv, he⟩ := ob he
      refine aw_callS C mb_X6_62 q_874 (cX6_in_ _ _ _ _ hv) dX6_closes_21 rfl (rest := []) rfl (cat_le _ (Nat.le_of_ble_eq_true rfl)) (Nat.le_of_ble_eq_true rfl) (Nat.le_of_ble_eq_true rfl) (Nat.le_of_ble_eq_true rfl) (st2 := [.int v21]) rfl ?_
      refine aw_if_ne (tgt := 29) C dX6_closes_24 (by decide) (fun hc => ?_) (fun hc => ?_)
      · have he := ift hc he
        refine aw_iconst (v := -1) C dX6_closes_27 (by decide) ?_
        have he := Option.some.inj he
        subst he
        exact aw_iret C X dX6_closes_28 (by decide) (by decide)
      · have he := iff_ hc he
        refine aw_iconst (v := 0) C dX6_closes_29 (by decide) ?_
        refine aw_istore C dX6_closes_30 (by decide) rfl (lv' := [(0, .inr l0), (1, .inl l1), (2, .inl l2), (3, .inl l3), (4, .inl (0 : Int32))]) rfl ?_
        refine wX6_closes_L32 C ?_ N _ _ _ _ _ _ he
        intro h l0 l1 l3 he
        refine aw_aload_n C dX6_closes_82 rfl (j := 0) rfl ?_
        refine aw_iload_n C dX6_closes_83 rfl (j := 1) rfl ?_
        obtain ⟨hO, he⟩ := ifs he
        obtain ⟨v84, hv, he⟩ := ob he
        refine aw_callV (ci := 6) C mb_X6_206 ⟨q_1064, q_65, rfl⟩ hO (cX6_openMany_ _ _ _ _ hv) dX6_closes_84 rfl (rest := []) rfl (cat_le _ (Nat.le_of_ble_eq_true rfl)) (Nat.le_of_ble_eq_true rfl) (Nat.le_of_ble_eq_true rfl) (Nat.le_of_ble_eq_true rfl) (st2 := [.int v84]) rfl ?_
        refine aw_if_ne (tgt := 101) C dX6_closes_87 (by decide) (fun hc => ?_) (fun hc => ?_)
        · have he := ift hc he
          refine aw_iload_n C dX6_closes_90 rfl (j := 2) rfl ?_
          refine aw_if_ne (tgt := 98) C dX6_closes_91 (by decide) (fun hc => ?_) (fun hc => ?_)
          · have he := ift hc he
            refine aw_iconst (v := 0) C dX6_closes_94 (by decide) ?_
            refine aw_goto (tgt := 100) C dX6_closes_95 (by decide) ?_
            have he := Option.some.inj he
            subst he
            exact aw_iret C X dX6_closes_100 (by decide) (by decide)
          · have he := iff_ hc he
            refine aw_bipush (v := -9) C dX6_closes_98 (by decide) ?_
            have he := Option.some.inj he
            subst he
            exact aw_iret C X dX6_closes_100 (by decide) (by decide)
        · have he := iff_ hc he
          refine aw_bipush (v := -9) C dX6_closes_101 (by decide) ?_
          refine aw_istore C dX6_closes_103 (by decide) rfl (lv' := [(0, .inr l0), (1, .inl l1), (3, .inl l3), (4, .inl (-9 : Int32))]) rfl ?_
          refine aw_ldc (v := 1048576) C dX6_closes_105 q_1066 ?_
          refine aw_istore C dX6_closes_107 (by decide) rfl (lv' := [(0, .inr l0), (1, .inl l1), (3, .inl l3), (4, .inl (-9 : Int32)), (5, .inl (1048576 : Int32))]) rfl ?_
          refine aw_iconst (v := 0) C dX6_closes_109 (by decide) ?_
          refine aw_istore C dX6_closes_110 (by decide) rfl (lv' := [(0, .inr l0), (1, .inl l1), (3, .inl l3), (4, .inl (-9 : Int32)), (5, .inl (1048576 : Int32)), (6, .inl (0 : Int32))]) rfl ?_
          refine wX6_closes_L112 C ?_ N _ _ _ _ _ _ _ he
          intro h l3 l4 l5 he
          refine aw_iload C dX6_closes_188 (j := 1) rfl ?_
          refine aw_bipush (v := -9) C dX6_closes_190 (by decide) ?_
          refine aw_ic_eq (tgt := 200) C dX6_closes_192 (by decide) (fun hc => ?_) (fun hc => ?_)
          · have he := ift hc he
            refine aw_iload C dX6_closes_200 (j := 1) rfl ?_
            refine aw_goto (tgt := 207) C dX6_closes_202 (by decide) ?_
            have he := Option.some.inj he
            subst he
            exact aw_iret C X dX6_closes_207 (by decide) (by decide)
          · have he := iff_ hc he
            refine aw_iload_n C dX6_closes_195 rfl (j := 0) rfl ?_
            refine aw_iconst (v := 1) C dX6_closes_196 (by decide) ?_
            refine aw_ic_ne (tgt := 205) C dX6_closes_197 (by decide) (fun hc => ?_) (fun hc => ?_)
            · have he := ift hc he
              refine aw_iload C dX6_closes_200 (j := 1) rfl ?_
              refine aw_goto (tgt := 207) C dX6_closes_202 (by decide) ?_
              have he := Option.some.inj he
              subst he
              exact aw_iret C X dX6_closes_207 (by decide) (by decide)
            · have he := iff_ hc he
              refine aw_iload C dX6_closes_205 (j := 2) rfl ?_
              have he := Option.some.inj he
              subst he
              exact aw_iret C X dX6_closes_207 (by decide) (by decide)
theorem cX6_closes_ (l : Launch) (D : va_G) (dA : Nat → ClassId) (base : Nat) {N : Nat} {h : Hp} {sz : Nat} {l0 : Option Nat} {l1 : Int32} {l2 : Int32} {l3 : Int32} {out : Int32 × Hp} (he : fX6_closes N h l0 l1 l2 l3 = some out) : AM l D dA base yX6_closes cX6_closes 8 (some .int) 4 0 0 [.inr l0, .inl l1, .inl l2, .inl l3] h sz (some (.int out.1)) out.2 sz :=
  AM.of (by decide +kernel) (Nat.le_of_ble_eq_true rfl) rfl (fun Γ C X hn => wX6_closes C X he)
set_option maxHeartbeats 4000000 in
set_option maxRecDepth 100000 in
theorem wX5_addTwo_L11 {Γ : GG} (C : CX Γ cX5_addTwo 5 RX5 1 0 0) {N : Nat} {sz : Nat} {α : Type} {out : α} {K51 : Hp → Option α} (k51 : ∀ (h : Hp), K51 h = some out → AW Γ 5 h sz 0 0 51 [] []) : ∀ (n : Nat) (h : Hp) (l0 : Option Nat) (l2 : Int32) (l3 : Int32) (l4 : Int32), fX5_addTwo_L11 N K51 n h l0 l2 l3 l4 = some out → AW Γ 5 h sz 0 0 11 [(0, .inr l0), (2, .inl l2), (3, .inl l3), (4, .inl l4)] [] := by
  intro n
  induction n with
  | zero =>
    intro h l0 l2 l3 l4 he
    rw [fX5_addTwo_L11] at he
    cases he
  | succ n ih =>
    intro h l0 l2 l3 l4 he
    rw [fX5_addTwo_L11] at he
    refine aw_iload C dX5_addTwo_11 (j := 3) rfl ?_
    refine aw_iload_n C dX5_addTwo_13 rfl (j := 2) rfl ?_
    refine aw_ic_lt (tgt := 51) C dX5_addTwo_14 (by decide) (fun hc => ?_) (fun hc => ?_)
    · have he := ift hc he
      refine aw_sub [] (lv' := []) rfl ?_
      exact k51 _ he
    · have he := iff_ hc he
      refine aw_aload_n C dX5_addTwo_17 rfl (j := 0) rfl ?_
      obtain ⟨v18, hv, he⟩ := ob he
      refine aw_gA C fk_X5_65 dX5_addTwo_18 hv ?_
      refine aw_iload C dX5_addTwo_21 (j := 3) rfl ?_
      refine aw_aload_n C dX5_addTwo_23 rfl (j := 0) rfl ?_
      obtain ⟨v24, hv, he⟩ := ob he
      refine aw_gA C fk_X5_65 dX5_addTwo_24 hv ?_
      refine aw_iload C dX5_addTwo_27 (j := 3) rfl ?_
      obtain ⟨v29, hv, he⟩ := ob he
      refine aw_iald C dX5_addTwo_29 hv ?_
      refine aw_aload_n C dX5_addTwo_30 rfl (j := 0) rfl ?_
      obtain ⟨v31, hv, he⟩ := ob he
      refine aw_gA C fk_X5_65 dX5_addTwo_31 hv ?_
      refine aw_iload C dX5_addTwo_34 (j := 3) rfl ?_
      refine aw_iload_n C dX5_addTwo_36 rfl (j := 2) rfl ?_
      refine aw_isub C dX5_addTwo_37 ?_
      obtain ⟨v38, hv, he⟩ := ob he
      refine aw_iald C dX5_addTwo_38 hv ?_
      refine aw_iload_n C dX5_addTwo_39 rfl (j := 1) rfl ?_
      refine aw_iadd C dX5_addTwo_40 ?_
      refine aw_mmax C q_629 q_549 q_78 q_550 (Nat.le_of_ble_eq_true rfl) (Nat.le_of_ble_eq_true rfl) (Nat.le_of_ble_eq_true rfl) (Nat.le_of_ble_eq_true rfl) dX5_addTwo_41 ?_
      obtain ⟨h44, hv, he⟩ := ob he
      refine aw_iast C dX5_addTwo_44 hv ?_
      refine aw_iinc (y := -1) C dX5_addTwo_45 (by decide) (j := 3) rfl (by decide) rfl (lv' := [(0, .inr l0), (2, .inl l2), (3, .inl l3), (4, .inl (l4 + (-1)))]) rfl ?_
      refine aw_goto (tgt := 11) C dX5_addTwo_48 (by decide) ?_
      exact ih _ _ _ _ _ he
set_option maxHeartbeats 4000000 in
set_option maxRecDepth 100000 in
theorem wX5_addTwo {Γ : GG} (C : CX Γ cX5_addTwo 5 RX5 1 0 0) {N : Nat} {sz : Nat} {out : Hp} (X : RX Γ none none out sz 0 0) {h : Hp} {l0 : Option Nat} {l1 : Int32} {l2 : Int32} (he : fX5_addTwo N h l0 l1 l2 = some out) : AW Γ 5 h sz 0 0 0 [(0, .inr l0), (1, .inl l1), (2, .inl l2)] [] := by
  unfold fX5_addTwo at he
  refine aw_iload_n C dX5_addTwo_0 rfl (j := 1) rfl ?_
  refine aw_iconst (v := 0) C dX5_addTwo_1 (by decide) ?_
  refine aw_mmax C q_629 q_549 q_78 q_550 (Nat.le_of_ble_eq_true rfl) (Nat.le_of_ble_eq_true rfl) (Nat.le_of_ble_eq_true rfl) (Nat.le_of_ble_eq_true rfl) dX5_addTwo_2 ?_
  refine aw_istore_n C dX5_addTwo_5 rfl (by decide) rfl (lv' := [(0, .inr l0), (1, .inl l1), (2, .inl l2), (3, .inl (jmax l1 (0 : Int32)))]) rfl ?_
  refine aw_sipush (v := 999) C dX5_addTwo_6 (by decide) ?_
  refine aw_istore C dX5_addTwo_9 (by decide) rfl (lv' := [(0, .inr l0), (1, .inl l1), (2, .inl l2), (3, .inl (jmax l1 (0 : Int32))), (4, .inl (999 : Int32))]) rfl ?_
  refine aw_sub [0, 2, 3, 4] (lv' := [(0, .inr l0), (2, .inl l2), (3, .inl (jmax l1 (0 : Int32))), (4, .inl (999 : Int32))]) rfl ?_
  refine wX5_addTwo_L11 C ?_ N _ _ _ _ _ he
  intro h he
  have he := Option.some.inj he
  subst he
  exact aw_vret C X dX5_addTwo_51 (by decide) (by decide)
theorem cX5_addTwo_ (l : Launch) (D : va_G) (dA : Nat → ClassId) (base : Nat) {N : Nat} {h : Hp} {sz : Nat} {l0 : Option Nat} {l1 : Int32} {l2 : Int32} {out : Hp} (he : fX5_addTwo N h l0 l1 l2 = some out) : AM l D dA base yX5_addTwo cX5_addTwo 5 none 1 0 0 [.inr l0, .inl l1, .inl l2] h sz none out sz :=
  AM.of (by decide +kernel) (Nat.le_of_ble_eq_true rfl) rfl (fun Γ C X hn => wX5_addTwo C X he)
set_option maxHeartbeats 4000000 in
set_option maxRecDepth 100000 in
theorem wX5_noteMostPetals_L23 {Γ : GG} (C : CX Γ cX5_noteMostPetals 3 RX5 5 0 0) {N : Nat} {sz : Nat} {α : Type} {out : α} {K74 : Hp → Option Nat → Int32 → Option α} (k74 : ∀ (h : Hp) (l0 : Option Nat) (l1 : Int32), K74 h l0 l1 = some out → AW Γ 3 h sz 0 0 74 [(0, .inr l0), (1, .inl l1)] []) : ∀ (n : Nat) (h : Hp) (l0 : Option Nat) (l1 : Int32) (l2 : Int32), fX5_noteMostPetals_L23 N K74 n h l0 l1 l2 = some out → AW Γ 3 h sz 0 0 23 [(0, .inr l0), (1, .inl l1), (2, .inl l2)] [] := by
  intro n
  induction n with
  | zero =>
    intro h l0 l1 l2 he
    rw [fX5_noteMostPetals_L23] at he
    cases he
  | succ n ih =>
    intro h l0 l1 l2 he
    rw [fX5_noteMostPetals_L23] at he
    refine aw_iload_n C dX5_noteMostPetals_23 rfl (j := 2) rfl ?_
    refine aw_aload_n C dX5_noteMostPetals_24 rfl (j := 0) rfl ?_
    obtain ⟨v25, hv, he⟩ := ob he
    refine aw_gA C fk_X5_26 dX5_noteMostPetals_25 hv ?_
    obtain ⟨v28, hv, he⟩ := ob he
    refine aw_gI C fk_X5_205 dX5_noteMostPetals_28 hv ?_
    refine aw_ic_ge (tgt := 74) C dX5_noteMostPetals_31 (by decide) (fun hc => ?_) (fun hc => ?_)
    · have he := ift hc he
      refine aw_sub [0, 1] (lv' := [(0, .inr l0), (1, .inl l1)]) rfl ?_
      exact k74 _ _ _ he
    · have he := iff_ hc he
      refine aw_aload_n C dX5_noteMostPetals_34 rfl (j := 0) rfl ?_
      obtain ⟨v35, hv, he⟩ := ob he
      refine aw_gA C fk_X5_26 dX5_noteMostPetals_35 hv ?_
      refine aw_iload_n C dX5_noteMostPetals_38 rfl (j := 1) rfl ?_
      refine aw_iload_n C dX5_noteMostPetals_39 rfl (j := 2) rfl ?_
      obtain ⟨hO, he⟩ := ifs he
      obtain ⟨v40, hv, he⟩ := ob he
      refine aw_callV (ci := 0) C mb_X5_112 ⟨q_376, q_377, rfl⟩ hO (cX0_fits_ _ _ _ _ hv) dX5_noteMostPetals_40 rfl (rest := []) rfl (cat_le _ (Nat.le_of_ble_eq_true rfl)) (Nat.le_of_ble_eq_true rfl) (Nat.le_of_ble_eq_true rfl) (Nat.le_of_ble_eq_true rfl) (st2 := [.int v40]) rfl ?_
      refine aw_if_eq (tgt := 68) C dX5_noteMostPetals_43 (by decide) (fun hc => ?_) (fun hc => ?_)
      · have he := ift hc he
        refine aw_iinc (y := 1) C dX5_noteMostPetals_68 (by decide) (j := 2) rfl (by decide) rfl (lv' := [(0, .inr l0), (1, .inl l1), (2, .inl (l2 + 1))]) rfl ?_
        refine aw_goto (tgt := 23) C dX5_noteMostPetals_71 (by decide) ?_
        exact ih _ _ _ _ he
      · have he := iff_ hc he
        refine aw_aload_n C dX5_noteMostPetals_46 rfl (j := 0) rfl ?_
        refine aw_aload_n C dX5_noteMostPetals_47 rfl (j := 0) rfl ?_
        obtain ⟨v48, hv, he⟩ := ob he
        refine aw_gA C fk_X5_26 dX5_noteMostPetals_48 hv ?_
        refine aw_iload_n C dX5_noteMostPetals_51 rfl (j := 1) rfl ?_
        refine aw_iload_n C dX5_noteMostPetals_52 rfl (j := 2) rfl ?_
        obtain ⟨hO, he⟩ := ifs he
        obtain ⟨v53, hv, he⟩ := ob he
        refine aw_callV (ci := 0) C mb_X5_123 ⟨q_400, q_401, rfl⟩ hO (cX0_longOf_ _ _ _ _ hv) dX5_noteMostPetals_53 rfl (rest := [va_rf l0]) rfl (cat_le _ (Nat.le_of_ble_eq_true rfl)) (Nat.le_of_ble_eq_true rfl) (Nat.le_of_ble_eq_true rfl) (Nat.le_of_ble_eq_true rfl) (st2 := [.int v53, va_rf l0]) rfl ?_
        refine aw_aload_n C dX5_noteMostPetals_56 rfl (j := 0) rfl ?_
        obtain ⟨v57, hv, he⟩ := ob he
        refine aw_gA C fk_X5_26 dX5_noteMostPetals_57 hv ?_
        refine aw_iload_n C dX5_noteMostPetals_60 rfl (j := 1) rfl ?_
        refine aw_iload_n C dX5_noteMostPetals_61 rfl (j := 2) rfl ?_
        obtain ⟨hO, he⟩ := ifs he
        obtain ⟨v62, hv, he⟩ := ob he
        refine aw_callV (ci := 0) C mb_X5_116 ⟨q_382, q_383, rfl⟩ hO (cX0_petalsOf_ _ _ _ _ hv) dX5_noteMostPetals_62 rfl (rest := [.int v53, va_rf l0]) rfl (cat_le _ (Nat.le_of_ble_eq_true rfl)) (Nat.le_of_ble_eq_true rfl) (Nat.le_of_ble_eq_true rfl) (Nat.le_of_ble_eq_true rfl) (st2 := [.int v62, .int v53, va_rf l0]) rfl ?_
        obtain ⟨hO, he⟩ := ifs he
        obtain ⟨z65, hv, he⟩ := ob he
        refine aw_callV (ci := 5) C mb_X5_334 ⟨q_640, q_24, rfl⟩ hO (cX5_addTwo_ _ _ _ _ hv) dX5_noteMostPetals_65 rfl (rest := []) rfl (cat_le _ (Nat.le_of_ble_eq_true rfl)) (Nat.le_of_ble_eq_true rfl) (Nat.le_of_ble_eq_true rfl) (Nat.le_of_ble_eq_true rfl) (st2 := []) rfl ?_
        refine aw_iinc (y := 1) C dX5_noteMostPetals_68 (by decide) (j := 2) rfl (by decide) rfl (lv' := [(0, .inr l0), (1, .inl l1), (2, .inl (l2 + 1))]) rfl ?_
        refine aw_goto (tgt := 23) C dX5_noteMostPetals_71 (by decide) ?_
        exact ih _ _ _ _ he
set_option maxHeartbeats 4000000 in
set_option maxRecDepth 100000 in
theorem wX5_noteMostPetals_L10 {Γ : GG} (C : CX Γ cX5_noteMostPetals 3 RX5 5 0 0) {N : Nat} {sz : Nat} {α : Type} {out : α} {K80 : Hp → Option Nat → Option α} (k80 : ∀ (h : Hp) (l0 : Option Nat), K80 h l0 = some out → AW Γ 3 h sz 0 0 80 [(0, .inr l0)] []) : ∀ (n : Nat) (h : Hp) (l0 : Option Nat) (l1 : Int32), fX5_noteMostPetals_L10 N K80 n h l0 l1 = some out → AW Γ 3 h sz 0 0 10 [(0, .inr l0), (1, .inl l1)] [] := by
  intro n
  induction n with
  | zero =>
    intro h l0 l1 he
    rw [fX5_noteMostPetals_L10] at he
    cases he
  | succ n ih =>
    intro h l0 l1 he
    rw [fX5_noteMostPetals_L10] at he
    refine aw_iload_n C dX5_noteMostPetals_10 rfl (j := 1) rfl ?_
    refine aw_aload_n C dX5_noteMostPetals_11 rfl (j := 0) rfl ?_
    obtain ⟨v12, hv, he⟩ := ob he
    refine aw_gA C fk_X5_26 dX5_noteMostPetals_12 hv ?_
    obtain ⟨v15, hv, he⟩ := ob he
    refine aw_gI C fk_X5_287 dX5_noteMostPetals_15 hv ?_
    refine aw_ic_ge (tgt := 80) C dX5_noteMostPetals_18 (by decide) (fun hc => ?_) (fun hc => ?_)
    · have he := ift hc he
      refine aw_sub [0] (lv' := [(0, .inr l0)]) rfl ?_
      exact k80 _ _ he
    · have he := iff_ hc he
      refine aw_iconst (v := 0) C dX5_noteMostPetals_21 (by decide) ?_
      refine aw_istore_n C dX5_noteMostPetals_22 rfl (by decide) rfl (lv' := [(0, .inr l0), (1, .inl l1), (2, .inl (0 : Int32))]) rfl ?_
      refine wX5_noteMostPetals_L23 C ?_ N _ _ _ _ he
      intro h l0 l1 he
      refine aw_iinc (y := 1) C dX5_noteMostPetals_74 (by decide) (j := 1) rfl (by decide) rfl (lv' := [(0, .inr l0), (1, .inl (l1 + 1))]) rfl ?_
      refine aw_goto (tgt := 10) C dX5_noteMostPetals_77 (by decide) ?_
      exact ih _ _ _ he
set_option maxHeartbeats 4000000 in
set_option maxRecDepth 100000 in
theorem wX5_noteMostPetals {Γ : GG} (C : CX Γ cX5_noteMostPetals 3 RX5 5 0 0) {N : Nat} {sz : Nat} {out : Hp} (X : RX Γ none none out sz 0 0) {h : Hp} {l0 : Option Nat} (he : fX5_noteMostPetals N h l0 = some out) : AW Γ 3 h sz 0 0 0 [(0, .inr l0)] [] := by
  unfold fX5_noteMostPetals at he
  refine aw_aload_n C dX5_noteMostPetals_0 rfl (j := 0) rfl ?_
  obtain ⟨v1, hv, he⟩ := ob he
  refine aw_gA C fk_X5_65 dX5_noteMostPetals_1 hv ?_
  refine aw_iconst (v := 0) C dX5_noteMostPetals_4 (by decide) ?_
  obtain ⟨z5, hv, he⟩ := ob he
  refine aw_callS C mb_X5_304 q_437 (cJ7_fill_53178_ _ _ _ _ hv) dX5_noteMostPetals_5 rfl (rest := []) rfl (cat_le _ (Nat.le_of_ble_eq_true rfl)) (Nat.le_of_ble_eq_true rfl) (Nat.le_of_ble_eq_true rfl) (Nat.le_of_ble_eq_true rfl) (st2 := []) rfl ?_
  refine aw_iconst (v := 0) C dX5_noteMostPetals_8 (by decide) ?_
  refine aw_istore_n C dX5_noteMostPetals_9 rfl (by decide) rfl (lv' := [(0, .inr l0), (1, .inl (0 : Int32))]) rfl ?_
  refine wX5_noteMostPetals_L10 C ?_ N _ _ _ he
  intro h l0 he
  refine aw_aload_n C dX5_noteMostPetals_80 rfl (j := 0) rfl ?_
  refine aw_iconst (v := 1) C dX5_noteMostPetals_81 (by decide) ?_
  obtain ⟨h82, hv, he⟩ := ob he
  refine aw_put C fk_X5_68 dX5_noteMostPetals_82 rfl rfl hv ?_
  have he := Option.some.inj he
  subst he
  exact aw_vret C X dX5_noteMostPetals_85 (by decide) (by decide)
theorem cX5_noteMostPetals_ (l : Launch) (D : va_G) (dA : Nat → ClassId) (base : Nat) {N : Nat} {h : Hp} {sz : Nat} {l0 : Option Nat} {out : Hp} (he : fX5_noteMostPetals N h l0 = some out) : AM l D dA base yX5_noteMostPetals cX5_noteMostPetals 3 none 5 0 0 [.inr l0] h sz none out sz :=
  AM.of (by decide +kernel) (Nat.le_of_ble_eq_true rfl) rfl (fun Γ C X hn => wX5_noteMostPetals C X he)
set_option maxHeartbeats 4000000 in
set_option maxRecDepth 100000 in
theorem wX5_best_L70 {Γ : GG} (C : CX Γ cX5_best 6 RX5 6 0 0) {N : Nat} {sz : Nat} {α : Type} {out : α} {K94 : Hp → Int32 → Option α} (k94 : ∀ (h : Hp) (l5 : Int32), K94 h l5 = some out → AW Γ 6 h sz 0 0 94 [(5, .inl l5)] []) : ∀ (n : Nat) (h : Hp) (l0 : Option Nat) (l3 : Int32) (l4 : Int32) (l5 : Int32), fX5_best_L70 N K94 n h l0 l3 l4 l5 = some out → AW Γ 6 h sz 0 0 70 [(0, .inr l0), (3, .inl l3), (4, .inl l4), (5, .inl l5)] [] := by
  intro n
  induction n with
  | zero =>
    intro h l0 l3 l4 l5 he
    rw [fX5_best_L70] at he
    cases he
  | succ n ih =>
    intro h l0 l3 l4 l5 he
    rw [fX5_best_L70] at he
    refine aw_iload C dX5_best_70 (j := 3) rfl ?_
    refine aw_iload_n C dX5_best_72 rfl (j := 1) rfl ?_
    refine aw_ic_ge (tgt := 94) C dX5_best_73 (by decide) (fun hc => ?_) (fun hc => ?_)
    · have he := ift hc he
      refine aw_sub [3] (lv' := [(5, .inl l5)]) rfl ?_
      exact k94 _ _ he
    · have he := iff_ hc he
      refine aw_aload_n C dX5_best_76 rfl (j := 0) rfl ?_
      obtain ⟨v77, hv, he⟩ := ob he
      refine aw_gA C fk_X5_65 dX5_best_77 hv ?_
      refine aw_iload C dX5_best_80 (j := 3) rfl ?_
      obtain ⟨v82, hv, he⟩ := ob he
      refine aw_iald C dX5_best_82 hv ?_
      refine aw_iload C dX5_best_83 (j := 2) rfl ?_
      refine aw_ic_ge (tgt := 94) C dX5_best_85 (by decide) (fun hc => ?_) (fun hc => ?_)
      · have he := ift hc he
        refine aw_sub [3] (lv' := [(5, .inl l5)]) rfl ?_
        exact k94 _ _ he
      · have he := iff_ hc he
        refine aw_iinc (y := 1) C dX5_best_88 (by decide) (j := 3) rfl (by decide) rfl (lv' := [(0, .inr l0), (3, .inl l3), (4, .inl l4), (5, .inl (l5 + 1))]) rfl ?_
        refine aw_goto (tgt := 70) C dX5_best_91 (by decide) ?_
        exact ih _ _ _ _ _ he
set_option maxHeartbeats 4000000 in
set_option maxRecDepth 100000 in
theorem wX5_best_j33 {Γ : GG} (C : CX Γ cX5_best 6 RX5 6 0 0) {N : Nat} {sz : Nat} {out : Int32 × Hp} (X : RX Γ (some .int) (some (.int out.1)) out.2 sz 0 0) {h : Hp} {l0 : Option Nat} {l1 : Int32} {l2 : Int32} (he : fX5_best_j33 N h l0 l1 l2 = some out) : AW Γ 6 h sz 0 0 33 [(0, .inr l0), (1, .inl l1), (2, .inl l2)] [] := by
  unfold fX5_best_j33 at he
  refine aw_aload_n C dX5_best_33 rfl (j := 0) rfl ?_
  obtain ⟨v34, hv, he⟩ := ob he
  refine aw_gA C fk_X5_37 dX5_best_34 hv ?_
  refine aw_iload_n C dX5_best_37 rfl (j := 1) rfl ?_
  obtain ⟨hO, he⟩ := ifs he
  obtain ⟨v38, hv, he⟩ := ob he
  refine aw_callV (ci := 2) C mb_X5_129 ⟨q_413, q_414, rfl⟩ hO (cX2_inkOf_ _ _ _ _ hv) dX5_best_38 rfl (rest := []) rfl (cat_le _ (Nat.le_of_ble_eq_true rfl)) (Nat.le_of_ble_eq_true rfl) (Nat.le_of_ble_eq_true rfl) (Nat.le_of_ble_eq_true rfl) (st2 := [.int v38]) rfl ?_
  refine aw_iconst (v := 0) C dX5_best_41 (by decide) ?_
  refine aw_mmax C q_629 q_549 q_78 q_550 (Nat.le_of_ble_eq_true rfl) (Nat.le_of_ble_eq_true rfl) (Nat.le_of_ble_eq_true rfl) (Nat.le_of_ble_eq_true rfl) dX5_best_42 ?_
  refine aw_sipush (v := 999) C dX5_best_45 (by decide) ?_
  refine aw_mmin C q_642 q_286 q_78 q_287 (Nat.le_of_ble_eq_true rfl) (Nat.le_of_ble_eq_true rfl) (Nat.le_of_ble_eq_true rfl) (Nat.le_of_ble_eq_true rfl) dX5_best_48 ?_
  refine aw_istore_n C dX5_best_51 rfl (by decide) rfl (lv' := [(0, .inr l0), (1, .inl l1), (2, .inl l2), (3, .inl (jmin (jmax v38 (0 : Int32)) (999 : Int32)))]) rfl ?_
  refine aw_aload_n C dX5_best_52 rfl (j := 0) rfl ?_
  obtain ⟨v53, hv, he⟩ := ob he
  refine aw_gA C fk_X5_65 dX5_best_53 hv ?_
  refine aw_iload_n C dX5_best_56 rfl (j := 3) rfl ?_
  obtain ⟨v57, hv, he⟩ := ob he
  refine aw_iald C dX5_best_57 hv ?_
  refine aw_istore C dX5_best_58 (by decide) rfl (lv' := [(0, .inr l0), (1, .inl l1), (2, .inl l2), (3, .inl (jmin (jmax v38 (0 : Int32)) (999 : Int32))), (4, .inl v57)]) rfl ?_
  refine aw_iload_n C dX5_best_60 rfl (j := 2) rfl ?_
  refine aw_if_ne (tgt := 67) C dX5_best_61 (by decide) (fun hc => ?_) (fun hc => ?_)
  · have he := ift hc he
    refine aw_iload C dX5_best_64 (j := 4) rfl ?_
    have he := Option.some.inj he
    subst he
    exact aw_iret C X dX5_best_66 (by decide) (by decide)
  · have he := iff_ hc he
    refine aw_iconst (v := 0) C dX5_best_67 (by decide) ?_
    refine aw_istore C dX5_best_68 (by decide) rfl (lv' := [(0, .inr l0), (1, .inl l1), (2, .inl l2), (3, .inl (jmin (jmax v38 (0 : Int32)) (999 : Int32))), (4, .inl v57), (5, .inl (0 : Int32))]) rfl ?_
    refine aw_sub [0, 3, 4, 5] (lv' := [(0, .inr l0), (3, .inl (jmin (jmax v38 (0 : Int32)) (999 : Int32))), (4, .inl v57), (5, .inl (0 : Int32))]) rfl ?_
    refine wX5_best_L70 C ?_ N _ _ _ _ _ he
    intro h l5 he
    refine aw_iload C dX5_best_94 (j := 0) rfl ?_
    have he := Option.some.inj he
    subst he
    exact aw_iret C X dX5_best_96 (by decide) (by decide)
set_option maxHeartbeats 4000000 in
set_option maxRecDepth 100000 in
theorem wX5_best {Γ : GG} (C : CX Γ cX5_best 6 RX5 6 0 0) {N : Nat} {sz : Nat} {out : Int32 × Hp} (X : RX Γ (some .int) (some (.int out.1)) out.2 sz 0 0) {h : Hp} {l0 : Option Nat} {l1 : Int32} {l2 : Int32} (he : fX5_best N h l0 l1 l2 = some out) : AW Γ 6 h sz 0 0 0 [(0, .inr l0), (1, .inl l1), (2, .inl l2)] [] := by
  unfold fX5_best at he
  refine aw_aload_n C dX5_best_0 rfl (j := 0) rfl ?_
  obtain ⟨v1, hv, he⟩ := ob he
  refine aw_gA C fk_X5_26 dX5_best_1 hv ?_
  refine aw_iload_n C dX5_best_4 rfl (j := 1) rfl ?_
  obtain ⟨hO, he⟩ := ifs he
  obtain ⟨v5, hv, he⟩ := ob he
  refine aw_callV (ci := 0) C mb_X5_126 ⟨q_409, q_410, rfl⟩ hO (cX0_hasPen_ _ _ _ _ hv) dX5_best_5 rfl (rest := []) rfl (cat_le _ (Nat.le_of_ble_eq_true rfl)) (Nat.le_of_ble_eq_true rfl) (Nat.le_of_ble_eq_true rfl) (Nat.le_of_ble_eq_true rfl) (st2 := [.int v5]) rfl ?_
  refine aw_if_eq (tgt := 20) C dX5_best_8 (by decide) (fun hc => ?_) (fun hc => ?_)
  · have he := ift hc he
    refine aw_iconst (v := -1) C dX5_best_20 (by decide) ?_
    have he := Option.some.inj he
    subst he
    exact aw_iret C X dX5_best_21 (by decide) (by decide)
  · have he := iff_ hc he
    refine aw_iload_n C dX5_best_11 rfl (j := 2) rfl ?_
    refine aw_iconst (v := 0) C dX5_best_12 (by decide) ?_
    refine aw_iconst (v := 1) C dX5_best_13 (by decide) ?_
    obtain ⟨v14, hv, he⟩ := ob he
    refine aw_callS C mb_X5_72 q_241 (cX5_within_ _ _ _ _ hv) dX5_best_14 rfl (rest := []) rfl (cat_le _ (Nat.le_of_ble_eq_true rfl)) (Nat.le_of_ble_eq_true rfl) (Nat.le_of_ble_eq_true rfl) (Nat.le_of_ble_eq_true rfl) (st2 := [.int v14]) rfl ?_
    refine aw_if_ne (tgt := 22) C dX5_best_17 (by decide) (fun hc => ?_) (fun hc => ?_)
    · have he := ift hc he
      refine aw_iconst (v := -1) C dX5_best_20 (by decide) ?_
      have he := Option.some.inj he
      subst he
      exact aw_iret C X dX5_best_21 (by decide) (by decide)
    · have he := iff_ hc he
      refine aw_aload_n C dX5_best_22 rfl (j := 0) rfl ?_
      obtain ⟨v23, hv, he⟩ := ob he
      refine aw_gI C fk_X5_68 dX5_best_23 hv ?_
      refine aw_if_ne (tgt := 33) C dX5_best_26 (by decide) (fun hc => ?_) (fun hc => ?_)
      · have he := ift hc he
        refine aw_aload_n C dX5_best_29 rfl (j := 0) rfl ?_
        obtain ⟨hO, he⟩ := ifs he
        obtain ⟨z30, hv, he⟩ := ob he
        refine aw_callV (ci := 5) C mb_X5_217 ⟨q_636, q_23, rfl⟩ hO (cX5_noteMostPetals_ _ _ _ _ hv) dX5_best_30 rfl (rest := []) rfl (cat_le _ (Nat.le_of_ble_eq_true rfl)) (Nat.le_of_ble_eq_true rfl) (Nat.le_of_ble_eq_true rfl) (Nat.le_of_ble_eq_true rfl) (st2 := []) rfl ?_
        exact wX5_best_j33 C X he
      · have he := iff_ hc he
        exact wX5_best_j33 C X he
theorem cX5_best_ (l : Launch) (D : va_G) (dA : Nat → ClassId) (base : Nat) {N : Nat} {h : Hp} {sz : Nat} {l0 : Option Nat} {l1 : Int32} {l2 : Int32} {out : Int32 × Hp} (he : fX5_best N h l0 l1 l2 = some out) : AM l D dA base yX5_best cX5_best 6 (some .int) 6 0 0 [.inr l0, .inl l1, .inl l2] h sz (some (.int out.1)) out.2 sz :=
  AM.of (by decide +kernel) (Nat.le_of_ble_eq_true rfl) rfl (fun Γ C X hn => wX5_best C X he)
set_option maxHeartbeats 4000000 in
set_option maxRecDepth 100000 in
theorem wX6_comesTwo_L3 {Γ : GG} (C : CX Γ cX6_comesTwo 6 RX6 0 0 0) {N : Nat} {sz : Nat} {α : Type} {out : α} {K56 : Hp → Option α} (k56 : ∀ (h : Hp), K56 h = some out → AW Γ 6 h sz 0 0 56 [] []) : ∀ (n : Nat) (h : Hp) (l0 : Option Nat) (l1 : Int32) (l2 : Int32) (l4 : Int32), fX6_comesTwo_L3 N K56 n h l0 l1 l2 l4 = some out → AW Γ 6 h sz 0 0 3 [(0, .inr l0), (1, .inl l1), (2, .inl l2), (4, .inl l4)] [] := by
  intro n
  induction n with
  | zero =>
    intro h l0 l1 l2 l4 he
    rw [fX6_comesTwo_L3] at he
    cases he
  | succ n ih =>
    intro h l0 l1 l2 l4 he
    rw [fX6_comesTwo_L3] at he
    refine aw_iload C dX6_comesTwo_3 (j := 3) rfl ?_
    refine aw_iload_n C dX6_comesTwo_5 rfl (j := 2) rfl ?_
    refine aw_ic_lt (tgt := 56) C dX6_comesTwo_6 (by decide) (fun hc => ?_) (fun hc => ?_)
    · have he := ift hc he
      refine aw_sub [] (lv' := []) rfl ?_
      exact k56 _ he
    · have he := iff_ hc he
      refine aw_aload_n C dX6_comesTwo_9 rfl (j := 0) rfl ?_
      obtain ⟨v10, hv, he⟩ := ob he
      refine aw_gA C fk_X6_49 dX6_comesTwo_10 hv ?_
      refine aw_iload C dX6_comesTwo_13 (j := 3) rfl ?_
      refine aw_iload_n C dX6_comesTwo_15 rfl (j := 2) rfl ?_
      refine aw_isub C dX6_comesTwo_16 ?_
      obtain ⟨v17, hv, he⟩ := ob he
      refine aw_iald C dX6_comesTwo_17 hv ?_
      refine aw_istore C dX6_comesTwo_18 (by decide) rfl (lv' := [(0, .inr l0), (1, .inl l1), (2, .inl l2), (4, .inl l4), (5, .inl v17)]) rfl ?_
      refine aw_iload C dX6_comesTwo_20 (j := 4) rfl ?_
      refine aw_if_lt (tgt := 50) C dX6_comesTwo_22 (by decide) (fun hc => ?_) (fun hc => ?_)
      · have he := ift hc he
        refine aw_iinc (y := -1) C dX6_comesTwo_50 (by decide) (j := 3) rfl (by decide) rfl (lv' := [(0, .inr l0), (1, .inl l1), (2, .inl l2), (4, .inl (l4 + (-1))), (5, .inl v17)]) rfl ?_
        refine aw_goto (tgt := 3) C dX6_comesTwo_53 (by decide) ?_
        refine aw_sub [0, 1, 2, 3] (lv' := [(0, .inr l0), (1, .inl l1), (2, .inl l2), (4, .inl (l4 + (-1)))]) rfl ?_
        exact ih _ _ _ _ _ he
      · have he := iff_ hc he
        refine aw_iload C dX6_comesTwo_25 (j := 4) rfl ?_
        refine aw_iload_n C dX6_comesTwo_27 rfl (j := 1) rfl ?_
        refine aw_iadd C dX6_comesTwo_28 ?_
        refine aw_aload_n C dX6_comesTwo_29 rfl (j := 0) rfl ?_
        obtain ⟨v30, hv, he⟩ := ob he
        refine aw_gA C fk_X6_49 dX6_comesTwo_30 hv ?_
        refine aw_iload C dX6_comesTwo_33 (j := 3) rfl ?_
        obtain ⟨v35, hv, he⟩ := ob he
        refine aw_iald C dX6_comesTwo_35 hv ?_
        refine aw_ic_le (tgt := 50) C dX6_comesTwo_36 (by decide) (fun hc => ?_) (fun hc => ?_)
        · have he := ift hc he
          refine aw_iinc (y := -1) C dX6_comesTwo_50 (by decide) (j := 3) rfl (by decide) rfl (lv' := [(0, .inr l0), (1, .inl l1), (2, .inl l2), (4, .inl (l4 + (-1))), (5, .inl v17)]) rfl ?_
          refine aw_goto (tgt := 3) C dX6_comesTwo_53 (by decide) ?_
          refine aw_sub [0, 1, 2, 3] (lv' := [(0, .inr l0), (1, .inl l1), (2, .inl l2), (4, .inl (l4 + (-1)))]) rfl ?_
          exact ih _ _ _ _ _ he
        · have he := iff_ hc he
          refine aw_aload_n C dX6_comesTwo_39 rfl (j := 0) rfl ?_
          obtain ⟨v40, hv, he⟩ := ob he
          refine aw_gA C fk_X6_49 dX6_comesTwo_40 hv ?_
          refine aw_iload C dX6_comesTwo_43 (j := 3) rfl ?_
          refine aw_iload C dX6_comesTwo_45 (j := 4) rfl ?_
          refine aw_iload_n C dX6_comesTwo_47 rfl (j := 1) rfl ?_
          refine aw_iadd C dX6_comesTwo_48 ?_
          obtain ⟨h49, hv, he⟩ := ob he
          refine aw_iast C dX6_comesTwo_49 hv ?_
          refine aw_iinc (y := -1) C dX6_comesTwo_50 (by decide) (j := 3) rfl (by decide) rfl (lv' := [(0, .inr l0), (1, .inl l1), (2, .inl l2), (4, .inl (l4 + (-1))), (5, .inl v17)]) rfl ?_
          refine aw_goto (tgt := 3) C dX6_comesTwo_53 (by decide) ?_
          refine aw_sub [0, 1, 2, 3] (lv' := [(0, .inr l0), (1, .inl l1), (2, .inl l2), (4, .inl (l4 + (-1)))]) rfl ?_
          exact ih _ _ _ _ _ he
set_option maxHeartbeats 4000000 in
set_option maxRecDepth 100000 in
theorem wX6_comesTwo {Γ : GG} (C : CX Γ cX6_comesTwo 6 RX6 0 0 0) {N : Nat} {sz : Nat} {out : Hp} (X : RX Γ none none out sz 0 0) {h : Hp} {l0 : Option Nat} {l1 : Int32} {l2 : Int32} {l3 : Int32} (he : fX6_comesTwo N h l0 l1 l2 l3 = some out) : AW Γ 6 h sz 0 0 0 [(0, .inr l0), (1, .inl l1), (2, .inl l2), (3, .inl l3)] [] := by
  unfold fX6_comesTwo at he
  refine aw_iload_n C dX6_comesTwo_0 rfl (j := 3) rfl ?_
  refine aw_istore C dX6_comesTwo_1 (by decide) rfl (lv' := [(0, .inr l0), (1, .inl l1), (2, .inl l2), (3, .inl l3), (4, .inl l3)]) rfl ?_
  refine aw_sub [0, 1, 2, 4] (lv' := [(0, .inr l0), (1, .inl l1), (2, .inl l2), (4, .inl l3)]) rfl ?_
  refine wX6_comesTwo_L3 C ?_ N _ _ _ _ _ he
  intro h he
  have he := Option.some.inj he
  subst he
  exact aw_vret C X dX6_comesTwo_56 (by decide) (by decide)
theorem cX6_comesTwo_ (l : Launch) (D : va_G) (dA : Nat → ClassId) (base : Nat) {N : Nat} {h : Hp} {sz : Nat} {l0 : Option Nat} {l1 : Int32} {l2 : Int32} {l3 : Int32} {out : Hp} (he : fX6_comesTwo N h l0 l1 l2 l3 = some out) : AM l D dA base yX6_comesTwo cX6_comesTwo 6 none 0 0 0 [.inr l0, .inl l1, .inl l2, .inl l3] h sz none out sz :=
  AM.of (by decide +kernel) (Nat.le_of_ble_eq_true rfl) rfl (fun Γ C X hn => wX6_comesTwo C X he)
set_option maxHeartbeats 4000000 in
set_option maxRecDepth 100000 in
theorem wX6_best_L28 {Γ : GG} (C : CX Γ cX6_best 5 RX6 4 0 0) {N : Nat} {sz : Nat} {α : Type} {out : α} {K48 : Hp → Option Nat → Int32 → Int32 → Option α} (k48 : ∀ (h : Hp) (l0 : Option Nat) (l1 : Int32) (l2 : Int32), K48 h l0 l1 l2 = some out → AW Γ 5 h sz 0 0 48 [(0, .inr l0), (1, .inl l1), (2, .inl l2)] []) : ∀ (n : Nat) (h : Hp) (l0 : Option Nat) (l1 : Int32) (l2 : Int32) (l3 : Int32), fX6_best_L28 N K48 n h l0 l1 l2 l3 = some out → AW Γ 5 h sz 0 0 28 [(0, .inr l0), (1, .inl l1), (2, .inl l2), (3, .inl l3)] [] := by
  intro n
  induction n with
  | zero =>
    intro h l0 l1 l2 l3 he
    rw [fX6_best_L28] at he
    cases he
  | succ n ih =>
    intro h l0 l1 l2 l3 he
    rw [fX6_best_L28] at he
    refine aw_iload_n C dX6_best_28 rfl (j := 3) rfl ?_
    refine aw_sipush (v := 999) C dX6_best_29 (by decide) ?_
    refine aw_ic_gt (tgt := 48) C dX6_best_32 (by decide) (fun hc => ?_) (fun hc => ?_)
    · have he := ift hc he
      refine aw_sub [0, 1, 2] (lv' := [(0, .inr l0), (1, .inl l1), (2, .inl l2)]) rfl ?_
      exact k48 _ _ _ _ he
    · have he := iff_ hc he
      refine aw_aload_n C dX6_best_35 rfl (j := 0) rfl ?_
      obtain ⟨v36, hv, he⟩ := ob he
      refine aw_gA C fk_X6_49 dX6_best_36 hv ?_
      refine aw_iload_n C dX6_best_39 rfl (j := 3) rfl ?_
      refine aw_iconst (v := -1) C dX6_best_40 (by decide) ?_
      obtain ⟨h41, hv, he⟩ := ob he
      refine aw_iast C dX6_best_41 hv ?_
      refine aw_iinc (y := 1) C dX6_best_42 (by decide) (j := 3) rfl (by decide) rfl (lv' := [(0, .inr l0), (1, .inl l1), (2, .inl l2), (3, .inl (l3 + 1))]) rfl ?_
      refine aw_goto (tgt := 28) C dX6_best_45 (by decide) ?_
      exact ih _ _ _ _ _ he
set_option maxHeartbeats 4000000 in
set_option maxRecDepth 100000 in
theorem wX6_best_L61 {Γ : GG} (C : CX Γ cX6_best 5 RX6 4 0 0) {N : Nat} {sz : Nat} {α : Type} {out : α} {K110 : Hp → Option Nat → Int32 → Int32 → Int32 → Option α} (k110 : ∀ (h : Hp) (l0 : Option Nat) (l1 : Int32) (l2 : Int32) (l3 : Int32), K110 h l0 l1 l2 l3 = some out → AW Γ 5 h sz 0 0 110 [(0, .inr l0), (1, .inl l1), (2, .inl l2), (3, .inl l3)] []) : ∀ (n : Nat) (h : Hp) (l0 : Option Nat) (l1 : Int32) (l2 : Int32) (l3 : Int32) (l4 : Int32), fX6_best_L61 N K110 n h l0 l1 l2 l3 l4 = some out → AW Γ 5 h sz 0 0 61 [(0, .inr l0), (1, .inl l1), (2, .inl l2), (3, .inl l3), (4, .inl l4)] [] := by
  intro n
  induction n with
  | zero =>
    intro h l0 l1 l2 l3 l4 he
    rw [fX6_best_L61] at he
    cases he
  | succ n ih =>
    intro h l0 l1 l2 l3 l4 he
    rw [fX6_best_L61] at he
    refine aw_iload C dX6_best_61 (j := 4) rfl ?_
    refine aw_aload_n C dX6_best_63 rfl (j := 0) rfl ?_
    obtain ⟨v64, hv, he⟩ := ob he
    refine aw_gI C fk_X6_66 dX6_best_64 hv ?_
    refine aw_ic_ge (tgt := 110) C dX6_best_67 (by decide) (fun hc => ?_) (fun hc => ?_)
    · have he := ift hc he
      refine aw_sub [0, 1, 2, 3] (lv' := [(0, .inr l0), (1, .inl l1), (2, .inl l2), (3, .inl l3)]) rfl ?_
      exact k110 _ _ _ _ _ he
    · have he := iff_ hc he
      refine aw_aload_n C dX6_best_70 rfl (j := 0) rfl ?_
      refine aw_iload_n C dX6_best_71 rfl (j := 3) rfl ?_
      refine aw_iload C dX6_best_72 (j := 4) rfl ?_
      obtain ⟨hO, he⟩ := ifs he
      obtain ⟨v74, hv, he⟩ := ob he
      refine aw_callV (ci := 6) C mb_X6_146 ⟨q_934, q_45, rfl⟩ hO (cX6_fits_ _ _ _ _ hv) dX6_best_74 rfl (rest := []) rfl (cat_le _ (Nat.le_of_ble_eq_true rfl)) (Nat.le_of_ble_eq_true rfl) (Nat.le_of_ble_eq_true rfl) (Nat.le_of_ble_eq_true rfl) (st2 := [.int v74]) rfl ?_
      refine aw_if_eq (tgt := 104) C dX6_best_77 (by decide) (fun hc => ?_) (fun hc => ?_)
      · have he := ift hc he
        refine aw_iinc (y := 1) C dX6_best_104 (by decide) (j := 4) rfl (by decide) rfl (lv' := [(0, .inr l0), (1, .inl l1), (2, .inl l2), (3, .inl l3), (4, .inl (l4 + 1))]) rfl ?_
        refine aw_goto (tgt := 61) C dX6_best_107 (by decide) ?_
        exact ih _ _ _ _ _ _ he
      · have he := iff_ hc he
        refine aw_aload_n C dX6_best_80 rfl (j := 0) rfl ?_
        refine aw_aload_n C dX6_best_81 rfl (j := 0) rfl ?_
        refine aw_iload_n C dX6_best_82 rfl (j := 3) rfl ?_
        refine aw_iload C dX6_best_83 (j := 4) rfl ?_
        obtain ⟨hO, he⟩ := ifs he
        obtain ⟨v85, hv, he⟩ := ob he
        refine aw_callV (ci := 6) C mb_X6_149 ⟨q_938, q_46, rfl⟩ hO (cX6_petalsOf_ _ _ _ _ hv) dX6_best_85 rfl (rest := [va_rf l0]) rfl (cat_le _ (Nat.le_of_ble_eq_true rfl)) (Nat.le_of_ble_eq_true rfl) (Nat.le_of_ble_eq_true rfl) (Nat.le_of_ble_eq_true rfl) (st2 := [.int v85, va_rf l0]) rfl ?_
        refine aw_aload_n C dX6_best_88 rfl (j := 0) rfl ?_
        refine aw_iload_n C dX6_best_89 rfl (j := 3) rfl ?_
        refine aw_iload C dX6_best_90 (j := 4) rfl ?_
        obtain ⟨hO, he⟩ := ifs he
        obtain ⟨v92, hv, he⟩ := ob he
        refine aw_callV (ci := 6) C mb_X6_152 ⟨q_953, q_49, rfl⟩ hO (cX6_longOf_ _ _ _ _ hv) dX6_best_92 rfl (rest := [.int v85, va_rf l0]) rfl (cat_le _ (Nat.le_of_ble_eq_true rfl)) (Nat.le_of_ble_eq_true rfl) (Nat.le_of_ble_eq_true rfl) (Nat.le_of_ble_eq_true rfl) (st2 := [.int v92, .int v85, va_rf l0]) rfl ?_
        refine aw_aload_n C dX6_best_95 rfl (j := 0) rfl ?_
        obtain ⟨v96, hv, he⟩ := ob he
        refine aw_gA C fk_X6_16 dX6_best_96 hv ?_
        refine aw_iload_n C dX6_best_99 rfl (j := 1) rfl ?_
        obtain ⟨v100, hv, he⟩ := ob he
        refine aw_iald C dX6_best_100 hv ?_
        obtain ⟨hO, he⟩ := ifs he
        obtain ⟨z101, hv, he⟩ := ob he
        refine aw_callV (ci := 6) C mb_X6_213 ⟨q_1077, q_67, rfl⟩ hO (cX6_comesTwo_ _ _ _ _ hv) dX6_best_101 rfl (rest := []) rfl (cat_le _ (Nat.le_of_ble_eq_true rfl)) (Nat.le_of_ble_eq_true rfl) (Nat.le_of_ble_eq_true rfl) (Nat.le_of_ble_eq_true rfl) (st2 := []) rfl ?_
        refine aw_iinc (y := 1) C dX6_best_104 (by decide) (j := 4) rfl (by decide) rfl (lv' := [(0, .inr l0), (1, .inl l1), (2, .inl l2), (3, .inl l3), (4, .inl (l4 + 1))]) rfl ?_
        refine aw_goto (tgt := 61) C dX6_best_107 (by decide) ?_
        exact ih _ _ _ _ _ _ he
set_option maxHeartbeats 4000000 in
set_option maxRecDepth 100000 in
theorem wX6_best_L50 {Γ : GG} (C : CX Γ cX6_best 5 RX6 4 0 0) {N : Nat} {sz : Nat} {α : Type} {out : α} {K116 : Hp → Option Nat → Int32 → Int32 → Option α} (k116 : ∀ (h : Hp) (l0 : Option Nat) (l1 : Int32) (l2 : Int32), K116 h l0 l1 l2 = some out → AW Γ 5 h sz 0 0 116 [(0, .inr l0), (1, .inl l1), (2, .inl l2)] []) : ∀ (n : Nat) (h : Hp) (l0 : Option Nat) (l1 : Int32) (l2 : Int32) (l3 : Int32), fX6_best_L50 N K116 n h l0 l1 l2 l3 = some out → AW Γ 5 h sz 0 0 50 [(0, .inr l0), (1, .inl l1), (2, .inl l2), (3, .inl l3)] [] := by
  intro n
  induction n with
  | zero =>
    intro h l0 l1 l2 l3 he
    rw [fX6_best_L50] at he
    cases he
  | succ n ih =>
    intro h l0 l1 l2 l3 he
    rw [fX6_best_L50] at he
    refine aw_iload_n C dX6_best_50 rfl (j := 3) rfl ?_
    refine aw_aload_n C dX6_best_51 rfl (j := 0) rfl ?_
    obtain ⟨v52, hv, he⟩ := ob he
    refine aw_gI C fk_X6_58 dX6_best_52 hv ?_
    refine aw_ic_ge (tgt := 116) C dX6_best_55 (by decide) (fun hc => ?_) (fun hc => ?_)
    · have he := ift hc he
      refine aw_sub [0, 1, 2] (lv' := [(0, .inr l0), (1, .inl l1), (2, .inl l2)]) rfl ?_
      exact k116 _ _ _ _ he
    · have he := iff_ hc he
      refine aw_iconst (v := 0) C dX6_best_58 (by decide) ?_
      refine aw_istore C dX6_best_59 (by decide) rfl (lv' := [(0, .inr l0), (1, .inl l1), (2, .inl l2), (3, .inl l3), (4, .inl (0 : Int32))]) rfl ?_
      refine wX6_best_L61 C ?_ N _ _ _ _ _ _ he
      intro h l0 l1 l2 l3 he
      refine aw_iinc (y := 1) C dX6_best_110 (by decide) (j := 3) rfl (by decide) rfl (lv' := [(0, .inr l0), (1, .inl l1), (2, .inl l2), (3, .inl (l3 + 1))]) rfl ?_
      refine aw_goto (tgt := 50) C dX6_best_113 (by decide) ?_
      exact ih _ _ _ _ _ he
set_option maxHeartbeats 4000000 in
set_option maxRecDepth 100000 in
theorem wX6_best_L121 {Γ : GG} (C : CX Γ cX6_best 5 RX6 4 0 0) {N : Nat} {sz : Nat} {α : Type} {out : α} {K161 : Hp → Option Nat → Int32 → Int32 → Option α} (k161 : ∀ (h : Hp) (l0 : Option Nat) (l2 : Int32) (l3 : Int32), K161 h l0 l2 l3 = some out → AW Γ 5 h sz 0 0 161 [(0, .inr l0), (2, .inl l2), (3, .inl l3)] []) : ∀ (n : Nat) (h : Hp) (l0 : Option Nat) (l1 : Int32) (l2 : Int32) (l3 : Int32) (l4 : Int32), fX6_best_L121 N K161 n h l0 l1 l2 l3 l4 = some out → AW Γ 5 h sz 0 0 121 [(0, .inr l0), (1, .inl l1), (2, .inl l2), (3, .inl l3), (4, .inl l4)] [] := by
  intro n
  induction n with
  | zero =>
    intro h l0 l1 l2 l3 l4 he
    rw [fX6_best_L121] at he
    cases he
  | succ n ih =>
    intro h l0 l1 l2 l3 l4 he
    rw [fX6_best_L121] at he
    refine aw_iload C dX6_best_121 (j := 4) rfl ?_
    refine aw_aload_n C dX6_best_123 rfl (j := 0) rfl ?_
    obtain ⟨v124, hv, he⟩ := ob he
    refine aw_gA C fk_X6_16 dX6_best_124 hv ?_
    refine aw_iload_n C dX6_best_127 rfl (j := 1) rfl ?_
    obtain ⟨v128, hv, he⟩ := ob he
    refine aw_iald C dX6_best_128 hv ?_
    refine aw_ic_gt (tgt := 161) C dX6_best_129 (by decide) (fun hc => ?_) (fun hc => ?_)
    · have he := ift hc he
      refine aw_sub [0, 2, 3] (lv' := [(0, .inr l0), (2, .inl l2), (3, .inl l3)]) rfl ?_
      exact k161 _ _ _ _ he
    · have he := iff_ hc he
      refine aw_aload_n C dX6_best_132 rfl (j := 0) rfl ?_
      obtain ⟨v133, hv, he⟩ := ob he
      refine aw_gA C fk_X6_49 dX6_best_133 hv ?_
      refine aw_iload C dX6_best_136 (j := 4) rfl ?_
      obtain ⟨v138, hv, he⟩ := ob he
      refine aw_iald C dX6_best_138 hv ?_
      refine aw_aload_n C dX6_best_139 rfl (j := 0) rfl ?_
      obtain ⟨v140, hv, he⟩ := ob he
      refine aw_gA C fk_X6_49 dX6_best_140 hv ?_
      refine aw_iload_n C dX6_best_143 rfl (j := 3) rfl ?_
      obtain ⟨v144, hv, he⟩ := ob he
      refine aw_iald C dX6_best_144 hv ?_
      refine aw_ic_le (tgt := 153) C dX6_best_145 (by decide) (fun hc => ?_) (fun hc => ?_)
      · have he := ift hc he
        refine aw_iload_n C dX6_best_153 rfl (j := 3) rfl ?_
        refine aw_istore_n C dX6_best_154 rfl (by decide) rfl (lv' := [(0, .inr l0), (1, .inl l1), (2, .inl l2), (3, .inl l3), (4, .inl l4)]) rfl ?_
        refine aw_iinc (y := 1) C dX6_best_155 (by decide) (j := 4) rfl (by decide) rfl (lv' := [(0, .inr l0), (1, .inl l1), (2, .inl l2), (3, .inl l3), (4, .inl (l4 + 1))]) rfl ?_
        refine aw_goto (tgt := 121) C dX6_best_158 (by decide) ?_
        exact ih _ _ _ _ _ _ he
      · have he := iff_ hc he
        refine aw_iload C dX6_best_148 (j := 4) rfl ?_
        refine aw_goto (tgt := 154) C dX6_best_150 (by decide) ?_
        refine aw_istore_n C dX6_best_154 rfl (by decide) rfl (lv' := [(0, .inr l0), (1, .inl l1), (2, .inl l2), (3, .inl l4), (4, .inl l4)]) rfl ?_
        refine aw_iinc (y := 1) C dX6_best_155 (by decide) (j := 4) rfl (by decide) rfl (lv' := [(0, .inr l0), (1, .inl l1), (2, .inl l2), (3, .inl l4), (4, .inl (l4 + 1))]) rfl ?_
        refine aw_goto (tgt := 121) C dX6_best_158 (by decide) ?_
        exact ih _ _ _ _ _ _ he
set_option maxHeartbeats 4000000 in
set_option maxRecDepth 100000 in
theorem wX6_best {Γ : GG} (C : CX Γ cX6_best 5 RX6 4 0 0) {N : Nat} {sz : Nat} {out : Int32 × Hp} (X : RX Γ (some .int) (some (.int out.1)) out.2 sz 0 0) {h : Hp} {l0 : Option Nat} {l1 : Int32} {l2 : Int32} (he : fX6_best N h l0 l1 l2 = some out) : AW Γ 5 h sz 0 0 0 [(0, .inr l0), (1, .inl l1), (2, .inl l2)] [] := by
  unfold fX6_best at he
  refine aw_aload_n C dX6_best_0 rfl (j := 0) rfl ?_
  refine aw_iload_n C dX6_best_1 rfl (j := 1) rfl ?_
  obtain ⟨hO, he⟩ := ifs he
  obtain ⟨v2, hv, he⟩ := ob he
  refine aw_callV (ci := 6) C mb_X6_171 ⟨q_961, q_50, rfl⟩ hO (cX6_isPen_ _ _ _ _ hv) dX6_best_2 rfl (rest := []) rfl (cat_le _ (Nat.le_of_ble_eq_true rfl)) (Nat.le_of_ble_eq_true rfl) (Nat.le_of_ble_eq_true rfl) (Nat.le_of_ble_eq_true rfl) (st2 := [.int v2]) rfl ?_
  refine aw_if_eq (tgt := 17) C dX6_best_5 (by decide) (fun hc => ?_) (fun hc => ?_)
  · have he := ift hc he
    refine aw_iconst (v := -1) C dX6_best_17 (by decide) ?_
    have he := Option.some.inj he
    subst he
    exact aw_iret C X dX6_best_18 (by decide) (by decide)
  · have he := iff_ hc he
    refine aw_iload_n C dX6_best_8 rfl (j := 2) rfl ?_
    refine aw_iconst (v := 0) C dX6_best_9 (by decide) ?_
    refine aw_iconst (v := 1) C dX6_best_10 (by decide) ?_
    obtain ⟨v11, hv, he⟩ := ob he
    refine aw_callS C mb_X6_62 q_874 (cX6_in_ _ _ _ _ hv) dX6_best_11 rfl (rest := []) rfl (cat_le _ (Nat.le_of_ble_eq_true rfl)) (Nat.le_of_ble_eq_true rfl) (Nat.le_of_ble_eq_true rfl) (Nat.le_of_ble_eq_true rfl) (st2 := [.int v11]) rfl ?_
    refine aw_if_ne (tgt := 19) C dX6_best_14 (by decide) (fun hc => ?_) (fun hc => ?_)
    · have he := ift hc he
      refine aw_iconst (v := -1) C dX6_best_17 (by decide) ?_
      have he := Option.some.inj he
      subst he
      exact aw_iret C X dX6_best_18 (by decide) (by decide)
    · have he := iff_ hc he
      refine aw_aload_n C dX6_best_19 rfl (j := 0) rfl ?_
      obtain ⟨v20, hv, he⟩ := ob he
      refine aw_gA C fk_X6_49 dX6_best_20 hv ?_
      refine aw_iconst (v := 0) C dX6_best_23 (by decide) ?_
      refine aw_iconst (v := 0) C dX6_best_24 (by decide) ?_
      obtain ⟨h25, hv, he⟩ := ob he
      refine aw_iast C dX6_best_25 hv ?_
      refine aw_iconst (v := 1) C dX6_best_26 (by decide) ?_
      refine aw_istore_n C dX6_best_27 rfl (by decide) rfl (lv' := [(0, .inr l0), (1, .inl l1), (2, .inl l2), (3, .inl (1 : Int32))]) rfl ?_
      refine wX6_best_L28 C ?_ N _ _ _ _ _ he
      intro h l0 l1 l2 he
      refine aw_iconst (v := 0) C dX6_best_48 (by decide) ?_
      refine aw_istore_n C dX6_best_49 rfl (by decide) rfl (lv' := [(0, .inr l0), (1, .inl l1), (2, .inl l2), (3, .inl (0 : Int32))]) rfl ?_
      refine wX6_best_L50 C ?_ N _ _ _ _ _ he
      intro h l0 l1 l2 he
      refine aw_iconst (v := 0) C dX6_best_116 (by decide) ?_
      refine aw_istore_n C dX6_best_117 rfl (by decide) rfl (lv' := [(0, .inr l0), (1, .inl l1), (2, .inl l2), (3, .inl (0 : Int32))]) rfl ?_
      refine aw_iconst (v := 1) C dX6_best_118 (by decide) ?_
      refine aw_istore C dX6_best_119 (by decide) rfl (lv' := [(0, .inr l0), (1, .inl l1), (2, .inl l2), (3, .inl (0 : Int32)), (4, .inl (1 : Int32))]) rfl ?_
      refine wX6_best_L121 C ?_ N _ _ _ _ _ _ he
      intro h l0 l2 l3 he
      refine aw_iload_n C dX6_best_161 rfl (j := 1) rfl ?_
      refine aw_if_ne (tgt := 174) C dX6_best_162 (by decide) (fun hc => ?_) (fun hc => ?_)
      · have he := ift hc he
        refine aw_aload_n C dX6_best_165 rfl (j := 0) rfl ?_
        obtain ⟨v166, hv, he⟩ := ob he
        refine aw_gA C fk_X6_49 dX6_best_166 hv ?_
        refine aw_iload_n C dX6_best_169 rfl (j := 2) rfl ?_
        obtain ⟨v170, hv, he⟩ := ob he
        refine aw_iald C dX6_best_170 hv ?_
        refine aw_goto (tgt := 175) C dX6_best_171 (by decide) ?_
        have he := Option.some.inj he
        subst he
        exact aw_iret C X dX6_best_175 (by decide) (by decide)
      · have he := iff_ hc he
        refine aw_iload_n C dX6_best_174 rfl (j := 2) rfl ?_
        have he := Option.some.inj he
        subst he
        exact aw_iret C X dX6_best_175 (by decide) (by decide)
theorem cX6_best_ (l : Launch) (D : va_G) (dA : Nat → ClassId) (base : Nat) {N : Nat} {h : Hp} {sz : Nat} {l0 : Option Nat} {l1 : Int32} {l2 : Int32} {out : Int32 × Hp} (he : fX6_best N h l0 l1 l2 = some out) : AM l D dA base yX6_best cX6_best 5 (some .int) 4 0 0 [.inr l0, .inl l1, .inl l2] h sz (some (.int out.1)) out.2 sz :=
  AM.of (by decide +kernel) (Nat.le_of_ble_eq_true rfl) rfl (fun Γ C X hn => wX6_best C X he)
