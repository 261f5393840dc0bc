set_option maxHeartbeats 4000000 in
set_option maxRecDepth 100000 in
theorem wX6_isCurve {Γ : GG} (C : CX Γ cX6_isCurve 2 RX6 1 0 0) {N : Nat} {sz : Nat} {h : Hp} {out : Int32} (X : RX Γ (some .boolean) (some (.int out)) h sz 0 0) {l0 : Option Nat} {l1 : Int32} (he : fX6_isCurve N h l0 l1 = some out) : AW Γ 2 h sz 0 0 0 [(0, .inr l0), (1, .inl l1)] [] := by
  unfold fX6_isCurve at he
  refine aw_iload_n C dX6_isCurve_0 rfl (j := 1) rfl ?_
  refine aw_iconst (v := 0) C dX6_isCurve_1 (by decide) ?_
  refine aw_aload_n C dX6_isCurve_2 rfl (j := 0) rfl ?_
  obtain ⟨v3, hv, he⟩ := ob he
  refine aw_gI C fk_X6_72 dX6_isCurve_3 hv ?_
  refine aw_iconst (v := 1) C dX6_isCurve_6 (by decide) ?_
  refine aw_isub C dX6_isCurve_7 ?_
  obtain ⟨v8, hv, he⟩ := ob he
  refine aw_callS C mb_X6_62 q_874 (cX6_in_ _ _ _ _ hv) dX6_isCurve_8 rfl (rest := []) rfl (cat_le _ (Nat.le_of_ble_eq_true rfl)) (Nat.le_of_ble_eq_true rfl) (Nat.le_of_ble_eq_true rfl) (Nat.le_of_ble_eq_true rfl) (st2 := [.int v8]) rfl ?_
  obtain ⟨hz, he⟩ := ifs he
  have he := Option.some.inj he
  subst he
  exact aw_zret C X hz dX6_isCurve_11 (by decide) (by decide)
theorem cX6_isCurve_ (l : Launch) (D : va_G) (dA : Nat → ClassId) (base : Nat) {N : Nat} {h : Hp} {sz : Nat} {l0 : Option Nat} {l1 : Int32} {out : Int32} (he : fX6_isCurve N h l0 l1 = some out) : AM l D dA base yX6_isCurve cX6_isCurve 2 (some .boolean) 1 0 0 [.inr l0, .inl l1] h sz (some (.int out)) h sz :=
  AM.of (by decide +kernel) (Nat.le_of_ble_eq_true rfl) rfl (fun Γ C X hn => wX6_isCurve C X he)
set_option maxHeartbeats 4000000 in
set_option maxRecDepth 100000 in
theorem wX6_curveShown_L4 {Γ : GG} (C : CX Γ cX6_curveShown 4 RX6 4 0 0) {N : Nat} {sz : Nat} {h : Hp} {α : Type} {out : α} {K45 : Int32 → Option α} (k45 : ∀ (l2 : Int32), K45 l2 = some out → AW Γ 4 h sz 0 0 45 [(2, .inl l2)] []) : ∀ (n : Nat) (l0 : Option Nat) (l1 : Int32) (l2 : Int32) (l3 : Int32), fX6_curveShown_L4 N h K45 n l0 l1 l2 l3 = some out → AW Γ 4 h sz 0 0 4 [(0, .inr l0), (1, .inl l1), (2, .inl l2), (3, .inl l3)] [] := by
  intro n
  induction n with
  | zero =>
    intro l0 l1 l2 l3 he
    rw [fX6_curveShown_L4] at he
    cases he
  | succ n ih =>
    intro l0 l1 l2 l3 he
    rw [fX6_curveShown_L4] at he
    refine aw_iload_n C dX6_curveShown_4 rfl (j := 3) rfl ?_
    refine aw_sipush (v := 360) C dX6_curveShown_5 (by decide) ?_
    refine aw_ic_ge (tgt := 45) C dX6_curveShown_8 (by decide) (fun hc => ?_) (fun hc => ?_)
    · have he := ift hc he
      refine aw_sub [2] (lv' := [(2, .inl l2)]) rfl ?_
      exact k45 _ he
    · have he := iff_ hc he
      refine aw_iload_n C dX6_curveShown_11 rfl (j := 2) rfl ?_
      refine aw_aload_n C dX6_curveShown_12 rfl (j := 0) rfl ?_
      refine aw_iload_n C dX6_curveShown_13 rfl (j := 3) rfl ?_
      refine aw_aload_n C dX6_curveShown_14 rfl (j := 0) rfl ?_
      obtain ⟨v15, hv, he⟩ := ob he
      refine aw_gA C fk_X6_19 dX6_curveShown_15 hv ?_
      refine aw_bipush (v := 6) C dX6_curveShown_18 (by decide) ?_
      refine aw_iload_n C dX6_curveShown_20 rfl (j := 1) rfl ?_
      refine aw_imul C dX6_curveShown_21 ?_
      refine aw_iconst (v := 2) C dX6_curveShown_22 (by decide) ?_
      refine aw_iadd C dX6_curveShown_23 ?_
      obtain ⟨v24, hv, he⟩ := ob he
      refine aw_iald C dX6_curveShown_24 hv ?_
      obtain ⟨hO, he⟩ := ifs he
      obtain ⟨v25, hv, he⟩ := ob he
      refine aw_callV (ci := 6) C mb_X6_165 ⟨q_973, q_53, rfl⟩ hO (cX6_shownAt_ _ _ _ _ hv) dX6_curveShown_25 rfl (rest := [.int l2]) rfl (cat_le _ (Nat.le_of_ble_eq_true rfl)) (Nat.le_of_ble_eq_true rfl) (Nat.le_of_ble_eq_true rfl) (Nat.le_of_ble_eq_true rfl) (st2 := [.int v25, .int l2]) rfl ?_
      refine aw_iload_n C dX6_curveShown_28 rfl (j := 1) rfl ?_
      refine aw_ic_ne (tgt := 36) C dX6_curveShown_29 (by decide) (fun hc => ?_) (fun hc => ?_)
      · have he := ift hc he
        refine aw_iconst (v := 1) C dX6_curveShown_32 (by decide) ?_
        refine aw_goto (tgt := 37) C dX6_curveShown_33 (by decide) ?_
        refine aw_iadd C dX6_curveShown_37 ?_
        refine aw_istore_n C dX6_curveShown_38 rfl (by decide) rfl (lv' := [(0, .inr l0), (1, .inl l1), (2, .inl (l2 + (1 : Int32))), (3, .inl l3)]) rfl ?_
        refine aw_iinc (y := 1) C dX6_curveShown_39 (by decide) (j := 3) rfl (by decide) rfl (lv' := [(0, .inr l0), (1, .inl l1), (2, .inl (l2 + (1 : Int32))), (3, .inl (l3 + 1))]) rfl ?_
        refine aw_goto (tgt := 4) C dX6_curveShown_42 (by decide) ?_
        exact ih _ _ _ _ he
      · have he := iff_ hc he
        refine aw_iconst (v := 0) C dX6_curveShown_36 (by decide) ?_
        refine aw_iadd C dX6_curveShown_37 ?_
        refine aw_istore_n C dX6_curveShown_38 rfl (by decide) rfl (lv' := [(0, .inr l0), (1, .inl l1), (2, .inl (l2 + (0 : Int32))), (3, .inl l3)]) rfl ?_
        refine aw_iinc (y := 1) C dX6_curveShown_39 (by decide) (j := 3) rfl (by decide) rfl (lv' := [(0, .inr l0), (1, .inl l1), (2, .inl (l2 + (0 : Int32))), (3, .inl (l3 + 1))]) rfl ?_
        refine aw_goto (tgt := 4) C dX6_curveShown_42 (by decide) ?_
        exact ih _ _ _ _ he
set_option maxHeartbeats 4000000 in
set_option maxRecDepth 100000 in
theorem wX6_curveShown {Γ : GG} (C : CX Γ cX6_curveShown 4 RX6 4 0 0) {N : Nat} {sz : Nat} {h : Hp} {out : Int32} (X : RX Γ (some .int) (some (.int out)) h sz 0 0) {l0 : Option Nat} {l1 : Int32} (he : fX6_curveShown N h l0 l1 = some out) : AW Γ 4 h sz 0 0 0 [(0, .inr l0), (1, .inl l1)] [] := by
  unfold fX6_curveShown at he
  refine aw_iconst (v := 0) C dX6_curveShown_0 (by decide) ?_
  refine aw_istore_n C dX6_curveShown_1 rfl (by decide) rfl (lv' := [(0, .inr l0), (1, .inl l1), (2, .inl (0 : Int32))]) rfl ?_
  refine aw_iconst (v := 0) C dX6_curveShown_2 (by decide) ?_
  refine aw_istore_n C dX6_curveShown_3 rfl (by decide) rfl (lv' := [(0, .inr l0), (1, .inl l1), (2, .inl (0 : Int32)), (3, .inl (0 : Int32))]) rfl ?_
  refine wX6_curveShown_L4 C ?_ N _ _ _ _ he
  intro l2 he
  refine aw_iload_n C dX6_curveShown_45 rfl (j := 0) rfl ?_
  have he := Option.some.inj he
  subst he
  exact aw_iret C X dX6_curveShown_46 (by decide) (by decide)
theorem cX6_curveShown_ (l : Launch) (D : va_G) (dA : Nat → ClassId) (base : Nat) {N : Nat} {h : Hp} {sz : Nat} {l0 : Option Nat} {l1 : Int32} {out : Int32} (he : fX6_curveShown N h l0 l1 = some out) : AM l D dA base yX6_curveShown cX6_curveShown 4 (some .int) 4 0 0 [.inr l0, .inl l1] h sz (some (.int out)) h sz :=
  AM.of (by decide +kernel) (Nat.le_of_ble_eq_true rfl) rfl (fun Γ C X hn => wX6_curveShown C X he)
set_option maxHeartbeats 4000000 in
set_option maxRecDepth 100000 in
theorem wX6_curve {Γ : GG} (C : CX Γ cX6_curve 3 RX6 5 0 0) {N : Nat} {sz : Nat} {h : Hp} {out : Int32} (X : RX Γ (some .int) (some (.int out)) h sz 0 0) {l0 : Option Nat} {l1 : Int32} {l2 : Int32} (he : fX6_curve N h l0 l1 l2 = some out) : AW Γ 3 h sz 0 0 0 [(0, .inr l0), (1, .inl l1), (2, .inl l2)] [] := by
  unfold fX6_curve at he
  refine aw_aload_n C dX6_curve_0 rfl (j := 0) rfl ?_
  refine aw_iload_n C dX6_curve_1 rfl (j := 1) rfl ?_
  obtain ⟨hO, he⟩ := ifs he
  obtain ⟨v2, hv, he⟩ := ob he
  refine aw_callV (ci := 6) C mb_X6_178 ⟨q_992, q_56, rfl⟩ hO (cX6_isCurve_ _ _ _ _ hv) dX6_curve_2 rfl (rest := []) rfl (cat_le _ (Nat.le_of_ble_eq_true rfl)) (Nat.le_of_ble_eq_true rfl) (Nat.le_of_ble_eq_true rfl) (Nat.le_of_ble_eq_true rfl) (st2 := [.int v2]) rfl ?_
  refine aw_if_eq (tgt := 18) C dX6_curve_5 (by decide) (fun hc => ?_) (fun hc => ?_)
  · have he := ift hc he
    refine aw_iconst (v := -1) C dX6_curve_18 (by decide) ?_
    have he := Option.some.inj he
    subst he
    exact aw_iret C X dX6_curve_19 (by decide) (by decide)
  · have he := iff_ hc he
    refine aw_iload_n C dX6_curve_8 rfl (j := 2) rfl ?_
    refine aw_iconst (v := 0) C dX6_curve_9 (by decide) ?_
    refine aw_bipush (v := 6) C dX6_curve_10 (by decide) ?_
    obtain ⟨v12, hv, he⟩ := ob he
    refine aw_callS C mb_X6_62 q_874 (cX6_in_ _ _ _ _ hv) dX6_curve_12 rfl (rest := []) rfl (cat_le _ (Nat.le_of_ble_eq_true rfl)) (Nat.le_of_ble_eq_true rfl) (Nat.le_of_ble_eq_true rfl) (Nat.le_of_ble_eq_true rfl) (st2 := [.int v12]) rfl ?_
    refine aw_if_ne (tgt := 20) C dX6_curve_15 (by decide) (fun hc => ?_) (fun hc => ?_)
    · have he := ift hc he
      refine aw_iconst (v := -1) C dX6_curve_18 (by decide) ?_
      have he := Option.some.inj he
      subst he
      exact aw_iret C X dX6_curve_19 (by decide) (by decide)
    · have he := iff_ hc he
      refine aw_iload_n C dX6_curve_20 rfl (j := 2) rfl ?_
      refine aw_bipush (v := 6) C dX6_curve_21 (by decide) ?_
      refine aw_ic_ge (tgt := 40) C dX6_curve_23 (by decide) (fun hc => ?_) (fun hc => ?_)
      · have he := ift hc he
        refine aw_aload_n C dX6_curve_40 rfl (j := 0) rfl ?_
        refine aw_iload_n C dX6_curve_41 rfl (j := 1) rfl ?_
        obtain ⟨hO, he⟩ := ifs he
        obtain ⟨v42, hv, he⟩ := ob he
        refine aw_callV (ci := 6) C mb_X6_181 ⟨q_996, q_57, rfl⟩ hO (cX6_curveShown_ _ _ _ _ hv) dX6_curve_42 rfl (rest := []) rfl (cat_le _ (Nat.le_of_ble_eq_true rfl)) (Nat.le_of_ble_eq_true rfl) (Nat.le_of_ble_eq_true rfl) (Nat.le_of_ble_eq_true rfl) (st2 := [.int v42]) rfl ?_
        have he := Option.some.inj he
        subst he
        exact aw_iret C X dX6_curve_45 (by decide) (by decide)
      · have he := iff_ hc he
        refine aw_aload_n C dX6_curve_26 rfl (j := 0) rfl ?_
        obtain ⟨v27, hv, he⟩ := ob he
        refine aw_gA C fk_X6_19 dX6_curve_27 hv ?_
        refine aw_bipush (v := 6) C dX6_curve_30 (by decide) ?_
        refine aw_iload_n C dX6_curve_32 rfl (j := 1) rfl ?_
        refine aw_imul C dX6_curve_33 ?_
        refine aw_iload_n C dX6_curve_34 rfl (j := 2) rfl ?_
        refine aw_iadd C dX6_curve_35 ?_
        obtain ⟨v36, hv, he⟩ := ob he
        refine aw_iald C dX6_curve_36 hv ?_
        refine aw_goto (tgt := 45) C dX6_curve_37 (by decide) ?_
        have he := Option.some.inj he
        subst he
        exact aw_iret C X dX6_curve_45 (by decide) (by decide)
theorem cX6_curve_ (l : Launch) (D : va_G) (dA : Nat → ClassId) (base : Nat) {N : Nat} {h : Hp} {sz : Nat} {l0 : Option Nat} {l1 : Int32} {l2 : Int32} {out : Int32} (he : fX6_curve N h l0 l1 l2 = some out) : AM l D dA base yX6_curve cX6_curve 3 (some .int) 5 0 0 [.inr l0, .inl l1, .inl l2] h sz (some (.int out)) h sz :=
  AM.of (by decide +kernel) (Nat.le_of_ble_eq_true rfl) rfl (fun Γ C X hn => wX6_curve C X he)
set_option maxHeartbeats 4000000 in
set_option maxRecDepth 100000 in
theorem wX0_stepOf {Γ : GG} (C : CX Γ cX0_stepOf 2 RX0 2 0 0) {N : Nat} {sz : Nat} {h : Hp} {out : Int32} (X : RX Γ (some .int) (some (.int out)) h sz 0 0) {l0 : Option Nat} {l1 : Int32} (he : fX0_stepOf N h l0 l1 = some out) : AW Γ 2 h sz 0 0 0 [(0, .inr l0), (1, .inl l1)] [] := by
  unfold fX0_stepOf at he
  refine aw_sipush (v := 360) C dX0_stepOf_0 (by decide) ?_
  refine aw_aload_n C dX0_stepOf_3 rfl (j := 0) rfl ?_
  refine aw_iload_n C dX0_stepOf_4 rfl (j := 1) rfl ?_
  obtain ⟨hO, he⟩ := ifs he
  obtain ⟨v5, hv, he⟩ := ob he
  refine aw_callV (ci := 0) C mb_X0_65 ⟨q_358, q_359, rfl⟩ hO (cX0_teethOf_ _ _ _ _ hv) dX0_stepOf_5 rfl (rest := [.int (360 : Int32)]) rfl (cat_le _ (Nat.le_of_ble_eq_true rfl)) (Nat.le_of_ble_eq_true rfl) (Nat.le_of_ble_eq_true rfl) (Nat.le_of_ble_eq_true rfl) (st2 := [.int v5, .int (360 : Int32)]) rfl ?_
  obtain ⟨v8, hv, he⟩ := ob he
  refine aw_callS C mb_X0_74 q_393 (cX5_part_ _ _ _ _ hv) dX0_stepOf_8 rfl (rest := []) rfl (cat_le _ (Nat.le_of_ble_eq_true rfl)) (Nat.le_of_ble_eq_true rfl) (Nat.le_of_ble_eq_true rfl) (Nat.le_of_ble_eq_true rfl) (st2 := [.int v8]) rfl ?_
  have he := Option.some.inj he
  subst he
  exact aw_iret C X dX0_stepOf_11 (by decide) (by decide)
theorem cX0_stepOf_ (l : Launch) (D : va_G) (dA : Nat → ClassId) (base : Nat) {N : Nat} {h : Hp} {sz : Nat} {l0 : Option Nat} {l1 : Int32} {out : Int32} (he : fX0_stepOf N h l0 l1 = some out) : AM l D dA base yX0_stepOf cX0_stepOf 2 (some .int) 2 0 0 [.inr l0, .inl l1] h sz (some (.int out)) h sz :=
  AM.of (by decide +kernel) (Nat.le_of_ble_eq_true rfl) rfl (fun Γ C X hn => wX0_stepOf C X he)
set_option maxHeartbeats 4000000 in
set_option maxRecDepth 100000 in
theorem wX1_init {Γ : GG} (C : CX Γ cX1_init 8 RX1 4 0 0) {N : Nat} {sz : Nat} {out : Hp} (X : RX Γ none none out sz 0 0) (hin : (g_t Γ).name = "<init>") {h : Hp} {l0 : Option Nat} {l1 : Option Nat} {l2 : Int32} {l3 : Int32} {l4 : Int32} {l5 : Int32} {l6 : Int32} {l7 : Int32} (he : fX1_init N h l0 l1 l2 l3 l4 l5 l6 l7 = some out) : AW Γ 8 h sz 0 0 0 [(0, .inr l0), (1, .inr l1), (2, .inl l2), (3, .inl l3), (4, .inl l4), (5, .inl l5), (6, .inl l6), (7, .inl l7)] [] := by
  unfold fX1_init at he
  refine aw_aload_n C dX1_init_0 rfl (j := 0) rfl ?_
  obtain ⟨hy, he⟩ := ifn he
  refine aw_objInit C q_465 q_89 q_90 (Nat.le_of_ble_eq_true rfl) (Nat.le_of_ble_eq_true rfl) hy dX1_init_1 ?_
  refine aw_aload_n C dX1_init_4 rfl (j := 0) rfl ?_
  refine aw_iload_n C dX1_init_5 rfl (j := 2) rfl ?_
  obtain ⟨h6, hv, he⟩ := ob he
  refine aw_putF C fk_X1_9 rfl hin dX1_init_6 rfl rfl hv ?_
  refine aw_aload_n C dX1_init_9 rfl (j := 0) rfl ?_
  refine aw_iload_n C dX1_init_10 rfl (j := 3) rfl ?_
  obtain ⟨h11, hv, he⟩ := ob he
  refine aw_putF C fk_X1_15 rfl hin dX1_init_11 rfl rfl hv ?_
  refine aw_aload_n C dX1_init_14 rfl (j := 0) rfl ?_
  refine aw_iload C dX1_init_15 (j := 4) rfl ?_
  obtain ⟨h17, hv, he⟩ := ob he
  refine aw_putF C fk_X1_18 rfl hin dX1_init_17 rfl rfl hv ?_
  refine aw_aload_n C dX1_init_20 rfl (j := 0) rfl ?_
  refine aw_iload C dX1_init_21 (j := 5) rfl ?_
  obtain ⟨h23, hv, he⟩ := ob he
  refine aw_putF C fk_X1_21 rfl hin dX1_init_23 rfl rfl hv ?_
  refine aw_aload_n C dX1_init_26 rfl (j := 0) rfl ?_
  refine aw_iload C dX1_init_27 (j := 6) rfl ?_
  obtain ⟨h29, hv, he⟩ := ob he
  refine aw_putF C fk_X1_24 rfl hin dX1_init_29 rfl rfl hv ?_
  refine aw_aload_n C dX1_init_32 rfl (j := 0) rfl ?_
  refine aw_iload C dX1_init_33 (j := 7) rfl ?_
  obtain ⟨h35, hv, he⟩ := ob he
  refine aw_putF C fk_X1_27 rfl hin dX1_init_35 rfl rfl hv ?_
  refine aw_aload_n C dX1_init_38 rfl (j := 0) rfl ?_
  refine aw_aload_n C dX1_init_39 rfl (j := 1) rfl ?_
  refine aw_iload_n C dX1_init_40 rfl (j := 2) rfl ?_
  refine aw_iload_n C dX1_init_41 rfl (j := 3) rfl ?_
  obtain ⟨hO, he⟩ := ifs he
  obtain ⟨v42, hv, he⟩ := ob he
  refine aw_callV (ci := 0) C mb_X1_30 ⟨q_382, q_383, rfl⟩ hO (cX0_petalsOf_ _ _ _ _ hv) dX1_init_42 rfl (rest := [va_rf l0]) rfl (cat_le _ (Nat.le_of_ble_eq_true rfl)) (Nat.le_of_ble_eq_true rfl) (Nat.le_of_ble_eq_true rfl) (Nat.le_of_ble_eq_true rfl) (st2 := [.int v42, va_rf l0]) rfl ?_
  obtain ⟨h45, hv, he⟩ := ob he
  refine aw_putF C fk_X1_36 rfl hin dX1_init_45 rfl rfl hv ?_
  refine aw_aload_n C dX1_init_48 rfl (j := 0) rfl ?_
  refine aw_aload_n C dX1_init_49 rfl (j := 1) rfl ?_
  refine aw_iload_n C dX1_init_50 rfl (j := 2) rfl ?_
  refine aw_iload_n C dX1_init_51 rfl (j := 3) rfl ?_
  obtain ⟨hO, he⟩ := ifs he
  obtain ⟨v52, hv, he⟩ := ob he
  refine aw_callV (ci := 0) C mb_X1_39 ⟨q_396, q_397, rfl⟩ hO (cX0_roundsOf_ _ _ _ _ hv) dX1_init_52 rfl (rest := [va_rf l0]) rfl (cat_le _ (Nat.le_of_ble_eq_true rfl)) (Nat.le_of_ble_eq_true rfl) (Nat.le_of_ble_eq_true rfl) (Nat.le_of_ble_eq_true rfl) (st2 := [.int v52, va_rf l0]) rfl ?_
  obtain ⟨h55, hv, he⟩ := ob he
  refine aw_putF C fk_X1_42 rfl hin dX1_init_55 rfl rfl hv ?_
  refine aw_aload_n C dX1_init_58 rfl (j := 0) rfl ?_
  refine aw_sipush (v := 360) C dX1_init_59 (by decide) ?_
  refine aw_aload_n C dX1_init_62 rfl (j := 0) rfl ?_
  obtain ⟨v63, hv, he⟩ := ob he
  refine aw_gI C fk_X1_36 dX1_init_63 hv ?_
  obtain ⟨v66, hv, he⟩ := ob he
  refine aw_callS C mb_X1_45 q_393 (cX5_part_ _ _ _ _ hv) dX1_init_66 rfl (rest := [va_rf l0]) rfl (cat_le _ (Nat.le_of_ble_eq_true rfl)) (Nat.le_of_ble_eq_true rfl) (Nat.le_of_ble_eq_true rfl) (Nat.le_of_ble_eq_true rfl) (st2 := [.int v66, va_rf l0]) rfl ?_
  obtain ⟨h69, hv, he⟩ := ob he
  refine aw_putF C fk_X1_48 rfl hin dX1_init_69 rfl rfl hv ?_
  refine aw_aload_n C dX1_init_72 rfl (j := 0) rfl ?_
  refine aw_aload_n C dX1_init_73 rfl (j := 1) rfl ?_
  refine aw_iload_n C dX1_init_74 rfl (j := 2) rfl ?_
  obtain ⟨hO, he⟩ := ifs he
  obtain ⟨v75, hv, he⟩ := ob he
  refine aw_callV (ci := 0) C mb_X1_51 ⟨q_470, q_471, rfl⟩ hO (cX0_stepOf_ _ _ _ _ hv) dX1_init_75 rfl (rest := [va_rf l0]) rfl (cat_le _ (Nat.le_of_ble_eq_true rfl)) (Nat.le_of_ble_eq_true rfl) (Nat.le_of_ble_eq_true rfl) (Nat.le_of_ble_eq_true rfl) (st2 := [.int v75, va_rf l0]) rfl ?_
  refine aw_iload C dX1_init_78 (j := 5) rfl ?_
  refine aw_imul C dX1_init_80 ?_
  refine aw_iload C dX1_init_81 (j := 7) rfl ?_
  refine aw_iadd C dX1_init_83 ?_
  obtain ⟨h84, hv, he⟩ := ob he
  refine aw_putF C fk_X1_55 rfl hin dX1_init_84 rfl rfl hv ?_
  have he := Option.some.inj he
  subst he
  exact aw_vret C X dX1_init_87 (by decide) (by decide)
theorem cX1_init_ (l : Launch) (D : va_G) (dA : Nat → ClassId) (base : Nat) {N : Nat} {h : Hp} {sz : Nat} {l0 : Option Nat} {l1 : Option Nat} {l2 : Int32} {l3 : Int32} {l4 : Int32} {l5 : Int32} {l6 : Int32} {l7 : Int32} {out : Hp} (he : fX1_init N h l0 l1 l2 l3 l4 l5 l6 l7 = some out) : AM l D dA base yX1_init cX1_init 8 none 4 0 0 [.inr l0, .inr l1, .inl l2, .inl l3, .inl l4, .inl l5, .inl l6, .inl l7] h sz none out sz :=
  AM.of (by decide +kernel) (Nat.le_of_ble_eq_true rfl) rfl (fun Γ C X hn => wX1_init C X hn he)
set_option maxHeartbeats 4000000 in
set_option maxRecDepth 100000 in
theorem wX2_inkWith {Γ : GG} (C : CX Γ cX2_inkWith 4 RX2 1 1 16) {N : Nat} {out : Option Nat × Hp × Nat} (X : RX Γ (some (.array .int)) (some (va_rf out.1)) out.2.1 out.2.2 1 16) {h : Hp} {sz : Nat} {l0 : Option Nat} {l1 : Int32} {l2 : Int32} (he : fX2_inkWith N h sz l0 l1 l2 = some out) : AW Γ 4 h sz 0 0 0 [(0, .inr l0), (1, .inl l1), (2, .inl l2)] [] := by
  unfold fX2_inkWith at he
  refine aw_aload_n C dX2_inkWith_0 rfl (j := 0) rfl ?_
  obtain ⟨v1, hv, he⟩ := ob he
  refine aw_gA C fk_X2_15 dX2_inkWith_1 hv ?_
  obtain ⟨h4, hv, he⟩ := ob he
  refine aw_clone C q_525 q_327 q_328 q_329 q_330 dX2_inkWith_4 (Nat.le_of_ble_eq_true rfl) (Nat.le_of_ble_eq_true rfl) (Nat.le_of_ble_eq_true rfl) (Nat.le_of_ble_eq_true rfl) hv ?_
  obtain ⟨hO, he⟩ := ifs he
  refine aw_castI C q_526 dX2_inkWith_7 hO ?_
  refine aw_astore_n C dX2_inkWith_10 rfl (by decide) rfl (lv' := [(0, .inr l0), (1, .inl l1), (2, .inl l2), (3, .inr (some sz))]) rfl ?_
  refine aw_iload_n C dX2_inkWith_11 rfl (j := 1) rfl ?_
  refine aw_if_lt (tgt := 25) C dX2_inkWith_12 (by decide) (fun hc => ?_) (fun hc => ?_)
  · have he := ift hc he
    refine aw_aload_n C dX2_inkWith_25 rfl (j := 3) rfl ?_
    have he := Option.some.inj he
    subst he
    exact aw_aret C X (Or.inr ⟨_, rfl⟩) dX2_inkWith_26 (by decide) (by decide)
  · have he := iff_ hc he
    refine aw_iload_n C dX2_inkWith_15 rfl (j := 1) rfl ?_
    refine aw_aload_n C dX2_inkWith_16 rfl (j := 3) rfl ?_
    obtain ⟨v17, hv, he⟩ := ob he
    refine aw_alen C dX2_inkWith_17 hv ?_
    refine aw_ic_ge (tgt := 25) C dX2_inkWith_18 (by decide) (fun hc => ?_) (fun hc => ?_)
    · have he := ift hc he
      refine aw_aload_n C dX2_inkWith_25 rfl (j := 3) rfl ?_
      have he := Option.some.inj he
      subst he
      exact aw_aret C X (Or.inr ⟨_, rfl⟩) dX2_inkWith_26 (by decide) (by decide)
    · have he := iff_ hc he
      refine aw_aload_n C dX2_inkWith_21 rfl (j := 3) rfl ?_
      refine aw_iload_n C dX2_inkWith_22 rfl (j := 1) rfl ?_
      refine aw_iload_n C dX2_inkWith_23 rfl (j := 2) rfl ?_
      obtain ⟨h24, hv, he⟩ := ob he
      refine aw_iast C dX2_inkWith_24 hv ?_
      refine aw_aload_n C dX2_inkWith_25 rfl (j := 3) rfl ?_
      have he := Option.some.inj he
      subst he
      exact aw_aret C X (Or.inr ⟨_, rfl⟩) dX2_inkWith_26 (by decide) (by decide)
theorem cX2_inkWith_ (l : Launch) (D : va_G) (dA : Nat → ClassId) (base : Nat) {N : Nat} {h : Hp} {sz : Nat} {l0 : Option Nat} {l1 : Int32} {l2 : Int32} {out : Option Nat × Hp × Nat} (he : fX2_inkWith N h sz l0 l1 l2 = some out) : AM l D dA base yX2_inkWith cX2_inkWith 4 (some (.array .int)) 1 1 16 [.inr l0, .inl l1, .inl l2] h sz (some (va_rf out.1)) out.2.1 out.2.2 :=
  AM.of (by decide +kernel) (Nat.le_of_ble_eq_true rfl) rfl (fun Γ C X hn => wX2_inkWith C X he)
set_option maxHeartbeats 4000000 in
set_option maxRecDepth 100000 in
theorem wX2_drawn_L14 {Γ : GG} (C : CX Γ cX2_drawn 5 RX2 2 3 35) {N : Nat} {α : Type} {out : α} {K41 : Hp → Nat → Option Nat → Option Nat → Int32 → Option Nat → Option α} (k41 : ∀ (h : Hp) (sz : Nat) (l0 : Option Nat) (l1 : Option Nat) (l2 : Int32) (l3 : Option Nat), K41 h sz l0 l1 l2 l3 = some out → AW Γ 5 h sz 1 16 41 [(0, .inr l0), (1, .inr l1), (2, .inl l2), (3, .inr l3)] []) : ∀ (n : Nat) (h : Hp) (sz : Nat) (l0 : Option Nat) (l1 : Option Nat) (l2 : Int32) (l3 : Option Nat) (l4 : Int32), fX2_drawn_L14 N K41 n h sz l0 l1 l2 l3 l4 = some out → AW Γ 5 h sz 1 16 14 [(0, .inr l0), (1, .inr l1), (2, .inl l2), (3, .inr l3), (4, .inl l4)] [] := by
  intro n
  induction n with
  | zero =>
    intro h sz l0 l1 l2 l3 l4 he
    rw [fX2_drawn_L14] at he
    cases he
  | succ n ih =>
    intro h sz l0 l1 l2 l3 l4 he
    rw [fX2_drawn_L14] at he
    refine aw_iload C dX2_drawn_14 (j := 4) rfl ?_
    refine aw_aload_n C dX2_drawn_16 rfl (j := 0) rfl ?_
    obtain ⟨v17, hv, he⟩ := ob he
    refine aw_gA C fk_X2_19 dX2_drawn_17 hv ?_
    obtain ⟨v20, hv, he⟩ := ob he
    refine aw_alen C dX2_drawn_20 hv ?_
    refine aw_ic_ge (tgt := 41) C dX2_drawn_21 (by decide) (fun hc => ?_) (fun hc => ?_)
    · have he := ift hc he
      refine aw_sub [0, 1, 2, 3] (lv' := [(0, .inr l0), (1, .inr l1), (2, .inl l2), (3, .inr l3)]) rfl ?_
      exact k41 _ _ _ _ _ _ he
    · have he := iff_ hc he
      refine aw_aload_n C dX2_drawn_24 rfl (j := 3) rfl ?_
      refine aw_iload C dX2_drawn_25 (j := 4) rfl ?_
      refine aw_aload_n C dX2_drawn_27 rfl (j := 0) rfl ?_
      obtain ⟨v28, hv, he⟩ := ob he
      refine aw_gA C fk_X2_19 dX2_drawn_28 hv ?_
      refine aw_iload C dX2_drawn_31 (j := 4) rfl ?_
      obtain ⟨v33, hv, he⟩ := ob he
      refine aw_aald C (by decide) dX2_drawn_33 hv ?_
      obtain ⟨h34, hv, he⟩ := ob he
      refine aw_aast C (by decide) dX2_drawn_34 hv ?_
      refine aw_iinc (y := 1) C dX2_drawn_35 (by decide) (j := 4) rfl (by decide) rfl (lv' := [(0, .inr l0), (1, .inr l1), (2, .inl l2), (3, .inr l3), (4, .inl (l4 + 1))]) rfl ?_
      refine aw_goto (tgt := 14) C dX2_drawn_38 (by decide) ?_
      exact ih _ _ _ _ _ _ _ he
set_option maxHeartbeats 4000000 in
set_option maxRecDepth 100000 in
theorem wX2_drawn {Γ : GG} (C : CX Γ cX2_drawn 5 RX2 2 3 35) {N : Nat} {out : Option Nat × Hp × Nat} (X : RX Γ (some (.object "PetalWheels$Paper")) (some (va_rf out.1)) out.2.1 out.2.2 3 35) {h : Hp} {sz : Nat} {l0 : Option Nat} {l1 : Option Nat} {l2 : Int32} (he : fX2_drawn N h sz l0 l1 l2 = some out) : AW Γ 5 h sz 0 0 0 [(0, .inr l0), (1, .inr l1), (2, .inl l2)] [] := by
  unfold fX2_drawn at he
  refine aw_aload_n C dX2_drawn_0 rfl (j := 0) rfl ?_
  obtain ⟨v1, hv, he⟩ := ob he
  refine aw_gA C fk_X2_19 dX2_drawn_1 hv ?_
  obtain ⟨v4, hv, he⟩ := ob he
  refine aw_alen C dX2_drawn_4 hv ?_
  refine aw_iconst (v := 1) C dX2_drawn_5 (by decide) ?_
  refine aw_iadd C dX2_drawn_6 ?_
  obtain ⟨hx, he⟩ := ifs he
  refine aw_newA (i := 2) (t := 2) C rfl (fun z => z.2.2.1) q_518 dX2_drawn_7 hx.1 rfl (by omega) (by decide) (by have := hx.2; omega) ?_
  refine aw_wide (k' := 1) (n' := 16) (by decide) (by have := hx.2; omega) ?_
  refine aw_astore_n C dX2_drawn_10 rfl (by decide) rfl (lv' := [(0, .inr l0), (1, .inr l1), (2, .inl l2), (3, .inr (some sz))]) rfl ?_
  refine aw_iconst (v := 0) C dX2_drawn_11 (by decide) ?_
  refine aw_istore C dX2_drawn_12 (by decide) rfl (lv' := [(0, .inr l0), (1, .inr l1), (2, .inl l2), (3, .inr (some sz)), (4, .inl (0 : Int32))]) rfl ?_
  refine wX2_drawn_L14 C ?_ N _ _ _ _ _ _ _ he
  intro h sz l0 l1 l2 l3 he
  refine aw_aload_n C dX2_drawn_41 rfl (j := 3) rfl ?_
  refine aw_aload_n C dX2_drawn_42 rfl (j := 0) rfl ?_
  obtain ⟨v43, hv, he⟩ := ob he
  refine aw_gA C fk_X2_19 dX2_drawn_43 hv ?_
  obtain ⟨v46, hv, he⟩ := ob he
  refine aw_alen C dX2_drawn_46 hv ?_
  refine aw_aload_n C dX2_drawn_47 rfl (j := 1) rfl ?_
  obtain ⟨h48, hv, he⟩ := ob he
  refine aw_aast C (by decide) dX2_drawn_48 hv ?_
  refine aw_new C nk_X2_10 dX2_drawn_49 (by decide) (by decide) ?_
  refine aw_dup C dX2_drawn_52 (rf_cat _) ?_
  refine aw_aload_n C dX2_drawn_53 rfl (j := 0) rfl ?_
  obtain ⟨v54, hv, he⟩ := ob he
  refine aw_gI C fk_X2_9 dX2_drawn_54 hv ?_
  refine aw_aload_n C dX2_drawn_57 rfl (j := 0) rfl ?_
  refine aw_aload_n C dX2_drawn_58 rfl (j := 1) rfl ?_
  obtain ⟨v59, hv, he⟩ := ob he
  refine aw_gI C fk_X2_32 dX2_drawn_59 hv ?_
  refine aw_aload_n C dX2_drawn_62 rfl (j := 0) rfl ?_
  refine aw_aload_n C dX2_drawn_63 rfl (j := 1) rfl ?_
  obtain ⟨v64, hv, he⟩ := ob he
  refine aw_gI C fk_X2_32 dX2_drawn_64 hv ?_
  obtain ⟨hO, he⟩ := ifs he
  obtain ⟨v67, hv, he⟩ := ob he
  refine aw_callV (ci := 2) C mb_X2_35 ⟨q_413, q_414, rfl⟩ hO (cX2_inkOf_ _ _ _ _ hv) dX2_drawn_67 rfl (rest := [.int v59, va_rf l0, .int v54, va_rf (some sz), va_rf (some sz)]) rfl (by simp only [List.map_cons, List.map_nil, rf_cat, ic_cat, List.sum_cons, List.sum_nil]; decide) (Nat.le_of_ble_eq_true rfl) (Nat.le_of_ble_eq_true rfl) (Nat.le_of_ble_eq_true rfl) (st2 := [.int v67, .int v59, va_rf l0, .int v54, va_rf (some sz), va_rf (some sz)]) rfl ?_
  refine aw_iload_n C dX2_drawn_70 rfl (j := 2) rfl ?_
  refine aw_isub C dX2_drawn_71 ?_
  obtain ⟨hO, he⟩ := ifs he
  obtain ⟨z72, hv, he⟩ := ob he
  refine aw_callV (ci := 2) C mb_X2_39 ⟨q_523, q_13, rfl⟩ hO (cX2_inkWith_ _ _ _ _ hv) dX2_drawn_72 rfl (rest := [.int v54, va_rf (some sz), va_rf (some sz)]) rfl (cat_le _ (Nat.le_of_ble_eq_true rfl)) (Nat.le_of_ble_eq_true rfl) (Nat.le_of_ble_eq_true rfl) (Nat.le_of_ble_eq_true rfl) (st2 := [va_rf z72.1, .int v54, va_rf (some sz), va_rf (some sz)]) rfl ?_
  refine aw_aload_n C dX2_drawn_75 rfl (j := 3) rfl ?_
  obtain ⟨z76, hv, he⟩ := ob he
  refine aw_callI C mb_X2_43 ⟨rfl, q_169⟩ (cX2_init_ _ _ _ _ hv) dX2_drawn_76 rfl (rest := [va_rf (some sz)]) rfl (cat_le _ (Nat.le_of_ble_eq_true rfl)) (Nat.le_of_ble_eq_true rfl) (Nat.le_of_ble_eq_true rfl) (Nat.le_of_ble_eq_true rfl) (st2 := [va_rf (some sz)]) rfl ?_
  have he := Option.some.inj he
  subst he
  exact aw_aret C X (Or.inl ⟨_, rfl⟩) dX2_drawn_79 (by decide) (by decide)
theorem cX2_drawn_ (l : Launch) (D : va_G) (dA : Nat → ClassId) (base : Nat) {N : Nat} {h : Hp} {sz : Nat} {l0 : Option Nat} {l1 : Option Nat} {l2 : Int32} {out : Option Nat × Hp × Nat} (he : fX2_drawn N h sz l0 l1 l2 = some out) : AM l D dA base yX2_drawn cX2_drawn 5 (some (.object "PetalWheels$Paper")) 2 3 35 [.inr l0, .inr l1, .inl l2] h sz (some (va_rf out.1)) out.2.1 out.2.2 :=
  AM.of (by decide +kernel) (Nat.le_of_ble_eq_true rfl) rfl (fun Γ C X hn => wX2_drawn C X he)
set_option maxHeartbeats 4000000 in
set_option maxRecDepth 100000 in
theorem wX8_losesOldest_L2 {Γ : GG} (C : CX Γ cX8_losesOldest 2 RX8 0 0 0) {N : Nat} {sz : Nat} {α : Type} {out : α} {K28 : Hp → Option Nat → Option α} (k28 : ∀ (h : Hp) (l0 : Option Nat), K28 h l0 = some out → AW Γ 2 h sz 0 0 28 [(0, .inr l0)] []) : ∀ (n : Nat) (h : Hp) (l0 : Option Nat) (l1 : Int32), fX8_losesOldest_L2 N K28 n h l0 l1 = some out → AW Γ 2 h sz 0 0 2 [(0, .inr l0), (1, .inl l1)] [] := by
  intro n
  induction n with
  | zero =>
    intro h l0 l1 he
    rw [fX8_losesOldest_L2] at he
    cases he
  | succ n ih =>
    intro h l0 l1 he
    rw [fX8_losesOldest_L2] at he
    refine aw_iload_n C dX8_losesOldest_2 rfl (j := 1) rfl ?_
    refine aw_bipush (v := 10) C dX8_losesOldest_3 (by decide) ?_
    refine aw_ic_ge (tgt := 28) C dX8_losesOldest_5 (by decide) (fun hc => ?_) (fun hc => ?_)
    · have he := ift hc he
      refine aw_sub [0] (lv' := [(0, .inr l0)]) rfl ?_
      exact k28 _ _ he
    · have he := iff_ hc he
      refine aw_aload_n C dX8_losesOldest_8 rfl (j := 0) rfl ?_
      obtain ⟨v9, hv, he⟩ := ob he
      refine aw_gA C fk_X8_11 dX8_losesOldest_9 hv ?_
      refine aw_iload_n C dX8_losesOldest_12 rfl (j := 1) rfl ?_
      refine aw_iconst (v := 1) C dX8_losesOldest_13 (by decide) ?_
      refine aw_isub C dX8_losesOldest_14 ?_
      refine aw_aload_n C dX8_losesOldest_15 rfl (j := 0) rfl ?_
      obtain ⟨v16, hv, he⟩ := ob he
      refine aw_gA C fk_X8_11 dX8_losesOldest_16 hv ?_
      refine aw_iload_n C dX8_losesOldest_19 rfl (j := 1) rfl ?_
      obtain ⟨v20, hv, he⟩ := ob he
      refine aw_aald C (by decide) dX8_losesOldest_20 hv ?_
      obtain ⟨h21, hv, he⟩ := ob he
      refine aw_aast C (by decide) dX8_losesOldest_21 hv ?_
      refine aw_iinc (y := 1) C dX8_losesOldest_22 (by decide) (j := 1) rfl (by decide) rfl (lv' := [(0, .inr l0), (1, .inl (l1 + 1))]) rfl ?_
      refine aw_goto (tgt := 2) C dX8_losesOldest_25 (by decide) ?_
      exact ih _ _ _ he
set_option maxHeartbeats 4000000 in
set_option maxRecDepth 100000 in
theorem wX8_losesOldest {Γ : GG} (C : CX Γ cX8_losesOldest 2 RX8 0 0 0) {N : Nat} {sz : Nat} {out : Hp} (X : RX Γ none none out sz 0 0) {h : Hp} {l0 : Option Nat} (he : fX8_losesOldest N h l0 = some out) : AW Γ 2 h sz 0 0 0 [(0, .inr l0)] [] := by
  unfold fX8_losesOldest at he
  refine aw_iconst (v := 1) C dX8_losesOldest_0 (by decide) ?_
  refine aw_istore_n C dX8_losesOldest_1 rfl (by decide) rfl (lv' := [(0, .inr l0), (1, .inl (1 : Int32))]) rfl ?_
  refine wX8_losesOldest_L2 C ?_ N _ _ _ he
  intro h l0 he
  refine aw_aload_n C dX8_losesOldest_28 rfl (j := 0) rfl ?_
  refine aw_bipush (v := 9) C dX8_losesOldest_29 (by decide) ?_
  obtain ⟨h31, hv, he⟩ := ob he
  refine aw_put C fk_X8_17 dX8_losesOldest_31 rfl rfl hv ?_
  have he := Option.some.inj he
  subst he
  exact aw_vret C X dX8_losesOldest_34 (by decide) (by decide)
theorem cX8_losesOldest_ (l : Launch) (D : va_G) (dA : Nat → ClassId) (base : Nat) {N : Nat} {h : Hp} {sz : Nat} {l0 : Option Nat} {out : Hp} (he : fX8_losesOldest N h l0 = some out) : AM l D dA base yX8_losesOldest cX8_losesOldest 2 none 0 0 0 [.inr l0] h sz none out sz :=
  AM.of (by decide +kernel) (Nat.le_of_ble_eq_true rfl) rfl (fun Γ C X hn => wX8_losesOldest C X he)
set_option maxHeartbeats 4000000 in
set_option maxRecDepth 100000 in
theorem wX8_adds_j13 {Γ : GG} (C : CX Γ cX8_adds 2 RX8 1 0 0) {N : Nat} {sz : Nat} {out : Hp} (X : RX Γ none none out sz 0 0) {h : Hp} {l0 : Option Nat} {l1 : Option Nat} (he : fX8_adds_j13 N h l0 l1 = some out) : AW Γ 2 h sz 0 0 13 [(0, .inr l0), (1, .inr l1)] [] := by
  unfold fX8_adds_j13 at he
  refine aw_aload_n C dX8_adds_13 rfl (j := 0) rfl ?_
  obtain ⟨v14, hv, he⟩ := ob he
  refine aw_gA C fk_X8_11 dX8_adds_14 hv ?_
  refine aw_aload_n C dX8_adds_17 rfl (j := 0) rfl ?_
  obtain ⟨v18, hv, he⟩ := ob he
  refine aw_gI C fk_X8_17 dX8_adds_18 hv ?_
  refine aw_aload_n C dX8_adds_21 rfl (j := 1) rfl ?_
  obtain ⟨h22, hv, he⟩ := ob he
  refine aw_aast C (by decide) dX8_adds_22 hv ?_
  refine aw_aload_n C dX8_adds_23 rfl (j := 0) rfl ?_
  refine aw_dup C dX8_adds_24 (rf_cat _) ?_
  obtain ⟨v25, hv, he⟩ := ob he
  refine aw_gI C fk_X8_17 dX8_adds_25 hv ?_
  refine aw_iconst (v := 1) C dX8_adds_28 (by decide) ?_
  refine aw_iadd C dX8_adds_29 ?_
  obtain ⟨h30, hv, he⟩ := ob he
  refine aw_put C fk_X8_17 dX8_adds_30 rfl rfl hv ?_
  have he := Option.some.inj he
  subst he
  exact aw_vret C X dX8_adds_33 (by decide) (by decide)
set_option maxHeartbeats 4000000 in
set_option maxRecDepth 100000 in
theorem wX8_adds {Γ : GG} (C : CX Γ cX8_adds 2 RX8 1 0 0) {N : Nat} {sz : Nat} {out : Hp} (X : RX Γ none none out sz 0 0) {h : Hp} {l0 : Option Nat} {l1 : Option Nat} (he : fX8_adds N h l0 l1 = some out) : AW Γ 2 h sz 0 0 0 [(0, .inr l0), (1, .inr l1)] [] := by
  unfold fX8_adds at he
  refine aw_aload_n C dX8_adds_0 rfl (j := 0) rfl ?_
  obtain ⟨v1, hv, he⟩ := ob he
  refine aw_gI C fk_X8_17 dX8_adds_1 hv ?_
  refine aw_bipush (v := 10) C dX8_adds_4 (by decide) ?_
  refine aw_ic_lt (tgt := 13) C dX8_adds_6 (by decide) (fun hc => ?_) (fun hc => ?_)
  · have he := ift hc he
    exact wX8_adds_j13 C X he
  · have he := iff_ hc he
    refine aw_aload_n C dX8_adds_9 rfl (j := 0) rfl ?_
    obtain ⟨hO, he⟩ := ifs he
    obtain ⟨z10, hv, he⟩ := ob he
    refine aw_callV (ci := 8) C mb_X8_21 ⟨q_538, q_15, rfl⟩ hO (cX8_losesOldest_ _ _ _ _ hv) dX8_adds_10 rfl (rest := []) rfl (cat_le _ (Nat.le_of_ble_eq_true rfl)) (Nat.le_of_ble_eq_true rfl) (Nat.le_of_ble_eq_true rfl) (Nat.le_of_ble_eq_true rfl) (st2 := []) rfl ?_
    exact wX8_adds_j13 C X he
theorem cX8_adds_ (l : Launch) (D : va_G) (dA : Nat → ClassId) (base : Nat) {N : Nat} {h : Hp} {sz : Nat} {l0 : Option Nat} {l1 : Option Nat} {out : Hp} (he : fX8_adds N h l0 l1 = some out) : AM l D dA base yX8_adds cX8_adds 2 none 1 0 0 [.inr l0, .inr l1] h sz none out sz :=
  AM.of (by decide +kernel) (Nat.le_of_ble_eq_true rfl) rfl (fun Γ C X hn => wX8_adds C X he)
set_option maxHeartbeats 4000000 in
set_option maxRecDepth 100000 in
theorem wX5_changeTo {Γ : GG} (C : CX Γ cX5_changeTo 2 RX5 2 0 0) {N : Nat} {sz : Nat} {out : Hp} (X : RX Γ none none out sz 0 0) {h : Hp} {l0 : Option Nat} {l1 : Option Nat} (he : fX5_changeTo N h l0 l1 = some out) : AW Γ 2 h sz 0 0 0 [(0, .inr l0), (1, .inr l1)] [] := by
  unfold fX5_changeTo at he
  refine aw_aload_n C dX5_changeTo_0 rfl (j := 0) rfl ?_
  obtain ⟨v1, hv, he⟩ := ob he
  refine aw_gA C fk_X5_44 dX5_changeTo_1 hv ?_
  refine aw_aload_n C dX5_changeTo_4 rfl (j := 0) rfl ?_
  obtain ⟨v5, hv, he⟩ := ob he
  refine aw_gA C fk_X5_37 dX5_changeTo_5 hv ?_
  obtain ⟨hO, he⟩ := ifs he
  obtain ⟨z8, hv, he⟩ := ob he
  refine aw_callV (ci := 8) C mb_X5_302 ⟨q_533, q_534, rfl⟩ hO (cX8_adds_ _ _ _ _ hv) dX5_changeTo_8 rfl (rest := []) rfl (cat_le _ (Nat.le_of_ble_eq_true rfl)) (Nat.le_of_ble_eq_true rfl) (Nat.le_of_ble_eq_true rfl) (Nat.le_of_ble_eq_true rfl) (st2 := []) rfl ?_
  refine aw_aload_n C dX5_changeTo_11 rfl (j := 0) rfl ?_
  refine aw_aload_n C dX5_changeTo_12 rfl (j := 1) rfl ?_
  obtain ⟨h13, hv, he⟩ := ob he
  refine aw_put C fk_X5_37 dX5_changeTo_13 (nf_ref (Or.inl ⟨_, rfl⟩) _).1 (nf_ref (Or.inl ⟨_, rfl⟩) _).2 hv ?_
  have he := Option.some.inj he
  subst he
  exact aw_vret C X dX5_changeTo_16 (by decide) (by decide)
theorem cX5_changeTo_ (l : Launch) (D : va_G) (dA : Nat → ClassId) (base : Nat) {N : Nat} {h : Hp} {sz : Nat} {l0 : Option Nat} {l1 : Option Nat} {out : Hp} (he : fX5_changeTo N h l0 l1 = some out) : AM l D dA base yX5_changeTo cX5_changeTo 2 none 2 0 0 [.inr l0, .inr l1] h sz none out sz :=
  AM.of (by decide +kernel) (Nat.le_of_ble_eq_true rfl) rfl (fun Γ C X hn => wX5_changeTo C X he)
set_option maxHeartbeats 4000000 in
set_option maxRecDepth 100000 in
theorem wX5_draws {Γ : GG} (C : CX Γ cX5_draws 8 RX5 5 4 45) {N : Nat} {out : Int32 × Hp × Nat} (X : RX Γ (some .int) (some (.int out.1)) out.2.1 out.2.2 4 45) {h : Hp} {sz : Nat} {l0 : Option Nat} {l1 : Int32} {l2 : Int32} {l3 : Int32} {l4 : Int32} {l5 : Int32} (he : fX5_draws N h sz l0 l1 l2 l3 l4 l5 = some out) : AW Γ 8 h sz 0 0 0 [(0, .inr l0), (1, .inl l1), (2, .inl l2), (3, .inl l3), (4, .inl l4), (5, .inl l5)] [] := by
  unfold fX5_draws at he
  refine aw_aload_n C dX5_draws_0 rfl (j := 0) rfl ?_
  obtain ⟨v1, hv, he⟩ := ob he
  refine aw_gA C fk_X5_26 dX5_draws_1 hv ?_
  refine aw_iload_n C dX5_draws_4 rfl (j := 1) rfl ?_
  obtain ⟨hO, he⟩ := ifs he
  obtain ⟨v5, hv, he⟩ := ob he
  refine aw_callV (ci := 0) C mb_X5_99 ⟨q_354, q_355, rfl⟩ hO (cX0_hasRing_ _ _ _ _ hv) dX5_draws_5 rfl (rest := []) rfl (cat_le _ (Nat.le_of_ble_eq_true rfl)) (Nat.le_of_ble_eq_true rfl) (Nat.le_of_ble_eq_true rfl) (Nat.le_of_ble_eq_true rfl) (st2 := [.int v5]) rfl ?_
  refine aw_if_eq (tgt := 34) C dX5_draws_8 (by decide) (fun hc => ?_) (fun hc => ?_)
  · have he := ift hc he
    refine aw_iconst (v := -1) C dX5_draws_34 (by decide) ?_
    have he := Option.some.inj he
    subst he
    exact aw_iret C X dX5_draws_35 (by decide) (by decide)
  · have he := iff_ hc he
    refine aw_aload_n C dX5_draws_11 rfl (j := 0) rfl ?_
    obtain ⟨v12, hv, he⟩ := ob he
    refine aw_gA C fk_X5_26 dX5_draws_12 hv ?_
    refine aw_iload_n C dX5_draws_15 rfl (j := 2) rfl ?_
    obtain ⟨hO, he⟩ := ifs he
    obtain ⟨v16, hv, he⟩ := ob he
    refine aw_callV (ci := 0) C mb_X5_106 ⟨q_367, q_368, rfl⟩ hO (cX0_hasWheel_ _ _ _ _ hv) dX5_draws_16 rfl (rest := []) rfl (cat_le _ (Nat.le_of_ble_eq_true rfl)) (Nat.le_of_ble_eq_true rfl) (Nat.le_of_ble_eq_true rfl) (Nat.le_of_ble_eq_true rfl) (st2 := [.int v16]) rfl ?_
    refine aw_if_eq (tgt := 34) C dX5_draws_19 (by decide) (fun hc => ?_) (fun hc => ?_)
    · have he := ift hc he
      refine aw_iconst (v := -1) C dX5_draws_34 (by decide) ?_
      have he := Option.some.inj he
      subst he
      exact aw_iret C X dX5_draws_35 (by decide) (by decide)
    · have he := iff_ hc he
      refine aw_aload_n C dX5_draws_22 rfl (j := 0) rfl ?_
      obtain ⟨v23, hv, he⟩ := ob he
      refine aw_gA C fk_X5_26 dX5_draws_23 hv ?_
      refine aw_iload C dX5_draws_26 (j := 5) rfl ?_
      obtain ⟨hO, he⟩ := ifs he
      obtain ⟨v28, hv, he⟩ := ob he
      refine aw_callV (ci := 0) C mb_X5_126 ⟨q_409, q_410, rfl⟩ hO (cX0_hasPen_ _ _ _ _ hv) dX5_draws_28 rfl (rest := []) rfl (cat_le _ (Nat.le_of_ble_eq_true rfl)) (Nat.le_of_ble_eq_true rfl) (Nat.le_of_ble_eq_true rfl) (Nat.le_of_ble_eq_true rfl) (st2 := [.int v28]) rfl ?_
      refine aw_if_ne (tgt := 36) C dX5_draws_31 (by decide) (fun hc => ?_) (fun hc => ?_)
      · have he := ift hc he
        refine aw_iconst (v := -1) C dX5_draws_34 (by decide) ?_
        have he := Option.some.inj he
        subst he
        exact aw_iret C X dX5_draws_35 (by decide) (by decide)
      · have he := iff_ hc he
        refine aw_iload_n C dX5_draws_36 rfl (j := 3) rfl ?_
        refine aw_iconst (v := 1) C dX5_draws_37 (by decide) ?_
        refine aw_bipush (v := 9) C dX5_draws_38 (by decide) ?_
        obtain ⟨v40, hv, he⟩ := ob he
        refine aw_callS C mb_X5_72 q_241 (cX5_within_ _ _ _ _ hv) dX5_draws_40 rfl (rest := []) rfl (cat_le _ (Nat.le_of_ble_eq_true rfl)) (Nat.le_of_ble_eq_true rfl) (Nat.le_of_ble_eq_true rfl) (Nat.le_of_ble_eq_true rfl) (st2 := [.int v40]) rfl ?_
        refine aw_if_eq (tgt := 65) C dX5_draws_43 (by decide) (fun hc => ?_) (fun hc => ?_)
        · have he := ift hc he
          refine aw_iconst (v := -1) C dX5_draws_65 (by decide) ?_
          have he := Option.some.inj he
          subst he
          exact aw_iret C X dX5_draws_66 (by decide) (by decide)
        · have he := iff_ hc he
          refine aw_iload C dX5_draws_46 (j := 4) rfl ?_
          refine aw_iconst (v := 0) C dX5_draws_48 (by decide) ?_
          refine aw_aload_n C dX5_draws_49 rfl (j := 0) rfl ?_
          obtain ⟨v50, hv, he⟩ := ob he
          refine aw_gA C fk_X5_26 dX5_draws_50 hv ?_
          refine aw_iload_n C dX5_draws_53 rfl (j := 1) rfl ?_
          obtain ⟨hO, he⟩ := ifs he
          obtain ⟨v54, hv, he⟩ := ob he
          refine aw_callV (ci := 0) C mb_X5_102 ⟨q_358, q_359, rfl⟩ hO (cX0_teethOf_ _ _ _ _ hv) dX5_draws_54 rfl (rest := [.int (0 : Int32), .int l4]) rfl (cat_le _ (Nat.le_of_ble_eq_true rfl)) (Nat.le_of_ble_eq_true rfl) (Nat.le_of_ble_eq_true rfl) (Nat.le_of_ble_eq_true rfl) (st2 := [.int v54, .int (0 : Int32), .int l4]) rfl ?_
          refine aw_iconst (v := 1) C dX5_draws_57 (by decide) ?_
          refine aw_isub C dX5_draws_58 ?_
          obtain ⟨v59, hv, he⟩ := ob he
          refine aw_callS C mb_X5_72 q_241 (cX5_within_ _ _ _ _ hv) dX5_draws_59 rfl (rest := []) rfl (cat_le _ (Nat.le_of_ble_eq_true rfl)) (Nat.le_of_ble_eq_true rfl) (Nat.le_of_ble_eq_true rfl) (Nat.le_of_ble_eq_true rfl) (st2 := [.int v59]) rfl ?_
          refine aw_if_ne (tgt := 67) C dX5_draws_62 (by decide) (fun hc => ?_) (fun hc => ?_)
          · have he := ift hc he
            refine aw_iconst (v := -1) C dX5_draws_65 (by decide) ?_
            have he := Option.some.inj he
            subst he
            exact aw_iret C X dX5_draws_66 (by decide) (by decide)
          · have he := iff_ hc he
            refine aw_aload_n C dX5_draws_67 rfl (j := 0) rfl ?_
            obtain ⟨v68, hv, he⟩ := ob he
            refine aw_gA C fk_X5_26 dX5_draws_68 hv ?_
            refine aw_iload_n C dX5_draws_71 rfl (j := 1) rfl ?_
            refine aw_iload_n C dX5_draws_72 rfl (j := 2) rfl ?_
            obtain ⟨hO, he⟩ := ifs he
            obtain ⟨v73, hv, he⟩ := ob he
            refine aw_callV (ci := 0) C mb_X5_112 ⟨q_376, q_377, rfl⟩ hO (cX0_fits_ _ _ _ _ hv) dX5_draws_73 rfl (rest := []) rfl (cat_le _ (Nat.le_of_ble_eq_true rfl)) (Nat.le_of_ble_eq_true rfl) (Nat.le_of_ble_eq_true rfl) (Nat.le_of_ble_eq_true rfl) (st2 := [.int v73]) rfl ?_
            refine aw_if_eq (tgt := 100) C dX5_draws_76 (by decide) (fun hc => ?_) (fun hc => ?_)
            · have he := ift hc he
              refine aw_bipush (v := -2) C dX5_draws_100 (by decide) ?_
              have he := Option.some.inj he
              subst he
              exact aw_iret C X dX5_draws_102 (by decide) (by decide)
            · have he := iff_ hc he
              refine aw_aload_n C dX5_draws_79 rfl (j := 0) rfl ?_
              obtain ⟨v80, hv, he⟩ := ob he
              refine aw_gA C fk_X5_37 dX5_draws_80 hv ?_
              refine aw_iload C dX5_draws_83 (j := 5) rfl ?_
              obtain ⟨hO, he⟩ := ifs he
              obtain ⟨v85, hv, he⟩ := ob he
              refine aw_callV (ci := 2) C mb_X5_129 ⟨q_413, q_414, rfl⟩ hO (cX2_inkOf_ _ _ _ _ hv) dX5_draws_85 rfl (rest := []) rfl (cat_le _ (Nat.le_of_ble_eq_true rfl)) (Nat.le_of_ble_eq_true rfl) (Nat.le_of_ble_eq_true rfl) (Nat.le_of_ble_eq_true rfl) (st2 := [.int v85]) rfl ?_
              refine aw_aload_n C dX5_draws_88 rfl (j := 0) rfl ?_
              obtain ⟨v89, hv, he⟩ := ob he
              refine aw_gA C fk_X5_26 dX5_draws_89 hv ?_
              refine aw_iload_n C dX5_draws_92 rfl (j := 1) rfl ?_
              refine aw_iload_n C dX5_draws_93 rfl (j := 2) rfl ?_
              obtain ⟨hO, he⟩ := ifs he
              obtain ⟨v94, hv, he⟩ := ob he
              refine aw_callV (ci := 0) C mb_X5_123 ⟨q_400, q_401, rfl⟩ hO (cX0_longOf_ _ _ _ _ hv) dX5_draws_94 rfl (rest := [.int v85]) rfl (cat_le _ (Nat.le_of_ble_eq_true rfl)) (Nat.le_of_ble_eq_true rfl) (Nat.le_of_ble_eq_true rfl) (Nat.le_of_ble_eq_true rfl) (st2 := [.int v94, .int v85]) rfl ?_
              refine aw_ic_ge (tgt := 103) C dX5_draws_97 (by decide) (fun hc => ?_) (fun hc => ?_)
              · have he := ift hc he
                refine aw_aload_n C dX5_draws_103 rfl (j := 0) rfl ?_
                obtain ⟨v104, hv, he⟩ := ob he
                refine aw_gA C fk_X5_37 dX5_draws_104 hv ?_
                obtain ⟨v107, hv, he⟩ := ob he
                refine aw_gA C fk_X5_160 dX5_draws_107 hv ?_
                obtain ⟨v110, hv, he⟩ := ob he
                refine aw_alen C dX5_draws_110 hv ?_
                refine aw_istore C dX5_draws_111 (by decide) rfl (lv' := [(0, .inr l0), (1, .inl l1), (2, .inl l2), (3, .inl l3), (4, .inl l4), (5, .inl l5), (6, .inl v110)]) rfl ?_
                refine aw_iload C dX5_draws_113 (j := 6) rfl ?_
                refine aw_bipush (v := 12) C dX5_draws_115 (by decide) ?_
                refine aw_ic_lt (tgt := 123) C dX5_draws_117 (by decide) (fun hc => ?_) (fun hc => ?_)
                · have he := ift hc he
                  refine aw_new C nk_X5_32 dX5_draws_123 (by decide) (by decide) ?_
                  refine aw_dup C dX5_draws_126 (rf_cat _) ?_
                  refine aw_aload_n C dX5_draws_127 rfl (j := 0) rfl ?_
                  obtain ⟨v128, hv, he⟩ := ob he
                  refine aw_gA C fk_X5_26 dX5_draws_128 hv ?_
                  refine aw_iload_n C dX5_draws_131 rfl (j := 1) rfl ?_
                  refine aw_iload_n C dX5_draws_132 rfl (j := 2) rfl ?_
                  refine aw_iload_n C dX5_draws_133 rfl (j := 3) rfl ?_
                  refine aw_iload C dX5_draws_134 (j := 4) rfl ?_
                  refine aw_iload C dX5_draws_136 (j := 5) rfl ?_
                  refine aw_aload_n C dX5_draws_138 rfl (j := 0) rfl ?_
                  obtain ⟨v139, hv, he⟩ := ob he
                  refine aw_gA C fk_X5_37 dX5_draws_139 hv ?_
                  obtain ⟨v142, hv, he⟩ := ob he
                  refine aw_gI C fk_X5_164 dX5_draws_142 hv ?_
                  obtain ⟨z145, hv, he⟩ := ob he
                  refine aw_callI C mb_X5_167 ⟨rfl, q_463⟩ (cX1_init_ _ _ _ _ hv) dX5_draws_145 rfl (rest := [va_rf (some sz)]) rfl (cat_le _ (Nat.le_of_ble_eq_true rfl)) (Nat.le_of_ble_eq_true rfl) (Nat.le_of_ble_eq_true rfl) (Nat.le_of_ble_eq_true rfl) (st2 := [va_rf (some sz)]) rfl ?_
                  refine aw_astore C dX5_draws_148 (by decide) rfl (lv' := [(0, .inr l0), (1, .inl l1), (2, .inl l2), (3, .inl l3), (4, .inl l4), (5, .inl l5), (6, .inl v110), (7, .inr (some sz))]) rfl ?_
                  refine aw_aload_n C dX5_draws_150 rfl (j := 0) rfl ?_
                  refine aw_aload_n C dX5_draws_151 rfl (j := 0) rfl ?_
                  obtain ⟨v152, hv, he⟩ := ob he
                  refine aw_gA C fk_X5_37 dX5_draws_152 hv ?_
                  refine aw_aload C dX5_draws_155 (j := 7) rfl ?_
                  refine aw_aload_n C dX5_draws_157 rfl (j := 0) rfl ?_
                  obtain ⟨v158, hv, he⟩ := ob he
                  refine aw_gA C fk_X5_26 dX5_draws_158 hv ?_
                  refine aw_iload_n C dX5_draws_161 rfl (j := 1) rfl ?_
                  refine aw_iload_n C dX5_draws_162 rfl (j := 2) rfl ?_
                  obtain ⟨hO, he⟩ := ifs he
                  obtain ⟨v163, hv, he⟩ := ob he
                  refine aw_callV (ci := 0) C mb_X5_123 ⟨q_400, q_401, rfl⟩ hO (cX0_longOf_ _ _ _ _ hv) dX5_draws_163 rfl (rest := [va_rf (some sz), va_rf v152, va_rf l0]) rfl (cat_le _ (Nat.le_of_ble_eq_true rfl)) (Nat.le_of_ble_eq_true rfl) (Nat.le_of_ble_eq_true rfl) (Nat.le_of_ble_eq_true rfl) (st2 := [.int v163, va_rf (some sz), va_rf v152, va_rf l0]) rfl ?_
                  obtain ⟨hO, he⟩ := ifs he
                  obtain ⟨z166, hv, he⟩ := ob he
                  refine aw_callV (ci := 2) C mb_X5_170 ⟨q_515, q_516, rfl⟩ hO (cX2_drawn_ _ _ _ _ hv) dX5_draws_166 rfl (rest := [va_rf l0]) rfl (cat_le _ (Nat.le_of_ble_eq_true rfl)) (Nat.le_of_ble_eq_true rfl) (Nat.le_of_ble_eq_true rfl) (Nat.le_of_ble_eq_true rfl) (st2 := [va_rf z166.1, va_rf l0]) rfl ?_
                  obtain ⟨hO, he⟩ := ifs he
                  obtain ⟨z169, hv, he⟩ := ob he
                  refine aw_callV (ci := 5) C mb_X5_174 ⟨q_530, q_14, rfl⟩ hO (cX5_changeTo_ _ _ _ _ hv) dX5_draws_169 rfl (rest := []) rfl (cat_le _ (Nat.le_of_ble_eq_true rfl)) (Nat.le_of_ble_eq_true rfl) (Nat.le_of_ble_eq_true rfl) (Nat.le_of_ble_eq_true rfl) (st2 := []) rfl ?_
                  refine aw_iload C dX5_draws_172 (j := 6) rfl ?_
                  have he := Option.some.inj he
                  subst he
                  exact aw_iret C X dX5_draws_174 (by decide) (by decide)
                · have he := iff_ hc he
                  refine aw_bipush (v := -3) C dX5_draws_120 (by decide) ?_
                  have he := Option.some.inj he
                  subst he
                  exact aw_iret C X dX5_draws_122 (by decide) (by decide)
              · have he := iff_ hc he
                refine aw_bipush (v := -2) C dX5_draws_100 (by decide) ?_
                have he := Option.some.inj he
                subst he
                exact aw_iret C X dX5_draws_102 (by decide) (by decide)
theorem cX5_draws_ (l : Launch) (D : va_G) (dA : Nat → ClassId) (base : Nat) {N : Nat} {h : Hp} {sz : Nat} {l0 : Option Nat} {l1 : Int32} {l2 : Int32} {l3 : Int32} {l4 : Int32} {l5 : Int32} {out : Int32 × Hp × Nat} (he : fX5_draws N h sz l0 l1 l2 l3 l4 l5 = some out) : AM l D dA base yX5_draws cX5_draws 8 (some .int) 5 4 45 [.inr l0, .inl l1, .inl l2, .inl l3, .inl l4, .inl l5] h sz (some (.int out.1)) out.2.1 out.2.2 :=
  AM.of (by decide +kernel) (Nat.le_of_ble_eq_true rfl) rfl (fun Γ C X hn => wX5_draws C X he)
set_option maxHeartbeats 4000000 in
set_option maxRecDepth 100000 in
theorem wX6_lays_L18 {Γ : GG} (C : CX Γ cX6_lays 4 RX6 0 0 0) {N : Nat} {sz : Nat} {α : Type} {out : α} {K42 : Hp → Option Nat → Option Nat → Int32 → Option α} (k42 : ∀ (h : Hp) (l0 : Option Nat) (l1 : Option Nat) (l2 : Int32), K42 h l0 l1 l2 = some out → AW Γ 4 h sz 0 0 42 [(0, .inr l0), (1, .inr l1), (2, .inl l2)] []) : ∀ (n : Nat) (h : Hp) (l0 : Option Nat) (l1 : Option Nat) (l2 : Int32) (l3 : Int32), fX6_lays_L18 N K42 n h l0 l1 l2 l3 = some out → AW Γ 4 h sz 0 0 18 [(0, .inr l0), (1, .inr l1), (2, .inl l2), (3, .inl l3)] [] := by
  intro n
  induction n with
  | zero =>
    intro h l0 l1 l2 l3 he
    rw [fX6_lays_L18] at he
    cases he
  | succ n ih =>
    intro h l0 l1 l2 l3 he
    rw [fX6_lays_L18] at he
    refine aw_iload_n C dX6_lays_18 rfl (j := 3) rfl ?_
    refine aw_iconst (v := 4) C dX6_lays_19 (by decide) ?_
    refine aw_ic_ge (tgt := 42) C dX6_lays_20 (by decide) (fun hc => ?_) (fun hc => ?_)
    · have he := ift hc he
      refine aw_sub [0, 1, 2] (lv' := [(0, .inr l0), (1, .inr l1), (2, .inl l2)]) rfl ?_
      exact k42 _ _ _ _ he
    · have he := iff_ hc he
      refine aw_aload_n C dX6_lays_23 rfl (j := 1) rfl ?_
      refine aw_iload_n C dX6_lays_24 rfl (j := 2) rfl ?_
      refine aw_iconst (v := 2) C dX6_lays_25 (by decide) ?_
      refine aw_iadd C dX6_lays_26 ?_
      refine aw_iload_n C dX6_lays_27 rfl (j := 3) rfl ?_
      refine aw_iadd C dX6_lays_28 ?_
      refine aw_aload_n C dX6_lays_29 rfl (j := 0) rfl ?_
      obtain ⟨v30, hv, he⟩ := ob he
      refine aw_gA C fk_X6_16 dX6_lays_30 hv ?_
      refine aw_iload_n C dX6_lays_33 rfl (j := 3) rfl ?_
      obtain ⟨v34, hv, he⟩ := ob he
      refine aw_iald C dX6_lays_34 hv ?_
      obtain ⟨h35, hv, he⟩ := ob he
      refine aw_iast C dX6_lays_35 hv ?_
      refine aw_iinc (y := 1) C dX6_lays_36 (by decide) (j := 3) rfl (by decide) rfl (lv' := [(0, .inr l0), (1, .inr l1), (2, .inl l2), (3, .inl (l3 + 1))]) rfl ?_
      refine aw_goto (tgt := 18) C dX6_lays_39 (by decide) ?_
      exact ih _ _ _ _ _ he
set_option maxHeartbeats 4000000 in
set_option maxRecDepth 100000 in
theorem wX6_lays_L44 {Γ : GG} (C : CX Γ cX6_lays 4 RX6 0 0 0) {N : Nat} {sz : Nat} {α : Type} {out : α} {K70 : Hp → Option α} (k70 : ∀ (h : Hp), K70 h = some out → AW Γ 4 h sz 0 0 70 [] []) : ∀ (n : Nat) (h : Hp) (l0 : Option Nat) (l1 : Option Nat) (l2 : Int32) (l3 : Int32), fX6_lays_L44 N K70 n h l0 l1 l2 l3 = some out → AW Γ 4 h sz 0 0 44 [(0, .inr l0), (1, .inr l1), (2, .inl l2), (3, .inl l3)] [] := by
  intro n
  induction n with
  | zero =>
    intro h l0 l1 l2 l3 he
    rw [fX6_lays_L44] at he
    cases he
  | succ n ih =>
    intro h l0 l1 l2 l3 he
    rw [fX6_lays_L44] at he
    refine aw_iload_n C dX6_lays_44 rfl (j := 3) rfl ?_
    refine aw_bipush (v := 72) C dX6_lays_45 (by decide) ?_
    refine aw_ic_ge (tgt := 70) C dX6_lays_47 (by decide) (fun hc => ?_) (fun hc => ?_)
    · have he := ift hc he
      refine aw_sub [] (lv' := []) rfl ?_
      exact k70 _ he
    · have he := iff_ hc he
      refine aw_aload_n C dX6_lays_50 rfl (j := 1) rfl ?_
      refine aw_iload_n C dX6_lays_51 rfl (j := 2) rfl ?_
      refine aw_bipush (v := 6) C dX6_lays_52 (by decide) ?_
      refine aw_iadd C dX6_lays_54 ?_
      refine aw_iload_n C dX6_lays_55 rfl (j := 3) rfl ?_
      refine aw_iadd C dX6_lays_56 ?_
      refine aw_aload_n C dX6_lays_57 rfl (j := 0) rfl ?_
      obtain ⟨v58, hv, he⟩ := ob he
      refine aw_gA C fk_X6_19 dX6_lays_58 hv ?_
      refine aw_iload_n C dX6_lays_61 rfl (j := 3) rfl ?_
      obtain ⟨v62, hv, he⟩ := ob he
      refine aw_iald C dX6_lays_62 hv ?_
      obtain ⟨h63, hv, he⟩ := ob he
      refine aw_iast C dX6_lays_63 hv ?_
      refine aw_iinc (y := 1) C dX6_lays_64 (by decide) (j := 3) rfl (by decide) rfl (lv' := [(0, .inr l0), (1, .inr l1), (2, .inl l2), (3, .inl (l3 + 1))]) rfl ?_
      refine aw_goto (tgt := 44) C dX6_lays_67 (by decide) ?_
      exact ih _ _ _ _ _ he
set_option maxHeartbeats 4000000 in
set_option maxRecDepth 100000 in
theorem wX6_lays {Γ : GG} (C : CX Γ cX6_lays 4 RX6 0 0 0) {N : Nat} {sz : Nat} {out : Hp} (X : RX Γ none none out sz 0 0) {h : Hp} {l0 : Option Nat} {l1 : Option Nat} {l2 : Int32} (he : fX6_lays N h l0 l1 l2 = some out) : AW Γ 4 h sz 0 0 0 [(0, .inr l0), (1, .inr l1), (2, .inl l2)] [] := by
  unfold fX6_lays at he
  refine aw_aload_n C dX6_lays_0 rfl (j := 1) rfl ?_
  refine aw_iload_n C dX6_lays_1 rfl (j := 2) rfl ?_
  refine aw_aload_n C dX6_lays_2 rfl (j := 0) rfl ?_
  obtain ⟨v3, hv, he⟩ := ob he
  refine aw_gI C fk_X6_120 dX6_lays_3 hv ?_
  obtain ⟨h6, hv, he⟩ := ob he
  refine aw_iast C dX6_lays_6 hv ?_
  refine aw_aload_n C dX6_lays_7 rfl (j := 1) rfl ?_
  refine aw_iload_n C dX6_lays_8 rfl (j := 2) rfl ?_
  refine aw_iconst (v := 1) C dX6_lays_9 (by decide) ?_
  refine aw_iadd C dX6_lays_10 ?_
  refine aw_aload_n C dX6_lays_11 rfl (j := 0) rfl ?_
  obtain ⟨v12, hv, he⟩ := ob he
  refine aw_gI C fk_X6_72 dX6_lays_12 hv ?_
  obtain ⟨h15, hv, he⟩ := ob he
  refine aw_iast C dX6_lays_15 hv ?_
  refine aw_iconst (v := 0) C dX6_lays_16 (by decide) ?_
  refine aw_istore_n C dX6_lays_17 rfl (by decide) rfl (lv' := [(0, .inr l0), (1, .inr l1), (2, .inl l2), (3, .inl (0 : Int32))]) rfl ?_
  refine wX6_lays_L18 C ?_ N _ _ _ _ _ he
  intro h l0 l1 l2 he
  refine aw_iconst (v := 0) C dX6_lays_42 (by decide) ?_
  refine aw_istore_n C dX6_lays_43 rfl (by decide) rfl (lv' := [(0, .inr l0), (1, .inr l1), (2, .inl l2), (3, .inl (0 : Int32))]) rfl ?_
  refine wX6_lays_L44 C ?_ N _ _ _ _ _ he
  intro h he
  have he := Option.some.inj he
  subst he
  exact aw_vret C X dX6_lays_70 (by decide) (by decide)
theorem cX6_lays_ (l : Launch) (D : va_G) (dA : Nat → ClassId) (base : Nat) {N : Nat} {h : Hp} {sz : Nat} {l0 : Option Nat} {l1 : Option Nat} {l2 : Int32} {out : Hp} (he : fX6_lays N h l0 l1 l2 = some out) : AM l D dA base yX6_lays cX6_lays 4 none 0 0 0 [.inr l0, .inr l1, .inl l2] h sz none out sz :=
  AM.of (by decide +kernel) (Nat.le_of_ble_eq_true rfl) rfl (fun Γ C X hn => wX6_lays C X he)
set_option maxHeartbeats 4000000 in
set_option maxRecDepth 100000 in
theorem wX6_notes_L11 {Γ : GG} (C : CX Γ cX6_notes 2 RX6 1 0 0) {N : Nat} {sz : Nat} {α : Type} {out : α} {K39 : Hp → Option Nat → Option α} (k39 : ∀ (h : Hp) (l0 : Option Nat), K39 h l0 = some out → AW Γ 2 h sz 0 0 39 [(0, .inr l0)] []) : ∀ (n : Nat) (h : Hp) (l0 : Option Nat) (l1 : Int32), fX6_notes_L11 N K39 n h l0 l1 = some out → AW Γ 2 h sz 0 0 11 [(0, .inr l0), (1, .inl l1)] [] := by
  intro n
  induction n with
  | zero =>
    intro h l0 l1 he
    rw [fX6_notes_L11] at he
    cases he
  | succ n ih =>
    intro h l0 l1 he
    rw [fX6_notes_L11] at he
    refine aw_iload_n C dX6_notes_11 rfl (j := 1) rfl ?_
    refine aw_sipush (v := 702) C dX6_notes_12 (by decide) ?_
    refine aw_ic_ge (tgt := 39) C dX6_notes_15 (by decide) (fun hc => ?_) (fun hc => ?_)
    · have he := ift hc he
      refine aw_sub [0] (lv' := [(0, .inr l0)]) rfl ?_
      exact k39 _ _ he
    · have he := iff_ hc he
      refine aw_aload_n C dX6_notes_18 rfl (j := 0) rfl ?_
      obtain ⟨v19, hv, he⟩ := ob he
      refine aw_gA C fk_X6_40 dX6_notes_19 hv ?_
      refine aw_iload_n C dX6_notes_22 rfl (j := 1) rfl ?_
      refine aw_aload_n C dX6_notes_23 rfl (j := 0) rfl ?_
      obtain ⟨v24, hv, he⟩ := ob he
      refine aw_gA C fk_X6_40 dX6_notes_24 hv ?_
      refine aw_iload_n C dX6_notes_27 rfl (j := 1) rfl ?_
      refine aw_bipush (v := 78) C dX6_notes_28 (by decide) ?_
      refine aw_iadd C dX6_notes_30 ?_
      obtain ⟨v31, hv, he⟩ := ob he
      refine aw_iald C dX6_notes_31 hv ?_
      obtain ⟨h32, hv, he⟩ := ob he
      refine aw_iast C dX6_notes_32 hv ?_
      refine aw_iinc (y := 1) C dX6_notes_33 (by decide) (j := 1) rfl (by decide) rfl (lv' := [(0, .inr l0), (1, .inl (l1 + 1))]) rfl ?_
      refine aw_goto (tgt := 11) C dX6_notes_36 (by decide) ?_
      exact ih _ _ _ he
set_option maxHeartbeats 4000000 in
set_option maxRecDepth 100000 in
theorem wX6_notes_j49 {Γ : GG} (C : CX Γ cX6_notes 2 RX6 1 0 0) {N : Nat} {sz : Nat} {out : Hp} (X : RX Γ none none out sz 0 0) {h : Hp} {l0 : Option Nat} (he : fX6_notes_j49 N h l0 = some out) : AW Γ 2 h sz 0 0 49 [(0, .inr l0)] [] := by
  unfold fX6_notes_j49 at he
  refine aw_aload_n C dX6_notes_49 rfl (j := 0) rfl ?_
  refine aw_aload_n C dX6_notes_50 rfl (j := 0) rfl ?_
  obtain ⟨v51, hv, he⟩ := ob he
  refine aw_gA C fk_X6_40 dX6_notes_51 hv ?_
  refine aw_bipush (v := 78) C dX6_notes_54 (by decide) ?_
  refine aw_aload_n C dX6_notes_56 rfl (j := 0) rfl ?_
  obtain ⟨v57, hv, he⟩ := ob he
  refine aw_gI C fk_X6_126 dX6_notes_57 hv ?_
  refine aw_imul C dX6_notes_60 ?_
  obtain ⟨hO, he⟩ := ifs he
  obtain ⟨z61, hv, he⟩ := ob he
  refine aw_callV (ci := 6) C mb_X6_184 ⟨q_1008, q_59, rfl⟩ hO (cX6_lays_ _ _ _ _ hv) dX6_notes_61 rfl (rest := []) rfl (cat_le _ (Nat.le_of_ble_eq_true rfl)) (Nat.le_of_ble_eq_true rfl) (Nat.le_of_ble_eq_true rfl) (Nat.le_of_ble_eq_true rfl) (st2 := []) rfl ?_
  refine aw_aload_n C dX6_notes_64 rfl (j := 0) rfl ?_
  refine aw_dup C dX6_notes_65 (rf_cat _) ?_
  obtain ⟨v66, hv, he⟩ := ob he
  refine aw_gI C fk_X6_126 dX6_notes_66 hv ?_
  refine aw_iconst (v := 1) C dX6_notes_69 (by decide) ?_
  refine aw_iadd C dX6_notes_70 ?_
  obtain ⟨h71, hv, he⟩ := ob he
  refine aw_put C fk_X6_126 dX6_notes_71 rfl rfl hv ?_
  have he := Option.some.inj he
  subst he
  exact aw_vret C X dX6_notes_74 (by decide) (by decide)
set_option maxHeartbeats 4000000 in
set_option maxRecDepth 100000 in
theorem wX6_notes {Γ : GG} (C : CX Γ cX6_notes 2 RX6 1 0 0) {N : Nat} {sz : Nat} {out : Hp} (X : RX Γ none none out sz 0 0) {h : Hp} {l0 : Option Nat} (he : fX6_notes N h l0 = some out) : AW Γ 2 h sz 0 0 0 [(0, .inr l0)] [] := by
  unfold fX6_notes at he
  refine aw_aload_n C dX6_notes_0 rfl (j := 0) rfl ?_
  obtain ⟨v1, hv, he⟩ := ob he
  refine aw_gI C fk_X6_126 dX6_notes_1 hv ?_
  refine aw_bipush (v := 10) C dX6_notes_4 (by decide) ?_
  refine aw_ic_ne (tgt := 49) C dX6_notes_6 (by decide) (fun hc => ?_) (fun hc => ?_)
  · have he := ift hc he
    refine aw_iconst (v := 0) C dX6_notes_9 (by decide) ?_
    refine aw_istore_n C dX6_notes_10 rfl (by decide) rfl (lv' := [(0, .inr l0), (1, .inl (0 : Int32))]) rfl ?_
    refine wX6_notes_L11 C ?_ N _ _ _ he
    intro h l0 he
    refine aw_aload_n C dX6_notes_39 rfl (j := 0) rfl ?_
    refine aw_dup C dX6_notes_40 (rf_cat _) ?_
    obtain ⟨v41, hv, he⟩ := ob he
    refine aw_gI C fk_X6_126 dX6_notes_41 hv ?_
    refine aw_iconst (v := 1) C dX6_notes_44 (by decide) ?_
    refine aw_isub C dX6_notes_45 ?_
    obtain ⟨h46, hv, he⟩ := ob he
    refine aw_put C fk_X6_126 dX6_notes_46 rfl rfl hv ?_
    exact wX6_notes_j49 C X he
  · have he := iff_ hc he
    exact wX6_notes_j49 C X he
theorem cX6_notes_ (l : Launch) (D : va_G) (dA : Nat → ClassId) (base : Nat) {N : Nat} {h : Hp} {sz : Nat} {l0 : Option Nat} {out : Hp} (he : fX6_notes N h l0 = some out) : AM l D dA base yX6_notes cX6_notes 2 none 1 0 0 [.inr l0] h sz none out sz :=
  AM.of (by decide +kernel) (Nat.le_of_ble_eq_true rfl) rfl (fun Γ C X hn => wX6_notes C X he)
set_option maxHeartbeats 4000000 in
set_option maxRecDepth 100000 in
theorem wX6_draws {Γ : GG} (C : CX Γ cX6_draws 7 RX6 4 0 0) {N : Nat} {sz : Nat} {out : Int32 × Hp} (X : RX Γ (some .int) (some (.int out.1)) out.2 sz 0 0) {h : Hp} {l0 : Option Nat} {l1 : Int32} {l2 : Int32} {l3 : Int32} {l4 : Int32} {l5 : Int32} (he : fX6_draws N h l0 l1 l2 l3 l4 l5 = some out) : AW Γ 7 h sz 0 0 0 [(0, .inr l0), (1, .inl l1), (2, .inl l2), (3, .inl l3), (4, .inl l4), (5, .inl l5)] [] := by
  unfold fX6_draws at he
  refine aw_aload_n C dX6_draws_0 rfl (j := 0) rfl ?_
  refine aw_iload_n C dX6_draws_1 rfl (j := 1) rfl ?_
  obtain ⟨hO, he⟩ := ifs he
  obtain ⟨v2, hv, he⟩ := ob he
  refine aw_callV (ci := 6) C mb_X6_139 ⟨q_922, q_43, rfl⟩ hO (cX6_isRing_ _ _ _ _ hv) dX6_draws_2 rfl (rest := []) rfl (cat_le _ (Nat.le_of_ble_eq_true rfl)) (Nat.le_of_ble_eq_true rfl) (Nat.le_of_ble_eq_true rfl) (Nat.le_of_ble_eq_true rfl) (st2 := [.int v2]) rfl ?_
  refine aw_if_eq (tgt := 52) C dX6_draws_5 (by decide) (fun hc => ?_) (fun hc => ?_)
  · have he := ift hc he
    refine aw_iconst (v := -1) C dX6_draws_52 (by decide) ?_
    have he := Option.some.inj he
    subst he
    exact aw_iret C X dX6_draws_53 (by decide) (by decide)
  · have he := iff_ hc he
    refine aw_aload_n C dX6_draws_8 rfl (j := 0) rfl ?_
    refine aw_iload_n C dX6_draws_9 rfl (j := 2) rfl ?_
    obtain ⟨hO, he⟩ := ifs he
    obtain ⟨v10, hv, he⟩ := ob he
    refine aw_callV (ci := 6) C mb_X6_143 ⟨q_930, q_44, rfl⟩ hO (cX6_isWheel_ _ _ _ _ hv) dX6_draws_10 rfl (rest := []) rfl (cat_le _ (Nat.le_of_ble_eq_true rfl)) (Nat.le_of_ble_eq_true rfl) (Nat.le_of_ble_eq_true rfl) (Nat.le_of_ble_eq_true rfl) (st2 := [.int v10]) rfl ?_
    refine aw_if_eq (tgt := 52) C dX6_draws_13 (by decide) (fun hc => ?_) (fun hc => ?_)
    · have he := ift hc he
      refine aw_iconst (v := -1) C dX6_draws_52 (by decide) ?_
      have he := Option.some.inj he
      subst he
      exact aw_iret C X dX6_draws_53 (by decide) (by decide)
    · have he := iff_ hc he
      refine aw_iload_n C dX6_draws_16 rfl (j := 3) rfl ?_
      refine aw_iconst (v := 1) C dX6_draws_17 (by decide) ?_
      refine aw_bipush (v := 9) C dX6_draws_18 (by decide) ?_
      obtain ⟨v20, hv, he⟩ := ob he
      refine aw_callS C mb_X6_62 q_874 (cX6_in_ _ _ _ _ hv) dX6_draws_20 rfl (rest := []) rfl (cat_le _ (Nat.le_of_ble_eq_true rfl)) (Nat.le_of_ble_eq_true rfl) (Nat.le_of_ble_eq_true rfl) (Nat.le_of_ble_eq_true rfl) (st2 := [.int v20]) rfl ?_
      refine aw_if_eq (tgt := 52) C dX6_draws_23 (by decide) (fun hc => ?_) (fun hc => ?_)
      · have he := ift hc he
        refine aw_iconst (v := -1) C dX6_draws_52 (by decide) ?_
        have he := Option.some.inj he
        subst he
        exact aw_iret C X dX6_draws_53 (by decide) (by decide)
      · have he := iff_ hc he
        refine aw_iload C dX6_draws_26 (j := 4) rfl ?_
        refine aw_iconst (v := 0) C dX6_draws_28 (by decide) ?_
        refine aw_aload_n C dX6_draws_29 rfl (j := 0) rfl ?_
        obtain ⟨v30, hv, he⟩ := ob he
        refine aw_gA C fk_X6_7 dX6_draws_30 hv ?_
        refine aw_iload_n C dX6_draws_33 rfl (j := 1) rfl ?_
        obtain ⟨v34, hv, he⟩ := ob he
        refine aw_iald C dX6_draws_34 hv ?_
        refine aw_iconst (v := 1) C dX6_draws_35 (by decide) ?_
        refine aw_isub C dX6_draws_36 ?_
        obtain ⟨v37, hv, he⟩ := ob he
        refine aw_callS C mb_X6_62 q_874 (cX6_in_ _ _ _ _ hv) dX6_draws_37 rfl (rest := []) rfl (cat_le _ (Nat.le_of_ble_eq_true rfl)) (Nat.le_of_ble_eq_true rfl) (Nat.le_of_ble_eq_true rfl) (Nat.le_of_ble_eq_true rfl) (st2 := [.int v37]) rfl ?_
        refine aw_if_eq (tgt := 52) C dX6_draws_40 (by decide) (fun hc => ?_) (fun hc => ?_)
        · have he := ift hc he
          refine aw_iconst (v := -1) C dX6_draws_52 (by decide) ?_
          have he := Option.some.inj he
          subst he
          exact aw_iret C X dX6_draws_53 (by decide) (by decide)
        · have he := iff_ hc he
          refine aw_aload_n C dX6_draws_43 rfl (j := 0) rfl ?_
          refine aw_iload C dX6_draws_44 (j := 5) rfl ?_
          obtain ⟨hO, he⟩ := ifs he
          obtain ⟨v46, hv, he⟩ := ob he
          refine aw_callV (ci := 6) C mb_X6_171 ⟨q_961, q_50, rfl⟩ hO (cX6_isPen_ _ _ _ _ hv) dX6_draws_46 rfl (rest := []) rfl (cat_le _ (Nat.le_of_ble_eq_true rfl)) (Nat.le_of_ble_eq_true rfl) (Nat.le_of_ble_eq_true rfl) (Nat.le_of_ble_eq_true rfl) (st2 := [.int v46]) rfl ?_
          refine aw_if_ne (tgt := 54) C dX6_draws_49 (by decide) (fun hc => ?_) (fun hc => ?_)
          · have he := ift hc he
            refine aw_iconst (v := -1) C dX6_draws_52 (by decide) ?_
            have he := Option.some.inj he
            subst he
            exact aw_iret C X dX6_draws_53 (by decide) (by decide)
          · have he := iff_ hc he
            refine aw_aload_n C dX6_draws_54 rfl (j := 0) rfl ?_
            refine aw_iload_n C dX6_draws_55 rfl (j := 1) rfl ?_
            refine aw_iload_n C dX6_draws_56 rfl (j := 2) rfl ?_
            obtain ⟨hO, he⟩ := ifs he
            obtain ⟨v57, hv, he⟩ := ob he
            refine aw_callV (ci := 6) C mb_X6_146 ⟨q_934, q_45, rfl⟩ hO (cX6_fits_ _ _ _ _ hv) dX6_draws_57 rfl (rest := []) rfl (cat_le _ (Nat.le_of_ble_eq_true rfl)) (Nat.le_of_ble_eq_true rfl) (Nat.le_of_ble_eq_true rfl) (Nat.le_of_ble_eq_true rfl) (st2 := [.int v57]) rfl ?_
            refine aw_if_eq (tgt := 79) C dX6_draws_60 (by decide) (fun hc => ?_) (fun hc => ?_)
            · have he := ift hc he
              refine aw_bipush (v := -2) C dX6_draws_79 (by decide) ?_
              have he := Option.some.inj he
              subst he
              exact aw_iret C X dX6_draws_81 (by decide) (by decide)
            · have he := iff_ hc he
              refine aw_aload_n C dX6_draws_63 rfl (j := 0) rfl ?_
              refine aw_iload_n C dX6_draws_64 rfl (j := 1) rfl ?_
              refine aw_iload_n C dX6_draws_65 rfl (j := 2) rfl ?_
              obtain ⟨hO, he⟩ := ifs he
              obtain ⟨v66, hv, he⟩ := ob he
              refine aw_callV (ci := 6) C mb_X6_152 ⟨q_953, q_49, rfl⟩ hO (cX6_longOf_ _ _ _ _ hv) dX6_draws_66 rfl (rest := []) rfl (cat_le _ (Nat.le_of_ble_eq_true rfl)) (Nat.le_of_ble_eq_true rfl) (Nat.le_of_ble_eq_true rfl) (Nat.le_of_ble_eq_true rfl) (st2 := [.int v66]) rfl ?_
              refine aw_aload_n C dX6_draws_69 rfl (j := 0) rfl ?_
              obtain ⟨v70, hv, he⟩ := ob he
              refine aw_gA C fk_X6_16 dX6_draws_70 hv ?_
              refine aw_iload C dX6_draws_73 (j := 5) rfl ?_
              obtain ⟨v75, hv, he⟩ := ob he
              refine aw_iald C dX6_draws_75 hv ?_
              refine aw_ic_le (tgt := 82) C dX6_draws_76 (by decide) (fun hc => ?_) (fun hc => ?_)
              · have he := ift hc he
                refine aw_aload_n C dX6_draws_82 rfl (j := 0) rfl ?_
                obtain ⟨v83, hv, he⟩ := ob he
                refine aw_gI C fk_X6_72 dX6_draws_83 hv ?_
                refine aw_bipush (v := 12) C dX6_draws_86 (by decide) ?_
                refine aw_ic_ne (tgt := 94) C dX6_draws_88 (by decide) (fun hc => ?_) (fun hc => ?_)
                · have he := ift hc he
                  refine aw_bipush (v := -3) C dX6_draws_91 (by decide) ?_
                  have he := Option.some.inj he
                  subst he
                  exact aw_iret C X dX6_draws_93 (by decide) (by decide)
                · have he := iff_ hc he
                  refine aw_aload_n C dX6_draws_94 rfl (j := 0) rfl ?_
                  obtain ⟨hO, he⟩ := ifs he
                  obtain ⟨z95, hv, he⟩ := ob he
                  refine aw_callV (ci := 6) C mb_X6_188 ⟨q_1004, q_58, rfl⟩ hO (cX6_notes_ _ _ _ _ hv) dX6_draws_95 rfl (rest := []) rfl (cat_le _ (Nat.le_of_ble_eq_true rfl)) (Nat.le_of_ble_eq_true rfl) (Nat.le_of_ble_eq_true rfl) (Nat.le_of_ble_eq_true rfl) (st2 := []) rfl ?_
                  refine aw_bipush (v := 6) C dX6_draws_98 (by decide) ?_
                  refine aw_aload_n C dX6_draws_100 rfl (j := 0) rfl ?_
                  obtain ⟨v101, hv, he⟩ := ob he
                  refine aw_gI C fk_X6_72 dX6_draws_101 hv ?_
                  refine aw_imul C dX6_draws_104 ?_
                  refine aw_istore C dX6_draws_105 (by decide) rfl (lv' := [(0, .inr l0), (1, .inl l1), (2, .inl l2), (3, .inl l3), (4, .inl l4), (5, .inl l5), (6, .inl ((6 : Int32) * v101))]) rfl ?_
                  refine aw_aload_n C dX6_draws_107 rfl (j := 0) rfl ?_
                  obtain ⟨v108, hv, he⟩ := ob he
                  refine aw_gA C fk_X6_19 dX6_draws_108 hv ?_
                  refine aw_iload C dX6_draws_111 (j := 6) rfl ?_
                  refine aw_iload_n C dX6_draws_113 rfl (j := 1) rfl ?_
                  obtain ⟨h114, hv, he⟩ := ob he
                  refine aw_iast C dX6_draws_114 hv ?_
                  refine aw_aload_n C dX6_draws_115 rfl (j := 0) rfl ?_
                  obtain ⟨v116, hv, he⟩ := ob he
                  refine aw_gA C fk_X6_19 dX6_draws_116 hv ?_
                  refine aw_iload C dX6_draws_119 (j := 6) rfl ?_
                  refine aw_iconst (v := 1) C dX6_draws_121 (by decide) ?_
                  refine aw_iadd C dX6_draws_122 ?_
                  refine aw_iload_n C dX6_draws_123 rfl (j := 2) rfl ?_
                  obtain ⟨h124, hv, he⟩ := ob he
                  refine aw_iast C dX6_draws_124 hv ?_
                  refine aw_aload_n C dX6_draws_125 rfl (j := 0) rfl ?_
                  obtain ⟨v126, hv, he⟩ := ob he
                  refine aw_gA C fk_X6_19 dX6_draws_126 hv ?_
                  refine aw_iload C dX6_draws_129 (j := 6) rfl ?_
                  refine aw_iconst (v := 2) C dX6_draws_131 (by decide) ?_
                  refine aw_iadd C dX6_draws_132 ?_
                  refine aw_iload_n C dX6_draws_133 rfl (j := 3) rfl ?_
                  obtain ⟨h134, hv, he⟩ := ob he
                  refine aw_iast C dX6_draws_134 hv ?_
                  refine aw_aload_n C dX6_draws_135 rfl (j := 0) rfl ?_
                  obtain ⟨v136, hv, he⟩ := ob he
                  refine aw_gA C fk_X6_19 dX6_draws_136 hv ?_
                  refine aw_iload C dX6_draws_139 (j := 6) rfl ?_
                  refine aw_iconst (v := 3) C dX6_draws_141 (by decide) ?_
                  refine aw_iadd C dX6_draws_142 ?_
                  refine aw_iload C dX6_draws_143 (j := 4) rfl ?_
                  obtain ⟨h145, hv, he⟩ := ob he
                  refine aw_iast C dX6_draws_145 hv ?_
                  refine aw_aload_n C dX6_draws_146 rfl (j := 0) rfl ?_
                  obtain ⟨v147, hv, he⟩ := ob he
                  refine aw_gA C fk_X6_19 dX6_draws_147 hv ?_
                  refine aw_iload C dX6_draws_150 (j := 6) rfl ?_
                  refine aw_iconst (v := 4) C dX6_draws_152 (by decide) ?_
                  refine aw_iadd C dX6_draws_153 ?_
                  refine aw_iload C dX6_draws_154 (j := 5) rfl ?_
                  obtain ⟨h156, hv, he⟩ := ob he
                  refine aw_iast C dX6_draws_156 hv ?_
                  refine aw_aload_n C dX6_draws_157 rfl (j := 0) rfl ?_
                  obtain ⟨v158, hv, he⟩ := ob he
                  refine aw_gA C fk_X6_19 dX6_draws_158 hv ?_
                  refine aw_iload C dX6_draws_161 (j := 6) rfl ?_
                  refine aw_iconst (v := 5) C dX6_draws_163 (by decide) ?_
                  refine aw_iadd C dX6_draws_164 ?_
                  refine aw_aload_n C dX6_draws_165 rfl (j := 0) rfl ?_
                  obtain ⟨v166, hv, he⟩ := ob he
                  refine aw_gI C fk_X6_120 dX6_draws_166 hv ?_
                  obtain ⟨h169, hv, he⟩ := ob he
                  refine aw_iast C dX6_draws_169 hv ?_
                  refine aw_aload_n C dX6_draws_170 rfl (j := 0) rfl ?_
                  obtain ⟨v171, hv, he⟩ := ob he
                  refine aw_gA C fk_X6_16 dX6_draws_171 hv ?_
                  refine aw_iload C dX6_draws_174 (j := 5) rfl ?_
                  refine aw_dup2 C dX6_draws_176 rfl (rf_cat _) ?_
                  obtain ⟨v177, hv, he⟩ := ob he
                  refine aw_iald C dX6_draws_177 hv ?_
                  refine aw_aload_n C dX6_draws_178 rfl (j := 0) rfl ?_
                  refine aw_iload_n C dX6_draws_179 rfl (j := 1) rfl ?_
                  refine aw_iload_n C dX6_draws_180 rfl (j := 2) rfl ?_
                  obtain ⟨hO, he⟩ := ifs he
                  obtain ⟨v181, hv, he⟩ := ob he
                  refine aw_callV (ci := 6) C mb_X6_152 ⟨q_953, q_49, rfl⟩ hO (cX6_longOf_ _ _ _ _ hv) dX6_draws_181 rfl (rest := [.int v177, .int l5, va_rf v171]) rfl (cat_le _ (Nat.le_of_ble_eq_true rfl)) (Nat.le_of_ble_eq_true rfl) (Nat.le_of_ble_eq_true rfl) (Nat.le_of_ble_eq_true rfl) (st2 := [.int v181, .int v177, .int l5, va_rf v171]) rfl ?_
                  refine aw_isub C dX6_draws_184 ?_
                  obtain ⟨h185, hv, he⟩ := ob he
                  refine aw_iast C dX6_draws_185 hv ?_
                  refine aw_aload_n C dX6_draws_186 rfl (j := 0) rfl ?_
                  refine aw_dup C dX6_draws_187 (rf_cat _) ?_
                  obtain ⟨v188, hv, he⟩ := ob he
                  refine aw_gI C fk_X6_72 dX6_draws_188 hv ?_
                  refine aw_iconst (v := 1) C dX6_draws_191 (by decide) ?_
                  refine aw_iadd C dX6_draws_192 ?_
                  obtain ⟨h193, hv, he⟩ := ob he
                  refine aw_put C fk_X6_72 dX6_draws_193 rfl rfl hv ?_
                  refine aw_aload_n C dX6_draws_196 rfl (j := 0) rfl ?_
                  obtain ⟨v197, hv, he⟩ := ob he
                  refine aw_gI C fk_X6_72 dX6_draws_197 hv ?_
                  refine aw_iconst (v := 1) C dX6_draws_200 (by decide) ?_
                  refine aw_isub C dX6_draws_201 ?_
                  have he := Option.some.inj he
                  subst he
                  exact aw_iret C X dX6_draws_202 (by decide) (by decide)
              · have he := iff_ hc he
                refine aw_bipush (v := -2) C dX6_draws_79 (by decide) ?_
                have he := Option.some.inj he
                subst he
                exact aw_iret C X dX6_draws_81 (by decide) (by decide)
theorem cX6_draws_ (l : Launch) (D : va_G) (dA : Nat → ClassId) (base : Nat) {N : Nat} {h : Hp} {sz : Nat} {l0 : Option Nat} {l1 : Int32} {l2 : Int32} {l3 : Int32} {l4 : Int32} {l5 : Int32} {out : Int32 × Hp} (he : fX6_draws N h l0 l1 l2 l3 l4 l5 = some out) : AM l D dA base yX6_draws cX6_draws 7 (some .int) 4 0 0 [.inr l0, .inl l1, .inl l2, .inl l3, .inl l4, .inl l5] h sz (some (.int out.1)) out.2 sz :=
  AM.of (by decide +kernel) (Nat.le_of_ble_eq_true rfl) rfl (fun Γ C X hn => wX6_draws C X he)
set_option maxHeartbeats 4000000 in
set_option maxRecDepth 100000 in
theorem wX2_rubbed_L17 {Γ : GG} (C : CX Γ cX2_rubbed 4 RX2 2 2 19) {N : Nat} {α : Type} {out : α} {K49 : Hp → Nat → Option Nat → Option Nat → Option α} (k49 : ∀ (h : Hp) (sz : Nat) (l0 : Option Nat) (l2 : Option Nat), K49 h sz l0 l2 = some out → AW Γ 4 h sz 1 16 49 [(0, .inr l0), (2, .inr l2)] []) : ∀ (n : Nat) (h : Hp) (sz : Nat) (l0 : Option Nat) (l1 : Int32) (l2 : Option Nat) (l3 : Int32), fX2_rubbed_L17 N K49 n h sz l0 l1 l2 l3 = some out → AW Γ 4 h sz 1 16 17 [(0, .inr l0), (1, .inl l1), (2, .inr l2), (3, .inl l3)] [] := by
  intro n
  induction n with
  | zero =>
    intro h sz l0 l1 l2 l3 he
    rw [fX2_rubbed_L17] at he
    cases he
  | succ n ih =>
    intro h sz l0 l1 l2 l3 he
    rw [fX2_rubbed_L17] at he
    refine aw_iload_n C dX2_rubbed_17 rfl (j := 3) rfl ?_
    refine aw_aload_n C dX2_rubbed_18 rfl (j := 2) rfl ?_
    obtain ⟨v19, hv, he⟩ := ob he
    refine aw_alen C dX2_rubbed_19 hv ?_
    refine aw_ic_ge (tgt := 49) C dX2_rubbed_20 (by decide) (fun hc => ?_) (fun hc => ?_)
    · have he := ift hc he
      refine aw_sub [0, 2] (lv' := [(0, .inr l0), (2, .inr l2)]) rfl ?_
      exact k49 _ _ _ _ he
    · have he := iff_ hc he
      refine aw_aload_n C dX2_rubbed_23 rfl (j := 2) rfl ?_
      refine aw_iload_n C dX2_rubbed_24 rfl (j := 3) rfl ?_
      refine aw_aload_n C dX2_rubbed_25 rfl (j := 0) rfl ?_
      obtain ⟨v26, hv, he⟩ := ob he
      refine aw_gA C fk_X2_19 dX2_rubbed_26 hv ?_
      refine aw_iload_n C dX2_rubbed_29 rfl (j := 3) rfl ?_
      refine aw_iload_n C dX2_rubbed_30 rfl (j := 1) rfl ?_
      refine aw_ic_ge (tgt := 38) C dX2_rubbed_31 (by decide) (fun hc => ?_) (fun hc => ?_)
      · have he := ift hc he
        refine aw_iload_n C dX2_rubbed_38 rfl (j := 3) rfl ?_
        refine aw_iconst (v := 1) C dX2_rubbed_39 (by decide) ?_
        refine aw_iadd C dX2_rubbed_40 ?_
        obtain ⟨v41, hv, he⟩ := ob he
        refine aw_aald C (by decide) dX2_rubbed_41 hv ?_
        obtain ⟨h42, hv, he⟩ := ob he
        refine aw_aast C (by decide) dX2_rubbed_42 hv ?_
        refine aw_iinc (y := 1) C dX2_rubbed_43 (by decide) (j := 3) rfl (by decide) rfl (lv' := [(0, .inr l0), (1, .inl l1), (2, .inr l2), (3, .inl (l3 + 1))]) rfl ?_
        refine aw_goto (tgt := 17) C dX2_rubbed_46 (by decide) ?_
        exact ih _ _ _ _ _ _ he
      · have he := iff_ hc he
        refine aw_iload_n C dX2_rubbed_34 rfl (j := 3) rfl ?_
        refine aw_goto (tgt := 41) C dX2_rubbed_35 (by decide) ?_
        obtain ⟨v41, hv, he⟩ := ob he
        refine aw_aald C (by decide) dX2_rubbed_41 hv ?_
        obtain ⟨h42, hv, he⟩ := ob he
        refine aw_aast C (by decide) dX2_rubbed_42 hv ?_
        refine aw_iinc (y := 1) C dX2_rubbed_43 (by decide) (j := 3) rfl (by decide) rfl (lv' := [(0, .inr l0), (1, .inl l1), (2, .inr l2), (3, .inl (l3 + 1))]) rfl ?_
        refine aw_goto (tgt := 17) C dX2_rubbed_46 (by decide) ?_
        exact ih _ _ _ _ _ _ he
set_option maxHeartbeats 4000000 in
set_option maxRecDepth 100000 in
theorem wX2_rubbed {Γ : GG} (C : CX Γ cX2_rubbed 4 RX2 2 2 19) {N : Nat} {out : Option Nat × Hp × Nat} (X : RX Γ (some (.object "PetalWheels$Paper")) (some (va_rf out.1)) out.2.1 out.2.2 2 19) {h : Hp} {sz : Nat} {l0 : Option Nat} {l1 : Int32} (he : fX2_rubbed N h sz l0 l1 = some out) : AW Γ 4 h sz 0 0 0 [(0, .inr l0), (1, .inl l1)] [] := by
  unfold fX2_rubbed at he
  refine aw_aload_n C dX2_rubbed_0 rfl (j := 0) rfl ?_
  obtain ⟨v1, hv, he⟩ := ob he
  refine aw_gA C fk_X2_19 dX2_rubbed_1 hv ?_
  obtain ⟨v4, hv, he⟩ := ob he
  refine aw_alen C dX2_rubbed_4 hv ?_
  refine aw_iconst (v := 1) C dX2_rubbed_5 (by decide) ?_
  refine aw_isub C dX2_rubbed_6 ?_
  refine aw_iconst (v := 0) C dX2_rubbed_7 (by decide) ?_
  refine aw_mmax C q_548 q_549 q_78 q_550 (Nat.le_of_ble_eq_true rfl) (Nat.le_of_ble_eq_true rfl) (Nat.le_of_ble_eq_true rfl) (Nat.le_of_ble_eq_true rfl) dX2_rubbed_8 ?_
  obtain ⟨hx, he⟩ := ifs he
  refine aw_newA (i := 2) (t := 2) C rfl (fun z => z.2.2.1) q_518 dX2_rubbed_11 hx.1 rfl (by omega) (by decide) (by have := hx.2; omega) ?_
  refine aw_wide (k' := 1) (n' := 16) (by decide) (by have := hx.2; omega) ?_
  refine aw_astore_n C dX2_rubbed_14 rfl (by decide) rfl (lv' := [(0, .inr l0), (1, .inl l1), (2, .inr (some sz))]) rfl ?_
  refine aw_iconst (v := 0) C dX2_rubbed_15 (by decide) ?_
  refine aw_istore_n C dX2_rubbed_16 rfl (by decide) rfl (lv' := [(0, .inr l0), (1, .inl l1), (2, .inr (some sz)), (3, .inl (0 : Int32))]) rfl ?_
  refine wX2_rubbed_L17 C ?_ N _ _ _ _ _ _ he
  intro h sz l0 l2 he
  refine aw_new C nk_X2_10 dX2_rubbed_49 (by decide) (by decide) ?_
  refine aw_dup C dX2_rubbed_52 (rf_cat _) ?_
  refine aw_aload_n C dX2_rubbed_53 rfl (j := 0) rfl ?_
  obtain ⟨v54, hv, he⟩ := ob he
  refine aw_gI C fk_X2_9 dX2_rubbed_54 hv ?_
  refine aw_aload_n C dX2_rubbed_57 rfl (j := 0) rfl ?_
  obtain ⟨v58, hv, he⟩ := ob he
  refine aw_gA C fk_X2_15 dX2_rubbed_58 hv ?_
  refine aw_aload_n C dX2_rubbed_61 rfl (j := 1) rfl ?_
  obtain ⟨z62, hv, he⟩ := ob he
  refine aw_callI C mb_X2_43 ⟨rfl, q_169⟩ (cX2_init_ _ _ _ _ hv) dX2_rubbed_62 rfl (rest := [va_rf (some sz)]) rfl (cat_le _ (Nat.le_of_ble_eq_true rfl)) (Nat.le_of_ble_eq_true rfl) (Nat.le_of_ble_eq_true rfl) (Nat.le_of_ble_eq_true rfl) (st2 := [va_rf (some sz)]) rfl ?_
  have he := Option.some.inj he
  subst he
  exact aw_aret C X (Or.inl ⟨_, rfl⟩) dX2_rubbed_65 (by decide) (by decide)
theorem cX2_rubbed_ (l : Launch) (D : va_G) (dA : Nat → ClassId) (base : Nat) {N : Nat} {h : Hp} {sz : Nat} {l0 : Option Nat} {l1 : Int32} {out : Option Nat × Hp × Nat} (he : fX2_rubbed N h sz l0 l1 = some out) : AM l D dA base yX2_rubbed cX2_rubbed 4 (some (.object "PetalWheels$Paper")) 2 2 19 [.inr l0, .inl l1] h sz (some (va_rf out.1)) out.2.1 out.2.2 :=
  AM.of (by decide +kernel) (Nat.le_of_ble_eq_true rfl) rfl (fun Γ C X hn => wX2_rubbed C X he)
set_option maxHeartbeats 4000000 in
set_option maxRecDepth 100000 in
theorem wX5_rubs {Γ : GG} (C : CX Γ cX5_rubs 2 RX5 3 2 19) {N : Nat} {out : Int32 × Hp × Nat} (X : RX Γ (some .int) (some (.int out.1)) out.2.1 out.2.2 2 19) {h : Hp} {sz : Nat} {l0 : Option Nat} {l1 : Int32} (he : fX5_rubs N h sz l0 l1 = some out) : AW Γ 2 h sz 0 0 0 [(0, .inr l0), (1, .inl l1)] [] := by
  unfold fX5_rubs at he
  refine aw_aload_n C dX5_rubs_0 rfl (j := 0) rfl ?_
  obtain ⟨v1, hv, he⟩ := ob he
  refine aw_gA C fk_X5_37 dX5_rubs_1 hv ?_
  refine aw_iload_n C dX5_rubs_4 rfl (j := 1) rfl ?_
  obtain ⟨hO, he⟩ := ifs he
  obtain ⟨v5, hv, he⟩ := ob he
  refine aw_callV (ci := 2) C mb_X5_135 ⟨q_425, q_426, rfl⟩ hO (cX2_curveAt_ _ _ _ _ hv) dX5_rubs_5 rfl (rest := []) rfl (cat_le _ (Nat.le_of_ble_eq_true rfl)) (Nat.le_of_ble_eq_true rfl) (Nat.le_of_ble_eq_true rfl) (Nat.le_of_ble_eq_true rfl) (st2 := [va_rf v5]) rfl ?_
  refine aw_ifnonnull (tgt := 13) C dX5_rubs_8 (by decide) (fun hc => ?_) (fun hc => ?_)
  · have he := ift hc he
    refine aw_iconst (v := -1) C dX5_rubs_11 (by decide) ?_
    have he := Option.some.inj he
    subst he
    exact aw_iret C X dX5_rubs_12 (by decide) (by decide)
  · have he := iff_ hc he
    refine aw_aload_n C dX5_rubs_13 rfl (j := 0) rfl ?_
    refine aw_aload_n C dX5_rubs_14 rfl (j := 0) rfl ?_
    obtain ⟨v15, hv, he⟩ := ob he
    refine aw_gA C fk_X5_37 dX5_rubs_15 hv ?_
    refine aw_iload_n C dX5_rubs_18 rfl (j := 1) rfl ?_
    obtain ⟨hO, he⟩ := ifs he
    obtain ⟨z19, hv, he⟩ := ob he
    refine aw_callV (ci := 2) C mb_X5_178 ⟨q_545, q_546, rfl⟩ hO (cX2_rubbed_ _ _ _ _ hv) dX5_rubs_19 rfl (rest := [va_rf l0]) rfl (cat_le _ (Nat.le_of_ble_eq_true rfl)) (Nat.le_of_ble_eq_true rfl) (Nat.le_of_ble_eq_true rfl) (Nat.le_of_ble_eq_true rfl) (st2 := [va_rf z19.1, va_rf l0]) rfl ?_
    obtain ⟨hO, he⟩ := ifs he
    obtain ⟨z22, hv, he⟩ := ob he
    refine aw_callV (ci := 5) C mb_X5_174 ⟨q_530, q_14, rfl⟩ hO (cX5_changeTo_ _ _ _ _ hv) dX5_rubs_22 rfl (rest := []) rfl (cat_le _ (Nat.le_of_ble_eq_true rfl)) (Nat.le_of_ble_eq_true rfl) (Nat.le_of_ble_eq_true rfl) (Nat.le_of_ble_eq_true rfl) (st2 := []) rfl ?_
    refine aw_aload_n C dX5_rubs_25 rfl (j := 0) rfl ?_
    obtain ⟨v26, hv, he⟩ := ob he
    refine aw_gA C fk_X5_37 dX5_rubs_26 hv ?_
    obtain ⟨v29, hv, he⟩ := ob he
    refine aw_gA C fk_X5_160 dX5_rubs_29 hv ?_
    obtain ⟨v32, hv, he⟩ := ob he
    refine aw_alen C dX5_rubs_32 hv ?_
    have he := Option.some.inj he
    subst he
    exact aw_iret C X dX5_rubs_33 (by decide) (by decide)
theorem cX5_rubs_ (l : Launch) (D : va_G) (dA : Nat → ClassId) (base : Nat) {N : Nat} {h : Hp} {sz : Nat} {l0 : Option Nat} {l1 : Int32} {out : Int32 × Hp × Nat} (he : fX5_rubs N h sz l0 l1 = some out) : AM l D dA base yX5_rubs cX5_rubs 2 (some .int) 3 2 19 [.inr l0, .inl l1] h sz (some (.int out.1)) out.2.1 out.2.2 :=
  AM.of (by decide +kernel) (Nat.le_of_ble_eq_true rfl) rfl (fun Γ C X hn => wX5_rubs C X he)
set_option maxHeartbeats 4000000 in
set_option maxRecDepth 100000 in
theorem wX6_rubs_L29 {Γ : GG} (C : CX Γ cX6_rubs 3 RX6 2 0 0) {N : Nat} {sz : Nat} {α : Type} {out : α} {K61 : Hp → Option Nat → Option α} (k61 : ∀ (h : Hp) (l0 : Option Nat), K61 h l0 = some out → AW Γ 3 h sz 0 0 61 [(0, .inr l0)] []) : ∀ (n : Nat) (h : Hp) (l0 : Option Nat) (l2 : Int32), fX6_rubs_L29 N K61 n h l0 l2 = some out → AW Γ 3 h sz 0 0 29 [(0, .inr l0), (2, .inl l2)] [] := by
  intro n
  induction n with
  | zero =>
    intro h l0 l2 he
    rw [fX6_rubs_L29] at he
    cases he
  | succ n ih =>
    intro h l0 l2 he
    rw [fX6_rubs_L29] at he
    refine aw_iload_n C dX6_rubs_29 rfl (j := 1) rfl ?_
    refine aw_bipush (v := 6) C dX6_rubs_30 (by decide) ?_
    refine aw_aload_n C dX6_rubs_32 rfl (j := 0) rfl ?_
    obtain ⟨v33, hv, he⟩ := ob he
    refine aw_gI C fk_X6_72 dX6_rubs_33 hv ?_
    refine aw_imul C dX6_rubs_36 ?_
    refine aw_ic_ge (tgt := 61) C dX6_rubs_37 (by decide) (fun hc => ?_) (fun hc => ?_)
    · have he := ift hc he
      refine aw_sub [0] (lv' := [(0, .inr l0)]) rfl ?_
      exact k61 _ _ he
    · have he := iff_ hc he
      refine aw_aload_n C dX6_rubs_40 rfl (j := 0) rfl ?_
      obtain ⟨v41, hv, he⟩ := ob he
      refine aw_gA C fk_X6_19 dX6_rubs_41 hv ?_
      refine aw_iload_n C dX6_rubs_44 rfl (j := 1) rfl ?_
      refine aw_aload_n C dX6_rubs_45 rfl (j := 0) rfl ?_
      obtain ⟨v46, hv, he⟩ := ob he
      refine aw_gA C fk_X6_19 dX6_rubs_46 hv ?_
      refine aw_iload_n C dX6_rubs_49 rfl (j := 1) rfl ?_
      refine aw_bipush (v := 6) C dX6_rubs_50 (by decide) ?_
      refine aw_iadd C dX6_rubs_52 ?_
      obtain ⟨v53, hv, he⟩ := ob he
      refine aw_iald C dX6_rubs_53 hv ?_
      obtain ⟨h54, hv, he⟩ := ob he
      refine aw_iast C dX6_rubs_54 hv ?_
      refine aw_iinc (y := 1) C dX6_rubs_55 (by decide) (j := 1) rfl (by decide) rfl (lv' := [(0, .inr l0), (2, .inl (l2 + 1))]) rfl ?_
      refine aw_goto (tgt := 29) C dX6_rubs_58 (by decide) ?_
      exact ih _ _ _ he
set_option maxHeartbeats 4000000 in
set_option maxRecDepth 100000 in
theorem wX6_rubs {Γ : GG} (C : CX Γ cX6_rubs 3 RX6 2 0 0) {N : Nat} {sz : Nat} {out : Int32 × Hp} (X : RX Γ (some .int) (some (.int out.1)) out.2 sz 0 0) {h : Hp} {l0 : Option Nat} {l1 : Int32} (he : fX6_rubs N h l0 l1 = some out) : AW Γ 3 h sz 0 0 0 [(0, .inr l0), (1, .inl l1)] [] := by
  unfold fX6_rubs at he
  refine aw_aload_n C dX6_rubs_0 rfl (j := 0) rfl ?_
  refine aw_iload_n C dX6_rubs_1 rfl (j := 1) rfl ?_
  obtain ⟨hO, he⟩ := ifs he
  obtain ⟨v2, hv, he⟩ := ob he
  refine aw_callV (ci := 6) C mb_X6_178 ⟨q_992, q_56, rfl⟩ hO (cX6_isCurve_ _ _ _ _ hv) dX6_rubs_2 rfl (rest := []) rfl (cat_le _ (Nat.le_of_ble_eq_true rfl)) (Nat.le_of_ble_eq_true rfl) (Nat.le_of_ble_eq_true rfl) (Nat.le_of_ble_eq_true rfl) (st2 := [.int v2]) rfl ?_
  refine aw_if_ne (tgt := 10) C dX6_rubs_5 (by decide) (fun hc => ?_) (fun hc => ?_)
  · have he := ift hc he
    refine aw_iconst (v := -1) C dX6_rubs_8 (by decide) ?_
    have he := Option.some.inj he
    subst he
    exact aw_iret C X dX6_rubs_9 (by decide) (by decide)
  · have he := iff_ hc he
    refine aw_aload_n C dX6_rubs_10 rfl (j := 0) rfl ?_
    obtain ⟨hO, he⟩ := ifs he
    obtain ⟨z11, hv, he⟩ := ob he
    refine aw_callV (ci := 6) C mb_X6_188 ⟨q_1004, q_58, rfl⟩ hO (cX6_notes_ _ _ _ _ hv) dX6_rubs_11 rfl (rest := []) rfl (cat_le _ (Nat.le_of_ble_eq_true rfl)) (Nat.le_of_ble_eq_true rfl) (Nat.le_of_ble_eq_true rfl) (Nat.le_of_ble_eq_true rfl) (st2 := []) rfl ?_
    refine aw_aload_n C dX6_rubs_14 rfl (j := 0) rfl ?_
    refine aw_dup C dX6_rubs_15 (rf_cat _) ?_
    obtain ⟨v16, hv, he⟩ := ob he
    refine aw_gI C fk_X6_72 dX6_rubs_16 hv ?_
    refine aw_iconst (v := 1) C dX6_rubs_19 (by decide) ?_
    refine aw_isub C dX6_rubs_20 ?_
    obtain ⟨h21, hv, he⟩ := ob he
    refine aw_put C fk_X6_72 dX6_rubs_21 rfl rfl hv ?_
    refine aw_bipush (v := 6) C dX6_rubs_24 (by decide) ?_
    refine aw_iload_n C dX6_rubs_26 rfl (j := 1) rfl ?_
    refine aw_imul C dX6_rubs_27 ?_
    refine aw_istore_n C dX6_rubs_28 rfl (by decide) rfl (lv' := [(0, .inr l0), (1, .inl l1), (2, .inl ((6 : Int32) * l1))]) rfl ?_
    refine aw_sub [0, 2] (lv' := [(0, .inr l0), (2, .inl ((6 : Int32) * l1))]) rfl ?_
    refine wX6_rubs_L29 C ?_ N _ _ _ he
    intro h l0 he
    refine aw_aload_n C dX6_rubs_61 rfl (j := 0) rfl ?_
    obtain ⟨v62, hv, he⟩ := ob he
    refine aw_gI C fk_X6_72 dX6_rubs_62 hv ?_
    have he := Option.some.inj he
    subst he
    exact aw_iret C X dX6_rubs_65 (by decide) (by decide)
theorem cX6_rubs_ (l : Launch) (D : va_G) (dA : Nat → ClassId) (base : Nat) {N : Nat} {h : Hp} {sz : Nat} {l0 : Option Nat} {l1 : Int32} {out : Int32 × Hp} (he : fX6_rubs N h l0 l1 = some out) : AM l D dA base yX6_rubs cX6_rubs 3 (some .int) 2 0 0 [.inr l0, .inl l1] h sz (some (.int out.1)) out.2 sz :=
  AM.of (by decide +kernel) (Nat.le_of_ble_eq_true rfl) rfl (fun Γ C X hn => wX6_rubs C X he)
set_option maxHeartbeats 4000000 in
set_option maxRecDepth 100000 in
theorem wX2_turned {Γ : GG} (C : CX Γ cX2_turned 2 RX2 2 1 3) {N : Nat} {out : Option Nat × Hp × Nat} (X : RX Γ (some (.object "PetalWheels$Paper")) (some (va_rf out.1)) out.2.1 out.2.2 1 3) {h : Hp} {sz : Nat} {l0 : Option Nat} {l1 : Int32} (he : fX2_turned N h sz l0 l1 = some out) : AW Γ 2 h sz 0 0 0 [(0, .inr l0), (1, .inl l1)] [] := by
  unfold fX2_turned at he
  refine aw_new C nk_X2_10 dX2_turned_0 (by decide) (by decide) ?_
  refine aw_dup C dX2_turned_3 (rf_cat _) ?_
  refine aw_aload_n C dX2_turned_4 rfl (j := 0) rfl ?_
  obtain ⟨v5, hv, he⟩ := ob he
  refine aw_gI C fk_X2_9 dX2_turned_5 hv ?_
  refine aw_iload_n C dX2_turned_8 rfl (j := 1) rfl ?_
  refine aw_iadd C dX2_turned_9 ?_
  refine aw_sipush (v := 360) C dX2_turned_10 (by decide) ?_
  obtain ⟨v13, hv, he⟩ := ob he
  refine aw_callS C mb_X2_52 q_302 (cX5_rest_ _ _ _ _ hv) dX2_turned_13 rfl (rest := [va_rf (some sz), va_rf (some sz)]) rfl (cat_le _ (Nat.le_of_ble_eq_true rfl)) (Nat.le_of_ble_eq_true rfl) (Nat.le_of_ble_eq_true rfl) (Nat.le_of_ble_eq_true rfl) (st2 := [.int v13, va_rf (some sz), va_rf (some sz)]) rfl ?_
  refine aw_aload_n C dX2_turned_16 rfl (j := 0) rfl ?_
  obtain ⟨v17, hv, he⟩ := ob he
  refine aw_gA C fk_X2_15 dX2_turned_17 hv ?_
  refine aw_aload_n C dX2_turned_20 rfl (j := 0) rfl ?_
  obtain ⟨v21, hv, he⟩ := ob he
  refine aw_gA C fk_X2_19 dX2_turned_21 hv ?_
  obtain ⟨z24, hv, he⟩ := ob he
  refine aw_callI C mb_X2_43 ⟨rfl, q_169⟩ (cX2_init_ _ _ _ _ hv) dX2_turned_24 rfl (rest := [va_rf (some sz)]) rfl (cat_le _ (Nat.le_of_ble_eq_true rfl)) (Nat.le_of_ble_eq_true rfl) (Nat.le_of_ble_eq_true rfl) (Nat.le_of_ble_eq_true rfl) (st2 := [va_rf (some sz)]) rfl ?_
  have he := Option.some.inj he
  subst he
  exact aw_aret C X (Or.inl ⟨_, rfl⟩) dX2_turned_27 (by decide) (by decide)
theorem cX2_turned_ (l : Launch) (D : va_G) (dA : Nat → ClassId) (base : Nat) {N : Nat} {h : Hp} {sz : Nat} {l0 : Option Nat} {l1 : Int32} {out : Option Nat × Hp × Nat} (he : fX2_turned N h sz l0 l1 = some out) : AM l D dA base yX2_turned cX2_turned 2 (some (.object "PetalWheels$Paper")) 2 1 3 [.inr l0, .inl l1] h sz (some (va_rf out.1)) out.2.1 out.2.2 :=
  AM.of (by decide +kernel) (Nat.le_of_ble_eq_true rfl) rfl (fun Γ C X hn => wX2_turned C X he)
set_option maxHeartbeats 4000000 in
set_option maxRecDepth 100000 in
theorem wX5_spins {Γ : GG} (C : CX Γ cX5_spins 2 RX5 3 1 3) {N : Nat} {out : Int32 × Hp × Nat} (X : RX Γ (some .int) (some (.int out.1)) out.2.1 out.2.2 1 3) {h : Hp} {sz : Nat} {l0 : Option Nat} {l1 : Int32} (he : fX5_spins N h sz l0 l1 = some out) : AW Γ 2 h sz 0 0 0 [(0, .inr l0), (1, .inl l1)] [] := by
  unfold fX5_spins at he
  refine aw_iload_n C dX5_spins_0 rfl (j := 1) rfl ?_
  refine aw_iconst (v := 1) C dX5_spins_1 (by decide) ?_
  refine aw_sipush (v := 359) C dX5_spins_2 (by decide) ?_
  obtain ⟨v5, hv, he⟩ := ob he
  refine aw_callS C mb_X5_72 q_241 (cX5_within_ _ _ _ _ hv) dX5_spins_5 rfl (rest := []) rfl (cat_le _ (Nat.le_of_ble_eq_true rfl)) (Nat.le_of_ble_eq_true rfl) (Nat.le_of_ble_eq_true rfl) (Nat.le_of_ble_eq_true rfl) (st2 := [.int v5]) rfl ?_
  refine aw_if_ne (tgt := 13) C dX5_spins_8 (by decide) (fun hc => ?_) (fun hc => ?_)
  · have he := ift hc he
    refine aw_iconst (v := -1) C dX5_spins_11 (by decide) ?_
    have he := Option.some.inj he
    subst he
    exact aw_iret C X dX5_spins_12 (by decide) (by decide)
  · have he := iff_ hc he
    refine aw_aload_n C dX5_spins_13 rfl (j := 0) rfl ?_
    refine aw_aload_n C dX5_spins_14 rfl (j := 0) rfl ?_
    obtain ⟨v15, hv, he⟩ := ob he
    refine aw_gA C fk_X5_37 dX5_spins_15 hv ?_
    refine aw_iload_n C dX5_spins_18 rfl (j := 1) rfl ?_
    obtain ⟨hO, he⟩ := ifs he
    obtain ⟨z19, hv, he⟩ := ob he
    refine aw_callV (ci := 2) C mb_X5_182 ⟨q_556, q_557, rfl⟩ hO (cX2_turned_ _ _ _ _ hv) dX5_spins_19 rfl (rest := [va_rf l0]) rfl (cat_le _ (Nat.le_of_ble_eq_true rfl)) (Nat.le_of_ble_eq_true rfl) (Nat.le_of_ble_eq_true rfl) (Nat.le_of_ble_eq_true rfl) (st2 := [va_rf z19.1, va_rf l0]) rfl ?_
    obtain ⟨hO, he⟩ := ifs he
    obtain ⟨z22, hv, he⟩ := ob he
    refine aw_callV (ci := 5) C mb_X5_174 ⟨q_530, q_14, rfl⟩ hO (cX5_changeTo_ _ _ _ _ hv) dX5_spins_22 rfl (rest := []) rfl (cat_le _ (Nat.le_of_ble_eq_true rfl)) (Nat.le_of_ble_eq_true rfl) (Nat.le_of_ble_eq_true rfl) (Nat.le_of_ble_eq_true rfl) (st2 := []) rfl ?_
    refine aw_aload_n C dX5_spins_25 rfl (j := 0) rfl ?_
    obtain ⟨v26, hv, he⟩ := ob he
    refine aw_gA C fk_X5_37 dX5_spins_26 hv ?_
    obtain ⟨v29, hv, he⟩ := ob he
    refine aw_gI C fk_X5_164 dX5_spins_29 hv ?_
    have he := Option.some.inj he
    subst he
    exact aw_iret C X dX5_spins_32 (by decide) (by decide)
theorem cX5_spins_ (l : Launch) (D : va_G) (dA : Nat → ClassId) (base : Nat) {N : Nat} {h : Hp} {sz : Nat} {l0 : Option Nat} {l1 : Int32} {out : Int32 × Hp × Nat} (he : fX5_spins N h sz l0 l1 = some out) : AM l D dA base yX5_spins cX5_spins 2 (some .int) 3 1 3 [.inr l0, .inl l1] h sz (some (.int out.1)) out.2.1 out.2.2 :=
  AM.of (by decide +kernel) (Nat.le_of_ble_eq_true rfl) rfl (fun Γ C X hn => wX5_spins C X he)
set_option maxHeartbeats 4000000 in
set_option maxRecDepth 100000 in
theorem wX6_spins {Γ : GG} (C : CX Γ cX6_spins 2 RX6 2 0 0) {N : Nat} {sz : Nat} {out : Int32 × Hp} (X : RX Γ (some .int) (some (.int out.1)) out.2 sz 0 0) {h : Hp} {l0 : Option Nat} {l1 : Int32} (he : fX6_spins N h l0 l1 = some out) : AW Γ 2 h sz 0 0 0 [(0, .inr l0), (1, .inl l1)] [] := by
  unfold fX6_spins at he
  refine aw_iload_n C dX6_spins_0 rfl (j := 1) rfl ?_
  refine aw_iconst (v := 1) C dX6_spins_1 (by decide) ?_
  refine aw_sipush (v := 359) C dX6_spins_2 (by decide) ?_
  obtain ⟨v5, hv, he⟩ := ob he
  refine aw_callS C mb_X6_62 q_874 (cX6_in_ _ _ _ _ hv) dX6_spins_5 rfl (rest := []) rfl (cat_le _ (Nat.le_of_ble_eq_true rfl)) (Nat.le_of_ble_eq_true rfl) (Nat.le_of_ble_eq_true rfl) (Nat.le_of_ble_eq_true rfl) (st2 := [.int v5]) rfl ?_
  refine aw_if_ne (tgt := 13) C dX6_spins_8 (by decide) (fun hc => ?_) (fun hc => ?_)
  · have he := ift hc he
    refine aw_iconst (v := -1) C dX6_spins_11 (by decide) ?_
    have he := Option.some.inj he
    subst he
    exact aw_iret C X dX6_spins_12 (by decide) (by decide)
  · have he := iff_ hc he
    refine aw_aload_n C dX6_spins_13 rfl (j := 0) rfl ?_
    obtain ⟨hO, he⟩ := ifs he
    obtain ⟨z14, hv, he⟩ := ob he
    refine aw_callV (ci := 6) C mb_X6_188 ⟨q_1004, q_58, rfl⟩ hO (cX6_notes_ _ _ _ _ hv) dX6_spins_14 rfl (rest := []) rfl (cat_le _ (Nat.le_of_ble_eq_true rfl)) (Nat.le_of_ble_eq_true rfl) (Nat.le_of_ble_eq_true rfl) (Nat.le_of_ble_eq_true rfl) (st2 := []) rfl ?_
    refine aw_aload_n C dX6_spins_17 rfl (j := 0) rfl ?_
    refine aw_aload_n C dX6_spins_18 rfl (j := 0) rfl ?_
    obtain ⟨v19, hv, he⟩ := ob he
    refine aw_gI C fk_X6_120 dX6_spins_19 hv ?_
    refine aw_iload_n C dX6_spins_22 rfl (j := 1) rfl ?_
    refine aw_iadd C dX6_spins_23 ?_
    refine aw_sipush (v := 360) C dX6_spins_24 (by decide) ?_
    refine aw_irem C dX6_spins_27 (by decide) ?_
    obtain ⟨h28, hv, he⟩ := ob he
    refine aw_put C fk_X6_120 dX6_spins_28 rfl rfl hv ?_
    refine aw_aload_n C dX6_spins_31 rfl (j := 0) rfl ?_
    obtain ⟨v32, hv, he⟩ := ob he
    refine aw_gI C fk_X6_120 dX6_spins_32 hv ?_
    have he := Option.some.inj he
    subst he
    exact aw_iret C X dX6_spins_35 (by decide) (by decide)
theorem cX6_spins_ (l : Launch) (D : va_G) (dA : Nat → ClassId) (base : Nat) {N : Nat} {h : Hp} {sz : Nat} {l0 : Option Nat} {l1 : Int32} {out : Int32 × Hp} (he : fX6_spins N h l0 l1 = some out) : AM l D dA base yX6_spins cX6_spins 2 (some .int) 2 0 0 [.inr l0, .inl l1] h sz (some (.int out.1)) out.2 sz :=
  AM.of (by decide +kernel) (Nat.le_of_ble_eq_true rfl) rfl (fun Γ C X hn => wX6_spins C X he)
set_option maxHeartbeats 4000000 in
set_option maxRecDepth 100000 in
theorem wX2_filled {Γ : GG} (C : CX Γ cX2_filled 4 RX2 2 2 19) {N : Nat} {out : Option Nat × Hp × Nat} (X : RX Γ (some (.object "PetalWheels$Paper")) (some (va_rf out.1)) out.2.1 out.2.2 2 19) {h : Hp} {sz : Nat} {l0 : Option Nat} {l1 : Int32} {l2 : Int32} (he : fX2_filled N h sz l0 l1 l2 = some out) : AW Γ 4 h sz 0 0 0 [(0, .inr l0), (1, .inl l1), (2, .inl l2)] [] := by
  unfold fX2_filled at he
  refine aw_aload_n C dX2_filled_0 rfl (j := 0) rfl ?_
  refine aw_iload_n C dX2_filled_1 rfl (j := 1) rfl ?_
  refine aw_aload_n C dX2_filled_2 rfl (j := 0) rfl ?_
  refine aw_iload_n C dX2_filled_3 rfl (j := 1) rfl ?_
  obtain ⟨hO, he⟩ := ifs he
  obtain ⟨v4, hv, he⟩ := ob he
  refine aw_callV (ci := 2) C mb_X2_35 ⟨q_413, q_414, rfl⟩ hO (cX2_inkOf_ _ _ _ _ hv) dX2_filled_4 rfl (rest := [.int l1, va_rf l0]) rfl (cat_le _ (Nat.le_of_ble_eq_true rfl)) (Nat.le_of_ble_eq_true rfl) (Nat.le_of_ble_eq_true rfl) (Nat.le_of_ble_eq_true rfl) (st2 := [.int v4, .int l1, va_rf l0]) rfl ?_
  refine aw_iload_n C dX2_filled_7 rfl (j := 2) rfl ?_
  refine aw_iadd C dX2_filled_8 ?_
  refine aw_sipush (v := 999) C dX2_filled_9 (by decide) ?_
  refine aw_mmin C q_568 q_286 q_78 q_287 (Nat.le_of_ble_eq_true rfl) (Nat.le_of_ble_eq_true rfl) (Nat.le_of_ble_eq_true rfl) (Nat.le_of_ble_eq_true rfl) dX2_filled_12 ?_
  obtain ⟨hO, he⟩ := ifs he
  obtain ⟨z15, hv, he⟩ := ob he
  refine aw_callV (ci := 2) C mb_X2_39 ⟨q_523, q_13, rfl⟩ hO (cX2_inkWith_ _ _ _ _ hv) dX2_filled_15 rfl (rest := []) rfl (cat_le _ (Nat.le_of_ble_eq_true rfl)) (Nat.le_of_ble_eq_true rfl) (Nat.le_of_ble_eq_true rfl) (Nat.le_of_ble_eq_true rfl) (st2 := [va_rf z15.1]) rfl ?_
  refine aw_astore_n C dX2_filled_18 rfl (by decide) rfl (lv' := [(0, .inr l0), (1, .inl l1), (2, .inl l2), (3, .inr z15.1)]) rfl ?_
  refine aw_new C nk_X2_10 dX2_filled_19 (by decide) (by decide) ?_
  refine aw_dup C dX2_filled_22 (rf_cat _) ?_
  refine aw_aload_n C dX2_filled_23 rfl (j := 0) rfl ?_
  obtain ⟨v24, hv, he⟩ := ob he
  refine aw_gI C fk_X2_9 dX2_filled_24 hv ?_
  refine aw_aload_n C dX2_filled_27 rfl (j := 3) rfl ?_
  refine aw_aload_n C dX2_filled_28 rfl (j := 0) rfl ?_
  obtain ⟨v29, hv, he⟩ := ob he
  refine aw_gA C fk_X2_19 dX2_filled_29 hv ?_
  obtain ⟨z32, hv, he⟩ := ob he
  refine aw_callI C mb_X2_43 ⟨rfl, q_169⟩ (cX2_init_ _ _ _ _ hv) dX2_filled_32 rfl (rest := [va_rf (some z15.2.2)]) rfl (cat_le _ (Nat.le_of_ble_eq_true rfl)) (Nat.le_of_ble_eq_true rfl) (Nat.le_of_ble_eq_true rfl) (Nat.le_of_ble_eq_true rfl) (st2 := [va_rf (some z15.2.2)]) rfl ?_
  have he := Option.some.inj he
  subst he
  exact aw_aret C X (Or.inl ⟨_, rfl⟩) dX2_filled_35 (by decide) (by decide)
theorem cX2_filled_ (l : Launch) (D : va_G) (dA : Nat → ClassId) (base : Nat) {N : Nat} {h : Hp} {sz : Nat} {l0 : Option Nat} {l1 : Int32} {l2 : Int32} {out : Option Nat × Hp × Nat} (he : fX2_filled N h sz l0 l1 l2 = some out) : AM l D dA base yX2_filled cX2_filled 4 (some (.object "PetalWheels$Paper")) 2 2 19 [.inr l0, .inl l1, .inl l2] h sz (some (va_rf out.1)) out.2.1 out.2.2 :=
  AM.of (by decide +kernel) (Nat.le_of_ble_eq_true rfl) rfl (fun Γ C X hn => wX2_filled C X he)
set_option maxHeartbeats 4000000 in
set_option maxRecDepth 100000 in
theorem wX5_fills {Γ : GG} (C : CX Γ cX5_fills 3 RX5 3 2 19) {N : Nat} {out : Int32 × Hp × Nat} (X : RX Γ (some .int) (some (.int out.1)) out.2.1 out.2.2 2 19) {h : Hp} {sz : Nat} {l0 : Option Nat} {l1 : Int32} {l2 : Int32} (he : fX5_fills N h sz l0 l1 l2 = some out) : AW Γ 3 h sz 0 0 0 [(0, .inr l0), (1, .inl l1), (2, .inl l2)] [] := by
  unfold fX5_fills at he
  refine aw_aload_n C dX5_fills_0 rfl (j := 0) rfl ?_
  obtain ⟨v1, hv, he⟩ := ob he
  refine aw_gA C fk_X5_26 dX5_fills_1 hv ?_
  refine aw_iload_n C dX5_fills_4 rfl (j := 1) rfl ?_
  obtain ⟨hO, he⟩ := ifs he
  obtain ⟨v5, hv, he⟩ := ob he
  refine aw_callV (ci := 0) C mb_X5_126 ⟨q_409, q_410, rfl⟩ hO (cX0_hasPen_ _ _ _ _ hv) dX5_fills_5 rfl (rest := []) rfl (cat_le _ (Nat.le_of_ble_eq_true rfl)) (Nat.le_of_ble_eq_true rfl) (Nat.le_of_ble_eq_true rfl) (Nat.le_of_ble_eq_true rfl) (st2 := [.int v5]) rfl ?_
  refine aw_if_eq (tgt := 22) C dX5_fills_8 (by decide) (fun hc => ?_) (fun hc => ?_)
  · have he := ift hc he
    refine aw_iconst (v := -1) C dX5_fills_22 (by decide) ?_
    have he := Option.some.inj he
    subst he
    exact aw_iret C X dX5_fills_23 (by decide) (by decide)
  · have he := iff_ hc he
    refine aw_iload_n C dX5_fills_11 rfl (j := 2) rfl ?_
    refine aw_iconst (v := 1) C dX5_fills_12 (by decide) ?_
    refine aw_sipush (v := 999) C dX5_fills_13 (by decide) ?_
    obtain ⟨v16, hv, he⟩ := ob he
    refine aw_callS C mb_X5_72 q_241 (cX5_within_ _ _ _ _ hv) dX5_fills_16 rfl (rest := []) rfl (cat_le _ (Nat.le_of_ble_eq_true rfl)) (Nat.le_of_ble_eq_true rfl) (Nat.le_of_ble_eq_true rfl) (Nat.le_of_ble_eq_true rfl) (st2 := [.int v16]) rfl ?_
    refine aw_if_ne (tgt := 24) C dX5_fills_19 (by decide) (fun hc => ?_) (fun hc => ?_)
    · have he := ift hc he
      refine aw_iconst (v := -1) C dX5_fills_22 (by decide) ?_
      have he := Option.some.inj he
      subst he
      exact aw_iret C X dX5_fills_23 (by decide) (by decide)
    · have he := iff_ hc he
      refine aw_aload_n C dX5_fills_24 rfl (j := 0) rfl ?_
      obtain ⟨v25, hv, he⟩ := ob he
      refine aw_gA C fk_X5_37 dX5_fills_25 hv ?_
      refine aw_iload_n C dX5_fills_28 rfl (j := 1) rfl ?_
      obtain ⟨hO, he⟩ := ifs he
      obtain ⟨v29, hv, he⟩ := ob he
      refine aw_callV (ci := 2) C mb_X5_129 ⟨q_413, q_414, rfl⟩ hO (cX2_inkOf_ _ _ _ _ hv) dX5_fills_29 rfl (rest := []) rfl (cat_le _ (Nat.le_of_ble_eq_true rfl)) (Nat.le_of_ble_eq_true rfl) (Nat.le_of_ble_eq_true rfl) (Nat.le_of_ble_eq_true rfl) (st2 := [.int v29]) rfl ?_
      refine aw_sipush (v := 999) C dX5_fills_32 (by decide) ?_
      refine aw_ic_lt (tgt := 41) C dX5_fills_35 (by decide) (fun hc => ?_) (fun hc => ?_)
      · have he := ift hc he
        refine aw_aload_n C dX5_fills_41 rfl (j := 0) rfl ?_
        refine aw_aload_n C dX5_fills_42 rfl (j := 0) rfl ?_
        obtain ⟨v43, hv, he⟩ := ob he
        refine aw_gA C fk_X5_37 dX5_fills_43 hv ?_
        refine aw_iload_n C dX5_fills_46 rfl (j := 1) rfl ?_
        refine aw_iload_n C dX5_fills_47 rfl (j := 2) rfl ?_
        obtain ⟨hO, he⟩ := ifs he
        obtain ⟨z48, hv, he⟩ := ob he
        refine aw_callV (ci := 2) C mb_X5_185 ⟨q_565, q_566, rfl⟩ hO (cX2_filled_ _ _ _ _ hv) dX5_fills_48 rfl (rest := [va_rf l0]) rfl (cat_le _ (Nat.le_of_ble_eq_true rfl)) (Nat.le_of_ble_eq_true rfl) (Nat.le_of_ble_eq_true rfl) (Nat.le_of_ble_eq_true rfl) (st2 := [va_rf z48.1, va_rf l0]) rfl ?_
        obtain ⟨hO, he⟩ := ifs he
        obtain ⟨z51, hv, he⟩ := ob he
        refine aw_callV (ci := 5) C mb_X5_174 ⟨q_530, q_14, rfl⟩ hO (cX5_changeTo_ _ _ _ _ hv) dX5_fills_51 rfl (rest := []) rfl (cat_le _ (Nat.le_of_ble_eq_true rfl)) (Nat.le_of_ble_eq_true rfl) (Nat.le_of_ble_eq_true rfl) (Nat.le_of_ble_eq_true rfl) (st2 := []) rfl ?_
        refine aw_aload_n C dX5_fills_54 rfl (j := 0) rfl ?_
        obtain ⟨v55, hv, he⟩ := ob he
        refine aw_gA C fk_X5_37 dX5_fills_55 hv ?_
        refine aw_iload_n C dX5_fills_58 rfl (j := 1) rfl ?_
        obtain ⟨hO, he⟩ := ifs he
        obtain ⟨v59, hv, he⟩ := ob he
        refine aw_callV (ci := 2) C mb_X5_129 ⟨q_413, q_414, rfl⟩ hO (cX2_inkOf_ _ _ _ _ hv) dX5_fills_59 rfl (rest := []) rfl (cat_le _ (Nat.le_of_ble_eq_true rfl)) (Nat.le_of_ble_eq_true rfl) (Nat.le_of_ble_eq_true rfl) (Nat.le_of_ble_eq_true rfl) (st2 := [.int v59]) rfl ?_
        have he := Option.some.inj he
        subst he
        exact aw_iret C X dX5_fills_62 (by decide) (by decide)
      · have he := iff_ hc he
        refine aw_bipush (v := -2) C dX5_fills_38 (by decide) ?_
        have he := Option.some.inj he
        subst he
        exact aw_iret C X dX5_fills_40 (by decide) (by decide)
theorem cX5_fills_ (l : Launch) (D : va_G) (dA : Nat → ClassId) (base : Nat) {N : Nat} {h : Hp} {sz : Nat} {l0 : Option Nat} {l1 : Int32} {l2 : Int32} {out : Int32 × Hp × Nat} (he : fX5_fills N h sz l0 l1 l2 = some out) : AM l D dA base yX5_fills cX5_fills 3 (some .int) 3 2 19 [.inr l0, .inl l1, .inl l2] h sz (some (.int out.1)) out.2.1 out.2.2 :=
  AM.of (by decide +kernel) (Nat.le_of_ble_eq_true rfl) rfl (fun Γ C X hn => wX5_fills C X he)
set_option maxHeartbeats 4000000 in
set_option maxRecDepth 100000 in
theorem wX6_fills {Γ : GG} (C : CX Γ cX6_fills 3 RX6 2 0 0) {N : Nat} {sz : Nat} {out : Int32 × Hp} (X : RX Γ (some .int) (some (.int out.1)) out.2 sz 0 0) {h : Hp} {l0 : Option Nat} {l1 : Int32} {l2 : Int32} (he : fX6_fills N h l0 l1 l2 = some out) : AW Γ 3 h sz 0 0 0 [(0, .inr l0), (1, .inl l1), (2, .inl l2)] [] := by
  unfold fX6_fills at he
  refine aw_aload_n C dX6_fills_0 rfl (j := 0) rfl ?_
  refine aw_iload_n C dX6_fills_1 rfl (j := 1) rfl ?_
  obtain ⟨hO, he⟩ := ifs he
  obtain ⟨v2, hv, he⟩ := ob he
  refine aw_callV (ci := 6) C mb_X6_171 ⟨q_961, q_50, rfl⟩ hO (cX6_isPen_ _ _ _ _ hv) dX6_fills_2 rfl (rest := []) rfl (cat_le _ (Nat.le_of_ble_eq_true rfl)) (Nat.le_of_ble_eq_true rfl) (Nat.le_of_ble_eq_true rfl) (Nat.le_of_ble_eq_true rfl) (st2 := [.int v2]) rfl ?_
  refine aw_if_eq (tgt := 19) C dX6_fills_5 (by decide) (fun hc => ?_) (fun hc => ?_)
  · have he := ift hc he
    refine aw_iconst (v := -1) C dX6_fills_19 (by decide) ?_
    have he := Option.some.inj he
    subst he
    exact aw_iret C X dX6_fills_20 (by decide) (by decide)
  · have he := iff_ hc he
    refine aw_iload_n C dX6_fills_8 rfl (j := 2) rfl ?_
    refine aw_iconst (v := 1) C dX6_fills_9 (by decide) ?_
    refine aw_sipush (v := 999) C dX6_fills_10 (by decide) ?_
    obtain ⟨v13, hv, he⟩ := ob he
    refine aw_callS C mb_X6_62 q_874 (cX6_in_ _ _ _ _ hv) dX6_fills_13 rfl (rest := []) rfl (cat_le _ (Nat.le_of_ble_eq_true rfl)) (Nat.le_of_ble_eq_true rfl) (Nat.le_of_ble_eq_true rfl) (Nat.le_of_ble_eq_true rfl) (st2 := [.int v13]) rfl ?_
    refine aw_if_ne (tgt := 21) C dX6_fills_16 (by decide) (fun hc => ?_) (fun hc => ?_)
    · have he := ift hc he
      refine aw_iconst (v := -1) C dX6_fills_19 (by decide) ?_
      have he := Option.some.inj he
      subst he
      exact aw_iret C X dX6_fills_20 (by decide) (by decide)
    · have he := iff_ hc he
      refine aw_aload_n C dX6_fills_21 rfl (j := 0) rfl ?_
      obtain ⟨v22, hv, he⟩ := ob he
      refine aw_gA C fk_X6_16 dX6_fills_22 hv ?_
      refine aw_iload_n C dX6_fills_25 rfl (j := 1) rfl ?_
      obtain ⟨v26, hv, he⟩ := ob he
      refine aw_iald C dX6_fills_26 hv ?_
      refine aw_sipush (v := 999) C dX6_fills_27 (by decide) ?_
      refine aw_ic_ne (tgt := 36) C dX6_fills_30 (by decide) (fun hc => ?_) (fun hc => ?_)
      · have he := ift hc he
        refine aw_bipush (v := -2) C dX6_fills_33 (by decide) ?_
        have he := Option.some.inj he
        subst he
        exact aw_iret C X dX6_fills_35 (by decide) (by decide)
      · have he := iff_ hc he
        refine aw_aload_n C dX6_fills_36 rfl (j := 0) rfl ?_
        obtain ⟨hO, he⟩ := ifs he
        obtain ⟨z37, hv, he⟩ := ob he
        refine aw_callV (ci := 6) C mb_X6_188 ⟨q_1004, q_58, rfl⟩ hO (cX6_notes_ _ _ _ _ hv) dX6_fills_37 rfl (rest := []) rfl (cat_le _ (Nat.le_of_ble_eq_true rfl)) (Nat.le_of_ble_eq_true rfl) (Nat.le_of_ble_eq_true rfl) (Nat.le_of_ble_eq_true rfl) (st2 := []) rfl ?_
        refine aw_aload_n C dX6_fills_40 rfl (j := 0) rfl ?_
        obtain ⟨v41, hv, he⟩ := ob he
        refine aw_gA C fk_X6_16 dX6_fills_41 hv ?_
        refine aw_iload_n C dX6_fills_44 rfl (j := 1) rfl ?_
        refine aw_aload_n C dX6_fills_45 rfl (j := 0) rfl ?_
        obtain ⟨v46, hv, he⟩ := ob he
        refine aw_gA C fk_X6_16 dX6_fills_46 hv ?_
        refine aw_iload_n C dX6_fills_49 rfl (j := 1) rfl ?_
        obtain ⟨v50, hv, he⟩ := ob he
        refine aw_iald C dX6_fills_50 hv ?_
        refine aw_iload_n C dX6_fills_51 rfl (j := 2) rfl ?_
        refine aw_iadd C dX6_fills_52 ?_
        refine aw_sipush (v := 999) C dX6_fills_53 (by decide) ?_
        refine aw_ic_le (tgt := 65) C dX6_fills_56 (by decide) (fun hc => ?_) (fun hc => ?_)
        · have he := ift hc he
          refine aw_aload_n C dX6_fills_65 rfl (j := 0) rfl ?_
          obtain ⟨v66, hv, he⟩ := ob he
          refine aw_gA C fk_X6_16 dX6_fills_66 hv ?_
          refine aw_iload_n C dX6_fills_69 rfl (j := 1) rfl ?_
          obtain ⟨v70, hv, he⟩ := ob he
          refine aw_iald C dX6_fills_70 hv ?_
          refine aw_iload_n C dX6_fills_71 rfl (j := 2) rfl ?_
          refine aw_iadd C dX6_fills_72 ?_
          obtain ⟨h73, hv, he⟩ := ob he
          refine aw_iast C dX6_fills_73 hv ?_
          refine aw_aload_n C dX6_fills_74 rfl (j := 0) rfl ?_
          obtain ⟨v75, hv, he⟩ := ob he
          refine aw_gA C fk_X6_16 dX6_fills_75 hv ?_
          refine aw_iload_n C dX6_fills_78 rfl (j := 1) rfl ?_
          obtain ⟨v79, hv, he⟩ := ob he
          refine aw_iald C dX6_fills_79 hv ?_
          have he := Option.some.inj he
          subst he
          exact aw_iret C X dX6_fills_80 (by decide) (by decide)
        · have he := iff_ hc he
          refine aw_sipush (v := 999) C dX6_fills_59 (by decide) ?_
          refine aw_goto (tgt := 73) C dX6_fills_62 (by decide) ?_
          obtain ⟨h73, hv, he⟩ := ob he
          refine aw_iast C dX6_fills_73 hv ?_
          refine aw_aload_n C dX6_fills_74 rfl (j := 0) rfl ?_
          obtain ⟨v75, hv, he⟩ := ob he
          refine aw_gA C fk_X6_16 dX6_fills_75 hv ?_
          refine aw_iload_n C dX6_fills_78 rfl (j := 1) rfl ?_
          obtain ⟨v79, hv, he⟩ := ob he
          refine aw_iald C dX6_fills_79 hv ?_
          have he := Option.some.inj he
          subst he
          exact aw_iret C X dX6_fills_80 (by decide) (by decide)
theorem cX6_fills_ (l : Launch) (D : va_G) (dA : Nat → ClassId) (base : Nat) {N : Nat} {h : Hp} {sz : Nat} {l0 : Option Nat} {l1 : Int32} {l2 : Int32} {out : Int32 × Hp} (he : fX6_fills N h l0 l1 l2 = some out) : AM l D dA base yX6_fills cX6_fills 3 (some .int) 2 0 0 [.inr l0, .inl l1, .inl l2] h sz (some (.int out.1)) out.2 sz :=
  AM.of (by decide +kernel) (Nat.le_of_ble_eq_true rfl) rfl (fun Γ C X hn => wX6_fills C X he)
set_option maxHeartbeats 4000000 in
set_option maxRecDepth 100000 in
theorem wX8_takesLatest {Γ : GG} (C : CX Γ cX8_takesLatest 2 RX8 0 0 0) {N : Nat} {sz : Nat} {out : Option Nat × Hp} (X : RX Γ (some (.object "PetalWheels$Paper")) (some (va_rf out.1)) out.2 sz 0 0) {h : Hp} {l0 : Option Nat} (he : fX8_takesLatest N h l0 = some out) : AW Γ 2 h sz 0 0 0 [(0, .inr l0)] [] := by
  unfold fX8_takesLatest at he
  refine aw_aload_n C dX8_takesLatest_0 rfl (j := 0) rfl ?_
  obtain ⟨v1, hv, he⟩ := ob he
  refine aw_gI C fk_X8_17 dX8_takesLatest_1 hv ?_
  refine aw_if_gt (tgt := 9) C dX8_takesLatest_4 (by decide) (fun hc => ?_) (fun hc => ?_)
  · have he := ift hc he
    refine aw_aload_n C dX8_takesLatest_9 rfl (j := 0) rfl ?_
    refine aw_dup C dX8_takesLatest_10 (rf_cat _) ?_
    obtain ⟨v11, hv, he⟩ := ob he
    refine aw_gI C fk_X8_17 dX8_takesLatest_11 hv ?_
    refine aw_iconst (v := 1) C dX8_takesLatest_14 (by decide) ?_
    refine aw_isub C dX8_takesLatest_15 ?_
    obtain ⟨h16, hv, he⟩ := ob he
    refine aw_put C fk_X8_17 dX8_takesLatest_16 rfl rfl hv ?_
    refine aw_aload_n C dX8_takesLatest_19 rfl (j := 0) rfl ?_
    obtain ⟨v20, hv, he⟩ := ob he
    refine aw_gA C fk_X8_11 dX8_takesLatest_20 hv ?_
    refine aw_aload_n C dX8_takesLatest_23 rfl (j := 0) rfl ?_
    obtain ⟨v24, hv, he⟩ := ob he
    refine aw_gI C fk_X8_17 dX8_takesLatest_24 hv ?_
    obtain ⟨v27, hv, he⟩ := ob he
    refine aw_aald C (by decide) dX8_takesLatest_27 hv ?_
    refine aw_astore_n C dX8_takesLatest_28 rfl (by decide) rfl (lv' := [(0, .inr l0), (1, .inr v27)]) rfl ?_
    refine aw_aload_n C dX8_takesLatest_29 rfl (j := 0) rfl ?_
    obtain ⟨v30, hv, he⟩ := ob he
    refine aw_gA C fk_X8_11 dX8_takesLatest_30 hv ?_
    refine aw_aload_n C dX8_takesLatest_33 rfl (j := 0) rfl ?_
    obtain ⟨v34, hv, he⟩ := ob he
    refine aw_gI C fk_X8_17 dX8_takesLatest_34 hv ?_
    refine aw_null C dX8_takesLatest_37 ?_
    obtain ⟨h38, hv, he⟩ := ob he
    refine aw_aast C (by decide) dX8_takesLatest_38 hv ?_
    refine aw_aload_n C dX8_takesLatest_39 rfl (j := 1) rfl ?_
    have he := Option.some.inj he
    subst he
    exact aw_aret C X (Or.inl ⟨_, rfl⟩) dX8_takesLatest_40 (by decide) (by decide)
  · have he := iff_ hc he
    refine aw_null C dX8_takesLatest_7 ?_
    have he := Option.some.inj he
    subst he
    exact aw_aret C X (Or.inl ⟨_, rfl⟩) dX8_takesLatest_8 (by decide) (by decide)
theorem cX8_takesLatest_ (l : Launch) (D : va_G) (dA : Nat → ClassId) (base : Nat) {N : Nat} {h : Hp} {sz : Nat} {l0 : Option Nat} {out : Option Nat × Hp} (he : fX8_takesLatest N h l0 = some out) : AM l D dA base yX8_takesLatest cX8_takesLatest 2 (some (.object "PetalWheels$Paper")) 0 0 0 [.inr l0] h sz (some (va_rf out.1)) out.2 sz :=
  AM.of (by decide +kernel) (Nat.le_of_ble_eq_true rfl) rfl (fun Γ C X hn => wX8_takesLatest C X he)
set_option maxHeartbeats 4000000 in
set_option maxRecDepth 100000 in
theorem wX5_undo {Γ : GG} (C : CX Γ cX5_undo 2 RX5 1 0 0) {N : Nat} {sz : Nat} {out : Int32 × Hp} (X : RX Γ (some .int) (some (.int out.1)) out.2 sz 0 0) {h : Hp} {l0 : Option Nat} (he : fX5_undo N h l0 = some out) : AW Γ 2 h sz 0 0 0 [(0, .inr l0)] [] := by
  unfold fX5_undo at he
  refine aw_aload_n C dX5_undo_0 rfl (j := 0) rfl ?_
  obtain ⟨v1, hv, he⟩ := ob he
  refine aw_gA C fk_X5_44 dX5_undo_1 hv ?_
  obtain ⟨hO, he⟩ := ifs he
  obtain ⟨z4, hv, he⟩ := ob he
  refine aw_callV (ci := 8) C mb_X5_189 ⟨q_574, q_575, rfl⟩ hO (cX8_takesLatest_ _ _ _ _ hv) dX5_undo_4 rfl (rest := []) rfl (cat_le _ (Nat.le_of_ble_eq_true rfl)) (Nat.le_of_ble_eq_true rfl) (Nat.le_of_ble_eq_true rfl) (Nat.le_of_ble_eq_true rfl) (st2 := [va_rf z4.1]) rfl ?_
  refine aw_astore_n C dX5_undo_7 rfl (by decide) rfl (lv' := [(0, .inr l0), (1, .inr z4.1)]) rfl ?_
  refine aw_aload_n C dX5_undo_8 rfl (j := 1) rfl ?_
  refine aw_ifnonnull (tgt := 15) C dX5_undo_9 (by decide) (fun hc => ?_) (fun hc => ?_)
  · have he := ift hc he
    refine aw_bipush (v := -2) C dX5_undo_12 (by decide) ?_
    have he := Option.some.inj he
    subst he
    exact aw_iret C X dX5_undo_14 (by decide) (by decide)
  · have he := iff_ hc he
    refine aw_aload_n C dX5_undo_15 rfl (j := 0) rfl ?_
    refine aw_aload_n C dX5_undo_16 rfl (j := 1) rfl ?_
    obtain ⟨h17, hv, he⟩ := ob he
    refine aw_put C fk_X5_37 dX5_undo_17 (nf_ref (Or.inl ⟨_, rfl⟩) _).1 (nf_ref (Or.inl ⟨_, rfl⟩) _).2 hv ?_
    refine aw_aload_n C dX5_undo_20 rfl (j := 0) rfl ?_
    obtain ⟨v21, hv, he⟩ := ob he
    refine aw_gA C fk_X5_44 dX5_undo_21 hv ?_
    obtain ⟨v24, hv, he⟩ := ob he
    refine aw_gI C fk_X5_193 dX5_undo_24 hv ?_
    have he := Option.some.inj he
    subst he
    exact aw_iret C X dX5_undo_27 (by decide) (by decide)
theorem cX5_undo_ (l : Launch) (D : va_G) (dA : Nat → ClassId) (base : Nat) {N : Nat} {h : Hp} {sz : Nat} {l0 : Option Nat} {out : Int32 × Hp} (he : fX5_undo N h l0 = some out) : AM l D dA base yX5_undo cX5_undo 2 (some .int) 1 0 0 [.inr l0] h sz (some (.int out.1)) out.2 sz :=
  AM.of (by decide +kernel) (Nat.le_of_ble_eq_true rfl) rfl (fun Γ C X hn => wX5_undo C X he)
set_option maxHeartbeats 4000000 in
set_option maxRecDepth 100000 in
theorem wX6_takes_L18 {Γ : GG} (C : CX Γ cX6_takes 4 RX6 0 0 0) {N : Nat} {sz : Nat} {α : Type} {out : α} {K42 : Hp → Option Nat → Option Nat → Int32 → Option α} (k42 : ∀ (h : Hp) (l0 : Option Nat) (l1 : Option Nat) (l2 : Int32), K42 h l0 l1 l2 = some out → AW Γ 4 h sz 0 0 42 [(0, .inr l0), (1, .inr l1), (2, .inl l2)] []) : ∀ (n : Nat) (h : Hp) (l0 : Option Nat) (l1 : Option Nat) (l2 : Int32) (l3 : Int32), fX6_takes_L18 N K42 n h l0 l1 l2 l3 = some out → AW Γ 4 h sz 0 0 18 [(0, .inr l0), (1, .inr l1), (2, .inl l2), (3, .inl l3)] [] := by
  intro n
  induction n with
  | zero =>
    intro h l0 l1 l2 l3 he
    rw [fX6_takes_L18] at he
    cases he
  | succ n ih =>
    intro h l0 l1 l2 l3 he
    rw [fX6_takes_L18] at he
    refine aw_iload_n C dX6_takes_18 rfl (j := 3) rfl ?_
    refine aw_iconst (v := 4) C dX6_takes_19 (by decide) ?_
    refine aw_ic_ge (tgt := 42) C dX6_takes_20 (by decide) (fun hc => ?_) (fun hc => ?_)
    · have he := ift hc he
      refine aw_sub [0, 1, 2] (lv' := [(0, .inr l0), (1, .inr l1), (2, .inl l2)]) rfl ?_
      exact k42 _ _ _ _ he
    · have he := iff_ hc he
      refine aw_aload_n C dX6_takes_23 rfl (j := 0) rfl ?_
      obtain ⟨v24, hv, he⟩ := ob he
      refine aw_gA C fk_X6_16 dX6_takes_24 hv ?_
      refine aw_iload_n C dX6_takes_27 rfl (j := 3) rfl ?_
      refine aw_aload_n C dX6_takes_28 rfl (j := 1) rfl ?_
      refine aw_iload_n C dX6_takes_29 rfl (j := 2) rfl ?_
      refine aw_iconst (v := 2) C dX6_takes_30 (by decide) ?_
      refine aw_iadd C dX6_takes_31 ?_
      refine aw_iload_n C dX6_takes_32 rfl (j := 3) rfl ?_
      refine aw_iadd C dX6_takes_33 ?_
      obtain ⟨v34, hv, he⟩ := ob he
      refine aw_iald C dX6_takes_34 hv ?_
      obtain ⟨h35, hv, he⟩ := ob he
      refine aw_iast C dX6_takes_35 hv ?_
      refine aw_iinc (y := 1) C dX6_takes_36 (by decide) (j := 3) rfl (by decide) rfl (lv' := [(0, .inr l0), (1, .inr l1), (2, .inl l2), (3, .inl (l3 + 1))]) rfl ?_
      refine aw_goto (tgt := 18) C dX6_takes_39 (by decide) ?_
      exact ih _ _ _ _ _ he
set_option maxHeartbeats 4000000 in
set_option maxRecDepth 100000 in
theorem wX6_takes_L44 {Γ : GG} (C : CX Γ cX6_takes 4 RX6 0 0 0) {N : Nat} {sz : Nat} {α : Type} {out : α} {K70 : Hp → Option α} (k70 : ∀ (h : Hp), K70 h = some out → AW Γ 4 h sz 0 0 70 [] []) : ∀ (n : Nat) (h : Hp) (l0 : Option Nat) (l1 : Option Nat) (l2 : Int32) (l3 : Int32), fX6_takes_L44 N K70 n h l0 l1 l2 l3 = some out → AW Γ 4 h sz 0 0 44 [(0, .inr l0), (1, .inr l1), (2, .inl l2), (3, .inl l3)] [] := by
  intro n
  induction n with
  | zero =>
    intro h l0 l1 l2 l3 he
    rw [fX6_takes_L44] at he
    cases he
  | succ n ih =>
    intro h l0 l1 l2 l3 he
    rw [fX6_takes_L44] at he
    refine aw_iload_n C dX6_takes_44 rfl (j := 3) rfl ?_
    refine aw_bipush (v := 72) C dX6_takes_45 (by decide) ?_
    refine aw_ic_ge (tgt := 70) C dX6_takes_47 (by decide) (fun hc => ?_) (fun hc => ?_)
    · have he := ift hc he
      refine aw_sub [] (lv' := []) rfl ?_
      exact k70 _ he
    · have he := iff_ hc he
      refine aw_aload_n C dX6_takes_50 rfl (j := 0) rfl ?_
      obtain ⟨v51, hv, he⟩ := ob he
      refine aw_gA C fk_X6_19 dX6_takes_51 hv ?_
      refine aw_iload_n C dX6_takes_54 rfl (j := 3) rfl ?_
      refine aw_aload_n C dX6_takes_55 rfl (j := 1) rfl ?_
      refine aw_iload_n C dX6_takes_56 rfl (j := 2) rfl ?_
      refine aw_bipush (v := 6) C dX6_takes_57 (by decide) ?_
      refine aw_iadd C dX6_takes_59 ?_
      refine aw_iload_n C dX6_takes_60 rfl (j := 3) rfl ?_
      refine aw_iadd C dX6_takes_61 ?_
      obtain ⟨v62, hv, he⟩ := ob he
      refine aw_iald C dX6_takes_62 hv ?_
      obtain ⟨h63, hv, he⟩ := ob he
      refine aw_iast C dX6_takes_63 hv ?_
      refine aw_iinc (y := 1) C dX6_takes_64 (by decide) (j := 3) rfl (by decide) rfl (lv' := [(0, .inr l0), (1, .inr l1), (2, .inl l2), (3, .inl (l3 + 1))]) rfl ?_
      refine aw_goto (tgt := 44) C dX6_takes_67 (by decide) ?_
      exact ih _ _ _ _ _ he
set_option maxHeartbeats 4000000 in
set_option maxRecDepth 100000 in
theorem wX6_takes {Γ : GG} (C : CX Γ cX6_takes 4 RX6 0 0 0) {N : Nat} {sz : Nat} {out : Hp} (X : RX Γ none none out sz 0 0) {h : Hp} {l0 : Option Nat} {l1 : Option Nat} {l2 : Int32} (he : fX6_takes N h l0 l1 l2 = some out) : AW Γ 4 h sz 0 0 0 [(0, .inr l0), (1, .inr l1), (2, .inl l2)] [] := by
  unfold fX6_takes at he
  refine aw_aload_n C dX6_takes_0 rfl (j := 0) rfl ?_
  refine aw_aload_n C dX6_takes_1 rfl (j := 1) rfl ?_
  refine aw_iload_n C dX6_takes_2 rfl (j := 2) rfl ?_
  obtain ⟨v3, hv, he⟩ := ob he
  refine aw_iald C dX6_takes_3 hv ?_
  obtain ⟨h4, hv, he⟩ := ob he
  refine aw_put C fk_X6_120 dX6_takes_4 rfl rfl hv ?_
  refine aw_aload_n C dX6_takes_7 rfl (j := 0) rfl ?_
  refine aw_aload_n C dX6_takes_8 rfl (j := 1) rfl ?_
  refine aw_iload_n C dX6_takes_9 rfl (j := 2) rfl ?_
  refine aw_iconst (v := 1) C dX6_takes_10 (by decide) ?_
  refine aw_iadd C dX6_takes_11 ?_
  obtain ⟨v12, hv, he⟩ := ob he
  refine aw_iald C dX6_takes_12 hv ?_
  obtain ⟨h13, hv, he⟩ := ob he
  refine aw_put C fk_X6_72 dX6_takes_13 rfl rfl hv ?_
  refine aw_iconst (v := 0) C dX6_takes_16 (by decide) ?_
  refine aw_istore_n C dX6_takes_17 rfl (by decide) rfl (lv' := [(0, .inr l0), (1, .inr l1), (2, .inl l2), (3, .inl (0 : Int32))]) rfl ?_
  refine wX6_takes_L18 C ?_ N _ _ _ _ _ he
  intro h l0 l1 l2 he
  refine aw_iconst (v := 0) C dX6_takes_42 (by decide) ?_
  refine aw_istore_n C dX6_takes_43 rfl (by decide) rfl (lv' := [(0, .inr l0), (1, .inr l1), (2, .inl l2), (3, .inl (0 : Int32))]) rfl ?_
  refine wX6_takes_L44 C ?_ N _ _ _ _ _ he
  intro h he
  have he := Option.some.inj he
  subst he
  exact aw_vret C X dX6_takes_70 (by decide) (by decide)
theorem cX6_takes_ (l : Launch) (D : va_G) (dA : Nat → ClassId) (base : Nat) {N : Nat} {h : Hp} {sz : Nat} {l0 : Option Nat} {l1 : Option Nat} {l2 : Int32} {out : Hp} (he : fX6_takes N h l0 l1 l2 = some out) : AM l D dA base yX6_takes cX6_takes 4 none 0 0 0 [.inr l0, .inr l1, .inl l2] h sz none out sz :=
  AM.of (by decide +kernel) (Nat.le_of_ble_eq_true rfl) rfl (fun Γ C X hn => wX6_takes C X he)
set_option maxHeartbeats 4000000 in
set_option maxRecDepth 100000 in
theorem wX6_undo {Γ : GG} (C : CX Γ cX6_undo 1 RX6 1 0 0) {N : Nat} {sz : Nat} {out : Int32 × Hp} (X : RX Γ (some .int) (some (.int out.1)) out.2 sz 0 0) {h : Hp} {l0 : Option Nat} (he : fX6_undo N h l0 = some out) : AW Γ 1 h sz 0 0 0 [(0, .inr l0)] [] := by
  unfold fX6_undo at he
  refine aw_aload_n C dX6_undo_0 rfl (j := 0) rfl ?_
  obtain ⟨v1, hv, he⟩ := ob he
  refine aw_gI C fk_X6_126 dX6_undo_1 hv ?_
  refine aw_if_ne (tgt := 10) C dX6_undo_4 (by decide) (fun hc => ?_) (fun hc => ?_)
  · have he := ift hc he
    refine aw_bipush (v := -2) C dX6_undo_7 (by decide) ?_
    have he := Option.some.inj he
    subst he
    exact aw_iret C X dX6_undo_9 (by decide) (by decide)
  · have he := iff_ hc he
    refine aw_aload_n C dX6_undo_10 rfl (j := 0) rfl ?_
    refine aw_dup C dX6_undo_11 (rf_cat _) ?_
    obtain ⟨v12, hv, he⟩ := ob he
    refine aw_gI C fk_X6_126 dX6_undo_12 hv ?_
    refine aw_iconst (v := 1) C dX6_undo_15 (by decide) ?_
    refine aw_isub C dX6_undo_16 ?_
    obtain ⟨h17, hv, he⟩ := ob he
    refine aw_put C fk_X6_126 dX6_undo_17 rfl rfl hv ?_
    refine aw_aload_n C dX6_undo_20 rfl (j := 0) rfl ?_
    refine aw_aload_n C dX6_undo_21 rfl (j := 0) rfl ?_
    obtain ⟨v22, hv, he⟩ := ob he
    refine aw_gA C fk_X6_40 dX6_undo_22 hv ?_
    refine aw_bipush (v := 78) C dX6_undo_25 (by decide) ?_
    refine aw_aload_n C dX6_undo_27 rfl (j := 0) rfl ?_
    obtain ⟨v28, hv, he⟩ := ob he
    refine aw_gI C fk_X6_126 dX6_undo_28 hv ?_
    refine aw_imul C dX6_undo_31 ?_
    obtain ⟨hO, he⟩ := ifs he
    obtain ⟨z32, hv, he⟩ := ob he
    refine aw_callV (ci := 6) C mb_X6_191 ⟨q_1028, q_60, rfl⟩ hO (cX6_takes_ _ _ _ _ hv) dX6_undo_32 rfl (rest := []) rfl (cat_le _ (Nat.le_of_ble_eq_true rfl)) (Nat.le_of_ble_eq_true rfl) (Nat.le_of_ble_eq_true rfl) (Nat.le_of_ble_eq_true rfl) (st2 := []) rfl ?_
    refine aw_aload_n C dX6_undo_35 rfl (j := 0) rfl ?_
    obtain ⟨v36, hv, he⟩ := ob he
    refine aw_gI C fk_X6_126 dX6_undo_36 hv ?_
    have he := Option.some.inj he
    subst he
    exact aw_iret C X dX6_undo_39 (by decide) (by decide)
theorem cX6_undo_ (l : Launch) (D : va_G) (dA : Nat → ClassId) (base : Nat) {N : Nat} {h : Hp} {sz : Nat} {l0 : Option Nat} {out : Int32 × Hp} (he : fX6_undo N h l0 = some out) : AM l D dA base yX6_undo cX6_undo 1 (some .int) 1 0 0 [.inr l0] h sz (some (.int out.1)) out.2 sz :=
  AM.of (by decide +kernel) (Nat.le_of_ble_eq_true rfl) rfl (fun Γ C X hn => wX6_undo C X he)
set_option maxHeartbeats 4000000 in
set_option maxRecDepth 100000 in
theorem wX5_pointsShown_L4 {Γ : GG} (C : CX Γ cX5_pointsShown 3 RX5 4 0 0) {N : Nat} {sz : Nat} {α : Type} {out : α} {K45 : Hp → Int32 → Option α} (k45 : ∀ (h : Hp) (l1 : Int32), K45 h l1 = some out → AW Γ 3 h sz 0 0 45 [(1, .inl l1)] []) : ∀ (n : Nat) (h : Hp) (l0 : Option Nat) (l1 : Int32) (l2 : Int32), fX5_pointsShown_L4 N K45 n h l0 l1 l2 = some out → AW Γ 3 h sz 0 0 4 [(0, .inr l0), (1, .inl l1), (2, .inl l2)] [] := by
  intro n
  induction n with
  | zero =>
    intro h l0 l1 l2 he
    rw [fX5_pointsShown_L4] at he
    cases he
  | succ n ih =>
    intro h l0 l1 l2 he
    rw [fX5_pointsShown_L4] at he
    refine aw_iload_n C dX5_pointsShown_4 rfl (j := 2) rfl ?_
    refine aw_bipush (v := 9) C dX5_pointsShown_5 (by decide) ?_
    refine aw_ic_gt (tgt := 45) C dX5_pointsShown_7 (by decide) (fun hc => ?_) (fun hc => ?_)
    · have he := ift hc he
      refine aw_sub [1] (lv' := [(1, .inl l1)]) rfl ?_
      exact k45 _ _ he
    · have he := iff_ hc he
      refine aw_aload_n C dX5_pointsShown_10 rfl (j := 0) rfl ?_
      obtain ⟨v11, hv, he⟩ := ob he
      refine aw_gA C fk_X5_37 dX5_pointsShown_11 hv ?_
      refine aw_iload_n C dX5_pointsShown_14 rfl (j := 2) rfl ?_
      obtain ⟨hO, he⟩ := ifs he
      obtain ⟨v15, hv, he⟩ := ob he
      refine aw_callV (ci := 2) C mb_X5_316 ⟨q_421, q_422, rfl⟩ hO (cX2_hasCurveIn_ _ _ _ _ hv) dX5_pointsShown_15 rfl (rest := []) rfl (cat_le _ (Nat.le_of_ble_eq_true rfl)) (Nat.le_of_ble_eq_true rfl) (Nat.le_of_ble_eq_true rfl) (Nat.le_of_ble_eq_true rfl) (st2 := [.int v15]) rfl ?_
      refine aw_if_eq (tgt := 39) C dX5_pointsShown_18 (by decide) (fun hc => ?_) (fun hc => ?_)
      · have he := ift hc he
        refine aw_iinc (y := 1) C dX5_pointsShown_39 (by decide) (j := 2) rfl (by decide) rfl (lv' := [(0, .inr l0), (1, .inl l1), (2, .inl (l2 + 1))]) rfl ?_
        refine aw_goto (tgt := 4) C dX5_pointsShown_42 (by decide) ?_
        exact ih _ _ _ _ he
      · have he := iff_ hc he
        refine aw_aload_n C dX5_pointsShown_21 rfl (j := 0) rfl ?_
        refine aw_iload_n C dX5_pointsShown_22 rfl (j := 2) rfl ?_
        obtain ⟨hO, he⟩ := ifs he
        obtain ⟨z23, hv, he⟩ := ob he
        refine aw_callV (ci := 5) C mb_X5_310 ⟨q_434, q_10, rfl⟩ hO (cX5_noteShown_ _ _ _ _ hv) dX5_pointsShown_23 rfl (rest := []) rfl (cat_le _ (Nat.le_of_ble_eq_true rfl)) (Nat.le_of_ble_eq_true rfl) (Nat.le_of_ble_eq_true rfl) (Nat.le_of_ble_eq_true rfl) (st2 := []) rfl ?_
        refine aw_iload_n C dX5_pointsShown_26 rfl (j := 1) rfl ?_
        refine aw_sipush (v := 360) C dX5_pointsShown_27 (by decide) ?_
        refine aw_aload_n C dX5_pointsShown_30 rfl (j := 0) rfl ?_
        refine aw_bipush (v := -9) C dX5_pointsShown_31 (by decide) ?_
        obtain ⟨hO, he⟩ := ifs he
        obtain ⟨v33, hv, he⟩ := ob he
        refine aw_callV (ci := 5) C mb_X5_313 ⟨q_447, q_11, rfl⟩ hO (cX5_pointsNoted_ _ _ _ _ hv) dX5_pointsShown_33 rfl (rest := [.int (360 : Int32), .int l1]) rfl (cat_le _ (Nat.le_of_ble_eq_true rfl)) (Nat.le_of_ble_eq_true rfl) (Nat.le_of_ble_eq_true rfl) (Nat.le_of_ble_eq_true rfl) (st2 := [.int v33, .int (360 : Int32), .int l1]) rfl ?_
        refine aw_isub C dX5_pointsShown_36 ?_
        refine aw_iadd C dX5_pointsShown_37 ?_
        refine aw_istore_n C dX5_pointsShown_38 rfl (by decide) rfl (lv' := [(0, .inr l0), (1, .inl (l1 + ((360 : Int32) - v33))), (2, .inl l2)]) rfl ?_
        refine aw_iinc (y := 1) C dX5_pointsShown_39 (by decide) (j := 2) rfl (by decide) rfl (lv' := [(0, .inr l0), (1, .inl (l1 + ((360 : Int32) - v33))), (2, .inl (l2 + 1))]) rfl ?_
        refine aw_goto (tgt := 4) C dX5_pointsShown_42 (by decide) ?_
        exact ih _ _ _ _ he
set_option maxHeartbeats 4000000 in
set_option maxRecDepth 100000 in
theorem wX5_pointsShown {Γ : GG} (C : CX Γ cX5_pointsShown 3 RX5 4 0 0) {N : Nat} {sz : Nat} {out : Int32 × Hp} (X : RX Γ (some .int) (some (.int out.1)) out.2 sz 0 0) {h : Hp} {l0 : Option Nat} (he : fX5_pointsShown N h l0 = some out) : AW Γ 3 h sz 0 0 0 [(0, .inr l0)] [] := by
  unfold fX5_pointsShown at he
  refine aw_iconst (v := 0) C dX5_pointsShown_0 (by decide) ?_
  refine aw_istore_n C dX5_pointsShown_1 rfl (by decide) rfl (lv' := [(0, .inr l0), (1, .inl (0 : Int32))]) rfl ?_
  refine aw_iconst (v := 1) C dX5_pointsShown_2 (by decide) ?_
  refine aw_istore_n C dX5_pointsShown_3 rfl (by decide) rfl (lv' := [(0, .inr l0), (1, .inl (0 : Int32)), (2, .inl (1 : Int32))]) rfl ?_
  refine wX5_pointsShown_L4 C ?_ N _ _ _ _ he
  intro h l1 he
  refine aw_iload_n C dX5_pointsShown_45 rfl (j := 0) rfl ?_
  have he := Option.some.inj he
  subst he
  exact aw_iret C X dX5_pointsShown_46 (by decide) (by decide)
theorem cX5_pointsShown_ (l : Launch) (D : va_G) (dA : Nat → ClassId) (base : Nat) {N : Nat} {h : Hp} {sz : Nat} {l0 : Option Nat} {out : Int32 × Hp} (he : fX5_pointsShown N h l0 = some out) : AM l D dA base yX5_pointsShown cX5_pointsShown 3 (some .int) 4 0 0 [.inr l0] h sz (some (.int out.1)) out.2 sz :=
  AM.of (by decide +kernel) (Nat.le_of_ble_eq_true rfl) rfl (fun Γ C X hn => wX5_pointsShown C X he)
set_option maxHeartbeats 4000000 in
set_option maxRecDepth 100000 in
theorem wX5_isSameTurned_L2 {Γ : GG} (C : CX Γ cX5_isSameTurned 3 RX5 2 0 0) {N : Nat} {sz : Nat} {h : Hp} {α : Type} {out : α} {K32 : Option α} (k32 : K32  = some out → AW Γ 3 h sz 0 0 32 [] []) {K40 : Option α} (k40 : K40  = some out → AW Γ 3 h sz 0 0 40 [] []) : ∀ (n : Nat) (l0 : Option Nat) (l1 : Int32) (l2 : Int32), fX5_isSameTurned_L2 N h K32 K40 n l0 l1 l2 = some out → AW Γ 3 h sz 0 0 2 [(0, .inr l0), (1, .inl l1), (2, .inl l2)] [] := by
  intro n
  induction n with
  | zero =>
    intro l0 l1 l2 he
    rw [fX5_isSameTurned_L2] at he
    cases he
  | succ n ih =>
    intro l0 l1 l2 he
    rw [fX5_isSameTurned_L2] at he
    refine aw_iload_n C dX5_isSameTurned_2 rfl (j := 2) rfl ?_
    refine aw_sipush (v := 360) C dX5_isSameTurned_3 (by decide) ?_
    refine aw_ic_ge (tgt := 40) C dX5_isSameTurned_6 (by decide) (fun hc => ?_) (fun hc => ?_)
    · have he := ift hc he
      refine aw_sub [] (lv' := []) rfl ?_
      exact k40  he
    · have he := iff_ hc he
      refine aw_aload_n C dX5_isSameTurned_9 rfl (j := 0) rfl ?_
      obtain ⟨v10, hv, he⟩ := ob he
      refine aw_gA C fk_X5_58 dX5_isSameTurned_10 hv ?_
      refine aw_iload_n C dX5_isSameTurned_13 rfl (j := 2) rfl ?_
      obtain ⟨v14, hv, he⟩ := ob he
      refine aw_iald C dX5_isSameTurned_14 hv ?_
      refine aw_aload_n C dX5_isSameTurned_15 rfl (j := 0) rfl ?_
      obtain ⟨v16, hv, he⟩ := ob he
      refine aw_gA C fk_X5_58 dX5_isSameTurned_16 hv ?_
      refine aw_iload_n C dX5_isSameTurned_19 rfl (j := 2) rfl ?_
      refine aw_iload_n C dX5_isSameTurned_20 rfl (j := 1) rfl ?_
      refine aw_iadd C dX5_isSameTurned_21 ?_
      refine aw_sipush (v := 360) C dX5_isSameTurned_22 (by decide) ?_
      obtain ⟨v25, hv, he⟩ := ob he
      refine aw_callS C mb_X5_237 q_302 (cX5_rest_ _ _ _ _ hv) dX5_isSameTurned_25 rfl (rest := [va_rf v16, .int v14]) rfl (cat_le _ (Nat.le_of_ble_eq_true rfl)) (Nat.le_of_ble_eq_true rfl) (Nat.le_of_ble_eq_true rfl) (Nat.le_of_ble_eq_true rfl) (st2 := [.int v25, va_rf v16, .int v14]) rfl ?_
      obtain ⟨v28, hv, he⟩ := ob he
      refine aw_iald C dX5_isSameTurned_28 hv ?_
      refine aw_ic_eq (tgt := 34) C dX5_isSameTurned_29 (by decide) (fun hc => ?_) (fun hc => ?_)
      · have he := ift hc he
        refine aw_iinc (y := 1) C dX5_isSameTurned_34 (by decide) (j := 2) rfl (by decide) rfl (lv' := [(0, .inr l0), (1, .inl l1), (2, .inl (l2 + 1))]) rfl ?_
        refine aw_goto (tgt := 2) C dX5_isSameTurned_37 (by decide) ?_
        exact ih _ _ _ he
      · have he := iff_ hc he
        refine aw_sub [] (lv' := []) rfl ?_
        exact k32  he
set_option maxHeartbeats 4000000 in
set_option maxRecDepth 100000 in
theorem wX5_isSameTurned {Γ : GG} (C : CX Γ cX5_isSameTurned 3 RX5 2 0 0) {N : Nat} {sz : Nat} {h : Hp} {out : Int32} (X : RX Γ (some .boolean) (some (.int out)) h sz 0 0) {l0 : Option Nat} {l1 : Int32} (he : fX5_isSameTurned N h l0 l1 = some out) : AW Γ 3 h sz 0 0 0 [(0, .inr l0), (1, .inl l1)] [] := by
  unfold fX5_isSameTurned at he
  refine aw_iconst (v := 0) C dX5_isSameTurned_0 (by decide) ?_
  refine aw_istore_n C dX5_isSameTurned_1 rfl (by decide) rfl (lv' := [(0, .inr l0), (1, .inl l1), (2, .inl (0 : Int32))]) rfl ?_
  refine wX5_isSameTurned_L2 C ?_ ?_ N _ _ _ he
  · intro he
    refine aw_iconst (v := 0) C dX5_isSameTurned_32 (by decide) ?_
    have he := Option.some.inj he
    subst he
    exact aw_zret C X (by decide) dX5_isSameTurned_33 (by decide) (by decide)
  · intro he
    refine aw_iconst (v := 1) C dX5_isSameTurned_40 (by decide) ?_
    have he := Option.some.inj he
    subst he
    exact aw_zret C X (by decide) dX5_isSameTurned_41 (by decide) (by decide)
theorem cX5_isSameTurned_ (l : Launch) (D : va_G) (dA : Nat → ClassId) (base : Nat) {N : Nat} {h : Hp} {sz : Nat} {l0 : Option Nat} {l1 : Int32} {out : Int32} (he : fX5_isSameTurned N h l0 l1 = some out) : AM l D dA base yX5_isSameTurned cX5_isSameTurned 3 (some .boolean) 2 0 0 [.inr l0, .inl l1] h sz (some (.int out)) h sz :=
  AM.of (by decide +kernel) (Nat.le_of_ble_eq_true rfl) rfl (fun Γ C X hn => wX5_isSameTurned C X he)
set_option maxHeartbeats 4000000 in
set_option maxRecDepth 100000 in
theorem wX5_likeOfRow_L4 {Γ : GG} (C : CX Γ cX5_likeOfRow 2 RX5 3 0 0) {N : Nat} {sz : Nat} {h : Hp} {α : Type} {out : α} {K29 : Int32 → Option α} (k29 : ∀ (l1 : Int32), K29 l1 = some out → AW Γ 2 h sz 0 0 29 [(1, .inl l1)] []) {K37 : Option α} (k37 : K37  = some out → AW Γ 2 h sz 0 0 37 [] []) : ∀ (n : Nat) (l0 : Option Nat) (l1 : Int32), fX5_likeOfRow_L4 N h K29 K37 n l0 l1 = some out → AW Γ 2 h sz 0 0 4 [(0, .inr l0), (1, .inl l1)] [] := by
  intro n
  induction n with
  | zero =>
    intro l0 l1 he
    rw [fX5_likeOfRow_L4] at he
    cases he
  | succ n ih =>
    intro l0 l1 he
    rw [fX5_likeOfRow_L4] at he
    refine aw_iload_n C dX5_likeOfRow_4 rfl (j := 1) rfl ?_
    refine aw_iconst (v := 1) C dX5_likeOfRow_5 (by decide) ?_
    refine aw_ic_le (tgt := 37) C dX5_likeOfRow_6 (by decide) (fun hc => ?_) (fun hc => ?_)
    · have he := ift hc he
      refine aw_sub [] (lv' := []) rfl ?_
      exact k37  he
    · have he := iff_ hc he
      refine aw_sipush (v := 360) C dX5_likeOfRow_9 (by decide) ?_
      refine aw_iload_n C dX5_likeOfRow_12 rfl (j := 1) rfl ?_
      obtain ⟨hy, he⟩ := ifn he
      refine aw_irem C dX5_likeOfRow_13 hy ?_
      refine aw_if_ne (tgt := 31) C dX5_likeOfRow_14 (by decide) (fun hc => ?_) (fun hc => ?_)
      · have he := ift hc he
        refine aw_aload_n C dX5_likeOfRow_17 rfl (j := 0) rfl ?_
        refine aw_sipush (v := 360) C dX5_likeOfRow_18 (by decide) ?_
        refine aw_iload_n C dX5_likeOfRow_21 rfl (j := 1) rfl ?_
        obtain ⟨hy, he⟩ := ifn he
        refine aw_idiv C dX5_likeOfRow_22 hy ?_
        obtain ⟨hO, he⟩ := ifs he
        obtain ⟨v23, hv, he⟩ := ob he
        refine aw_callV (ci := 5) C mb_X5_328 ⟨q_595, q_19, rfl⟩ hO (cX5_isSameTurned_ _ _ _ _ hv) dX5_likeOfRow_23 rfl (rest := []) rfl (cat_le _ (Nat.le_of_ble_eq_true rfl)) (Nat.le_of_ble_eq_true rfl) (Nat.le_of_ble_eq_true rfl) (Nat.le_of_ble_eq_true rfl) (st2 := [.int v23]) rfl ?_
        refine aw_if_eq (tgt := 31) C dX5_likeOfRow_26 (by decide) (fun hc => ?_) (fun hc => ?_)
        · have he := ift hc he
          refine aw_iinc (y := -1) C dX5_likeOfRow_31 (by decide) (j := 1) rfl (by decide) rfl (lv' := [(0, .inr l0), (1, .inl (l1 + (-1)))]) rfl ?_
          refine aw_goto (tgt := 4) C dX5_likeOfRow_34 (by decide) ?_
          exact ih _ _ he
        · have he := iff_ hc he
          refine aw_sub [1] (lv' := [(1, .inl l1)]) rfl ?_
          exact k29 _ he
      · have he := iff_ hc he
        refine aw_iinc (y := -1) C dX5_likeOfRow_31 (by decide) (j := 1) rfl (by decide) rfl (lv' := [(0, .inr l0), (1, .inl (l1 + (-1)))]) rfl ?_
        refine aw_goto (tgt := 4) C dX5_likeOfRow_34 (by decide) ?_
        exact ih _ _ he
set_option maxHeartbeats 4000000 in
set_option maxRecDepth 100000 in
theorem wX5_likeOfRow {Γ : GG} (C : CX Γ cX5_likeOfRow 2 RX5 3 0 0) {N : Nat} {sz : Nat} {h : Hp} {out : Int32} (X : RX Γ (some .int) (some (.int out)) h sz 0 0) {l0 : Option Nat} (he : fX5_likeOfRow N h l0 = some out) : AW Γ 2 h sz 0 0 0 [(0, .inr l0)] [] := by
  unfold fX5_likeOfRow at he
  refine aw_sipush (v := 360) C dX5_likeOfRow_0 (by decide) ?_
  refine aw_istore_n C dX5_likeOfRow_3 rfl (by decide) rfl (lv' := [(0, .inr l0), (1, .inl (360 : Int32))]) rfl ?_
  refine wX5_likeOfRow_L4 C ?_ ?_ N _ _ he
  · intro l1 he
    refine aw_iload_n C dX5_likeOfRow_29 rfl (j := 0) rfl ?_
    have he := Option.some.inj he
    subst he
    exact aw_iret C X dX5_likeOfRow_30 (by decide) (by decide)
  · intro he
    refine aw_iconst (v := 1) C dX5_likeOfRow_37 (by decide) ?_
    have he := Option.some.inj he
    subst he
    exact aw_iret C X dX5_likeOfRow_38 (by decide) (by decide)
theorem cX5_likeOfRow_ (l : Launch) (D : va_G) (dA : Nat → ClassId) (base : Nat) {N : Nat} {h : Hp} {sz : Nat} {l0 : Option Nat} {out : Int32} (he : fX5_likeOfRow N h l0 = some out) : AM l D dA base yX5_likeOfRow cX5_likeOfRow 2 (some .int) 3 0 0 [.inr l0] h sz (some (.int out)) h sz :=
  AM.of (by decide +kernel) (Nat.le_of_ble_eq_true rfl) rfl (fun Γ C X hn => wX5_likeOfRow C X he)
set_option maxHeartbeats 4000000 in
set_option maxRecDepth 100000 in
theorem wX5_like_L6 {Γ : GG} (C : CX Γ cX5_like 3 RX5 5 0 0) {N : Nat} {sz : Nat} {α : Type} {out : α} {K43 : Hp → Int32 → Option α} (k43 : ∀ (h : Hp) (l1 : Int32), K43 h l1 = some out → AW Γ 3 h sz 0 0 43 [(1, .inl l1)] []) : ∀ (n : Nat) (h : Hp) (l0 : Option Nat) (l1 : Int32) (l2 : Int32), fX5_like_L6 N K43 n h l0 l1 l2 = some out → AW Γ 3 h sz 0 0 6 [(0, .inr l0), (1, .inl l1), (2, .inl l2)] [] := by
  intro n
  induction n with
  | zero =>
    intro h l0 l1 l2 he
    rw [fX5_like_L6] at he
    cases he
  | succ n ih =>
    intro h l0 l1 l2 he
    rw [fX5_like_L6] at he
    refine aw_iload_n C dX5_like_6 rfl (j := 2) rfl ?_
    refine aw_bipush (v := 9) C dX5_like_7 (by decide) ?_
    refine aw_ic_gt (tgt := 43) C dX5_like_9 (by decide) (fun hc => ?_) (fun hc => ?_)
    · have he := ift hc he
      refine aw_sub [1] (lv' := [(1, .inl l1)]) rfl ?_
      exact k43 _ _ he
    · have he := iff_ hc he
      refine aw_aload_n C dX5_like_12 rfl (j := 0) rfl ?_
      obtain ⟨v13, hv, he⟩ := ob he
      refine aw_gA C fk_X5_37 dX5_like_13 hv ?_
      refine aw_iload_n C dX5_like_16 rfl (j := 2) rfl ?_
      obtain ⟨hO, he⟩ := ifs he
      obtain ⟨v17, hv, he⟩ := ob he
      refine aw_callV (ci := 2) C mb_X5_316 ⟨q_421, q_422, rfl⟩ hO (cX2_hasCurveIn_ _ _ _ _ hv) dX5_like_17 rfl (rest := []) rfl (cat_le _ (Nat.le_of_ble_eq_true rfl)) (Nat.le_of_ble_eq_true rfl) (Nat.le_of_ble_eq_true rfl) (Nat.le_of_ble_eq_true rfl) (st2 := [.int v17]) rfl ?_
      refine aw_if_eq (tgt := 37) C dX5_like_20 (by decide) (fun hc => ?_) (fun hc => ?_)
      · have he := ift hc he
        refine aw_iinc (y := 1) C dX5_like_37 (by decide) (j := 2) rfl (by decide) rfl (lv' := [(0, .inr l0), (1, .inl l1), (2, .inl (l2 + 1))]) rfl ?_
        refine aw_goto (tgt := 6) C dX5_like_40 (by decide) ?_
        exact ih _ _ _ _ he
      · have he := iff_ hc he
        refine aw_aload_n C dX5_like_23 rfl (j := 0) rfl ?_
        refine aw_iload_n C dX5_like_24 rfl (j := 2) rfl ?_
        obtain ⟨hO, he⟩ := ifs he
        obtain ⟨z25, hv, he⟩ := ob he
        refine aw_callV (ci := 5) C mb_X5_319 ⟨q_430, q_9, rfl⟩ hO (cX5_notePens_ _ _ _ _ hv) dX5_like_25 rfl (rest := []) rfl (cat_le _ (Nat.le_of_ble_eq_true rfl)) (Nat.le_of_ble_eq_true rfl) (Nat.le_of_ble_eq_true rfl) (Nat.le_of_ble_eq_true rfl) (st2 := []) rfl ?_
        refine aw_iload_n C dX5_like_28 rfl (j := 1) rfl ?_
        refine aw_aload_n C dX5_like_29 rfl (j := 0) rfl ?_
        obtain ⟨hO, he⟩ := ifs he
        obtain ⟨v30, hv, he⟩ := ob he
        refine aw_callV (ci := 5) C mb_X5_322 ⟨q_591, q_18, rfl⟩ hO (cX5_likeOfRow_ _ _ _ _ hv) dX5_like_30 rfl (rest := [.int l1]) rfl (cat_le _ (Nat.le_of_ble_eq_true rfl)) (Nat.le_of_ble_eq_true rfl) (Nat.le_of_ble_eq_true rfl) (Nat.le_of_ble_eq_true rfl) (st2 := [.int v30, .int l1]) rfl ?_
        obtain ⟨v33, hv, he⟩ := ob he
        refine aw_callS C mb_X5_325 q_390 (cX5_greatestDivisor_ _ _ _ _ hv) dX5_like_33 rfl (rest := []) rfl (cat_le _ (Nat.le_of_ble_eq_true rfl)) (Nat.le_of_ble_eq_true rfl) (Nat.le_of_ble_eq_true rfl) (Nat.le_of_ble_eq_true rfl) (st2 := [.int v33]) rfl ?_
        refine aw_istore_n C dX5_like_36 rfl (by decide) rfl (lv' := [(0, .inr l0), (1, .inl v33), (2, .inl l2)]) rfl ?_
        refine aw_iinc (y := 1) C dX5_like_37 (by decide) (j := 2) rfl (by decide) rfl (lv' := [(0, .inr l0), (1, .inl v33), (2, .inl (l2 + 1))]) rfl ?_
        refine aw_goto (tgt := 6) C dX5_like_40 (by decide) ?_
        exact ih _ _ _ _ he
set_option maxHeartbeats 4000000 in
set_option maxRecDepth 100000 in
theorem wX5_like {Γ : GG} (C : CX Γ cX5_like 3 RX5 5 0 0) {N : Nat} {sz : Nat} {out : Int32 × Hp} (X : RX Γ (some .int) (some (.int out.1)) out.2 sz 0 0) {h : Hp} {l0 : Option Nat} (he : fX5_like N h l0 = some out) : AW Γ 3 h sz 0 0 0 [(0, .inr l0)] [] := by
  unfold fX5_like at he
  refine aw_sipush (v := 360) C dX5_like_0 (by decide) ?_
  refine aw_istore_n C dX5_like_3 rfl (by decide) rfl (lv' := [(0, .inr l0), (1, .inl (360 : Int32))]) rfl ?_
  refine aw_iconst (v := 1) C dX5_like_4 (by decide) ?_
  refine aw_istore_n C dX5_like_5 rfl (by decide) rfl (lv' := [(0, .inr l0), (1, .inl (360 : Int32)), (2, .inl (1 : Int32))]) rfl ?_
  refine wX5_like_L6 C ?_ N _ _ _ _ he
  intro h l1 he
  refine aw_iload_n C dX5_like_43 rfl (j := 0) rfl ?_
  have he := Option.some.inj he
  subst he
  exact aw_iret C X dX5_like_44 (by decide) (by decide)
theorem cX5_like_ (l : Launch) (D : va_G) (dA : Nat → ClassId) (base : Nat) {N : Nat} {h : Hp} {sz : Nat} {l0 : Option Nat} {out : Int32 × Hp} (he : fX5_like N h l0 = some out) : AM l D dA base yX5_like cX5_like 3 (some .int) 5 0 0 [.inr l0] h sz (some (.int out.1)) out.2 sz :=
  AM.of (by decide +kernel) (Nat.le_of_ble_eq_true rfl) rfl (fun Γ C X hn => wX5_like C X he)
set_option maxHeartbeats 4000000 in
set_option maxRecDepth 100000 in
theorem wX5_now {Γ : GG} (C : CX Γ cX5_now 2 RX5 6 0 0) {N : Nat} {sz : Nat} {out : Int32 × Hp} (X : RX Γ (some .int) (some (.int out.1)) out.2 sz 0 0) {h : Hp} {l0 : Option Nat} {l1 : Int32} (he : fX5_now N h l0 l1 = some out) : AW Γ 2 h sz 0 0 0 [(0, .inr l0), (1, .inl l1)] [] := by
  unfold fX5_now at he
  refine aw_iload_n C dX5_now_0 rfl (j := 1) rfl ?_
  by_cases c0 : l1 = 0
  · have he := ift c0 he
    refine aw_tsIn (v := 0) (off := 31) (tgt := 32) C dX5_now_1 c0 (by decide) (by decide) (by decide) (by decide) ?_
    refine aw_aload_n C dX5_now_32 rfl (j := 0) rfl ?_
    obtain ⟨v33, hv, he⟩ := ob he
    refine aw_gA C fk_X5_37 dX5_now_33 hv ?_
    obtain ⟨v36, hv, he⟩ := ob he
    refine aw_gI C fk_X5_164 dX5_now_36 hv ?_
    have he := Option.some.inj he
    subst he
    exact aw_iret C X dX5_now_39 (by decide) (by decide)
  have he := iff_ c0 he
  by_cases c1 : l1 = 1
  · have he := ift c1 he
    refine aw_tsIn (v := 1) (off := 39) (tgt := 40) C dX5_now_1 c1 (by decide) (by decide) (by decide) (by decide) ?_
    refine aw_aload_n C dX5_now_40 rfl (j := 0) rfl ?_
    obtain ⟨v41, hv, he⟩ := ob he
    refine aw_gA C fk_X5_37 dX5_now_41 hv ?_
    obtain ⟨v44, hv, he⟩ := ob he
    refine aw_gA C fk_X5_160 dX5_now_44 hv ?_
    obtain ⟨v47, hv, he⟩ := ob he
    refine aw_alen C dX5_now_47 hv ?_
    have he := Option.some.inj he
    subst he
    exact aw_iret C X dX5_now_48 (by decide) (by decide)
  have he := iff_ c1 he
  by_cases c2 : l1 = 2
  · have he := ift c2 he
    refine aw_tsIn (v := 2) (off := 48) (tgt := 49) C dX5_now_1 c2 (by decide) (by decide) (by decide) (by decide) ?_
    refine aw_aload_n C dX5_now_49 rfl (j := 0) rfl ?_
    obtain ⟨hO, he⟩ := ifs he
    obtain ⟨z50, hv, he⟩ := ob he
    refine aw_callV (ci := 5) C mb_X5_196 ⟨q_583, q_16, rfl⟩ hO (cX5_pointsShown_ _ _ _ _ hv) dX5_now_50 rfl (rest := []) rfl (cat_le _ (Nat.le_of_ble_eq_true rfl)) (Nat.le_of_ble_eq_true rfl) (Nat.le_of_ble_eq_true rfl) (Nat.le_of_ble_eq_true rfl) (st2 := [.int z50.1]) rfl ?_
    have he := Option.some.inj he
    subst he
    exact aw_iret C X dX5_now_53 (by decide) (by decide)
  have he := iff_ c2 he
  by_cases c3 : l1 = 3
  · have he := ift c3 he
    refine aw_tsIn (v := 3) (off := 53) (tgt := 54) C dX5_now_1 c3 (by decide) (by decide) (by decide) (by decide) ?_
    refine aw_aload_n C dX5_now_54 rfl (j := 0) rfl ?_
    obtain ⟨hO, he⟩ := ifs he
    obtain ⟨z55, hv, he⟩ := ob he
    refine aw_callV (ci := 5) C mb_X5_199 ⟨q_587, q_17, rfl⟩ hO (cX5_like_ _ _ _ _ hv) dX5_now_55 rfl (rest := []) rfl (cat_le _ (Nat.le_of_ble_eq_true rfl)) (Nat.le_of_ble_eq_true rfl) (Nat.le_of_ble_eq_true rfl) (Nat.le_of_ble_eq_true rfl) (st2 := [.int z55.1]) rfl ?_
    have he := Option.some.inj he
    subst he
    exact aw_iret C X dX5_now_58 (by decide) (by decide)
  have he := iff_ c3 he
  refine aw_tsOut (tgt := 59) C dX5_now_1 (by have e0 := lv_neT c0 (by decide : (0 : Int32).toInt = 0); have e1 := lv_neT c1 (by decide : (1 : Int32).toInt = 1); have e2 := lv_neT c2 (by decide : (2 : Int32).toInt = 2); have e3 := lv_neT c3 (by decide : (3 : Int32).toInt = 3);  omega) (by decide) ?_
  refine aw_iconst (v := -1) C dX5_now_59 (by decide) ?_
  have he := Option.some.inj he
  subst he
  exact aw_iret C X dX5_now_60 (by decide) (by decide)
theorem cX5_now_ (l : Launch) (D : va_G) (dA : Nat → ClassId) (base : Nat) {N : Nat} {h : Hp} {sz : Nat} {l0 : Option Nat} {l1 : Int32} {out : Int32 × Hp} (he : fX5_now N h l0 l1 = some out) : AM l D dA base yX5_now cX5_now 2 (some .int) 6 0 0 [.inr l0, .inl l1] h sz (some (.int out.1)) out.2 sz :=
  AM.of (by decide +kernel) (Nat.le_of_ble_eq_true rfl) rfl (fun Γ C X hn => wX5_now C X he)
set_option maxHeartbeats 4000000 in
set_option maxRecDepth 100000 in
theorem wX6_shownMany_L13 {Γ : GG} (C : CX Γ cX6_shownMany 4 RX6 4 0 0) {N : Nat} {sz : Nat} {h : Hp} {α : Type} {out : α} {K44 : Option Nat → Int32 → Int32 → Option α} (k44 : ∀ (l0 : Option Nat) (l1 : Int32) (l2 : Int32), K44 l0 l1 l2 = some out → AW Γ 4 h sz 0 0 44 [(0, .inr l0), (1, .inl l1), (2, .inl l2)] []) : ∀ (n : Nat) (l0 : Option Nat) (l1 : Int32) (l2 : Int32) (l3 : Int32), fX6_shownMany_L13 N h K44 n l0 l1 l2 l3 = some out → AW Γ 4 h sz 0 0 13 [(0, .inr l0), (1, .inl l1), (2, .inl l2), (3, .inl l3)] [] := by
  intro n
  induction n with
  | zero =>
    intro l0 l1 l2 l3 he
    rw [fX6_shownMany_L13] at he
    cases he
  | succ n ih =>
    intro l0 l1 l2 l3 he
    rw [fX6_shownMany_L13] at he
    refine aw_iload_n C dX6_shownMany_13 rfl (j := 3) rfl ?_
    refine aw_bipush (v := 9) C dX6_shownMany_14 (by decide) ?_
    refine aw_ic_gt (tgt := 44) C dX6_shownMany_16 (by decide) (fun hc => ?_) (fun hc => ?_)
    · have he := ift hc he
      refine aw_sub [0, 1, 2] (lv' := [(0, .inr l0), (1, .inl l1), (2, .inl l2)]) rfl ?_
      exact k44 _ _ _ he
    · have he := iff_ hc he
      refine aw_iload_n C dX6_shownMany_19 rfl (j := 1) rfl ?_
      refine aw_aload_n C dX6_shownMany_20 rfl (j := 0) rfl ?_
      refine aw_iload_n C dX6_shownMany_21 rfl (j := 2) rfl ?_
      refine aw_iload_n C dX6_shownMany_22 rfl (j := 3) rfl ?_
      obtain ⟨hO, he⟩ := ifs he
      obtain ⟨v23, hv, he⟩ := ob he
      refine aw_callV (ci := 6) C mb_X6_165 ⟨q_973, q_53, rfl⟩ hO (cX6_shownAt_ _ _ _ _ hv) dX6_shownMany_23 rfl (rest := [.int l1]) rfl (cat_le _ (Nat.le_of_ble_eq_true rfl)) (Nat.le_of_ble_eq_true rfl) (Nat.le_of_ble_eq_true rfl) (Nat.le_of_ble_eq_true rfl) (st2 := [.int v23, .int l1]) rfl ?_
      refine aw_bipush (v := -9) C dX6_shownMany_26 (by decide) ?_
      refine aw_ic_ne (tgt := 35) C dX6_shownMany_28 (by decide) (fun hc => ?_) (fun hc => ?_)
      · have he := ift hc he
        refine aw_iconst (v := 0) C dX6_shownMany_31 (by decide) ?_
        refine aw_goto (tgt := 36) C dX6_shownMany_32 (by decide) ?_
        refine aw_iadd C dX6_shownMany_36 ?_
        refine aw_istore_n C dX6_shownMany_37 rfl (by decide) rfl (lv' := [(0, .inr l0), (1, .inl (l1 + (0 : Int32))), (2, .inl l2), (3, .inl l3)]) rfl ?_
        refine aw_iinc (y := 1) C dX6_shownMany_38 (by decide) (j := 3) rfl (by decide) rfl (lv' := [(0, .inr l0), (1, .inl (l1 + (0 : Int32))), (2, .inl l2), (3, .inl (l3 + 1))]) rfl ?_
        refine aw_goto (tgt := 13) C dX6_shownMany_41 (by decide) ?_
        exact ih _ _ _ _ he
      · have he := iff_ hc he
        refine aw_iconst (v := 1) C dX6_shownMany_35 (by decide) ?_
        refine aw_iadd C dX6_shownMany_36 ?_
        refine aw_istore_n C dX6_shownMany_37 rfl (by decide) rfl (lv' := [(0, .inr l0), (1, .inl (l1 + (1 : Int32))), (2, .inl l2), (3, .inl l3)]) rfl ?_
        refine aw_iinc (y := 1) C dX6_shownMany_38 (by decide) (j := 3) rfl (by decide) rfl (lv' := [(0, .inr l0), (1, .inl (l1 + (1 : Int32))), (2, .inl l2), (3, .inl (l3 + 1))]) rfl ?_
        refine aw_goto (tgt := 13) C dX6_shownMany_41 (by decide) ?_
        exact ih _ _ _ _ he
set_option maxHeartbeats 4000000 in
set_option maxRecDepth 100000 in
theorem wX6_shownMany_L4 {Γ : GG} (C : CX Γ cX6_shownMany 4 RX6 4 0 0) {N : Nat} {sz : Nat} {h : Hp} {α : Type} {out : α} {K50 : Int32 → Option α} (k50 : ∀ (l1 : Int32), K50 l1 = some out → AW Γ 4 h sz 0 0 50 [(1, .inl l1)] []) : ∀ (n : Nat) (l0 : Option Nat) (l1 : Int32) (l2 : Int32), fX6_shownMany_L4 N h K50 n l0 l1 l2 = some out → AW Γ 4 h sz 0 0 4 [(0, .inr l0), (1, .inl l1), (2, .inl l2)] [] := by
  intro n
  induction n with
  | zero =>
    intro l0 l1 l2 he
    rw [fX6_shownMany_L4] at he
    cases he
  | succ n ih =>
    intro l0 l1 l2 he
    rw [fX6_shownMany_L4] at he
    refine aw_iload_n C dX6_shownMany_4 rfl (j := 2) rfl ?_
    refine aw_sipush (v := 360) C dX6_shownMany_5 (by decide) ?_
    refine aw_ic_ge (tgt := 50) C dX6_shownMany_8 (by decide) (fun hc => ?_) (fun hc => ?_)
    · have he := ift hc he
      refine aw_sub [1] (lv' := [(1, .inl l1)]) rfl ?_
      exact k50 _ he
    · have he := iff_ hc he
      refine aw_iconst (v := 1) C dX6_shownMany_11 (by decide) ?_
      refine aw_istore_n C dX6_shownMany_12 rfl (by decide) rfl (lv' := [(0, .inr l0), (1, .inl l1), (2, .inl l2), (3, .inl (1 : Int32))]) rfl ?_
      refine wX6_shownMany_L13 C ?_ N _ _ _ _ he
      intro l0 l1 l2 he
      refine aw_iinc (y := 1) C dX6_shownMany_44 (by decide) (j := 2) rfl (by decide) rfl (lv' := [(0, .inr l0), (1, .inl l1), (2, .inl (l2 + 1))]) rfl ?_
      refine aw_goto (tgt := 4) C dX6_shownMany_47 (by decide) ?_
      exact ih _ _ _ he
set_option maxHeartbeats 4000000 in
set_option maxRecDepth 100000 in
theorem wX6_shownMany {Γ : GG} (C : CX Γ cX6_shownMany 4 RX6 4 0 0) {N : Nat} {sz : Nat} {h : Hp} {out : Int32} (X : RX Γ (some .int) (some (.int out)) h sz 0 0) {l0 : Option Nat} (he : fX6_shownMany N h l0 = some out) : AW Γ 4 h sz 0 0 0 [(0, .inr l0)] [] := by
  unfold fX6_shownMany at he
  refine aw_iconst (v := 0) C dX6_shownMany_0 (by decide) ?_
  refine aw_istore_n C dX6_shownMany_1 rfl (by decide) rfl (lv' := [(0, .inr l0), (1, .inl (0 : Int32))]) rfl ?_
  refine aw_iconst (v := 0) C dX6_shownMany_2 (by decide) ?_
  refine aw_istore_n C dX6_shownMany_3 rfl (by decide) rfl (lv' := [(0, .inr l0), (1, .inl (0 : Int32)), (2, .inl (0 : Int32))]) rfl ?_
  refine wX6_shownMany_L4 C ?_ N _ _ _ he
  intro l1 he
  refine aw_iload_n C dX6_shownMany_50 rfl (j := 0) rfl ?_
  have he := Option.some.inj he
  subst he
  exact aw_iret C X dX6_shownMany_51 (by decide) (by decide)
theorem cX6_shownMany_ (l : Launch) (D : va_G) (dA : Nat → ClassId) (base : Nat) {N : Nat} {h : Hp} {sz : Nat} {l0 : Option Nat} {out : Int32} (he : fX6_shownMany N h l0 = some out) : AM l D dA base yX6_shownMany cX6_shownMany 4 (some .int) 4 0 0 [.inr l0] h sz (some (.int out)) h sz :=
  AM.of (by decide +kernel) (Nat.le_of_ble_eq_true rfl) rfl (fun Γ C X hn => wX6_shownMany C X he)
