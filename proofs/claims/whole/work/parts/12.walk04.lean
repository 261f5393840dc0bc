set_option maxHeartbeats 4000000 in
set_option maxRecDepth 100000 in
theorem wX5_meet_L41 {Γ : GG} (C : CX Γ cX5_meet 7 RX5 3 0 0) {N : Nat} {sz : Nat} {h : Hp} {α : Type} {out : α} {K77 : Int32 → Option α} (k77 : ∀ (l5 : Int32), K77 l5 = some out → AW Γ 7 h sz 0 0 77 [(5, .inl l5)] []) : ∀ (n : Nat) (l3 : Option Nat) (l4 : Option Nat) (l5 : Int32) (l6 : Int32), fX5_meet_L41 N h K77 n l3 l4 l5 l6 = some out → AW Γ 7 h sz 0 0 41 [(3, .inr l3), (4, .inr l4), (5, .inl l5), (6, .inl l6)] [] := by
  intro n
  induction n with
  | zero =>
    intro l3 l4 l5 l6 he
    rw [fX5_meet_L41] at he
    cases he
  | succ n ih =>
    intro l3 l4 l5 l6 he
    rw [fX5_meet_L41] at he
    refine aw_iload C dX5_meet_41 (j := 3) rfl ?_
    refine aw_aload_n C dX5_meet_43 rfl (j := 0) rfl ?_
    obtain ⟨v44, hv, he⟩ := ob he
    refine aw_gI C fk_X5_228 dX5_meet_44 hv ?_
    refine aw_ic_ge (tgt := 77) C dX5_meet_47 (by decide) (fun hc => ?_) (fun hc => ?_)
    · have he := ift hc he
      refine aw_sub [2] (lv' := [(5, .inl l5)]) rfl ?_
      exact k77 _ he
    · have he := iff_ hc he
      refine aw_aload C dX5_meet_50 (j := 1) rfl ?_
      refine aw_aload_n C dX5_meet_52 rfl (j := 0) rfl ?_
      refine aw_iload C dX5_meet_53 (j := 3) rfl ?_
      obtain ⟨hO, he⟩ := ifs he
      obtain ⟨v55, hv, he⟩ := ob he
      refine aw_callV (ci := 1) C mb_X5_231 ⟨q_441, q_442, rfl⟩ hO (cX1_pointOf_ _ _ _ _ hv) dX5_meet_55 rfl (rest := [va_rf l4]) rfl (cat_le _ (Nat.le_of_ble_eq_true rfl)) (Nat.le_of_ble_eq_true rfl) (Nat.le_of_ble_eq_true rfl) (Nat.le_of_ble_eq_true rfl) (st2 := [.int v55, va_rf l4]) rfl ?_
      refine aw_aload_n C dX5_meet_58 rfl (j := 0) rfl ?_
      obtain ⟨v59, hv, he⟩ := ob he
      refine aw_gI C fk_X5_145 dX5_meet_59 hv ?_
      obtain ⟨hO, he⟩ := ifs he
      obtain ⟨v62, hv, he⟩ := ob he
      refine aw_callV (ci := 1) C mb_X5_202 ⟨q_604, q_605, rfl⟩ hO (cX1_hasTip_ _ _ _ _ hv) dX5_meet_62 rfl (rest := []) rfl (cat_le _ (Nat.le_of_ble_eq_true rfl)) (Nat.le_of_ble_eq_true rfl) (Nat.le_of_ble_eq_true rfl) (Nat.le_of_ble_eq_true rfl) (st2 := [.int v62]) rfl ?_
      refine aw_if_eq (tgt := 71) C dX5_meet_65 (by decide) (fun hc => ?_) (fun hc => ?_)
      · have he := ift hc he
        refine aw_iinc (y := 1) C dX5_meet_71 (by decide) (j := 3) rfl (by decide) rfl (lv' := [(3, .inr l3), (4, .inr l4), (5, .inl l5), (6, .inl (l6 + 1))]) rfl ?_
        refine aw_goto (tgt := 41) C dX5_meet_74 (by decide) ?_
        exact ih _ _ _ _ he
      · have he := iff_ hc he
        refine aw_iinc (y := 1) C dX5_meet_68 (by decide) (j := 2) rfl (by decide) rfl (lv' := [(3, .inr l3), (4, .inr l4), (5, .inl (l5 + 1)), (6, .inl l6)]) rfl ?_
        refine aw_iinc (y := 1) C dX5_meet_71 (by decide) (j := 3) rfl (by decide) rfl (lv' := [(3, .inr l3), (4, .inr l4), (5, .inl (l5 + 1)), (6, .inl (l6 + 1))]) rfl ?_
        refine aw_goto (tgt := 41) C dX5_meet_74 (by decide) ?_
        exact ih _ _ _ _ he
set_option maxHeartbeats 4000000 in
set_option maxRecDepth 100000 in
theorem wX5_meet {Γ : GG} (C : CX Γ cX5_meet 7 RX5 3 0 0) {N : Nat} {sz : Nat} {h : Hp} {out : Int32} (X : RX Γ (some .int) (some (.int out)) h sz 0 0) {l0 : Option Nat} {l1 : Int32} {l2 : Int32} (he : fX5_meet N h l0 l1 l2 = some out) : AW Γ 7 h sz 0 0 0 [(0, .inr l0), (1, .inl l1), (2, .inl l2)] [] := by
  unfold fX5_meet at he
  refine aw_aload_n C dX5_meet_0 rfl (j := 0) rfl ?_
  obtain ⟨v1, hv, he⟩ := ob he
  refine aw_gA C fk_X5_37 dX5_meet_1 hv ?_
  refine aw_iload_n C dX5_meet_4 rfl (j := 1) rfl ?_
  obtain ⟨hO, he⟩ := ifs he
  obtain ⟨v5, hv, he⟩ := ob he
  refine aw_callV (ci := 2) C mb_X5_135 ⟨q_425, q_426, rfl⟩ hO (cX2_curveAt_ _ _ _ _ hv) dX5_meet_5 rfl (rest := []) rfl (cat_le _ (Nat.le_of_ble_eq_true rfl)) (Nat.le_of_ble_eq_true rfl) (Nat.le_of_ble_eq_true rfl) (Nat.le_of_ble_eq_true rfl) (st2 := [va_rf v5]) rfl ?_
  refine aw_astore_n C dX5_meet_8 rfl (by decide) rfl (lv' := [(0, .inr l0), (1, .inl l1), (2, .inl l2), (3, .inr v5)]) rfl ?_
  refine aw_aload_n C dX5_meet_9 rfl (j := 0) rfl ?_
  obtain ⟨v10, hv, he⟩ := ob he
  refine aw_gA C fk_X5_37 dX5_meet_10 hv ?_
  refine aw_iload_n C dX5_meet_13 rfl (j := 2) rfl ?_
  obtain ⟨hO, he⟩ := ifs he
  obtain ⟨v14, hv, he⟩ := ob he
  refine aw_callV (ci := 2) C mb_X5_135 ⟨q_425, q_426, rfl⟩ hO (cX2_curveAt_ _ _ _ _ hv) dX5_meet_14 rfl (rest := []) rfl (cat_le _ (Nat.le_of_ble_eq_true rfl)) (Nat.le_of_ble_eq_true rfl) (Nat.le_of_ble_eq_true rfl) (Nat.le_of_ble_eq_true rfl) (st2 := [va_rf v14]) rfl ?_
  refine aw_astore C dX5_meet_17 (by decide) rfl (lv' := [(0, .inr l0), (1, .inl l1), (2, .inl l2), (3, .inr v5), (4, .inr v14)]) rfl ?_
  refine aw_aload_n C dX5_meet_19 rfl (j := 3) rfl ?_
  refine aw_ifnull (tgt := 33) C dX5_meet_20 (by decide) (fun hc => ?_) (fun hc => ?_)
  · have he := ift hc he
    refine aw_iconst (v := -1) C dX5_meet_33 (by decide) ?_
    have he := Option.some.inj he
    subst he
    exact aw_iret C X dX5_meet_34 (by decide) (by decide)
  · have he := iff_ hc he
    refine aw_aload C dX5_meet_23 (j := 4) rfl ?_
    refine aw_ifnull (tgt := 33) C dX5_meet_25 (by decide) (fun hc => ?_) (fun hc => ?_)
    · have he := ift hc he
      refine aw_iconst (v := -1) C dX5_meet_33 (by decide) ?_
      have he := Option.some.inj he
      subst he
      exact aw_iret C X dX5_meet_34 (by decide) (by decide)
    · have he := iff_ hc he
      refine aw_iload_n C dX5_meet_28 rfl (j := 1) rfl ?_
      refine aw_iload_n C dX5_meet_29 rfl (j := 2) rfl ?_
      refine aw_ic_ne (tgt := 35) C dX5_meet_30 (by decide) (fun hc => ?_) (fun hc => ?_)
      · have he := ift hc he
        refine aw_iconst (v := -1) C dX5_meet_33 (by decide) ?_
        have he := Option.some.inj he
        subst he
        exact aw_iret C X dX5_meet_34 (by decide) (by decide)
      · have he := iff_ hc he
        refine aw_iconst (v := 0) C dX5_meet_35 (by decide) ?_
        refine aw_istore C dX5_meet_36 (by decide) rfl (lv' := [(0, .inr l0), (1, .inl l1), (2, .inl l2), (3, .inr v5), (4, .inr v14), (5, .inl (0 : Int32))]) rfl ?_
        refine aw_iconst (v := 0) C dX5_meet_38 (by decide) ?_
        refine aw_istore C dX5_meet_39 (by decide) rfl (lv' := [(0, .inr l0), (1, .inl l1), (2, .inl l2), (3, .inr v5), (4, .inr v14), (5, .inl (0 : Int32)), (6, .inl (0 : Int32))]) rfl ?_
        refine aw_sub [3, 4, 5, 6] (lv' := [(3, .inr v5), (4, .inr v14), (5, .inl (0 : Int32)), (6, .inl (0 : Int32))]) rfl ?_
        refine wX5_meet_L41 C ?_ N _ _ _ _ he
        intro l5 he
        refine aw_iload C dX5_meet_77 (j := 0) rfl ?_
        have he := Option.some.inj he
        subst he
        exact aw_iret C X dX5_meet_79 (by decide) (by decide)
theorem cX5_meet_ (l : Launch) (D : va_G) (dA : Nat → ClassId) (base : Nat) {N : Nat} {h : Hp} {sz : Nat} {l0 : Option Nat} {l1 : Int32} {l2 : Int32} {out : Int32} (he : fX5_meet N h l0 l1 l2 = some out) : AM l D dA base yX5_meet cX5_meet 7 (some .int) 3 0 0 [.inr l0, .inl l1, .inl l2] h sz (some (.int out)) h sz :=
  AM.of (by decide +kernel) (Nat.le_of_ble_eq_true rfl) rfl (fun Γ C X hn => wX5_meet C X he)
set_option maxHeartbeats 4000000 in
set_option maxRecDepth 100000 in
theorem wX6_meet_L41 {Γ : GG} (C : CX Γ cX6_meet 6 RX6 3 0 0) {N : Nat} {sz : Nat} {h : Hp} {α : Type} {out : α} {K87 : Int32 → Option α} (k87 : ∀ (l4 : Int32), K87 l4 = some out → AW Γ 6 h sz 0 0 87 [(4, .inl l4)] []) : ∀ (n : Nat) (l0 : Option Nat) (l1 : Int32) (l2 : Int32) (l3 : Int32) (l4 : Int32) (l5 : Int32), fX6_meet_L41 N h K87 n l0 l1 l2 l3 l4 l5 = some out → AW Γ 6 h sz 0 0 41 [(0, .inr l0), (1, .inl l1), (2, .inl l2), (3, .inl l3), (4, .inl l4), (5, .inl l5)] [] := by
  intro n
  induction n with
  | zero =>
    intro l0 l1 l2 l3 l4 l5 he
    rw [fX6_meet_L41] at he
    cases he
  | succ n ih =>
    intro l0 l1 l2 l3 l4 l5 he
    rw [fX6_meet_L41] at he
    refine aw_iload C dX6_meet_41 (j := 5) rfl ?_
    refine aw_sipush (v := 360) C dX6_meet_43 (by decide) ?_
    refine aw_ic_ge (tgt := 87) C dX6_meet_46 (by decide) (fun hc => ?_) (fun hc => ?_)
    · have he := ift hc he
      refine aw_sub [4] (lv' := [(4, .inl l4)]) rfl ?_
      exact k87 _ he
    · have he := iff_ hc he
      refine aw_iload C dX6_meet_49 (j := 4) rfl ?_
      refine aw_aload_n C dX6_meet_51 rfl (j := 0) rfl ?_
      refine aw_iload_n C dX6_meet_52 rfl (j := 1) rfl ?_
      refine aw_iload C dX6_meet_53 (j := 5) rfl ?_
      refine aw_iload_n C dX6_meet_55 rfl (j := 3) rfl ?_
      obtain ⟨hO, he⟩ := ifs he
      obtain ⟨v56, hv, he⟩ := ob he
      refine aw_callV (ci := 6) C mb_X6_162 ⟨q_977, q_54, rfl⟩ hO (cX6_hasTip_ _ _ _ _ hv) dX6_meet_56 rfl (rest := [.int l4]) rfl (cat_le _ (Nat.le_of_ble_eq_true rfl)) (Nat.le_of_ble_eq_true rfl) (Nat.le_of_ble_eq_true rfl) (Nat.le_of_ble_eq_true rfl) (st2 := [.int v56, .int l4]) rfl ?_
      refine aw_if_eq (tgt := 77) C dX6_meet_59 (by decide) (fun hc => ?_) (fun hc => ?_)
      · have he := ift hc he
        refine aw_iconst (v := 0) C dX6_meet_77 (by decide) ?_
        refine aw_iadd C dX6_meet_78 ?_
        refine aw_istore C dX6_meet_79 (by decide) rfl (lv' := [(0, .inr l0), (1, .inl l1), (2, .inl l2), (3, .inl l3), (4, .inl (l4 + (0 : Int32))), (5, .inl l5)]) rfl ?_
        refine aw_iinc (y := 1) C dX6_meet_81 (by decide) (j := 5) rfl (by decide) rfl (lv' := [(0, .inr l0), (1, .inl l1), (2, .inl l2), (3, .inl l3), (4, .inl (l4 + (0 : Int32))), (5, .inl (l5 + 1))]) rfl ?_
        refine aw_goto (tgt := 41) C dX6_meet_84 (by decide) ?_
        exact ih _ _ _ _ _ _ he
      · have he := iff_ hc he
        refine aw_aload_n C dX6_meet_62 rfl (j := 0) rfl ?_
        refine aw_iload_n C dX6_meet_63 rfl (j := 2) rfl ?_
        refine aw_iload C dX6_meet_64 (j := 5) rfl ?_
        refine aw_iload_n C dX6_meet_66 rfl (j := 3) rfl ?_
        obtain ⟨hO, he⟩ := ifs he
        obtain ⟨v67, hv, he⟩ := ob he
        refine aw_callV (ci := 6) C mb_X6_162 ⟨q_977, q_54, rfl⟩ hO (cX6_hasTip_ _ _ _ _ hv) dX6_meet_67 rfl (rest := [.int l4]) rfl (cat_le _ (Nat.le_of_ble_eq_true rfl)) (Nat.le_of_ble_eq_true rfl) (Nat.le_of_ble_eq_true rfl) (Nat.le_of_ble_eq_true rfl) (st2 := [.int v67, .int l4]) rfl ?_
        refine aw_if_eq (tgt := 77) C dX6_meet_70 (by decide) (fun hc => ?_) (fun hc => ?_)
        · have he := ift hc he
          refine aw_iconst (v := 0) C dX6_meet_77 (by decide) ?_
          refine aw_iadd C dX6_meet_78 ?_
          refine aw_istore C dX6_meet_79 (by decide) rfl (lv' := [(0, .inr l0), (1, .inl l1), (2, .inl l2), (3, .inl l3), (4, .inl (l4 + (0 : Int32))), (5, .inl l5)]) rfl ?_
          refine aw_iinc (y := 1) C dX6_meet_81 (by decide) (j := 5) rfl (by decide) rfl (lv' := [(0, .inr l0), (1, .inl l1), (2, .inl l2), (3, .inl l3), (4, .inl (l4 + (0 : Int32))), (5, .inl (l5 + 1))]) rfl ?_
          refine aw_goto (tgt := 41) C dX6_meet_84 (by decide) ?_
          exact ih _ _ _ _ _ _ he
        · have he := iff_ hc he
          refine aw_iconst (v := 1) C dX6_meet_73 (by decide) ?_
          refine aw_goto (tgt := 78) C dX6_meet_74 (by decide) ?_
          refine aw_iadd C dX6_meet_78 ?_
          refine aw_istore C dX6_meet_79 (by decide) rfl (lv' := [(0, .inr l0), (1, .inl l1), (2, .inl l2), (3, .inl l3), (4, .inl (l4 + (1 : Int32))), (5, .inl l5)]) rfl ?_
          refine aw_iinc (y := 1) C dX6_meet_81 (by decide) (j := 5) rfl (by decide) rfl (lv' := [(0, .inr l0), (1, .inl l1), (2, .inl l2), (3, .inl l3), (4, .inl (l4 + (1 : Int32))), (5, .inl (l5 + 1))]) rfl ?_
          refine aw_goto (tgt := 41) C dX6_meet_84 (by decide) ?_
          exact ih _ _ _ _ _ _ he
set_option maxHeartbeats 4000000 in
set_option maxRecDepth 100000 in
theorem wX6_meet {Γ : GG} (C : CX Γ cX6_meet 6 RX6 3 0 0) {N : Nat} {sz : Nat} {h : Hp} {out : Int32} (X : RX Γ (some .int) (some (.int out)) h sz 0 0) {l0 : Option Nat} {l1 : Int32} {l2 : Int32} (he : fX6_meet N h l0 l1 l2 = some out) : AW Γ 6 h sz 0 0 0 [(0, .inr l0), (1, .inl l1), (2, .inl l2)] [] := by
  unfold fX6_meet at he
  refine aw_aload_n C dX6_meet_0 rfl (j := 0) rfl ?_
  refine aw_iload_n C dX6_meet_1 rfl (j := 1) rfl ?_
  obtain ⟨hO, he⟩ := ifs he
  obtain ⟨v2, hv, he⟩ := ob he
  refine aw_callV (ci := 6) C mb_X6_178 ⟨q_992, q_56, rfl⟩ hO (cX6_isCurve_ _ _ _ _ hv) dX6_meet_2 rfl (rest := []) rfl (cat_le _ (Nat.le_of_ble_eq_true rfl)) (Nat.le_of_ble_eq_true rfl) (Nat.le_of_ble_eq_true rfl) (Nat.le_of_ble_eq_true rfl) (st2 := [.int v2]) rfl ?_
  refine aw_if_eq (tgt := 21) C dX6_meet_5 (by decide) (fun hc => ?_) (fun hc => ?_)
  · have he := ift hc he
    refine aw_iconst (v := -1) C dX6_meet_21 (by decide) ?_
    have he := Option.some.inj he
    subst he
    exact aw_iret C X dX6_meet_22 (by decide) (by decide)
  · have he := iff_ hc he
    refine aw_aload_n C dX6_meet_8 rfl (j := 0) rfl ?_
    refine aw_iload_n C dX6_meet_9 rfl (j := 2) rfl ?_
    obtain ⟨hO, he⟩ := ifs he
    obtain ⟨v10, hv, he⟩ := ob he
    refine aw_callV (ci := 6) C mb_X6_178 ⟨q_992, q_56, rfl⟩ hO (cX6_isCurve_ _ _ _ _ hv) dX6_meet_10 rfl (rest := []) rfl (cat_le _ (Nat.le_of_ble_eq_true rfl)) (Nat.le_of_ble_eq_true rfl) (Nat.le_of_ble_eq_true rfl) (Nat.le_of_ble_eq_true rfl) (st2 := [.int v10]) rfl ?_
    refine aw_if_eq (tgt := 21) C dX6_meet_13 (by decide) (fun hc => ?_) (fun hc => ?_)
    · have he := ift hc he
      refine aw_iconst (v := -1) C dX6_meet_21 (by decide) ?_
      have he := Option.some.inj he
      subst he
      exact aw_iret C X dX6_meet_22 (by decide) (by decide)
    · have he := iff_ hc he
      refine aw_iload_n C dX6_meet_16 rfl (j := 1) rfl ?_
      refine aw_iload_n C dX6_meet_17 rfl (j := 2) rfl ?_
      refine aw_ic_ne (tgt := 23) C dX6_meet_18 (by decide) (fun hc => ?_) (fun hc => ?_)
      · have he := ift hc he
        refine aw_iconst (v := -1) C dX6_meet_21 (by decide) ?_
        have he := Option.some.inj he
        subst he
        exact aw_iret C X dX6_meet_22 (by decide) (by decide)
      · have he := iff_ hc he
        refine aw_aload_n C dX6_meet_23 rfl (j := 0) rfl ?_
        obtain ⟨v24, hv, he⟩ := ob he
        refine aw_gA C fk_X6_19 dX6_meet_24 hv ?_
        refine aw_bipush (v := 6) C dX6_meet_27 (by decide) ?_
        refine aw_iload_n C dX6_meet_29 rfl (j := 1) rfl ?_
        refine aw_imul C dX6_meet_30 ?_
        refine aw_iconst (v := 2) C dX6_meet_31 (by decide) ?_
        refine aw_iadd C dX6_meet_32 ?_
        obtain ⟨v33, hv, he⟩ := ob he
        refine aw_iald C dX6_meet_33 hv ?_
        refine aw_istore_n C dX6_meet_34 rfl (by decide) rfl (lv' := [(0, .inr l0), (1, .inl l1), (2, .inl l2), (3, .inl v33)]) rfl ?_
        refine aw_iconst (v := 0) C dX6_meet_35 (by decide) ?_
        refine aw_istore C dX6_meet_36 (by decide) rfl (lv' := [(0, .inr l0), (1, .inl l1), (2, .inl l2), (3, .inl v33), (4, .inl (0 : Int32))]) rfl ?_
        refine aw_iconst (v := 0) C dX6_meet_38 (by decide) ?_
        refine aw_istore C dX6_meet_39 (by decide) rfl (lv' := [(0, .inr l0), (1, .inl l1), (2, .inl l2), (3, .inl v33), (4, .inl (0 : Int32)), (5, .inl (0 : Int32))]) rfl ?_
        refine wX6_meet_L41 C ?_ N _ _ _ _ _ _ he
        intro l4 he
        refine aw_iload C dX6_meet_87 (j := 0) rfl ?_
        have he := Option.some.inj he
        subst he
        exact aw_iret C X dX6_meet_89 (by decide) (by decide)
theorem cX6_meet_ (l : Launch) (D : va_G) (dA : Nat → ClassId) (base : Nat) {N : Nat} {h : Hp} {sz : Nat} {l0 : Option Nat} {l1 : Int32} {l2 : Int32} {out : Int32} (he : fX6_meet N h l0 l1 l2 = some out) : AM l D dA base yX6_meet cX6_meet 6 (some .int) 3 0 0 [.inr l0, .inl l1, .inl l2] h sz (some (.int out)) h sz :=
  AM.of (by decide +kernel) (Nat.le_of_ble_eq_true rfl) rfl (fun Γ C X hn => wX6_meet C X he)
set_option maxHeartbeats 4000000 in
set_option maxRecDepth 100000 in
theorem wX5_odds_j90 {Γ : GG} (C : CX Γ cX5_odds 6 RX5 3 0 0) {N : Nat} {sz : Nat} {h : Hp} {out : Int32} (X : RX Γ (some .int) (some (.int out)) h sz 0 0) {l0 : Option Nat} {l1 : Int32} {l2 : Int32} {l4 : Int32} {s0 : Int32} (he : fX5_odds_j90 N h l0 l1 l2 l4 s0 = some out) : AW Γ 6 h sz 0 0 90 [(0, .inr l0), (1, .inl l1), (2, .inl l2), (4, .inl l4)] [.int s0] := by
  unfold fX5_odds_j90 at he
  refine aw_istore C dX5_odds_90 (by decide) rfl (lv' := [(0, .inr l0), (1, .inl l1), (2, .inl l2), (4, .inl l4), (5, .inl s0)]) rfl ?_
  refine aw_iload C dX5_odds_92 (j := 3) rfl ?_
  refine aw_if_ne (tgt := 108) C dX5_odds_94 (by decide) (fun hc => ?_) (fun hc => ?_)
  · have he := ift hc he
    refine aw_iload C dX5_odds_97 (j := 4) rfl ?_
    refine aw_if_eq (tgt := 106) C dX5_odds_99 (by decide) (fun hc => ?_) (fun hc => ?_)
    · have he := ift hc he
      refine aw_iconst (v := 0) C dX5_odds_106 (by decide) ?_
      have he := Option.some.inj he
      subst he
      exact aw_iret C X dX5_odds_107 (by decide) (by decide)
    · have he := iff_ hc he
      refine aw_iconst (v := 1) C dX5_odds_102 (by decide) ?_
      refine aw_goto (tgt := 107) C dX5_odds_103 (by decide) ?_
      have he := Option.some.inj he
      subst he
      exact aw_iret C X dX5_odds_107 (by decide) (by decide)
  · have he := iff_ hc he
    refine aw_iload C dX5_odds_108 (j := 4) rfl ?_
    refine aw_if_eq (tgt := 125) C dX5_odds_110 (by decide) (fun hc => ?_) (fun hc => ?_)
    · have he := ift hc he
      refine aw_iconst (v := 1) C dX5_odds_125 (by decide) ?_
      have he := Option.some.inj he
      subst he
      exact aw_iret C X dX5_odds_126 (by decide) (by decide)
    · have he := iff_ hc he
      refine aw_aload_n C dX5_odds_113 rfl (j := 0) rfl ?_
      obtain ⟨v114, hv, he⟩ := ob he
      refine aw_gA C fk_X5_26 dX5_odds_114 hv ?_
      refine aw_iload_n C dX5_odds_117 rfl (j := 1) rfl ?_
      refine aw_iload_n C dX5_odds_118 rfl (j := 2) rfl ?_
      obtain ⟨hO, he⟩ := ifs he
      obtain ⟨v119, hv, he⟩ := ob he
      refine aw_callV (ci := 0) C mb_X5_211 ⟨q_386, q_387, rfl⟩ hO (cX0_divisorOf_ _ _ _ _ hv) dX5_odds_119 rfl (rest := []) rfl (cat_le _ (Nat.le_of_ble_eq_true rfl)) (Nat.le_of_ble_eq_true rfl) (Nat.le_of_ble_eq_true rfl) (Nat.le_of_ble_eq_true rfl) (st2 := [.int v119]) rfl ?_
      refine aw_goto (tgt := 126) C dX5_odds_122 (by decide) ?_
      have he := Option.some.inj he
      subst he
      exact aw_iret C X dX5_odds_126 (by decide) (by decide)
set_option maxHeartbeats 4000000 in
set_option maxRecDepth 100000 in
theorem wX5_odds {Γ : GG} (C : CX Γ cX5_odds 6 RX5 3 0 0) {N : Nat} {sz : Nat} {h : Hp} {out : Int32} (X : RX Γ (some .int) (some (.int out)) h sz 0 0) {l0 : Option Nat} {l1 : Int32} {l2 : Int32} {l3 : Int32} {l4 : Int32} (he : fX5_odds N h l0 l1 l2 l3 l4 = some out) : AW Γ 6 h sz 0 0 0 [(0, .inr l0), (1, .inl l1), (2, .inl l2), (3, .inl l3), (4, .inl l4)] [] := by
  unfold fX5_odds at he
  refine aw_aload_n C dX5_odds_0 rfl (j := 0) rfl ?_
  obtain ⟨v1, hv, he⟩ := ob he
  refine aw_gA C fk_X5_26 dX5_odds_1 hv ?_
  refine aw_iload_n C dX5_odds_4 rfl (j := 1) rfl ?_
  obtain ⟨hO, he⟩ := ifs he
  obtain ⟨v5, hv, he⟩ := ob he
  refine aw_callV (ci := 0) C mb_X5_99 ⟨q_354, q_355, rfl⟩ hO (cX0_hasRing_ _ _ _ _ hv) dX5_odds_5 rfl (rest := []) rfl (cat_le _ (Nat.le_of_ble_eq_true rfl)) (Nat.le_of_ble_eq_true rfl) (Nat.le_of_ble_eq_true rfl) (Nat.le_of_ble_eq_true rfl) (st2 := [.int v5]) rfl ?_
  refine aw_if_eq (tgt := 22) C dX5_odds_8 (by decide) (fun hc => ?_) (fun hc => ?_)
  · have he := ift hc he
    refine aw_iconst (v := -1) C dX5_odds_22 (by decide) ?_
    have he := Option.some.inj he
    subst he
    exact aw_iret C X dX5_odds_23 (by decide) (by decide)
  · have he := iff_ hc he
    refine aw_aload_n C dX5_odds_11 rfl (j := 0) rfl ?_
    obtain ⟨v12, hv, he⟩ := ob he
    refine aw_gA C fk_X5_26 dX5_odds_12 hv ?_
    refine aw_iload_n C dX5_odds_15 rfl (j := 2) rfl ?_
    obtain ⟨hO, he⟩ := ifs he
    obtain ⟨v16, hv, he⟩ := ob he
    refine aw_callV (ci := 0) C mb_X5_106 ⟨q_367, q_368, rfl⟩ hO (cX0_hasWheel_ _ _ _ _ hv) dX5_odds_16 rfl (rest := []) rfl (cat_le _ (Nat.le_of_ble_eq_true rfl)) (Nat.le_of_ble_eq_true rfl) (Nat.le_of_ble_eq_true rfl) (Nat.le_of_ble_eq_true rfl) (st2 := [.int v16]) rfl ?_
    refine aw_if_ne (tgt := 24) C dX5_odds_19 (by decide) (fun hc => ?_) (fun hc => ?_)
    · have he := ift hc he
      refine aw_iconst (v := -1) C dX5_odds_22 (by decide) ?_
      have he := Option.some.inj he
      subst he
      exact aw_iret C X dX5_odds_23 (by decide) (by decide)
    · have he := iff_ hc he
      refine aw_iload_n C dX5_odds_24 rfl (j := 3) rfl ?_
      refine aw_iconst (v := 0) C dX5_odds_25 (by decide) ?_
      refine aw_sipush (v := 359) C dX5_odds_26 (by decide) ?_
      obtain ⟨v29, hv, he⟩ := ob he
      refine aw_callS C mb_X5_72 q_241 (cX5_within_ _ _ _ _ hv) dX5_odds_29 rfl (rest := []) rfl (cat_le _ (Nat.le_of_ble_eq_true rfl)) (Nat.le_of_ble_eq_true rfl) (Nat.le_of_ble_eq_true rfl) (Nat.le_of_ble_eq_true rfl) (st2 := [.int v29]) rfl ?_
      refine aw_if_eq (tgt := 45) C dX5_odds_32 (by decide) (fun hc => ?_) (fun hc => ?_)
      · have he := ift hc he
        refine aw_iconst (v := -1) C dX5_odds_45 (by decide) ?_
        have he := Option.some.inj he
        subst he
        exact aw_iret C X dX5_odds_46 (by decide) (by decide)
      · have he := iff_ hc he
        refine aw_iload C dX5_odds_35 (j := 4) rfl ?_
        refine aw_iconst (v := 0) C dX5_odds_37 (by decide) ?_
        refine aw_iconst (v := 1) C dX5_odds_38 (by decide) ?_
        obtain ⟨v39, hv, he⟩ := ob he
        refine aw_callS C mb_X5_72 q_241 (cX5_within_ _ _ _ _ hv) dX5_odds_39 rfl (rest := []) rfl (cat_le _ (Nat.le_of_ble_eq_true rfl)) (Nat.le_of_ble_eq_true rfl) (Nat.le_of_ble_eq_true rfl) (Nat.le_of_ble_eq_true rfl) (st2 := [.int v39]) rfl ?_
        refine aw_if_ne (tgt := 47) C dX5_odds_42 (by decide) (fun hc => ?_) (fun hc => ?_)
        · have he := ift hc he
          refine aw_iconst (v := -1) C dX5_odds_45 (by decide) ?_
          have he := Option.some.inj he
          subst he
          exact aw_iret C X dX5_odds_46 (by decide) (by decide)
        · have he := iff_ hc he
          refine aw_aload_n C dX5_odds_47 rfl (j := 0) rfl ?_
          obtain ⟨v48, hv, he⟩ := ob he
          refine aw_gA C fk_X5_26 dX5_odds_48 hv ?_
          refine aw_iload_n C dX5_odds_51 rfl (j := 1) rfl ?_
          refine aw_iload_n C dX5_odds_52 rfl (j := 2) rfl ?_
          obtain ⟨hO, he⟩ := ifs he
          obtain ⟨v53, hv, he⟩ := ob he
          refine aw_callV (ci := 0) C mb_X5_112 ⟨q_376, q_377, rfl⟩ hO (cX0_fits_ _ _ _ _ hv) dX5_odds_53 rfl (rest := []) rfl (cat_le _ (Nat.le_of_ble_eq_true rfl)) (Nat.le_of_ble_eq_true rfl) (Nat.le_of_ble_eq_true rfl) (Nat.le_of_ble_eq_true rfl) (st2 := [.int v53]) rfl ?_
          refine aw_if_ne (tgt := 62) C dX5_odds_56 (by decide) (fun hc => ?_) (fun hc => ?_)
          · have he := ift hc he
            refine aw_bipush (v := -2) C dX5_odds_59 (by decide) ?_
            have he := Option.some.inj he
            subst he
            exact aw_iret C X dX5_odds_61 (by decide) (by decide)
          · have he := iff_ hc he
            refine aw_iload_n C dX5_odds_62 rfl (j := 3) rfl ?_
            refine aw_aload_n C dX5_odds_63 rfl (j := 0) rfl ?_
            obtain ⟨v64, hv, he⟩ := ob he
            refine aw_gA C fk_X5_37 dX5_odds_64 hv ?_
            obtain ⟨v67, hv, he⟩ := ob he
            refine aw_gI C fk_X5_164 dX5_odds_67 hv ?_
            refine aw_isub C dX5_odds_70 ?_
            refine aw_aload_n C dX5_odds_71 rfl (j := 0) rfl ?_
            obtain ⟨v72, hv, he⟩ := ob he
            refine aw_gA C fk_X5_26 dX5_odds_72 hv ?_
            refine aw_iload_n C dX5_odds_75 rfl (j := 1) rfl ?_
            obtain ⟨hO, he⟩ := ifs he
            obtain ⟨v76, hv, he⟩ := ob he
            refine aw_callV (ci := 0) C mb_X5_234 ⟨q_470, q_471, rfl⟩ hO (cX0_stepOf_ _ _ _ _ hv) dX5_odds_76 rfl (rest := [.int (l3 - v67)]) rfl (cat_le _ (Nat.le_of_ble_eq_true rfl)) (Nat.le_of_ble_eq_true rfl) (Nat.le_of_ble_eq_true rfl) (Nat.le_of_ble_eq_true rfl) (st2 := [.int v76, .int (l3 - v67)]) rfl ?_
            obtain ⟨v79, hv, he⟩ := ob he
            refine aw_callS C mb_X5_237 q_302 (cX5_rest_ _ _ _ _ hv) dX5_odds_79 rfl (rest := []) rfl (cat_le _ (Nat.le_of_ble_eq_true rfl)) (Nat.le_of_ble_eq_true rfl) (Nat.le_of_ble_eq_true rfl) (Nat.le_of_ble_eq_true rfl) (st2 := [.int v79]) rfl ?_
            refine aw_if_ne (tgt := 89) C dX5_odds_82 (by decide) (fun hc => ?_) (fun hc => ?_)
            · have he := ift hc he
              refine aw_iconst (v := 1) C dX5_odds_85 (by decide) ?_
              refine aw_goto (tgt := 90) C dX5_odds_86 (by decide) ?_
              refine aw_sub [0, 1, 2, 4] (lv' := [(0, .inr l0), (1, .inl l1), (2, .inl l2), (4, .inl l4)]) rfl ?_
              exact wX5_odds_j90 C X he
            · have he := iff_ hc he
              refine aw_iconst (v := 0) C dX5_odds_89 (by decide) ?_
              refine aw_sub [0, 1, 2, 4] (lv' := [(0, .inr l0), (1, .inl l1), (2, .inl l2), (4, .inl l4)]) rfl ?_
              exact wX5_odds_j90 C X he
theorem cX5_odds_ (l : Launch) (D : va_G) (dA : Nat → ClassId) (base : Nat) {N : Nat} {h : Hp} {sz : Nat} {l0 : Option Nat} {l1 : Int32} {l2 : Int32} {l3 : Int32} {l4 : Int32} {out : Int32} (he : fX5_odds N h l0 l1 l2 l3 l4 = some out) : AM l D dA base yX5_odds cX5_odds 6 (some .int) 3 0 0 [.inr l0, .inl l1, .inl l2, .inl l3, .inl l4] h sz (some (.int out)) h sz :=
  AM.of (by decide +kernel) (Nat.le_of_ble_eq_true rfl) rfl (fun Γ C X hn => wX5_odds C X he)
set_option maxHeartbeats 4000000 in
set_option maxRecDepth 100000 in
theorem wX6_odds_j71 {Γ : GG} (C : CX Γ cX6_odds 6 RX6 2 0 0) {N : Nat} {sz : Nat} {h : Hp} {out : Int32} (X : RX Γ (some .int) (some (.int out)) h sz 0 0) {l0 : Option Nat} {l1 : Int32} {l2 : Int32} {l4 : Int32} {s0 : Int32} (he : fX6_odds_j71 N h l0 l1 l2 l4 s0 = some out) : AW Γ 6 h sz 0 0 71 [(0, .inr l0), (1, .inl l1), (2, .inl l2), (4, .inl l4)] [.int s0] := by
  unfold fX6_odds_j71 at he
  refine aw_istore C dX6_odds_71 (by decide) rfl (lv' := [(0, .inr l0), (1, .inl l1), (2, .inl l2), (4, .inl l4), (5, .inl s0)]) rfl ?_
  refine aw_iload C dX6_odds_73 (j := 3) rfl ?_
  refine aw_if_ne (tgt := 91) C dX6_odds_75 (by decide) (fun hc => ?_) (fun hc => ?_)
  · have he := ift hc he
    refine aw_iload C dX6_odds_78 (j := 4) rfl ?_
    refine aw_if_eq (tgt := 87) C dX6_odds_80 (by decide) (fun hc => ?_) (fun hc => ?_)
    · have he := ift hc he
      refine aw_iconst (v := 0) C dX6_odds_87 (by decide) ?_
      refine aw_goto (tgt := 106) C dX6_odds_88 (by decide) ?_
      have he := Option.some.inj he
      subst he
      exact aw_iret C X dX6_odds_106 (by decide) (by decide)
    · have he := iff_ hc he
      refine aw_iconst (v := 1) C dX6_odds_83 (by decide) ?_
      refine aw_goto (tgt := 106) C dX6_odds_84 (by decide) ?_
      have he := Option.some.inj he
      subst he
      exact aw_iret C X dX6_odds_106 (by decide) (by decide)
  · have he := iff_ hc he
    refine aw_iload C dX6_odds_91 (j := 4) rfl ?_
    refine aw_if_eq (tgt := 105) C dX6_odds_93 (by decide) (fun hc => ?_) (fun hc => ?_)
    · have he := ift hc he
      refine aw_iconst (v := 1) C dX6_odds_105 (by decide) ?_
      have he := Option.some.inj he
      subst he
      exact aw_iret C X dX6_odds_106 (by decide) (by decide)
    · have he := iff_ hc he
      refine aw_aload_n C dX6_odds_96 rfl (j := 0) rfl ?_
      refine aw_iload_n C dX6_odds_97 rfl (j := 1) rfl ?_
      refine aw_iload_n C dX6_odds_98 rfl (j := 2) rfl ?_
      obtain ⟨hO, he⟩ := ifs he
      obtain ⟨v99, hv, he⟩ := ob he
      refine aw_callV (ci := 6) C mb_X6_133 ⟨q_942, q_47, rfl⟩ hO (cX6_commonOf_ _ _ _ _ hv) dX6_odds_99 rfl (rest := []) rfl (cat_le _ (Nat.le_of_ble_eq_true rfl)) (Nat.le_of_ble_eq_true rfl) (Nat.le_of_ble_eq_true rfl) (Nat.le_of_ble_eq_true rfl) (st2 := [.int v99]) rfl ?_
      refine aw_goto (tgt := 106) C dX6_odds_102 (by decide) ?_
      have he := Option.some.inj he
      subst he
      exact aw_iret C X dX6_odds_106 (by decide) (by decide)
set_option maxHeartbeats 4000000 in
set_option maxRecDepth 100000 in
theorem wX6_odds {Γ : GG} (C : CX Γ cX6_odds 6 RX6 2 0 0) {N : Nat} {sz : Nat} {h : Hp} {out : Int32} (X : RX Γ (some .int) (some (.int out)) h sz 0 0) {l0 : Option Nat} {l1 : Int32} {l2 : Int32} {l3 : Int32} {l4 : Int32} (he : fX6_odds N h l0 l1 l2 l3 l4 = some out) : AW Γ 6 h sz 0 0 0 [(0, .inr l0), (1, .inl l1), (2, .inl l2), (3, .inl l3), (4, .inl l4)] [] := by
  unfold fX6_odds at he
  refine aw_aload_n C dX6_odds_0 rfl (j := 0) rfl ?_
  refine aw_iload_n C dX6_odds_1 rfl (j := 1) rfl ?_
  obtain ⟨hO, he⟩ := ifs he
  obtain ⟨v2, hv, he⟩ := ob he
  refine aw_callV (ci := 6) C mb_X6_139 ⟨q_922, q_43, rfl⟩ hO (cX6_isRing_ _ _ _ _ hv) dX6_odds_2 rfl (rest := []) rfl (cat_le _ (Nat.le_of_ble_eq_true rfl)) (Nat.le_of_ble_eq_true rfl) (Nat.le_of_ble_eq_true rfl) (Nat.le_of_ble_eq_true rfl) (st2 := [.int v2]) rfl ?_
  refine aw_if_eq (tgt := 37) C dX6_odds_5 (by decide) (fun hc => ?_) (fun hc => ?_)
  · have he := ift hc he
    refine aw_iconst (v := -1) C dX6_odds_37 (by decide) ?_
    have he := Option.some.inj he
    subst he
    exact aw_iret C X dX6_odds_38 (by decide) (by decide)
  · have he := iff_ hc he
    refine aw_aload_n C dX6_odds_8 rfl (j := 0) rfl ?_
    refine aw_iload_n C dX6_odds_9 rfl (j := 2) rfl ?_
    obtain ⟨hO, he⟩ := ifs he
    obtain ⟨v10, hv, he⟩ := ob he
    refine aw_callV (ci := 6) C mb_X6_143 ⟨q_930, q_44, rfl⟩ hO (cX6_isWheel_ _ _ _ _ hv) dX6_odds_10 rfl (rest := []) rfl (cat_le _ (Nat.le_of_ble_eq_true rfl)) (Nat.le_of_ble_eq_true rfl) (Nat.le_of_ble_eq_true rfl) (Nat.le_of_ble_eq_true rfl) (st2 := [.int v10]) rfl ?_
    refine aw_if_eq (tgt := 37) C dX6_odds_13 (by decide) (fun hc => ?_) (fun hc => ?_)
    · have he := ift hc he
      refine aw_iconst (v := -1) C dX6_odds_37 (by decide) ?_
      have he := Option.some.inj he
      subst he
      exact aw_iret C X dX6_odds_38 (by decide) (by decide)
    · have he := iff_ hc he
      refine aw_iload_n C dX6_odds_16 rfl (j := 3) rfl ?_
      refine aw_iconst (v := 0) C dX6_odds_17 (by decide) ?_
      refine aw_sipush (v := 359) C dX6_odds_18 (by decide) ?_
      obtain ⟨v21, hv, he⟩ := ob he
      refine aw_callS C mb_X6_62 q_874 (cX6_in_ _ _ _ _ hv) dX6_odds_21 rfl (rest := []) rfl (cat_le _ (Nat.le_of_ble_eq_true rfl)) (Nat.le_of_ble_eq_true rfl) (Nat.le_of_ble_eq_true rfl) (Nat.le_of_ble_eq_true rfl) (st2 := [.int v21]) rfl ?_
      refine aw_if_eq (tgt := 37) C dX6_odds_24 (by decide) (fun hc => ?_) (fun hc => ?_)
      · have he := ift hc he
        refine aw_iconst (v := -1) C dX6_odds_37 (by decide) ?_
        have he := Option.some.inj he
        subst he
        exact aw_iret C X dX6_odds_38 (by decide) (by decide)
      · have he := iff_ hc he
        refine aw_iload C dX6_odds_27 (j := 4) rfl ?_
        refine aw_iconst (v := 0) C dX6_odds_29 (by decide) ?_
        refine aw_iconst (v := 1) C dX6_odds_30 (by decide) ?_
        obtain ⟨v31, hv, he⟩ := ob he
        refine aw_callS C mb_X6_62 q_874 (cX6_in_ _ _ _ _ hv) dX6_odds_31 rfl (rest := []) rfl (cat_le _ (Nat.le_of_ble_eq_true rfl)) (Nat.le_of_ble_eq_true rfl) (Nat.le_of_ble_eq_true rfl) (Nat.le_of_ble_eq_true rfl) (st2 := [.int v31]) rfl ?_
        refine aw_if_ne (tgt := 39) C dX6_odds_34 (by decide) (fun hc => ?_) (fun hc => ?_)
        · have he := ift hc he
          refine aw_iconst (v := -1) C dX6_odds_37 (by decide) ?_
          have he := Option.some.inj he
          subst he
          exact aw_iret C X dX6_odds_38 (by decide) (by decide)
        · have he := iff_ hc he
          refine aw_aload_n C dX6_odds_39 rfl (j := 0) rfl ?_
          refine aw_iload_n C dX6_odds_40 rfl (j := 1) rfl ?_
          refine aw_iload_n C dX6_odds_41 rfl (j := 2) rfl ?_
          obtain ⟨hO, he⟩ := ifs he
          obtain ⟨v42, hv, he⟩ := ob he
          refine aw_callV (ci := 6) C mb_X6_146 ⟨q_934, q_45, rfl⟩ hO (cX6_fits_ _ _ _ _ hv) dX6_odds_42 rfl (rest := []) rfl (cat_le _ (Nat.le_of_ble_eq_true rfl)) (Nat.le_of_ble_eq_true rfl) (Nat.le_of_ble_eq_true rfl) (Nat.le_of_ble_eq_true rfl) (st2 := [.int v42]) rfl ?_
          refine aw_if_ne (tgt := 51) C dX6_odds_45 (by decide) (fun hc => ?_) (fun hc => ?_)
          · have he := ift hc he
            refine aw_bipush (v := -2) C dX6_odds_48 (by decide) ?_
            have he := Option.some.inj he
            subst he
            exact aw_iret C X dX6_odds_50 (by decide) (by decide)
          · have he := iff_ hc he
            refine aw_aload_n C dX6_odds_51 rfl (j := 0) rfl ?_
            refine aw_iload_n C dX6_odds_52 rfl (j := 1) rfl ?_
            refine aw_aload_n C dX6_odds_53 rfl (j := 0) rfl ?_
            obtain ⟨v54, hv, he⟩ := ob he
            refine aw_gI C fk_X6_120 dX6_odds_54 hv ?_
            refine aw_iload_n C dX6_odds_57 rfl (j := 3) rfl ?_
            obtain ⟨hO, he⟩ := ifs he
            obtain ⟨v58, hv, he⟩ := ob he
            refine aw_callV (ci := 6) C mb_X6_155 ⟨q_981, q_55, rfl⟩ hO (cX6_toothAt_ _ _ _ _ hv) dX6_odds_58 rfl (rest := []) rfl (cat_le _ (Nat.le_of_ble_eq_true rfl)) (Nat.le_of_ble_eq_true rfl) (Nat.le_of_ble_eq_true rfl) (Nat.le_of_ble_eq_true rfl) (st2 := [.int v58]) rfl ?_
            refine aw_bipush (v := -9) C dX6_odds_61 (by decide) ?_
            refine aw_ic_eq (tgt := 70) C dX6_odds_63 (by decide) (fun hc => ?_) (fun hc => ?_)
            · have he := ift hc he
              refine aw_iconst (v := 0) C dX6_odds_70 (by decide) ?_
              refine aw_sub [0, 1, 2, 4] (lv' := [(0, .inr l0), (1, .inl l1), (2, .inl l2), (4, .inl l4)]) rfl ?_
              exact wX6_odds_j71 C X he
            · have he := iff_ hc he
              refine aw_iconst (v := 1) C dX6_odds_66 (by decide) ?_
              refine aw_goto (tgt := 71) C dX6_odds_67 (by decide) ?_
              refine aw_sub [0, 1, 2, 4] (lv' := [(0, .inr l0), (1, .inl l1), (2, .inl l2), (4, .inl l4)]) rfl ?_
              exact wX6_odds_j71 C X he
theorem cX6_odds_ (l : Launch) (D : va_G) (dA : Nat → ClassId) (base : Nat) {N : Nat} {h : Hp} {sz : Nat} {l0 : Option Nat} {l1 : Int32} {l2 : Int32} {l3 : Int32} {l4 : Int32} {out : Int32} (he : fX6_odds N h l0 l1 l2 l3 l4 = some out) : AM l D dA base yX6_odds cX6_odds 6 (some .int) 2 0 0 [.inr l0, .inl l1, .inl l2, .inl l3, .inl l4] h sz (some (.int out)) h sz :=
  AM.of (by decide +kernel) (Nat.le_of_ble_eq_true rfl) rfl (fun Γ C X hn => wX6_odds C X he)
set_option maxHeartbeats 4000000 in
set_option maxRecDepth 100000 in
theorem wX3_adds {Γ : GG} (C : CX Γ cX3_adds 3 RX3 0 0 0) {N : Nat} {sz : Nat} {out : Int32 × Hp} (X : RX Γ (some .boolean) (some (.int out.1)) out.2 sz 0 0) {h : Hp} {l0 : Option Nat} {l1 : Int32} {l2 : Int32} (he : fX3_adds N h l0 l1 l2 = some out) : AW Γ 3 h sz 0 0 0 [(0, .inr l0), (1, .inl l1), (2, .inl l2)] [] := by
  unfold fX3_adds at he
  refine aw_aload_n C dX3_adds_0 rfl (j := 0) rfl ?_
  obtain ⟨v1, hv, he⟩ := ob he
  refine aw_gI C fk_X3_19 dX3_adds_1 hv ?_
  refine aw_bipush (v := 6) C dX3_adds_4 (by decide) ?_
  refine aw_ic_lt (tgt := 11) C dX3_adds_6 (by decide) (fun hc => ?_) (fun hc => ?_)
  · have he := ift hc he
    refine aw_aload_n C dX3_adds_11 rfl (j := 0) rfl ?_
    obtain ⟨v12, hv, he⟩ := ob he
    refine aw_gA C fk_X3_9 dX3_adds_12 hv ?_
    refine aw_aload_n C dX3_adds_15 rfl (j := 0) rfl ?_
    obtain ⟨v16, hv, he⟩ := ob he
    refine aw_gI C fk_X3_19 dX3_adds_16 hv ?_
    refine aw_iload_n C dX3_adds_19 rfl (j := 1) rfl ?_
    obtain ⟨h20, hv, he⟩ := ob he
    refine aw_iast C dX3_adds_20 hv ?_
    refine aw_aload_n C dX3_adds_21 rfl (j := 0) rfl ?_
    obtain ⟨v22, hv, he⟩ := ob he
    refine aw_gA C fk_X3_15 dX3_adds_22 hv ?_
    refine aw_aload_n C dX3_adds_25 rfl (j := 0) rfl ?_
    obtain ⟨v26, hv, he⟩ := ob he
    refine aw_gI C fk_X3_19 dX3_adds_26 hv ?_
    refine aw_iload_n C dX3_adds_29 rfl (j := 2) rfl ?_
    obtain ⟨h30, hv, he⟩ := ob he
    refine aw_zast C dX3_adds_30 hv ?_
    refine aw_aload_n C dX3_adds_31 rfl (j := 0) rfl ?_
    refine aw_dup C dX3_adds_32 (rf_cat _) ?_
    obtain ⟨v33, hv, he⟩ := ob he
    refine aw_gI C fk_X3_19 dX3_adds_33 hv ?_
    refine aw_iconst (v := 1) C dX3_adds_36 (by decide) ?_
    refine aw_iadd C dX3_adds_37 ?_
    obtain ⟨h38, hv, he⟩ := ob he
    refine aw_put C fk_X3_19 dX3_adds_38 rfl rfl hv ?_
    refine aw_iconst (v := 1) C dX3_adds_41 (by decide) ?_
    have he := Option.some.inj he
    subst he
    exact aw_zret C X (by decide) dX3_adds_42 (by decide) (by decide)
  · have he := iff_ hc he
    refine aw_iconst (v := 0) C dX3_adds_9 (by decide) ?_
    have he := Option.some.inj he
    subst he
    exact aw_zret C X (by decide) dX3_adds_10 (by decide) (by decide)
theorem cX3_adds_ (l : Launch) (D : va_G) (dA : Nat → ClassId) (base : Nat) {N : Nat} {h : Hp} {sz : Nat} {l0 : Option Nat} {l1 : Int32} {l2 : Int32} {out : Int32 × Hp} (he : fX3_adds N h l0 l1 l2 = some out) : AM l D dA base yX3_adds cX3_adds 3 (some .boolean) 0 0 0 [.inr l0, .inl l1, .inl l2] h sz (some (.int out.1)) out.2 sz :=
  AM.of (by decide +kernel) (Nat.le_of_ble_eq_true rfl) rfl (fun Γ C X hn => wX3_adds C X he)
set_option maxHeartbeats 4000000 in
set_option maxRecDepth 100000 in
theorem wX5_sees_j36 {Γ : GG} (C : CX Γ cX5_sees 3 RX5 1 0 0) {N : Nat} {sz : Nat} {out : Int32 × Hp} (X : RX Γ (some .int) (some (.int out.1)) out.2 sz 0 0) {h : Hp} {l0 : Option Nat} {s0 : Int32} {s1 : Int32} {s2 : Option Nat} (he : fX5_sees_j36 N h l0 s0 s1 s2 = some out) : AW Γ 3 h sz 0 0 36 [(0, .inr l0)] [.int s0, .int s1, va_rf s2] := by
  unfold fX5_sees_j36 at he
  obtain ⟨hO, he⟩ := ifs he
  obtain ⟨z36, hv, he⟩ := ob he
  refine aw_callV (ci := 3) C mb_X5_240 ⟨q_656, q_657, rfl⟩ hO (cX3_adds_ _ _ _ _ hv) dX5_sees_36 rfl (rest := []) rfl (cat_le _ (Nat.le_of_ble_eq_true rfl)) (Nat.le_of_ble_eq_true rfl) (Nat.le_of_ble_eq_true rfl) (Nat.le_of_ble_eq_true rfl) (st2 := [.int z36.1]) rfl ?_
  refine aw_if_eq (tgt := 52) C dX5_sees_39 (by decide) (fun hc => ?_) (fun hc => ?_)
  · have he := ift hc he
    refine aw_bipush (v := -3) C dX5_sees_52 (by decide) ?_
    have he := Option.some.inj he
    subst he
    exact aw_iret C X dX5_sees_54 (by decide) (by decide)
  · have he := iff_ hc he
    refine aw_aload_n C dX5_sees_42 rfl (j := 0) rfl ?_
    obtain ⟨v43, hv, he⟩ := ob he
    refine aw_gA C fk_X5_19 dX5_sees_43 hv ?_
    obtain ⟨v46, hv, he⟩ := ob he
    refine aw_gI C fk_X5_243 dX5_sees_46 hv ?_
    refine aw_goto (tgt := 54) C dX5_sees_49 (by decide) ?_
    have he := Option.some.inj he
    subst he
    exact aw_iret C X dX5_sees_54 (by decide) (by decide)
set_option maxHeartbeats 4000000 in
set_option maxRecDepth 100000 in
theorem wX5_sees {Γ : GG} (C : CX Γ cX5_sees 3 RX5 1 0 0) {N : Nat} {sz : Nat} {out : Int32 × Hp} (X : RX Γ (some .int) (some (.int out.1)) out.2 sz 0 0) {h : Hp} {l0 : Option Nat} {l1 : Int32} {l2 : Int32} (he : fX5_sees N h l0 l1 l2 = some out) : AW Γ 3 h sz 0 0 0 [(0, .inr l0), (1, .inl l1), (2, .inl l2)] [] := by
  unfold fX5_sees at he
  refine aw_iload_n C dX5_sees_0 rfl (j := 1) rfl ?_
  refine aw_iconst (v := 0) C dX5_sees_1 (by decide) ?_
  refine aw_bipush (v := 119) C dX5_sees_2 (by decide) ?_
  obtain ⟨v4, hv, he⟩ := ob he
  refine aw_callS C mb_X5_72 q_241 (cX5_within_ _ _ _ _ hv) dX5_sees_4 rfl (rest := []) rfl (cat_le _ (Nat.le_of_ble_eq_true rfl)) (Nat.le_of_ble_eq_true rfl) (Nat.le_of_ble_eq_true rfl) (Nat.le_of_ble_eq_true rfl) (st2 := [.int v4]) rfl ?_
  refine aw_if_eq (tgt := 19) C dX5_sees_7 (by decide) (fun hc => ?_) (fun hc => ?_)
  · have he := ift hc he
    refine aw_iconst (v := -1) C dX5_sees_19 (by decide) ?_
    have he := Option.some.inj he
    subst he
    exact aw_iret C X dX5_sees_20 (by decide) (by decide)
  · have he := iff_ hc he
    refine aw_iload_n C dX5_sees_10 rfl (j := 2) rfl ?_
    refine aw_iconst (v := 0) C dX5_sees_11 (by decide) ?_
    refine aw_iconst (v := 1) C dX5_sees_12 (by decide) ?_
    obtain ⟨v13, hv, he⟩ := ob he
    refine aw_callS C mb_X5_72 q_241 (cX5_within_ _ _ _ _ hv) dX5_sees_13 rfl (rest := []) rfl (cat_le _ (Nat.le_of_ble_eq_true rfl)) (Nat.le_of_ble_eq_true rfl) (Nat.le_of_ble_eq_true rfl) (Nat.le_of_ble_eq_true rfl) (st2 := [.int v13]) rfl ?_
    refine aw_if_ne (tgt := 21) C dX5_sees_16 (by decide) (fun hc => ?_) (fun hc => ?_)
    · have he := ift hc he
      refine aw_iconst (v := -1) C dX5_sees_19 (by decide) ?_
      have he := Option.some.inj he
      subst he
      exact aw_iret C X dX5_sees_20 (by decide) (by decide)
    · have he := iff_ hc he
      refine aw_aload_n C dX5_sees_21 rfl (j := 0) rfl ?_
      obtain ⟨v22, hv, he⟩ := ob he
      refine aw_gA C fk_X5_19 dX5_sees_22 hv ?_
      refine aw_iload_n C dX5_sees_25 rfl (j := 1) rfl ?_
      refine aw_iload_n C dX5_sees_26 rfl (j := 2) rfl ?_
      refine aw_iconst (v := 1) C dX5_sees_27 (by decide) ?_
      refine aw_ic_ne (tgt := 35) C dX5_sees_28 (by decide) (fun hc => ?_) (fun hc => ?_)
      · have he := ift hc he
        refine aw_iconst (v := 1) C dX5_sees_31 (by decide) ?_
        refine aw_goto (tgt := 36) C dX5_sees_32 (by decide) ?_
        refine aw_sub [0] (lv' := [(0, .inr l0)]) rfl ?_
        exact wX5_sees_j36 C X he
      · have he := iff_ hc he
        refine aw_iconst (v := 0) C dX5_sees_35 (by decide) ?_
        refine aw_sub [0] (lv' := [(0, .inr l0)]) rfl ?_
        exact wX5_sees_j36 C X he
theorem cX5_sees_ (l : Launch) (D : va_G) (dA : Nat → ClassId) (base : Nat) {N : Nat} {h : Hp} {sz : Nat} {l0 : Option Nat} {l1 : Int32} {l2 : Int32} {out : Int32 × Hp} (he : fX5_sees N h l0 l1 l2 = some out) : AM l D dA base yX5_sees cX5_sees 3 (some .int) 1 0 0 [.inr l0, .inl l1, .inl l2] h sz (some (.int out.1)) out.2 sz :=
  AM.of (by decide +kernel) (Nat.le_of_ble_eq_true rfl) rfl (fun Γ C X hn => wX5_sees C X he)
set_option maxHeartbeats 4000000 in
set_option maxRecDepth 100000 in
theorem wX6_sees {Γ : GG} (C : CX Γ cX6_sees 3 RX6 1 0 0) {N : Nat} {sz : Nat} {out : Int32 × Hp} (X : RX Γ (some .int) (some (.int out.1)) out.2 sz 0 0) {h : Hp} {l0 : Option Nat} {l1 : Int32} {l2 : Int32} (he : fX6_sees N h l0 l1 l2 = some out) : AW Γ 3 h sz 0 0 0 [(0, .inr l0), (1, .inl l1), (2, .inl l2)] [] := by
  unfold fX6_sees at he
  refine aw_iload_n C dX6_sees_0 rfl (j := 1) rfl ?_
  refine aw_iconst (v := 0) C dX6_sees_1 (by decide) ?_
  refine aw_bipush (v := 119) C dX6_sees_2 (by decide) ?_
  obtain ⟨v4, hv, he⟩ := ob he
  refine aw_callS C mb_X6_62 q_874 (cX6_in_ _ _ _ _ hv) dX6_sees_4 rfl (rest := []) rfl (cat_le _ (Nat.le_of_ble_eq_true rfl)) (Nat.le_of_ble_eq_true rfl) (Nat.le_of_ble_eq_true rfl) (Nat.le_of_ble_eq_true rfl) (st2 := [.int v4]) rfl ?_
  refine aw_if_eq (tgt := 19) C dX6_sees_7 (by decide) (fun hc => ?_) (fun hc => ?_)
  · have he := ift hc he
    refine aw_iconst (v := -1) C dX6_sees_19 (by decide) ?_
    have he := Option.some.inj he
    subst he
    exact aw_iret C X dX6_sees_20 (by decide) (by decide)
  · have he := iff_ hc he
    refine aw_iload_n C dX6_sees_10 rfl (j := 2) rfl ?_
    refine aw_iconst (v := 0) C dX6_sees_11 (by decide) ?_
    refine aw_iconst (v := 1) C dX6_sees_12 (by decide) ?_
    obtain ⟨v13, hv, he⟩ := ob he
    refine aw_callS C mb_X6_62 q_874 (cX6_in_ _ _ _ _ hv) dX6_sees_13 rfl (rest := []) rfl (cat_le _ (Nat.le_of_ble_eq_true rfl)) (Nat.le_of_ble_eq_true rfl) (Nat.le_of_ble_eq_true rfl) (Nat.le_of_ble_eq_true rfl) (st2 := [.int v13]) rfl ?_
    refine aw_if_ne (tgt := 21) C dX6_sees_16 (by decide) (fun hc => ?_) (fun hc => ?_)
    · have he := ift hc he
      refine aw_iconst (v := -1) C dX6_sees_19 (by decide) ?_
      have he := Option.some.inj he
      subst he
      exact aw_iret C X dX6_sees_20 (by decide) (by decide)
    · have he := iff_ hc he
      refine aw_aload_n C dX6_sees_21 rfl (j := 0) rfl ?_
      obtain ⟨v22, hv, he⟩ := ob he
      refine aw_gI C fk_X6_123 dX6_sees_22 hv ?_
      refine aw_bipush (v := 6) C dX6_sees_25 (by decide) ?_
      refine aw_ic_ne (tgt := 33) C dX6_sees_27 (by decide) (fun hc => ?_) (fun hc => ?_)
      · have he := ift hc he
        refine aw_bipush (v := -3) C dX6_sees_30 (by decide) ?_
        have he := Option.some.inj he
        subst he
        exact aw_iret C X dX6_sees_32 (by decide) (by decide)
      · have he := iff_ hc he
        refine aw_aload_n C dX6_sees_33 rfl (j := 0) rfl ?_
        obtain ⟨v34, hv, he⟩ := ob he
        refine aw_gA C fk_X6_22 dX6_sees_34 hv ?_
        refine aw_aload_n C dX6_sees_37 rfl (j := 0) rfl ?_
        obtain ⟨v38, hv, he⟩ := ob he
        refine aw_gI C fk_X6_123 dX6_sees_38 hv ?_
        refine aw_iload_n C dX6_sees_41 rfl (j := 1) rfl ?_
        obtain ⟨h42, hv, he⟩ := ob he
        refine aw_iast C dX6_sees_42 hv ?_
        refine aw_aload_n C dX6_sees_43 rfl (j := 0) rfl ?_
        obtain ⟨v44, hv, he⟩ := ob he
        refine aw_gA C fk_X6_25 dX6_sees_44 hv ?_
        refine aw_aload_n C dX6_sees_47 rfl (j := 0) rfl ?_
        obtain ⟨v48, hv, he⟩ := ob he
        refine aw_gI C fk_X6_123 dX6_sees_48 hv ?_
        refine aw_iload_n C dX6_sees_51 rfl (j := 2) rfl ?_
        obtain ⟨h52, hv, he⟩ := ob he
        refine aw_iast C dX6_sees_52 hv ?_
        refine aw_aload_n C dX6_sees_53 rfl (j := 0) rfl ?_
        refine aw_dup C dX6_sees_54 (rf_cat _) ?_
        obtain ⟨v55, hv, he⟩ := ob he
        refine aw_gI C fk_X6_123 dX6_sees_55 hv ?_
        refine aw_iconst (v := 1) C dX6_sees_58 (by decide) ?_
        refine aw_iadd C dX6_sees_59 ?_
        obtain ⟨h60, hv, he⟩ := ob he
        refine aw_put C fk_X6_123 dX6_sees_60 rfl rfl hv ?_
        refine aw_aload_n C dX6_sees_63 rfl (j := 0) rfl ?_
        obtain ⟨v64, hv, he⟩ := ob he
        refine aw_gI C fk_X6_123 dX6_sees_64 hv ?_
        have he := Option.some.inj he
        subst he
        exact aw_iret C X dX6_sees_67 (by decide) (by decide)
theorem cX6_sees_ (l : Launch) (D : va_G) (dA : Nat → ClassId) (base : Nat) {N : Nat} {h : Hp} {sz : Nat} {l0 : Option Nat} {l1 : Int32} {l2 : Int32} {out : Int32 × Hp} (he : fX6_sees N h l0 l1 l2 = some out) : AM l D dA base yX6_sees cX6_sees 3 (some .int) 1 0 0 [.inr l0, .inl l1, .inl l2] h sz (some (.int out.1)) out.2 sz :=
  AM.of (by decide +kernel) (Nat.le_of_ble_eq_true rfl) rfl (fun Γ C X hn => wX6_sees C X he)
set_option maxHeartbeats 4000000 in
set_option maxRecDepth 100000 in
theorem wX5_forget {Γ : GG} (C : CX Γ cX5_forget 1 RX5 1 0 0) {N : Nat} {sz : Nat} {out : Int32 × Hp} (X : RX Γ (some .int) (some (.int out.1)) out.2 sz 0 0) {h : Hp} {l0 : Option Nat} (he : fX5_forget N h l0 = some out) : AW Γ 1 h sz 0 0 0 [(0, .inr l0)] [] := by
  unfold fX5_forget at he
  refine aw_aload_n C dX5_forget_0 rfl (j := 0) rfl ?_
  obtain ⟨v1, hv, he⟩ := ob he
  refine aw_gA C fk_X5_19 dX5_forget_1 hv ?_
  obtain ⟨hO, he⟩ := ifs he
  obtain ⟨z4, hv, he⟩ := ob he
  refine aw_callV (ci := 3) C mb_X5_246 ⟨q_342, q_343, rfl⟩ hO (cX3_empties_ _ _ _ _ hv) dX5_forget_4 rfl (rest := []) rfl (cat_le _ (Nat.le_of_ble_eq_true rfl)) (Nat.le_of_ble_eq_true rfl) (Nat.le_of_ble_eq_true rfl) (Nat.le_of_ble_eq_true rfl) (st2 := [.int z4.1]) rfl ?_
  have he := Option.some.inj he
  subst he
  exact aw_iret C X dX5_forget_7 (by decide) (by decide)
theorem cX5_forget_ (l : Launch) (D : va_G) (dA : Nat → ClassId) (base : Nat) {N : Nat} {h : Hp} {sz : Nat} {l0 : Option Nat} {out : Int32 × Hp} (he : fX5_forget N h l0 = some out) : AM l D dA base yX5_forget cX5_forget 1 (some .int) 1 0 0 [.inr l0] h sz (some (.int out.1)) out.2 sz :=
  AM.of (by decide +kernel) (Nat.le_of_ble_eq_true rfl) rfl (fun Γ C X hn => wX5_forget C X he)
set_option maxHeartbeats 4000000 in
set_option maxRecDepth 100000 in
theorem wX6_forget {Γ : GG} (C : CX Γ cX6_forget 2 RX6 0 0 0) {N : Nat} {sz : Nat} {out : Int32 × Hp} (X : RX Γ (some .int) (some (.int out.1)) out.2 sz 0 0) {h : Hp} {l0 : Option Nat} (he : fX6_forget N h l0 = some out) : AW Γ 2 h sz 0 0 0 [(0, .inr l0)] [] := by
  unfold fX6_forget at he
  refine aw_aload_n C dX6_forget_0 rfl (j := 0) rfl ?_
  obtain ⟨v1, hv, he⟩ := ob he
  refine aw_gI C fk_X6_123 dX6_forget_1 hv ?_
  refine aw_istore_n C dX6_forget_4 rfl (by decide) rfl (lv' := [(0, .inr l0), (1, .inl v1)]) rfl ?_
  refine aw_aload_n C dX6_forget_5 rfl (j := 0) rfl ?_
  refine aw_iconst (v := 0) C dX6_forget_6 (by decide) ?_
  obtain ⟨h7, hv, he⟩ := ob he
  refine aw_put C fk_X6_123 dX6_forget_7 rfl rfl hv ?_
  refine aw_iload_n C dX6_forget_10 rfl (j := 1) rfl ?_
  have he := Option.some.inj he
  subst he
  exact aw_iret C X dX6_forget_11 (by decide) (by decide)
theorem cX6_forget_ (l : Launch) (D : va_G) (dA : Nat → ClassId) (base : Nat) {N : Nat} {h : Hp} {sz : Nat} {l0 : Option Nat} {out : Int32 × Hp} (he : fX6_forget N h l0 = some out) : AM l D dA base yX6_forget cX6_forget 2 (some .int) 0 0 0 [.inr l0] h sz (some (.int out.1)) out.2 sz :=
  AM.of (by decide +kernel) (Nat.le_of_ble_eq_true rfl) rfl (fun Γ C X hn => wX6_forget C X he)
set_option maxHeartbeats 4000000 in
set_option maxRecDepth 100000 in
theorem wX3_agree_j44 {Γ : GG} (C : CX Γ cX3_agree 6 RX3 2 0 0) {N : Nat} {sz : Nat} {h : Hp} {α : Type} {out : α} {K3 : Option Nat → Int32 → Int32 → Int32 → Int32 → Option α} (k3 : ∀ (l0 : Option Nat) (l1 : Int32) (l2 : Int32) (l3 : Int32) (l4 : Int32), K3 l0 l1 l2 l3 l4 = some out → AW Γ 6 h sz 0 0 3 [(0, .inr l0), (1, .inl l1), (2, .inl l2), (3, .inl l3), (4, .inl l4)] []) {K58 : Option α} (k58 : K58 = some out → AW Γ 6 h sz 0 0 58 [] []) {l0 : Option Nat} {l1 : Int32} {l2 : Int32} {l3 : Int32} {l4 : Int32} {s0 : Int32} (he : fX3_agree_j44 N h K3 K58 l0 l1 l2 l3 l4 s0 = some out) : AW Γ 6 h sz 0 0 44 [(0, .inr l0), (1, .inl l1), (2, .inl l2), (3, .inl l3), (4, .inl l4)] [.int s0] := by
  unfold fX3_agree_j44 at he
  refine aw_istore C dX3_agree_44 (by decide) rfl (lv' := [(0, .inr l0), (1, .inl l1), (2, .inl l2), (3, .inl l3), (4, .inl l4), (5, .inl s0)]) rfl ?_
  refine aw_iload C dX3_agree_46 (j := 5) rfl ?_
  refine aw_aload_n C dX3_agree_48 rfl (j := 0) rfl ?_
  obtain ⟨v49, hv, he⟩ := ob he
  refine aw_gA C fk_X3_15 dX3_agree_49 hv ?_
  refine aw_iload C dX3_agree_52 (j := 4) rfl ?_
  obtain ⟨v54, hv, he⟩ := ob he
  refine aw_zald C dX3_agree_54 hv ?_
  refine aw_ic_eq (tgt := 60) C dX3_agree_55 (by decide) (fun hc => ?_) (fun hc => ?_)
  · have he := ift hc he
    refine aw_iinc (y := 1) C dX3_agree_60 (by decide) (j := 4) rfl (by decide) rfl (lv' := [(0, .inr l0), (1, .inl l1), (2, .inl l2), (3, .inl l3), (4, .inl (l4 + 1)), (5, .inl s0)]) rfl ?_
    refine aw_goto (tgt := 3) C dX3_agree_63 (by decide) ?_
    refine aw_sub [0, 1, 2, 3, 4] (lv' := [(0, .inr l0), (1, .inl l1), (2, .inl l2), (3, .inl l3), (4, .inl (l4 + 1))]) rfl ?_
    exact k3 _ _ _ _ _ he
  · have he := iff_ hc he
    refine aw_sub [] (lv' := []) rfl ?_
    exact k58  he
set_option maxHeartbeats 4000000 in
set_option maxRecDepth 100000 in
theorem wX3_agree_L3 {Γ : GG} (C : CX Γ cX3_agree 6 RX3 2 0 0) {N : Nat} {sz : Nat} {h : Hp} {α : Type} {out : α} {K58 : Option α} (k58 : K58  = some out → AW Γ 6 h sz 0 0 58 [] []) {K66 : Option α} (k66 : K66  = some out → AW Γ 6 h sz 0 0 66 [] []) : ∀ (n : Nat) (l0 : Option Nat) (l1 : Int32) (l2 : Int32) (l3 : Int32) (l4 : Int32), fX3_agree_L3 N h K58 K66 n l0 l1 l2 l3 l4 = some out → AW Γ 6 h sz 0 0 3 [(0, .inr l0), (1, .inl l1), (2, .inl l2), (3, .inl l3), (4, .inl l4)] [] := by
  intro n
  induction n with
  | zero =>
    intro l0 l1 l2 l3 l4 he
    rw [fX3_agree_L3] at he
    cases he
  | succ n ih =>
    intro l0 l1 l2 l3 l4 he
    rw [fX3_agree_L3] at he
    refine aw_iload C dX3_agree_3 (j := 4) rfl ?_
    refine aw_aload_n C dX3_agree_5 rfl (j := 0) rfl ?_
    obtain ⟨v6, hv, he⟩ := ob he
    refine aw_gI C fk_X3_19 dX3_agree_6 hv ?_
    refine aw_ic_ge (tgt := 66) C dX3_agree_9 (by decide) (fun hc => ?_) (fun hc => ?_)
    · have he := ift hc he
      refine aw_sub [] (lv' := []) rfl ?_
      exact k66  he
    · have he := iff_ hc he
      refine aw_aload_n C dX3_agree_12 rfl (j := 0) rfl ?_
      obtain ⟨v13, hv, he⟩ := ob he
      refine aw_gA C fk_X3_9 dX3_agree_13 hv ?_
      refine aw_iload C dX3_agree_16 (j := 4) rfl ?_
      obtain ⟨v18, hv, he⟩ := ob he
      refine aw_iald C dX3_agree_18 hv ?_
      refine aw_iload_n C dX3_agree_19 rfl (j := 1) rfl ?_
      refine aw_ic_ge (tgt := 43) C dX3_agree_20 (by decide) (fun hc => ?_) (fun hc => ?_)
      · have he := ift hc he
        refine aw_iconst (v := 0) C dX3_agree_43 (by decide) ?_
        exact wX3_agree_j44 C ih k58 he
      · have he := iff_ hc he
        refine aw_aload_n C dX3_agree_23 rfl (j := 0) rfl ?_
        obtain ⟨v24, hv, he⟩ := ob he
        refine aw_gA C fk_X3_9 dX3_agree_24 hv ?_
        refine aw_iload C dX3_agree_27 (j := 4) rfl ?_
        obtain ⟨v29, hv, he⟩ := ob he
        refine aw_iald C dX3_agree_29 hv ?_
        refine aw_iload_n C dX3_agree_30 rfl (j := 3) rfl ?_
        refine aw_isub C dX3_agree_31 ?_
        refine aw_iload_n C dX3_agree_32 rfl (j := 2) rfl ?_
        obtain ⟨v33, hv, he⟩ := ob he
        refine aw_callS C mb_X3_23 q_302 (cX5_rest_ _ _ _ _ hv) dX3_agree_33 rfl (rest := []) rfl (cat_le _ (Nat.le_of_ble_eq_true rfl)) (Nat.le_of_ble_eq_true rfl) (Nat.le_of_ble_eq_true rfl) (Nat.le_of_ble_eq_true rfl) (st2 := [.int v33]) rfl ?_
        refine aw_if_ne (tgt := 43) C dX3_agree_36 (by decide) (fun hc => ?_) (fun hc => ?_)
        · have he := ift hc he
          refine aw_iconst (v := 1) C dX3_agree_39 (by decide) ?_
          refine aw_goto (tgt := 44) C dX3_agree_40 (by decide) ?_
          exact wX3_agree_j44 C ih k58 he
        · have he := iff_ hc he
          refine aw_iconst (v := 0) C dX3_agree_43 (by decide) ?_
          exact wX3_agree_j44 C ih k58 he
set_option maxHeartbeats 4000000 in
set_option maxRecDepth 100000 in
theorem wX3_agree {Γ : GG} (C : CX Γ cX3_agree 6 RX3 2 0 0) {N : Nat} {sz : Nat} {h : Hp} {out : Int32} (X : RX Γ (some .boolean) (some (.int out)) h sz 0 0) {l0 : Option Nat} {l1 : Int32} {l2 : Int32} {l3 : Int32} (he : fX3_agree N h l0 l1 l2 l3 = some out) : AW Γ 6 h sz 0 0 0 [(0, .inr l0), (1, .inl l1), (2, .inl l2), (3, .inl l3)] [] := by
  unfold fX3_agree at he
  refine aw_iconst (v := 0) C dX3_agree_0 (by decide) ?_
  refine aw_istore C dX3_agree_1 (by decide) rfl (lv' := [(0, .inr l0), (1, .inl l1), (2, .inl l2), (3, .inl l3), (4, .inl (0 : Int32))]) rfl ?_
  refine wX3_agree_L3 C ?_ ?_ N _ _ _ _ _ he
  · intro he
    refine aw_iconst (v := 0) C dX3_agree_58 (by decide) ?_
    have he := Option.some.inj he
    subst he
    exact aw_zret C X (by decide) dX3_agree_59 (by decide) (by decide)
  · intro he
    refine aw_iconst (v := 1) C dX3_agree_66 (by decide) ?_
    have he := Option.some.inj he
    subst he
    exact aw_zret C X (by decide) dX3_agree_67 (by decide) (by decide)
theorem cX3_agree_ (l : Launch) (D : va_G) (dA : Nat → ClassId) (base : Nat) {N : Nat} {h : Hp} {sz : Nat} {l0 : Option Nat} {l1 : Int32} {l2 : Int32} {l3 : Int32} {out : Int32} (he : fX3_agree N h l0 l1 l2 l3 = some out) : AM l D dA base yX3_agree cX3_agree 6 (some .boolean) 2 0 0 [.inr l0, .inl l1, .inl l2, .inl l3] h sz (some (.int out)) h sz :=
  AM.of (by decide +kernel) (Nat.le_of_ble_eq_true rfl) rfl (fun Γ C X hn => wX3_agree C X he)
set_option maxHeartbeats 4000000 in
set_option maxRecDepth 100000 in
theorem wX3_startsAgreeing_L5 {Γ : GG} (C : CX Γ cX3_startsAgreeing 5 RX3 3 0 0) {N : Nat} {sz : Nat} {h : Hp} {α : Type} {out : α} {K31 : Int32 → Option α} (k31 : ∀ (l3 : Int32), K31 l3 = some out → AW Γ 5 h sz 0 0 31 [(3, .inl l3)] []) : ∀ (n : Nat) (l0 : Option Nat) (l1 : Int32) (l2 : Int32) (l3 : Int32) (l4 : Int32), fX3_startsAgreeing_L5 N h K31 n l0 l1 l2 l3 l4 = some out → AW Γ 5 h sz 0 0 5 [(0, .inr l0), (1, .inl l1), (2, .inl l2), (3, .inl l3), (4, .inl l4)] [] := by
  intro n
  induction n with
  | zero =>
    intro l0 l1 l2 l3 l4 he
    rw [fX3_startsAgreeing_L5] at he
    cases he
  | succ n ih =>
    intro l0 l1 l2 l3 l4 he
    rw [fX3_startsAgreeing_L5] at he
    refine aw_iload C dX3_startsAgreeing_5 (j := 4) rfl ?_
    refine aw_iload_n C dX3_startsAgreeing_7 rfl (j := 2) rfl ?_
    refine aw_ic_ge (tgt := 31) C dX3_startsAgreeing_8 (by decide) (fun hc => ?_) (fun hc => ?_)
    · have he := ift hc he
      refine aw_sub [3] (lv' := [(3, .inl l3)]) rfl ?_
      exact k31 _ he
    · have he := iff_ hc he
      refine aw_aload_n C dX3_startsAgreeing_11 rfl (j := 0) rfl ?_
      refine aw_iload_n C dX3_startsAgreeing_12 rfl (j := 1) rfl ?_
      refine aw_iload_n C dX3_startsAgreeing_13 rfl (j := 2) rfl ?_
      refine aw_iload C dX3_startsAgreeing_14 (j := 4) rfl ?_
      obtain ⟨hO, he⟩ := ifs he
      obtain ⟨v16, hv, he⟩ := ob he
      refine aw_callV (ci := 3) C mb_X3_27 ⟨q_676, q_677, rfl⟩ hO (cX3_agree_ _ _ _ _ hv) dX3_startsAgreeing_16 rfl (rest := []) rfl (cat_le _ (Nat.le_of_ble_eq_true rfl)) (Nat.le_of_ble_eq_true rfl) (Nat.le_of_ble_eq_true rfl) (Nat.le_of_ble_eq_true rfl) (st2 := [.int v16]) rfl ?_
      refine aw_if_eq (tgt := 25) C dX3_startsAgreeing_19 (by decide) (fun hc => ?_) (fun hc => ?_)
      · have he := ift hc he
        refine aw_iinc (y := 1) C dX3_startsAgreeing_25 (by decide) (j := 4) rfl (by decide) rfl (lv' := [(0, .inr l0), (1, .inl l1), (2, .inl l2), (3, .inl l3), (4, .inl (l4 + 1))]) rfl ?_
        refine aw_goto (tgt := 5) C dX3_startsAgreeing_28 (by decide) ?_
        exact ih _ _ _ _ _ he
      · have he := iff_ hc he
        refine aw_iinc (y := 1) C dX3_startsAgreeing_22 (by decide) (j := 3) rfl (by decide) rfl (lv' := [(0, .inr l0), (1, .inl l1), (2, .inl l2), (3, .inl (l3 + 1)), (4, .inl l4)]) rfl ?_
        refine aw_iinc (y := 1) C dX3_startsAgreeing_25 (by decide) (j := 4) rfl (by decide) rfl (lv' := [(0, .inr l0), (1, .inl l1), (2, .inl l2), (3, .inl (l3 + 1)), (4, .inl (l4 + 1))]) rfl ?_
        refine aw_goto (tgt := 5) C dX3_startsAgreeing_28 (by decide) ?_
        exact ih _ _ _ _ _ he
set_option maxHeartbeats 4000000 in
set_option maxRecDepth 100000 in
theorem wX3_startsAgreeing {Γ : GG} (C : CX Γ cX3_startsAgreeing 5 RX3 3 0 0) {N : Nat} {sz : Nat} {h : Hp} {out : Int32} (X : RX Γ (some .int) (some (.int out)) h sz 0 0) {l0 : Option Nat} {l1 : Int32} {l2 : Int32} (he : fX3_startsAgreeing N h l0 l1 l2 = some out) : AW Γ 5 h sz 0 0 0 [(0, .inr l0), (1, .inl l1), (2, .inl l2)] [] := by
  unfold fX3_startsAgreeing at he
  refine aw_iconst (v := 0) C dX3_startsAgreeing_0 (by decide) ?_
  refine aw_istore_n C dX3_startsAgreeing_1 rfl (by decide) rfl (lv' := [(0, .inr l0), (1, .inl l1), (2, .inl l2), (3, .inl (0 : Int32))]) rfl ?_
  refine aw_iconst (v := 0) C dX3_startsAgreeing_2 (by decide) ?_
  refine aw_istore C dX3_startsAgreeing_3 (by decide) rfl (lv' := [(0, .inr l0), (1, .inl l1), (2, .inl l2), (3, .inl (0 : Int32)), (4, .inl (0 : Int32))]) rfl ?_
  refine wX3_startsAgreeing_L5 C ?_ N _ _ _ _ _ he
  intro l3 he
  refine aw_iload_n C dX3_startsAgreeing_31 rfl (j := 0) rfl ?_
  have he := Option.some.inj he
  subst he
  exact aw_iret C X dX3_startsAgreeing_32 (by decide) (by decide)
theorem cX3_startsAgreeing_ (l : Launch) (D : va_G) (dA : Nat → ClassId) (base : Nat) {N : Nat} {h : Hp} {sz : Nat} {l0 : Option Nat} {l1 : Int32} {l2 : Int32} {out : Int32} (he : fX3_startsAgreeing N h l0 l1 l2 = some out) : AM l D dA base yX3_startsAgreeing cX3_startsAgreeing 5 (some .int) 3 0 0 [.inr l0, .inl l1, .inl l2] h sz (some (.int out)) h sz :=
  AM.of (by decide +kernel) (Nat.le_of_ble_eq_true rfl) rfl (fun Γ C X hn => wX3_startsAgreeing C X he)
set_option maxHeartbeats 4000000 in
set_option maxRecDepth 100000 in
theorem wX5_guesses_L14 {Γ : GG} (C : CX Γ cX5_guesses 6 RX5 4 0 0) {N : Nat} {sz : Nat} {h : Hp} {α : Type} {out : α} {K81 : Int32 → Option α} (k81 : ∀ (l3 : Int32), K81 l3 = some out → AW Γ 6 h sz 0 0 81 [(3, .inl l3)] []) : ∀ (n : Nat) (l0 : Option Nat) (l1 : Int32) (l2 : Int32) (l3 : Int32) (l4 : Int32), fX5_guesses_L14 N h K81 n l0 l1 l2 l3 l4 = some out → AW Γ 6 h sz 0 0 14 [(0, .inr l0), (1, .inl l1), (2, .inl l2), (3, .inl l3), (4, .inl l4)] [] := by
  intro n
  induction n with
  | zero =>
    intro l0 l1 l2 l3 l4 he
    rw [fX5_guesses_L14] at he
    cases he
  | succ n ih =>
    intro l0 l1 l2 l3 l4 he
    rw [fX5_guesses_L14] at he
    refine aw_iload C dX5_guesses_14 (j := 4) rfl ?_
    refine aw_aload_n C dX5_guesses_16 rfl (j := 0) rfl ?_
    obtain ⟨v17, hv, he⟩ := ob he
    refine aw_gA C fk_X5_26 dX5_guesses_17 hv ?_
    obtain ⟨v20, hv, he⟩ := ob he
    refine aw_gI C fk_X5_205 dX5_guesses_20 hv ?_
    refine aw_ic_ge (tgt := 81) C dX5_guesses_23 (by decide) (fun hc => ?_) (fun hc => ?_)
    · have he := ift hc he
      refine aw_sub [3] (lv' := [(3, .inl l3)]) rfl ?_
      exact k81 _ he
    · have he := iff_ hc he
      refine aw_aload_n C dX5_guesses_26 rfl (j := 0) rfl ?_
      obtain ⟨v27, hv, he⟩ := ob he
      refine aw_gA C fk_X5_26 dX5_guesses_27 hv ?_
      refine aw_iload_n C dX5_guesses_30 rfl (j := 1) rfl ?_
      refine aw_iload C dX5_guesses_31 (j := 4) rfl ?_
      obtain ⟨hO, he⟩ := ifs he
      obtain ⟨v33, hv, he⟩ := ob he
      refine aw_callV (ci := 0) C mb_X5_112 ⟨q_376, q_377, rfl⟩ hO (cX0_fits_ _ _ _ _ hv) dX5_guesses_33 rfl (rest := []) rfl (cat_le _ (Nat.le_of_ble_eq_true rfl)) (Nat.le_of_ble_eq_true rfl) (Nat.le_of_ble_eq_true rfl) (Nat.le_of_ble_eq_true rfl) (st2 := [.int v33]) rfl ?_
      refine aw_if_eq (tgt := 75) C dX5_guesses_36 (by decide) (fun hc => ?_) (fun hc => ?_)
      · have he := ift hc he
        refine aw_iinc (y := 1) C dX5_guesses_75 (by decide) (j := 4) rfl (by decide) rfl (lv' := [(0, .inr l0), (1, .inl l1), (2, .inl l2), (3, .inl l3), (4, .inl (l4 + 1))]) rfl ?_
        refine aw_goto (tgt := 14) C dX5_guesses_78 (by decide) ?_
        exact ih _ _ _ _ _ he
      · have he := iff_ hc he
        refine aw_aload_n C dX5_guesses_39 rfl (j := 0) rfl ?_
        obtain ⟨v40, hv, he⟩ := ob he
        refine aw_gA C fk_X5_26 dX5_guesses_40 hv ?_
        refine aw_iload_n C dX5_guesses_43 rfl (j := 1) rfl ?_
        refine aw_iload C dX5_guesses_44 (j := 4) rfl ?_
        obtain ⟨hO, he⟩ := ifs he
        obtain ⟨v46, hv, he⟩ := ob he
        refine aw_callV (ci := 0) C mb_X5_211 ⟨q_386, q_387, rfl⟩ hO (cX0_divisorOf_ _ _ _ _ hv) dX5_guesses_46 rfl (rest := []) rfl (cat_le _ (Nat.le_of_ble_eq_true rfl)) (Nat.le_of_ble_eq_true rfl) (Nat.le_of_ble_eq_true rfl) (Nat.le_of_ble_eq_true rfl) (st2 := [.int v46]) rfl ?_
        refine aw_istore C dX5_guesses_49 (by decide) rfl (lv' := [(0, .inr l0), (1, .inl l1), (2, .inl l2), (3, .inl l3), (4, .inl l4), (5, .inl v46)]) rfl ?_
        refine aw_iload_n C dX5_guesses_51 rfl (j := 3) rfl ?_
        refine aw_aload_n C dX5_guesses_52 rfl (j := 0) rfl ?_
        obtain ⟨v53, hv, he⟩ := ob he
        refine aw_gA C fk_X5_26 dX5_guesses_53 hv ?_
        refine aw_iload_n C dX5_guesses_56 rfl (j := 1) rfl ?_
        refine aw_iload C dX5_guesses_57 (j := 4) rfl ?_
        obtain ⟨hO, he⟩ := ifs he
        obtain ⟨v59, hv, he⟩ := ob he
        refine aw_callV (ci := 0) C mb_X5_116 ⟨q_382, q_383, rfl⟩ hO (cX0_petalsOf_ _ _ _ _ hv) dX5_guesses_59 rfl (rest := [.int l3]) rfl (cat_le _ (Nat.le_of_ble_eq_true rfl)) (Nat.le_of_ble_eq_true rfl) (Nat.le_of_ble_eq_true rfl) (Nat.le_of_ble_eq_true rfl) (st2 := [.int v59, .int l3]) rfl ?_
        refine aw_aload_n C dX5_guesses_62 rfl (j := 0) rfl ?_
        obtain ⟨v63, hv, he⟩ := ob he
        refine aw_gA C fk_X5_19 dX5_guesses_63 hv ?_
        refine aw_iload_n C dX5_guesses_66 rfl (j := 2) rfl ?_
        refine aw_iload C dX5_guesses_67 (j := 5) rfl ?_
        obtain ⟨hO, he⟩ := ifs he
        obtain ⟨v69, hv, he⟩ := ob he
        refine aw_callV (ci := 3) C mb_X5_338 ⟨q_672, q_673, rfl⟩ hO (cX3_startsAgreeing_ _ _ _ _ hv) dX5_guesses_69 rfl (rest := [.int v59, .int l3]) rfl (cat_le _ (Nat.le_of_ble_eq_true rfl)) (Nat.le_of_ble_eq_true rfl) (Nat.le_of_ble_eq_true rfl) (Nat.le_of_ble_eq_true rfl) (st2 := [.int v69, .int v59, .int l3]) rfl ?_
        refine aw_imul C dX5_guesses_72 ?_
        refine aw_iadd C dX5_guesses_73 ?_
        refine aw_istore_n C dX5_guesses_74 rfl (by decide) rfl (lv' := [(0, .inr l0), (1, .inl l1), (2, .inl l2), (3, .inl (l3 + (v59 * v69))), (4, .inl l4), (5, .inl v46)]) rfl ?_
        refine aw_iinc (y := 1) C dX5_guesses_75 (by decide) (j := 4) rfl (by decide) rfl (lv' := [(0, .inr l0), (1, .inl l1), (2, .inl l2), (3, .inl (l3 + (v59 * v69))), (4, .inl (l4 + 1)), (5, .inl v46)]) rfl ?_
        refine aw_goto (tgt := 14) C dX5_guesses_78 (by decide) ?_
        refine aw_sub [0, 1, 2, 3, 4] (lv' := [(0, .inr l0), (1, .inl l1), (2, .inl l2), (3, .inl (l3 + (v59 * v69))), (4, .inl (l4 + 1))]) rfl ?_
        exact ih _ _ _ _ _ he
set_option maxHeartbeats 4000000 in
set_option maxRecDepth 100000 in
theorem wX5_guesses {Γ : GG} (C : CX Γ cX5_guesses 6 RX5 4 0 0) {N : Nat} {sz : Nat} {h : Hp} {out : Int32} (X : RX Γ (some .int) (some (.int out)) h sz 0 0) {l0 : Option Nat} {l1 : Int32} (he : fX5_guesses N h l0 l1 = some out) : AW Γ 6 h sz 0 0 0 [(0, .inr l0), (1, .inl l1)] [] := by
  unfold fX5_guesses at he
  refine aw_aload_n C dX5_guesses_0 rfl (j := 0) rfl ?_
  obtain ⟨v1, hv, he⟩ := ob he
  refine aw_gA C fk_X5_26 dX5_guesses_1 hv ?_
  refine aw_iload_n C dX5_guesses_4 rfl (j := 1) rfl ?_
  obtain ⟨hO, he⟩ := ifs he
  obtain ⟨v5, hv, he⟩ := ob he
  refine aw_callV (ci := 0) C mb_X5_102 ⟨q_358, q_359, rfl⟩ hO (cX0_teethOf_ _ _ _ _ hv) dX5_guesses_5 rfl (rest := []) rfl (cat_le _ (Nat.le_of_ble_eq_true rfl)) (Nat.le_of_ble_eq_true rfl) (Nat.le_of_ble_eq_true rfl) (Nat.le_of_ble_eq_true rfl) (st2 := [.int v5]) rfl ?_
  refine aw_istore_n C dX5_guesses_8 rfl (by decide) rfl (lv' := [(0, .inr l0), (1, .inl l1), (2, .inl v5)]) rfl ?_
  refine aw_iconst (v := 0) C dX5_guesses_9 (by decide) ?_
  refine aw_istore_n C dX5_guesses_10 rfl (by decide) rfl (lv' := [(0, .inr l0), (1, .inl l1), (2, .inl v5), (3, .inl (0 : Int32))]) rfl ?_
  refine aw_iconst (v := 0) C dX5_guesses_11 (by decide) ?_
  refine aw_istore C dX5_guesses_12 (by decide) rfl (lv' := [(0, .inr l0), (1, .inl l1), (2, .inl v5), (3, .inl (0 : Int32)), (4, .inl (0 : Int32))]) rfl ?_
  refine wX5_guesses_L14 C ?_ N _ _ _ _ _ he
  intro l3 he
  refine aw_iload_n C dX5_guesses_81 rfl (j := 0) rfl ?_
  have he := Option.some.inj he
  subst he
  exact aw_iret C X dX5_guesses_82 (by decide) (by decide)
theorem cX5_guesses_ (l : Launch) (D : va_G) (dA : Nat → ClassId) (base : Nat) {N : Nat} {h : Hp} {sz : Nat} {l0 : Option Nat} {l1 : Int32} {out : Int32} (he : fX5_guesses N h l0 l1 = some out) : AM l D dA base yX5_guesses cX5_guesses 6 (some .int) 4 0 0 [.inr l0, .inl l1] h sz (some (.int out)) h sz :=
  AM.of (by decide +kernel) (Nat.le_of_ble_eq_true rfl) rfl (fun Γ C X hn => wX5_guesses C X he)
set_option maxHeartbeats 4000000 in
set_option maxRecDepth 100000 in
theorem wX3_firstAgreeing_L2 {Γ : GG} (C : CX Γ cX3_firstAgreeing 4 RX3 3 0 0) {N : Nat} {sz : Nat} {h : Hp} {α : Type} {out : α} {K17 : Int32 → Option α} (k17 : ∀ (l3 : Int32), K17 l3 = some out → AW Γ 4 h sz 0 0 17 [(3, .inl l3)] []) {K25 : Option α} (k25 : K25  = some out → AW Γ 4 h sz 0 0 25 [] []) : ∀ (n : Nat) (l0 : Option Nat) (l1 : Int32) (l2 : Int32) (l3 : Int32), fX3_firstAgreeing_L2 N h K17 K25 n l0 l1 l2 l3 = some out → AW Γ 4 h sz 0 0 2 [(0, .inr l0), (1, .inl l1), (2, .inl l2), (3, .inl l3)] [] := by
  intro n
  induction n with
  | zero =>
    intro l0 l1 l2 l3 he
    rw [fX3_firstAgreeing_L2] at he
    cases he
  | succ n ih =>
    intro l0 l1 l2 l3 he
    rw [fX3_firstAgreeing_L2] at he
    refine aw_iload_n C dX3_firstAgreeing_2 rfl (j := 3) rfl ?_
    refine aw_iload_n C dX3_firstAgreeing_3 rfl (j := 2) rfl ?_
    refine aw_ic_ge (tgt := 25) C dX3_firstAgreeing_4 (by decide) (fun hc => ?_) (fun hc => ?_)
    · have he := ift hc he
      refine aw_sub [] (lv' := []) rfl ?_
      exact k25  he
    · have he := iff_ hc he
      refine aw_aload_n C dX3_firstAgreeing_7 rfl (j := 0) rfl ?_
      refine aw_iload_n C dX3_firstAgreeing_8 rfl (j := 1) rfl ?_
      refine aw_iload_n C dX3_firstAgreeing_9 rfl (j := 2) rfl ?_
      refine aw_iload_n C dX3_firstAgreeing_10 rfl (j := 3) rfl ?_
      obtain ⟨hO, he⟩ := ifs he
      obtain ⟨v11, hv, he⟩ := ob he
      refine aw_callV (ci := 3) C mb_X3_27 ⟨q_676, q_677, rfl⟩ hO (cX3_agree_ _ _ _ _ hv) dX3_firstAgreeing_11 rfl (rest := []) rfl (cat_le _ (Nat.le_of_ble_eq_true rfl)) (Nat.le_of_ble_eq_true rfl) (Nat.le_of_ble_eq_true rfl) (Nat.le_of_ble_eq_true rfl) (st2 := [.int v11]) rfl ?_
      refine aw_if_eq (tgt := 19) C dX3_firstAgreeing_14 (by decide) (fun hc => ?_) (fun hc => ?_)
      · have he := ift hc he
        refine aw_iinc (y := 1) C dX3_firstAgreeing_19 (by decide) (j := 3) rfl (by decide) rfl (lv' := [(0, .inr l0), (1, .inl l1), (2, .inl l2), (3, .inl (l3 + 1))]) rfl ?_
        refine aw_goto (tgt := 2) C dX3_firstAgreeing_22 (by decide) ?_
        exact ih _ _ _ _ he
      · have he := iff_ hc he
        refine aw_sub [3] (lv' := [(3, .inl l3)]) rfl ?_
        exact k17 _ he
set_option maxHeartbeats 4000000 in
set_option maxRecDepth 100000 in
theorem wX3_firstAgreeing {Γ : GG} (C : CX Γ cX3_firstAgreeing 4 RX3 3 0 0) {N : Nat} {sz : Nat} {h : Hp} {out : Int32} (X : RX Γ (some .int) (some (.int out)) h sz 0 0) {l0 : Option Nat} {l1 : Int32} {l2 : Int32} (he : fX3_firstAgreeing N h l0 l1 l2 = some out) : AW Γ 4 h sz 0 0 0 [(0, .inr l0), (1, .inl l1), (2, .inl l2)] [] := by
  unfold fX3_firstAgreeing at he
  refine aw_iconst (v := 0) C dX3_firstAgreeing_0 (by decide) ?_
  refine aw_istore_n C dX3_firstAgreeing_1 rfl (by decide) rfl (lv' := [(0, .inr l0), (1, .inl l1), (2, .inl l2), (3, .inl (0 : Int32))]) rfl ?_
  refine wX3_firstAgreeing_L2 C ?_ ?_ N _ _ _ _ he
  · intro l3 he
    refine aw_iload_n C dX3_firstAgreeing_17 rfl (j := 0) rfl ?_
    have he := Option.some.inj he
    subst he
    exact aw_iret C X dX3_firstAgreeing_18 (by decide) (by decide)
  · intro he
    refine aw_bipush (v := -9) C dX3_firstAgreeing_25 (by decide) ?_
    have he := Option.some.inj he
    subst he
    exact aw_iret C X dX3_firstAgreeing_27 (by decide) (by decide)
theorem cX3_firstAgreeing_ (l : Launch) (D : va_G) (dA : Nat → ClassId) (base : Nat) {N : Nat} {h : Hp} {sz : Nat} {l0 : Option Nat} {l1 : Int32} {l2 : Int32} {out : Int32} (he : fX3_firstAgreeing N h l0 l1 l2 = some out) : AM l D dA base yX3_firstAgreeing cX3_firstAgreeing 4 (some .int) 3 0 0 [.inr l0, .inl l1, .inl l2] h sz (some (.int out)) h sz :=
  AM.of (by decide +kernel) (Nat.le_of_ble_eq_true rfl) rfl (fun Γ C X hn => wX3_firstAgreeing C X he)
set_option maxHeartbeats 4000000 in
set_option maxRecDepth 100000 in
theorem wX5_firstGuess_L11 {Γ : GG} (C : CX Γ cX5_firstGuess 5 RX5 4 0 0) {N : Nat} {sz : Nat} {h : Hp} {α : Type} {out : α} {K60 : Int32 → Int32 → Option α} (k60 : ∀ (l3 : Int32) (l4 : Int32), K60 l3 l4 = some out → AW Γ 5 h sz 0 0 60 [(3, .inl l3), (4, .inl l4)] []) {K75 : Option α} (k75 : K75  = some out → AW Γ 5 h sz 0 0 75 [] []) : ∀ (n : Nat) (l0 : Option Nat) (l1 : Int32) (l2 : Int32) (l3 : Int32), fX5_firstGuess_L11 N h K60 K75 n l0 l1 l2 l3 = some out → AW Γ 5 h sz 0 0 11 [(0, .inr l0), (1, .inl l1), (2, .inl l2), (3, .inl l3)] [] := by
  intro n
  induction n with
  | zero =>
    intro l0 l1 l2 l3 he
    rw [fX5_firstGuess_L11] at he
    cases he
  | succ n ih =>
    intro l0 l1 l2 l3 he
    rw [fX5_firstGuess_L11] at he
    refine aw_iload_n C dX5_firstGuess_11 rfl (j := 3) rfl ?_
    refine aw_aload_n C dX5_firstGuess_12 rfl (j := 0) rfl ?_
    obtain ⟨v13, hv, he⟩ := ob he
    refine aw_gA C fk_X5_26 dX5_firstGuess_13 hv ?_
    obtain ⟨v16, hv, he⟩ := ob he
    refine aw_gI C fk_X5_205 dX5_firstGuess_16 hv ?_
    refine aw_ic_ge (tgt := 75) C dX5_firstGuess_19 (by decide) (fun hc => ?_) (fun hc => ?_)
    · have he := ift hc he
      refine aw_sub [] (lv' := []) rfl ?_
      exact k75  he
    · have he := iff_ hc he
      refine aw_aload_n C dX5_firstGuess_22 rfl (j := 0) rfl ?_
      obtain ⟨v23, hv, he⟩ := ob he
      refine aw_gA C fk_X5_26 dX5_firstGuess_23 hv ?_
      refine aw_iload_n C dX5_firstGuess_26 rfl (j := 1) rfl ?_
      refine aw_iload_n C dX5_firstGuess_27 rfl (j := 3) rfl ?_
      obtain ⟨hO, he⟩ := ifs he
      obtain ⟨v28, hv, he⟩ := ob he
      refine aw_callV (ci := 0) C mb_X5_112 ⟨q_376, q_377, rfl⟩ hO (cX0_fits_ _ _ _ _ hv) dX5_firstGuess_28 rfl (rest := []) rfl (cat_le _ (Nat.le_of_ble_eq_true rfl)) (Nat.le_of_ble_eq_true rfl) (Nat.le_of_ble_eq_true rfl) (Nat.le_of_ble_eq_true rfl) (st2 := [.int v28]) rfl ?_
      refine aw_if_eq (tgt := 69) C dX5_firstGuess_31 (by decide) (fun hc => ?_) (fun hc => ?_)
      · have he := ift hc he
        refine aw_iinc (y := 1) C dX5_firstGuess_69 (by decide) (j := 3) rfl (by decide) rfl (lv' := [(0, .inr l0), (1, .inl l1), (2, .inl l2), (3, .inl (l3 + 1))]) rfl ?_
        refine aw_goto (tgt := 11) C dX5_firstGuess_72 (by decide) ?_
        exact ih _ _ _ _ he
      · have he := iff_ hc he
        refine aw_aload_n C dX5_firstGuess_34 rfl (j := 0) rfl ?_
        obtain ⟨v35, hv, he⟩ := ob he
        refine aw_gA C fk_X5_19 dX5_firstGuess_35 hv ?_
        refine aw_iload_n C dX5_firstGuess_38 rfl (j := 2) rfl ?_
        refine aw_aload_n C dX5_firstGuess_39 rfl (j := 0) rfl ?_
        obtain ⟨v40, hv, he⟩ := ob he
        refine aw_gA C fk_X5_26 dX5_firstGuess_40 hv ?_
        refine aw_iload_n C dX5_firstGuess_43 rfl (j := 1) rfl ?_
        refine aw_iload_n C dX5_firstGuess_44 rfl (j := 3) rfl ?_
        obtain ⟨hO, he⟩ := ifs he
        obtain ⟨v45, hv, he⟩ := ob he
        refine aw_callV (ci := 0) C mb_X5_211 ⟨q_386, q_387, rfl⟩ hO (cX0_divisorOf_ _ _ _ _ hv) dX5_firstGuess_45 rfl (rest := [.int l2, va_rf v35]) rfl (cat_le _ (Nat.le_of_ble_eq_true rfl)) (Nat.le_of_ble_eq_true rfl) (Nat.le_of_ble_eq_true rfl) (Nat.le_of_ble_eq_true rfl) (st2 := [.int v45, .int l2, va_rf v35]) rfl ?_
        obtain ⟨hO, he⟩ := ifs he
        obtain ⟨v48, hv, he⟩ := ob he
        refine aw_callV (ci := 3) C mb_X5_341 ⟨q_685, q_686, rfl⟩ hO (cX3_firstAgreeing_ _ _ _ _ hv) dX5_firstGuess_48 rfl (rest := []) rfl (cat_le _ (Nat.le_of_ble_eq_true rfl)) (Nat.le_of_ble_eq_true rfl) (Nat.le_of_ble_eq_true rfl) (Nat.le_of_ble_eq_true rfl) (st2 := [.int v48]) rfl ?_
        refine aw_istore C dX5_firstGuess_51 (by decide) rfl (lv' := [(0, .inr l0), (1, .inl l1), (2, .inl l2), (3, .inl l3), (4, .inl v48)]) rfl ?_
        refine aw_iload C dX5_firstGuess_53 (j := 4) rfl ?_
        refine aw_bipush (v := -9) C dX5_firstGuess_55 (by decide) ?_
        refine aw_ic_eq (tgt := 69) C dX5_firstGuess_57 (by decide) (fun hc => ?_) (fun hc => ?_)
        · have he := ift hc he
          refine aw_iinc (y := 1) C dX5_firstGuess_69 (by decide) (j := 3) rfl (by decide) rfl (lv' := [(0, .inr l0), (1, .inl l1), (2, .inl l2), (3, .inl (l3 + 1)), (4, .inl v48)]) rfl ?_
          refine aw_goto (tgt := 11) C dX5_firstGuess_72 (by decide) ?_
          refine aw_sub [0, 1, 2, 3] (lv' := [(0, .inr l0), (1, .inl l1), (2, .inl l2), (3, .inl (l3 + 1))]) rfl ?_
          exact ih _ _ _ _ he
        · have he := iff_ hc he
          refine aw_sub [3, 4] (lv' := [(3, .inl l3), (4, .inl v48)]) rfl ?_
          exact k60 _ _ he
set_option maxHeartbeats 4000000 in
set_option maxRecDepth 100000 in
theorem wX5_firstGuess {Γ : GG} (C : CX Γ cX5_firstGuess 5 RX5 4 0 0) {N : Nat} {sz : Nat} {h : Hp} {out : Int32} (X : RX Γ (some .int) (some (.int out)) h sz 0 0) {l0 : Option Nat} {l1 : Int32} (he : fX5_firstGuess N h l0 l1 = some out) : AW Γ 5 h sz 0 0 0 [(0, .inr l0), (1, .inl l1)] [] := by
  unfold fX5_firstGuess at he
  refine aw_aload_n C dX5_firstGuess_0 rfl (j := 0) rfl ?_
  obtain ⟨v1, hv, he⟩ := ob he
  refine aw_gA C fk_X5_26 dX5_firstGuess_1 hv ?_
  refine aw_iload_n C dX5_firstGuess_4 rfl (j := 1) rfl ?_
  obtain ⟨hO, he⟩ := ifs he
  obtain ⟨v5, hv, he⟩ := ob he
  refine aw_callV (ci := 0) C mb_X5_102 ⟨q_358, q_359, rfl⟩ hO (cX0_teethOf_ _ _ _ _ hv) dX5_firstGuess_5 rfl (rest := []) rfl (cat_le _ (Nat.le_of_ble_eq_true rfl)) (Nat.le_of_ble_eq_true rfl) (Nat.le_of_ble_eq_true rfl) (Nat.le_of_ble_eq_true rfl) (st2 := [.int v5]) rfl ?_
  refine aw_istore_n C dX5_firstGuess_8 rfl (by decide) rfl (lv' := [(0, .inr l0), (1, .inl l1), (2, .inl v5)]) rfl ?_
  refine aw_iconst (v := 0) C dX5_firstGuess_9 (by decide) ?_
  refine aw_istore_n C dX5_firstGuess_10 rfl (by decide) rfl (lv' := [(0, .inr l0), (1, .inl l1), (2, .inl v5), (3, .inl (0 : Int32))]) rfl ?_
  refine wX5_firstGuess_L11 C ?_ ?_ N _ _ _ _ he
  · intro l3 l4 he
    refine aw_sipush (v := 1000) C dX5_firstGuess_60 (by decide) ?_
    refine aw_iload_n C dX5_firstGuess_63 rfl (j := 0) rfl ?_
    refine aw_imul C dX5_firstGuess_64 ?_
    refine aw_iload C dX5_firstGuess_65 (j := 1) rfl ?_
    refine aw_iadd C dX5_firstGuess_67 ?_
    have he := Option.some.inj he
    subst he
    exact aw_iret C X dX5_firstGuess_68 (by decide) (by decide)
  · intro he
    refine aw_bipush (v := -9) C dX5_firstGuess_75 (by decide) ?_
    have he := Option.some.inj he
    subst he
    exact aw_iret C X dX5_firstGuess_77 (by decide) (by decide)
theorem cX5_firstGuess_ (l : Launch) (D : va_G) (dA : Nat → ClassId) (base : Nat) {N : Nat} {h : Hp} {sz : Nat} {l0 : Option Nat} {l1 : Int32} {out : Int32} (he : fX5_firstGuess N h l0 l1 = some out) : AM l D dA base yX5_firstGuess cX5_firstGuess 5 (some .int) 4 0 0 [.inr l0, .inl l1] h sz (some (.int out)) h sz :=
  AM.of (by decide +kernel) (Nat.le_of_ble_eq_true rfl) rfl (fun Γ C X hn => wX5_firstGuess C X he)
set_option maxHeartbeats 4000000 in
set_option maxRecDepth 100000 in
theorem wX5_guess {Γ : GG} (C : CX Γ cX5_guess 3 RX5 5 0 0) {N : Nat} {sz : Nat} {h : Hp} {out : Int32} (X : RX Γ (some .int) (some (.int out)) h sz 0 0) {l0 : Option Nat} {l1 : Int32} {l2 : Int32} (he : fX5_guess N h l0 l1 l2 = some out) : AW Γ 3 h sz 0 0 0 [(0, .inr l0), (1, .inl l1), (2, .inl l2)] [] := by
  unfold fX5_guess at he
  refine aw_aload_n C dX5_guess_0 rfl (j := 0) rfl ?_
  obtain ⟨v1, hv, he⟩ := ob he
  refine aw_gA C fk_X5_26 dX5_guess_1 hv ?_
  refine aw_iload_n C dX5_guess_4 rfl (j := 1) rfl ?_
  obtain ⟨hO, he⟩ := ifs he
  obtain ⟨v5, hv, he⟩ := ob he
  refine aw_callV (ci := 0) C mb_X5_99 ⟨q_354, q_355, rfl⟩ hO (cX0_hasRing_ _ _ _ _ hv) dX5_guess_5 rfl (rest := []) rfl (cat_le _ (Nat.le_of_ble_eq_true rfl)) (Nat.le_of_ble_eq_true rfl) (Nat.le_of_ble_eq_true rfl) (Nat.le_of_ble_eq_true rfl) (st2 := [.int v5]) rfl ?_
  refine aw_if_eq (tgt := 20) C dX5_guess_8 (by decide) (fun hc => ?_) (fun hc => ?_)
  · have he := ift hc he
    refine aw_iconst (v := -1) C dX5_guess_20 (by decide) ?_
    have he := Option.some.inj he
    subst he
    exact aw_iret C X dX5_guess_21 (by decide) (by decide)
  · have he := iff_ hc he
    refine aw_iload_n C dX5_guess_11 rfl (j := 2) rfl ?_
    refine aw_iconst (v := 0) C dX5_guess_12 (by decide) ?_
    refine aw_iconst (v := 1) C dX5_guess_13 (by decide) ?_
    obtain ⟨v14, hv, he⟩ := ob he
    refine aw_callS C mb_X5_72 q_241 (cX5_within_ _ _ _ _ hv) dX5_guess_14 rfl (rest := []) rfl (cat_le _ (Nat.le_of_ble_eq_true rfl)) (Nat.le_of_ble_eq_true rfl) (Nat.le_of_ble_eq_true rfl) (Nat.le_of_ble_eq_true rfl) (st2 := [.int v14]) rfl ?_
    refine aw_if_ne (tgt := 22) C dX5_guess_17 (by decide) (fun hc => ?_) (fun hc => ?_)
    · have he := ift hc he
      refine aw_iconst (v := -1) C dX5_guess_20 (by decide) ?_
      have he := Option.some.inj he
      subst he
      exact aw_iret C X dX5_guess_21 (by decide) (by decide)
    · have he := iff_ hc he
      refine aw_iload_n C dX5_guess_22 rfl (j := 2) rfl ?_
      refine aw_if_ne (tgt := 34) C dX5_guess_23 (by decide) (fun hc => ?_) (fun hc => ?_)
      · have he := ift hc he
        refine aw_aload_n C dX5_guess_26 rfl (j := 0) rfl ?_
        refine aw_iload_n C dX5_guess_27 rfl (j := 1) rfl ?_
        obtain ⟨hO, he⟩ := ifs he
        obtain ⟨v28, hv, he⟩ := ob he
        refine aw_callV (ci := 5) C mb_X5_247 ⟨q_669, q_25, rfl⟩ hO (cX5_guesses_ _ _ _ _ hv) dX5_guess_28 rfl (rest := []) rfl (cat_le _ (Nat.le_of_ble_eq_true rfl)) (Nat.le_of_ble_eq_true rfl) (Nat.le_of_ble_eq_true rfl) (Nat.le_of_ble_eq_true rfl) (st2 := [.int v28]) rfl ?_
        refine aw_goto (tgt := 39) C dX5_guess_31 (by decide) ?_
        have he := Option.some.inj he
        subst he
        exact aw_iret C X dX5_guess_39 (by decide) (by decide)
      · have he := iff_ hc he
        refine aw_aload_n C dX5_guess_34 rfl (j := 0) rfl ?_
        refine aw_iload_n C dX5_guess_35 rfl (j := 1) rfl ?_
        obtain ⟨hO, he⟩ := ifs he
        obtain ⟨v36, hv, he⟩ := ob he
        refine aw_callV (ci := 5) C mb_X5_250 ⟨q_682, q_26, rfl⟩ hO (cX5_firstGuess_ _ _ _ _ hv) dX5_guess_36 rfl (rest := []) rfl (cat_le _ (Nat.le_of_ble_eq_true rfl)) (Nat.le_of_ble_eq_true rfl) (Nat.le_of_ble_eq_true rfl) (Nat.le_of_ble_eq_true rfl) (st2 := [.int v36]) rfl ?_
        have he := Option.some.inj he
        subst he
        exact aw_iret C X dX5_guess_39 (by decide) (by decide)
theorem cX5_guess_ (l : Launch) (D : va_G) (dA : Nat → ClassId) (base : Nat) {N : Nat} {h : Hp} {sz : Nat} {l0 : Option Nat} {l1 : Int32} {l2 : Int32} {out : Int32} (he : fX5_guess N h l0 l1 l2 = some out) : AM l D dA base yX5_guess cX5_guess 3 (some .int) 5 0 0 [.inr l0, .inl l1, .inl l2] h sz (some (.int out)) h sz :=
  AM.of (by decide +kernel) (Nat.le_of_ble_eq_true rfl) rfl (fun Γ C X hn => wX5_guess C X he)
set_option maxHeartbeats 4000000 in
set_option maxRecDepth 100000 in
theorem wX6_isSo_j81 {Γ : GG} (C : CX Γ cX6_isSo 7 RX6 2 0 0) {N : Nat} {sz : Nat} {h : Hp} {α : Type} {out : α} {K6 : Option Nat → Int32 → Int32 → Int32 → Int32 → Int32 → Option α} (k6 : ∀ (l0 : Option Nat) (l1 : Int32) (l2 : Int32) (l3 : Int32) (l4 : Int32) (l5 : Int32), K6 l0 l1 l2 l3 l4 l5 = some out → AW Γ 7 h sz 0 0 6 [(0, .inr l0), (1, .inl l1), (2, .inl l2), (3, .inl l3), (4, .inl l4), (5, .inl l5)] []) {l0 : Option Nat} {l1 : Int32} {l2 : Int32} {l3 : Int32} {l5 : Int32} {s0 : Int32} {s1 : Int32} (he : fX6_isSo_j81 N h K6 l0 l1 l2 l3 l5 s0 s1 = some out) : AW Γ 7 h sz 0 0 81 [(0, .inr l0), (1, .inl l1), (2, .inl l2), (3, .inl l3), (5, .inl l5)] [.int s0, .int s1] := by
  unfold fX6_isSo_j81 at he
  refine aw_ic_ne (tgt := 88) C dX6_isSo_81 (by decide) (fun hc => ?_) (fun hc => ?_)
  · have he := ift hc he
    refine aw_iconst (v := 1) C dX6_isSo_84 (by decide) ?_
    refine aw_goto (tgt := 89) C dX6_isSo_85 (by decide) ?_
    refine aw_istore C dX6_isSo_89 (by decide) rfl (lv' := [(0, .inr l0), (1, .inl l1), (2, .inl l2), (3, .inl l3), (4, .inl (1 : Int32)), (5, .inl l5)]) rfl ?_
    refine aw_iinc (y := 1) C dX6_isSo_91 (by decide) (j := 5) rfl (by decide) rfl (lv' := [(0, .inr l0), (1, .inl l1), (2, .inl l2), (3, .inl l3), (4, .inl (1 : Int32)), (5, .inl (l5 + 1))]) rfl ?_
    refine aw_goto (tgt := 6) C dX6_isSo_94 (by decide) ?_
    exact k6 _ _ _ _ _ _ he
  · have he := iff_ hc he
    refine aw_iconst (v := 0) C dX6_isSo_88 (by decide) ?_
    refine aw_istore C dX6_isSo_89 (by decide) rfl (lv' := [(0, .inr l0), (1, .inl l1), (2, .inl l2), (3, .inl l3), (4, .inl (0 : Int32)), (5, .inl l5)]) rfl ?_
    refine aw_iinc (y := 1) C dX6_isSo_91 (by decide) (j := 5) rfl (by decide) rfl (lv' := [(0, .inr l0), (1, .inl l1), (2, .inl l2), (3, .inl l3), (4, .inl (0 : Int32)), (5, .inl (l5 + 1))]) rfl ?_
    refine aw_goto (tgt := 6) C dX6_isSo_94 (by decide) ?_
    exact k6 _ _ _ _ _ _ he
set_option maxHeartbeats 4000000 in
set_option maxRecDepth 100000 in
theorem wX6_isSo_j56 {Γ : GG} (C : CX Γ cX6_isSo 7 RX6 2 0 0) {N : Nat} {sz : Nat} {h : Hp} {α : Type} {out : α} {K6 : Option Nat → Int32 → Int32 → Int32 → Int32 → Int32 → Option α} (k6 : ∀ (l0 : Option Nat) (l1 : Int32) (l2 : Int32) (l3 : Int32) (l4 : Int32) (l5 : Int32), K6 l0 l1 l2 l3 l4 l5 = some out → AW Γ 7 h sz 0 0 6 [(0, .inr l0), (1, .inl l1), (2, .inl l2), (3, .inl l3), (4, .inl l4), (5, .inl l5)] []) {l0 : Option Nat} {l1 : Int32} {l2 : Int32} {l3 : Int32} {l4 : Int32} {l5 : Int32} {s0 : Int32} (he : fX6_isSo_j56 N h K6 l0 l1 l2 l3 l4 l5 s0 = some out) : AW Γ 7 h sz 0 0 56 [(0, .inr l0), (1, .inl l1), (2, .inl l2), (3, .inl l3), (4, .inl l4), (5, .inl l5)] [.int s0] := by
  unfold fX6_isSo_j56 at he
  refine aw_istore C dX6_isSo_56 (by decide) rfl (lv' := [(0, .inr l0), (1, .inl l1), (2, .inl l2), (3, .inl l3), (4, .inl l4), (5, .inl l5), (6, .inl s0)]) rfl ?_
  refine aw_iload C dX6_isSo_58 (j := 4) rfl ?_
  refine aw_if_eq (tgt := 88) C dX6_isSo_60 (by decide) (fun hc => ?_) (fun hc => ?_)
  · have he := ift hc he
    refine aw_iconst (v := 0) C dX6_isSo_88 (by decide) ?_
    refine aw_istore C dX6_isSo_89 (by decide) rfl (lv' := [(0, .inr l0), (1, .inl l1), (2, .inl l2), (3, .inl l3), (4, .inl (0 : Int32)), (5, .inl l5), (6, .inl s0)]) rfl ?_
    refine aw_iinc (y := 1) C dX6_isSo_91 (by decide) (j := 5) rfl (by decide) rfl (lv' := [(0, .inr l0), (1, .inl l1), (2, .inl l2), (3, .inl l3), (4, .inl (0 : Int32)), (5, .inl (l5 + 1)), (6, .inl s0)]) rfl ?_
    refine aw_goto (tgt := 6) C dX6_isSo_94 (by decide) ?_
    refine aw_sub [0, 1, 2, 3, 4, 5] (lv' := [(0, .inr l0), (1, .inl l1), (2, .inl l2), (3, .inl l3), (4, .inl (0 : Int32)), (5, .inl (l5 + 1))]) rfl ?_
    exact k6 _ _ _ _ _ _ he
  · have he := iff_ hc he
    refine aw_iload C dX6_isSo_63 (j := 6) rfl ?_
    refine aw_aload_n C dX6_isSo_65 rfl (j := 0) rfl ?_
    obtain ⟨v66, hv, he⟩ := ob he
    refine aw_gA C fk_X6_25 dX6_isSo_66 hv ?_
    refine aw_iload C dX6_isSo_69 (j := 5) rfl ?_
    obtain ⟨v71, hv, he⟩ := ob he
    refine aw_iald C dX6_isSo_71 hv ?_
    refine aw_iconst (v := 1) C dX6_isSo_72 (by decide) ?_
    refine aw_ic_ne (tgt := 80) C dX6_isSo_73 (by decide) (fun hc => ?_) (fun hc => ?_)
    · have he := ift hc he
      refine aw_iconst (v := 1) C dX6_isSo_76 (by decide) ?_
      refine aw_goto (tgt := 81) C dX6_isSo_77 (by decide) ?_
      refine aw_sub [0, 1, 2, 3, 5] (lv' := [(0, .inr l0), (1, .inl l1), (2, .inl l2), (3, .inl l3), (5, .inl l5)]) rfl ?_
      exact wX6_isSo_j81 C k6 he
    · have he := iff_ hc he
      refine aw_iconst (v := 0) C dX6_isSo_80 (by decide) ?_
      refine aw_sub [0, 1, 2, 3, 5] (lv' := [(0, .inr l0), (1, .inl l1), (2, .inl l2), (3, .inl l3), (5, .inl l5)]) rfl ?_
      exact wX6_isSo_j81 C k6 he
set_option maxHeartbeats 4000000 in
set_option maxRecDepth 100000 in
theorem wX6_isSo_L6 {Γ : GG} (C : CX Γ cX6_isSo 7 RX6 2 0 0) {N : Nat} {sz : Nat} {h : Hp} {α : Type} {out : α} {K97 : Int32 → Option α} (k97 : ∀ (l4 : Int32), K97 l4 = some out → AW Γ 7 h sz 0 0 97 [(4, .inl l4)] []) : ∀ (n : Nat) (l0 : Option Nat) (l1 : Int32) (l2 : Int32) (l3 : Int32) (l4 : Int32) (l5 : Int32), fX6_isSo_L6 N h K97 n l0 l1 l2 l3 l4 l5 = some out → AW Γ 7 h sz 0 0 6 [(0, .inr l0), (1, .inl l1), (2, .inl l2), (3, .inl l3), (4, .inl l4), (5, .inl l5)] [] := by
  intro n
  induction n with
  | zero =>
    intro l0 l1 l2 l3 l4 l5 he
    rw [fX6_isSo_L6] at he
    cases he
  | succ n ih =>
    intro l0 l1 l2 l3 l4 l5 he
    rw [fX6_isSo_L6] at he
    refine aw_iload C dX6_isSo_6 (j := 5) rfl ?_
    refine aw_aload_n C dX6_isSo_8 rfl (j := 0) rfl ?_
    obtain ⟨v9, hv, he⟩ := ob he
    refine aw_gI C fk_X6_123 dX6_isSo_9 hv ?_
    refine aw_ic_ge (tgt := 97) C dX6_isSo_12 (by decide) (fun hc => ?_) (fun hc => ?_)
    · have he := ift hc he
      refine aw_sub [4] (lv' := [(4, .inl l4)]) rfl ?_
      exact k97 _ he
    · have he := iff_ hc he
      refine aw_aload_n C dX6_isSo_15 rfl (j := 0) rfl ?_
      obtain ⟨v16, hv, he⟩ := ob he
      refine aw_gA C fk_X6_22 dX6_isSo_16 hv ?_
      refine aw_iload C dX6_isSo_19 (j := 5) rfl ?_
      obtain ⟨v21, hv, he⟩ := ob he
      refine aw_iald C dX6_isSo_21 hv ?_
      refine aw_aload_n C dX6_isSo_22 rfl (j := 0) rfl ?_
      obtain ⟨v23, hv, he⟩ := ob he
      refine aw_gA C fk_X6_7 dX6_isSo_23 hv ?_
      refine aw_iload_n C dX6_isSo_26 rfl (j := 1) rfl ?_
      obtain ⟨v27, hv, he⟩ := ob he
      refine aw_iald C dX6_isSo_27 hv ?_
      refine aw_ic_ge (tgt := 55) C dX6_isSo_28 (by decide) (fun hc => ?_) (fun hc => ?_)
      · have he := ift hc he
        refine aw_iconst (v := 0) C dX6_isSo_55 (by decide) ?_
        exact wX6_isSo_j56 C ih he
      · have he := iff_ hc he
        refine aw_aload_n C dX6_isSo_31 rfl (j := 0) rfl ?_
        refine aw_iload_n C dX6_isSo_32 rfl (j := 1) rfl ?_
        refine aw_iload_n C dX6_isSo_33 rfl (j := 2) rfl ?_
        obtain ⟨hO, he⟩ := ifs he
        obtain ⟨v34, hv, he⟩ := ob he
        refine aw_callV (ci := 6) C mb_X6_133 ⟨q_942, q_47, rfl⟩ hO (cX6_commonOf_ _ _ _ _ hv) dX6_isSo_34 rfl (rest := []) rfl (cat_le _ (Nat.le_of_ble_eq_true rfl)) (Nat.le_of_ble_eq_true rfl) (Nat.le_of_ble_eq_true rfl) (Nat.le_of_ble_eq_true rfl) (st2 := [.int v34]) rfl ?_
        refine aw_aload_n C dX6_isSo_37 rfl (j := 0) rfl ?_
        obtain ⟨v38, hv, he⟩ := ob he
        refine aw_gA C fk_X6_22 dX6_isSo_38 hv ?_
        refine aw_iload C dX6_isSo_41 (j := 5) rfl ?_
        obtain ⟨v43, hv, he⟩ := ob he
        refine aw_iald C dX6_isSo_43 hv ?_
        refine aw_iload_n C dX6_isSo_44 rfl (j := 3) rfl ?_
        obtain ⟨v45, hv, he⟩ := ob he
        refine aw_callS C mb_X6_159 q_984 (cX6_isTip_ _ _ _ _ hv) dX6_isSo_45 rfl (rest := []) rfl (cat_le _ (Nat.le_of_ble_eq_true rfl)) (Nat.le_of_ble_eq_true rfl) (Nat.le_of_ble_eq_true rfl) (Nat.le_of_ble_eq_true rfl) (st2 := [.int v45]) rfl ?_
        refine aw_if_eq (tgt := 55) C dX6_isSo_48 (by decide) (fun hc => ?_) (fun hc => ?_)
        · have he := ift hc he
          refine aw_iconst (v := 0) C dX6_isSo_55 (by decide) ?_
          exact wX6_isSo_j56 C ih he
        · have he := iff_ hc he
          refine aw_iconst (v := 1) C dX6_isSo_51 (by decide) ?_
          refine aw_goto (tgt := 56) C dX6_isSo_52 (by decide) ?_
          exact wX6_isSo_j56 C ih he
set_option maxHeartbeats 4000000 in
set_option maxRecDepth 100000 in
theorem wX6_isSo {Γ : GG} (C : CX Γ cX6_isSo 7 RX6 2 0 0) {N : Nat} {sz : Nat} {h : Hp} {out : Int32} (X : RX Γ (some .boolean) (some (.int out)) h sz 0 0) {l0 : Option Nat} {l1 : Int32} {l2 : Int32} {l3 : Int32} (he : fX6_isSo N h l0 l1 l2 l3 = some out) : AW Γ 7 h sz 0 0 0 [(0, .inr l0), (1, .inl l1), (2, .inl l2), (3, .inl l3)] [] := by
  unfold fX6_isSo at he
  refine aw_iconst (v := 1) C dX6_isSo_0 (by decide) ?_
  refine aw_istore C dX6_isSo_1 (by decide) rfl (lv' := [(0, .inr l0), (1, .inl l1), (2, .inl l2), (3, .inl l3), (4, .inl (1 : Int32))]) rfl ?_
  refine aw_iconst (v := 0) C dX6_isSo_3 (by decide) ?_
  refine aw_istore C dX6_isSo_4 (by decide) rfl (lv' := [(0, .inr l0), (1, .inl l1), (2, .inl l2), (3, .inl l3), (4, .inl (1 : Int32)), (5, .inl (0 : Int32))]) rfl ?_
  refine wX6_isSo_L6 C ?_ N _ _ _ _ _ _ he
  intro l4 he
  refine aw_iload C dX6_isSo_97 (j := 0) rfl ?_
  obtain ⟨hz, he⟩ := ifs he
  have he := Option.some.inj he
  subst he
  exact aw_zret C X hz dX6_isSo_99 (by decide) (by decide)
theorem cX6_isSo_ (l : Launch) (D : va_G) (dA : Nat → ClassId) (base : Nat) {N : Nat} {h : Hp} {sz : Nat} {l0 : Option Nat} {l1 : Int32} {l2 : Int32} {l3 : Int32} {out : Int32} (he : fX6_isSo N h l0 l1 l2 l3 = some out) : AM l D dA base yX6_isSo cX6_isSo 7 (some .boolean) 2 0 0 [.inr l0, .inl l1, .inl l2, .inl l3] h sz (some (.int out)) h sz :=
  AM.of (by decide +kernel) (Nat.le_of_ble_eq_true rfl) rfl (fun Γ C X hn => wX6_isSo C X he)
set_option maxHeartbeats 4000000 in
set_option maxRecDepth 100000 in
theorem wX6_guess_L48 {Γ : GG} (C : CX Γ cX6_guess 7 RX6 3 0 0) {N : Nat} {sz : Nat} {h : Hp} {α : Type} {out : α} {K95 : Option Nat → Int32 → Int32 → Int32 → Int32 → Int32 → Option α} (k95 : ∀ (l0 : Option Nat) (l1 : Int32) (l2 : Int32) (l3 : Int32) (l4 : Int32) (l5 : Int32), K95 l0 l1 l2 l3 l4 l5 = some out → AW Γ 7 h sz 0 0 95 [(0, .inr l0), (1, .inl l1), (2, .inl l2), (3, .inl l3), (4, .inl l4), (5, .inl l5)] []) : ∀ (n : Nat) (l0 : Option Nat) (l1 : Int32) (l2 : Int32) (l3 : Int32) (l4 : Int32) (l5 : Int32) (l6 : Int32), fX6_guess_L48 N h K95 n l0 l1 l2 l3 l4 l5 l6 = some out → AW Γ 7 h sz 0 0 48 [(0, .inr l0), (1, .inl l1), (2, .inl l2), (3, .inl l3), (4, .inl l4), (5, .inl l5), (6, .inl l6)] [] := by
  intro n
  induction n with
  | zero =>
    intro l0 l1 l2 l3 l4 l5 l6 he
    rw [fX6_guess_L48] at he
    cases he
  | succ n ih =>
    intro l0 l1 l2 l3 l4 l5 l6 he
    rw [fX6_guess_L48] at he
    refine aw_iload C dX6_guess_48 (j := 6) rfl ?_
    refine aw_if_lt (tgt := 95) C dX6_guess_50 (by decide) (fun hc => ?_) (fun hc => ?_)
    · have he := ift hc he
      refine aw_sub [0, 1, 2, 3, 4, 5] (lv' := [(0, .inr l0), (1, .inl l1), (2, .inl l2), (3, .inl l3), (4, .inl l4), (5, .inl l5)]) rfl ?_
      exact k95 _ _ _ _ _ _ he
    · have he := iff_ hc he
      refine aw_aload_n C dX6_guess_53 rfl (j := 0) rfl ?_
      refine aw_iload_n C dX6_guess_54 rfl (j := 1) rfl ?_
      refine aw_iload C dX6_guess_55 (j := 5) rfl ?_
      obtain ⟨hO, he⟩ := ifs he
      obtain ⟨v57, hv, he⟩ := ob he
      refine aw_callV (ci := 6) C mb_X6_146 ⟨q_934, q_45, rfl⟩ hO (cX6_fits_ _ _ _ _ hv) dX6_guess_57 rfl (rest := []) rfl (cat_le _ (Nat.le_of_ble_eq_true rfl)) (Nat.le_of_ble_eq_true rfl) (Nat.le_of_ble_eq_true rfl) (Nat.le_of_ble_eq_true rfl) (st2 := [.int v57]) rfl ?_
      refine aw_if_eq (tgt := 89) C dX6_guess_60 (by decide) (fun hc => ?_) (fun hc => ?_)
      · have he := ift hc he
        refine aw_iinc (y := -1) C dX6_guess_89 (by decide) (j := 6) rfl (by decide) rfl (lv' := [(0, .inr l0), (1, .inl l1), (2, .inl l2), (3, .inl l3), (4, .inl l4), (5, .inl l5), (6, .inl (l6 + (-1)))]) rfl ?_
        refine aw_goto (tgt := 48) C dX6_guess_92 (by decide) ?_
        exact ih _ _ _ _ _ _ _ he
      · have he := iff_ hc he
        refine aw_aload_n C dX6_guess_63 rfl (j := 0) rfl ?_
        refine aw_iload_n C dX6_guess_64 rfl (j := 1) rfl ?_
        refine aw_iload C dX6_guess_65 (j := 5) rfl ?_
        refine aw_iload C dX6_guess_67 (j := 6) rfl ?_
        obtain ⟨hO, he⟩ := ifs he
        obtain ⟨v69, hv, he⟩ := ob he
        refine aw_callV (ci := 6) C mb_X6_217 ⟨q_1101, q_68, rfl⟩ hO (cX6_isSo_ _ _ _ _ hv) dX6_guess_69 rfl (rest := []) rfl (cat_le _ (Nat.le_of_ble_eq_true rfl)) (Nat.le_of_ble_eq_true rfl) (Nat.le_of_ble_eq_true rfl) (Nat.le_of_ble_eq_true rfl) (st2 := [.int v69]) rfl ?_
        refine aw_if_eq (tgt := 89) C dX6_guess_72 (by decide) (fun hc => ?_) (fun hc => ?_)
        · have he := ift hc he
          refine aw_iinc (y := -1) C dX6_guess_89 (by decide) (j := 6) rfl (by decide) rfl (lv' := [(0, .inr l0), (1, .inl l1), (2, .inl l2), (3, .inl l3), (4, .inl l4), (5, .inl l5), (6, .inl (l6 + (-1)))]) rfl ?_
          refine aw_goto (tgt := 48) C dX6_guess_92 (by decide) ?_
          exact ih _ _ _ _ _ _ _ he
        · have he := iff_ hc he
          refine aw_iinc (y := 1) C dX6_guess_75 (by decide) (j := 3) rfl (by decide) rfl (lv' := [(0, .inr l0), (1, .inl l1), (2, .inl l2), (3, .inl (l3 + 1)), (4, .inl l4), (5, .inl l5), (6, .inl l6)]) rfl ?_
          refine aw_sipush (v := 1000) C dX6_guess_78 (by decide) ?_
          refine aw_iload C dX6_guess_81 (j := 5) rfl ?_
          refine aw_imul C dX6_guess_83 ?_
          refine aw_iload C dX6_guess_84 (j := 6) rfl ?_
          refine aw_iadd C dX6_guess_86 ?_
          refine aw_istore C dX6_guess_87 (by decide) rfl (lv' := [(0, .inr l0), (1, .inl l1), (2, .inl l2), (3, .inl (l3 + 1)), (4, .inl (((1000 : Int32) * l5) + l6)), (5, .inl l5), (6, .inl l6)]) rfl ?_
          refine aw_iinc (y := -1) C dX6_guess_89 (by decide) (j := 6) rfl (by decide) rfl (lv' := [(0, .inr l0), (1, .inl l1), (2, .inl l2), (3, .inl (l3 + 1)), (4, .inl (((1000 : Int32) * l5) + l6)), (5, .inl l5), (6, .inl (l6 + (-1)))]) rfl ?_
          refine aw_goto (tgt := 48) C dX6_guess_92 (by decide) ?_
          exact ih _ _ _ _ _ _ _ he
set_option maxHeartbeats 4000000 in
set_option maxRecDepth 100000 in
theorem wX6_guess_L33 {Γ : GG} (C : CX Γ cX6_guess 7 RX6 3 0 0) {N : Nat} {sz : Nat} {h : Hp} {α : Type} {out : α} {K101 : Int32 → Int32 → Int32 → Option α} (k101 : ∀ (l2 : Int32) (l3 : Int32) (l4 : Int32), K101 l2 l3 l4 = some out → AW Γ 7 h sz 0 0 101 [(2, .inl l2), (3, .inl l3), (4, .inl l4)] []) : ∀ (n : Nat) (l0 : Option Nat) (l1 : Int32) (l2 : Int32) (l3 : Int32) (l4 : Int32) (l5 : Int32), fX6_guess_L33 N h K101 n l0 l1 l2 l3 l4 l5 = some out → AW Γ 7 h sz 0 0 33 [(0, .inr l0), (1, .inl l1), (2, .inl l2), (3, .inl l3), (4, .inl l4), (5, .inl l5)] [] := by
  intro n
  induction n with
  | zero =>
    intro l0 l1 l2 l3 l4 l5 he
    rw [fX6_guess_L33] at he
    cases he
  | succ n ih =>
    intro l0 l1 l2 l3 l4 l5 he
    rw [fX6_guess_L33] at he
    refine aw_iload C dX6_guess_33 (j := 5) rfl ?_
    refine aw_if_lt (tgt := 101) C dX6_guess_35 (by decide) (fun hc => ?_) (fun hc => ?_)
    · have he := ift hc he
      refine aw_sub [2, 3, 4] (lv' := [(2, .inl l2), (3, .inl l3), (4, .inl l4)]) rfl ?_
      exact k101 _ _ _ he
    · have he := iff_ hc he
      refine aw_aload_n C dX6_guess_38 rfl (j := 0) rfl ?_
      obtain ⟨v39, hv, he⟩ := ob he
      refine aw_gA C fk_X6_7 dX6_guess_39 hv ?_
      refine aw_iload_n C dX6_guess_42 rfl (j := 1) rfl ?_
      obtain ⟨v43, hv, he⟩ := ob he
      refine aw_iald C dX6_guess_43 hv ?_
      refine aw_iconst (v := 1) C dX6_guess_44 (by decide) ?_
      refine aw_isub C dX6_guess_45 ?_
      refine aw_istore C dX6_guess_46 (by decide) rfl (lv' := [(0, .inr l0), (1, .inl l1), (2, .inl l2), (3, .inl l3), (4, .inl l4), (5, .inl l5), (6, .inl (v43 - (1 : Int32)))]) rfl ?_
      refine wX6_guess_L48 C ?_ N _ _ _ _ _ _ _ he
      intro l0 l1 l2 l3 l4 l5 he
      refine aw_iinc (y := -1) C dX6_guess_95 (by decide) (j := 5) rfl (by decide) rfl (lv' := [(0, .inr l0), (1, .inl l1), (2, .inl l2), (3, .inl l3), (4, .inl l4), (5, .inl (l5 + (-1)))]) rfl ?_
      refine aw_goto (tgt := 33) C dX6_guess_98 (by decide) ?_
      exact ih _ _ _ _ _ _ he
set_option maxHeartbeats 4000000 in
set_option maxRecDepth 100000 in
theorem wX6_guess {Γ : GG} (C : CX Γ cX6_guess 7 RX6 3 0 0) {N : Nat} {sz : Nat} {h : Hp} {out : Int32} (X : RX Γ (some .int) (some (.int out)) h sz 0 0) {l0 : Option Nat} {l1 : Int32} {l2 : Int32} (he : fX6_guess N h l0 l1 l2 = some out) : AW Γ 7 h sz 0 0 0 [(0, .inr l0), (1, .inl l1), (2, .inl l2)] [] := by
  unfold fX6_guess at he
  refine aw_aload_n C dX6_guess_0 rfl (j := 0) rfl ?_
  refine aw_iload_n C dX6_guess_1 rfl (j := 1) rfl ?_
  obtain ⟨hO, he⟩ := ifs he
  obtain ⟨v2, hv, he⟩ := ob he
  refine aw_callV (ci := 6) C mb_X6_139 ⟨q_922, q_43, rfl⟩ hO (cX6_isRing_ _ _ _ _ hv) dX6_guess_2 rfl (rest := []) rfl (cat_le _ (Nat.le_of_ble_eq_true rfl)) (Nat.le_of_ble_eq_true rfl) (Nat.le_of_ble_eq_true rfl) (Nat.le_of_ble_eq_true rfl) (st2 := [.int v2]) rfl ?_
  refine aw_if_eq (tgt := 17) C dX6_guess_5 (by decide) (fun hc => ?_) (fun hc => ?_)
  · have he := ift hc he
    refine aw_iconst (v := -1) C dX6_guess_17 (by decide) ?_
    have he := Option.some.inj he
    subst he
    exact aw_iret C X dX6_guess_18 (by decide) (by decide)
  · have he := iff_ hc he
    refine aw_iload_n C dX6_guess_8 rfl (j := 2) rfl ?_
    refine aw_iconst (v := 0) C dX6_guess_9 (by decide) ?_
    refine aw_iconst (v := 1) C dX6_guess_10 (by decide) ?_
    obtain ⟨v11, hv, he⟩ := ob he
    refine aw_callS C mb_X6_62 q_874 (cX6_in_ _ _ _ _ hv) dX6_guess_11 rfl (rest := []) rfl (cat_le _ (Nat.le_of_ble_eq_true rfl)) (Nat.le_of_ble_eq_true rfl) (Nat.le_of_ble_eq_true rfl) (Nat.le_of_ble_eq_true rfl) (st2 := [.int v11]) rfl ?_
    refine aw_if_ne (tgt := 19) C dX6_guess_14 (by decide) (fun hc => ?_) (fun hc => ?_)
    · have he := ift hc he
      refine aw_iconst (v := -1) C dX6_guess_17 (by decide) ?_
      have he := Option.some.inj he
      subst he
      exact aw_iret C X dX6_guess_18 (by decide) (by decide)
    · have he := iff_ hc he
      refine aw_iconst (v := 0) C dX6_guess_19 (by decide) ?_
      refine aw_istore_n C dX6_guess_20 rfl (by decide) rfl (lv' := [(0, .inr l0), (1, .inl l1), (2, .inl l2), (3, .inl (0 : Int32))]) rfl ?_
      refine aw_bipush (v := -9) C dX6_guess_21 (by decide) ?_
      refine aw_istore C dX6_guess_23 (by decide) rfl (lv' := [(0, .inr l0), (1, .inl l1), (2, .inl l2), (3, .inl (0 : Int32)), (4, .inl (-9 : Int32))]) rfl ?_
      refine aw_aload_n C dX6_guess_25 rfl (j := 0) rfl ?_
      obtain ⟨v26, hv, he⟩ := ob he
      refine aw_gI C fk_X6_66 dX6_guess_26 hv ?_
      refine aw_iconst (v := 1) C dX6_guess_29 (by decide) ?_
      refine aw_isub C dX6_guess_30 ?_
      refine aw_istore C dX6_guess_31 (by decide) rfl (lv' := [(0, .inr l0), (1, .inl l1), (2, .inl l2), (3, .inl (0 : Int32)), (4, .inl (-9 : Int32)), (5, .inl (v26 - (1 : Int32)))]) rfl ?_
      refine wX6_guess_L33 C ?_ N _ _ _ _ _ _ he
      intro l2 l3 l4 he
      refine aw_iload_n C dX6_guess_101 rfl (j := 0) rfl ?_
      refine aw_if_ne (tgt := 109) C dX6_guess_102 (by decide) (fun hc => ?_) (fun hc => ?_)
      · have he := ift hc he
        refine aw_iload_n C dX6_guess_105 rfl (j := 1) rfl ?_
        refine aw_goto (tgt := 111) C dX6_guess_106 (by decide) ?_
        have he := Option.some.inj he
        subst he
        exact aw_iret C X dX6_guess_111 (by decide) (by decide)
      · have he := iff_ hc he
        refine aw_iload C dX6_guess_109 (j := 2) rfl ?_
        have he := Option.some.inj he
        subst he
        exact aw_iret C X dX6_guess_111 (by decide) (by decide)
theorem cX6_guess_ (l : Launch) (D : va_G) (dA : Nat → ClassId) (base : Nat) {N : Nat} {h : Hp} {sz : Nat} {l0 : Option Nat} {l1 : Int32} {l2 : Int32} {out : Int32} (he : fX6_guess N h l0 l1 l2 = some out) : AM l D dA base yX6_guess cX6_guess 7 (some .int) 3 0 0 [.inr l0, .inl l1, .inl l2] h sz (some (.int out)) h sz :=
  AM.of (by decide +kernel) (Nat.le_of_ble_eq_true rfl) rfl (fun Γ C X hn => wX6_guess C X he)
set_option maxHeartbeats 4000000 in
set_option maxRecDepth 100000 in
theorem wX5_addGuesses_L34 {Γ : GG} (C : CX Γ cX5_addGuesses 7 RX5 3 0 0) {N : Nat} {sz : Nat} {α : Type} {out : α} {K71 : Hp → Option Nat → Int32 → Int32 → Int32 → Int32 → Int32 → Option α} (k71 : ∀ (h : Hp) (l0 : Option Nat) (l1 : Int32) (l2 : Int32) (l3 : Int32) (l4 : Int32) (l5 : Int32), K71 h l0 l1 l2 l3 l4 l5 = some out → AW Γ 7 h sz 0 0 71 [(0, .inr l0), (1, .inl l1), (2, .inl l2), (3, .inl l3), (4, .inl l4), (5, .inl l5)] []) : ∀ (n : Nat) (h : Hp) (l0 : Option Nat) (l1 : Int32) (l2 : Int32) (l3 : Int32) (l4 : Int32) (l5 : Int32) (l6 : Int32), fX5_addGuesses_L34 N K71 n h l0 l1 l2 l3 l4 l5 l6 = some out → AW Γ 7 h sz 0 0 34 [(0, .inr l0), (1, .inl l1), (2, .inl l2), (3, .inl l3), (4, .inl l4), (5, .inl l5), (6, .inl l6)] [] := by
  intro n
  induction n with
  | zero =>
    intro h l0 l1 l2 l3 l4 l5 l6 he
    rw [fX5_addGuesses_L34] at he
    cases he
  | succ n ih =>
    intro h l0 l1 l2 l3 l4 l5 l6 he
    rw [fX5_addGuesses_L34] at he
    refine aw_iload C dX5_addGuesses_34 (j := 6) rfl ?_
    refine aw_iload_n C dX5_addGuesses_36 rfl (j := 1) rfl ?_
    refine aw_ic_ge (tgt := 71) C dX5_addGuesses_37 (by decide) (fun hc => ?_) (fun hc => ?_)
    · have he := ift hc he
      refine aw_sub [0, 1, 2, 3, 4, 5] (lv' := [(0, .inr l0), (1, .inl l1), (2, .inl l2), (3, .inl l3), (4, .inl l4), (5, .inl l5)]) rfl ?_
      exact k71 _ _ _ _ _ _ _ he
    · have he := iff_ hc he
      refine aw_iload C dX5_addGuesses_40 (j := 6) rfl ?_
      refine aw_aload_n C dX5_addGuesses_42 rfl (j := 0) rfl ?_
      obtain ⟨v43, hv, he⟩ := ob he
      refine aw_gA C fk_X5_62 dX5_addGuesses_43 hv ?_
      obtain ⟨v46, hv, he⟩ := ob he
      refine aw_alen C dX5_addGuesses_46 hv ?_
      refine aw_ic_ge (tgt := 71) C dX5_addGuesses_47 (by decide) (fun hc => ?_) (fun hc => ?_)
      · have he := ift hc he
        refine aw_sub [0, 1, 2, 3, 4, 5] (lv' := [(0, .inr l0), (1, .inl l1), (2, .inl l2), (3, .inl l3), (4, .inl l4), (5, .inl l5)]) rfl ?_
        exact k71 _ _ _ _ _ _ _ he
      · have he := iff_ hc he
        refine aw_aload_n C dX5_addGuesses_50 rfl (j := 0) rfl ?_
        obtain ⟨v51, hv, he⟩ := ob he
        refine aw_gA C fk_X5_62 dX5_addGuesses_51 hv ?_
        refine aw_iload C dX5_addGuesses_54 (j := 6) rfl ?_
        refine aw_dup2 C dX5_addGuesses_56 rfl (rf_cat _) ?_
        obtain ⟨v57, hv, he⟩ := ob he
        refine aw_iald C dX5_addGuesses_57 hv ?_
        refine aw_iload_n C dX5_addGuesses_58 rfl (j := 3) rfl ?_
        refine aw_iadd C dX5_addGuesses_59 ?_
        obtain ⟨h60, hv, he⟩ := ob he
        refine aw_iast C dX5_addGuesses_60 hv ?_
        refine aw_iload C dX5_addGuesses_61 (j := 6) rfl ?_
        refine aw_iload C dX5_addGuesses_63 (j := 4) rfl ?_
        refine aw_iadd C dX5_addGuesses_65 ?_
        refine aw_istore C dX5_addGuesses_66 (by decide) rfl (lv' := [(0, .inr l0), (1, .inl l1), (2, .inl l2), (3, .inl l3), (4, .inl l4), (5, .inl l5), (6, .inl (l6 + l4))]) rfl ?_
        refine aw_goto (tgt := 34) C dX5_addGuesses_68 (by decide) ?_
        exact ih _ _ _ _ _ _ _ _ he
set_option maxHeartbeats 4000000 in
set_option maxRecDepth 100000 in
theorem wX5_addGuesses_L10 {Γ : GG} (C : CX Γ cX5_addGuesses 7 RX5 3 0 0) {N : Nat} {sz : Nat} {α : Type} {out : α} {K77 : Hp → Option α} (k77 : ∀ (h : Hp), K77 h = some out → AW Γ 7 h sz 0 0 77 [] []) : ∀ (n : Nat) (h : Hp) (l0 : Option Nat) (l1 : Int32) (l2 : Int32) (l3 : Int32) (l4 : Int32) (l5 : Int32), fX5_addGuesses_L10 N K77 n h l0 l1 l2 l3 l4 l5 = some out → AW Γ 7 h sz 0 0 10 [(0, .inr l0), (1, .inl l1), (2, .inl l2), (3, .inl l3), (4, .inl l4), (5, .inl l5)] [] := by
  intro n
  induction n with
  | zero =>
    intro h l0 l1 l2 l3 l4 l5 he
    rw [fX5_addGuesses_L10] at he
    cases he
  | succ n ih =>
    intro h l0 l1 l2 l3 l4 l5 he
    rw [fX5_addGuesses_L10] at he
    refine aw_iload C dX5_addGuesses_10 (j := 5) rfl ?_
    refine aw_iload_n C dX5_addGuesses_12 rfl (j := 2) rfl ?_
    refine aw_ic_ge (tgt := 77) C dX5_addGuesses_13 (by decide) (fun hc => ?_) (fun hc => ?_)
    · have he := ift hc he
      refine aw_sub [] (lv' := []) rfl ?_
      exact k77 _ he
    · have he := iff_ hc he
      refine aw_aload_n C dX5_addGuesses_16 rfl (j := 0) rfl ?_
      obtain ⟨v17, hv, he⟩ := ob he
      refine aw_gA C fk_X5_19 dX5_addGuesses_17 hv ?_
      refine aw_iload_n C dX5_addGuesses_20 rfl (j := 1) rfl ?_
      refine aw_iload_n C dX5_addGuesses_21 rfl (j := 2) rfl ?_
      refine aw_iload C dX5_addGuesses_22 (j := 5) rfl ?_
      obtain ⟨hO, he⟩ := ifs he
      obtain ⟨v24, hv, he⟩ := ob he
      refine aw_callV (ci := 3) C mb_X5_348 ⟨q_676, q_677, rfl⟩ hO (cX3_agree_ _ _ _ _ hv) dX5_addGuesses_24 rfl (rest := []) rfl (cat_le _ (Nat.le_of_ble_eq_true rfl)) (Nat.le_of_ble_eq_true rfl) (Nat.le_of_ble_eq_true rfl) (Nat.le_of_ble_eq_true rfl) (st2 := [.int v24]) rfl ?_
      refine aw_if_eq (tgt := 71) C dX5_addGuesses_27 (by decide) (fun hc => ?_) (fun hc => ?_)
      · have he := ift hc he
        refine aw_iinc (y := 1) C dX5_addGuesses_71 (by decide) (j := 5) rfl (by decide) rfl (lv' := [(0, .inr l0), (1, .inl l1), (2, .inl l2), (3, .inl l3), (4, .inl l4), (5, .inl (l5 + 1))]) rfl ?_
        refine aw_goto (tgt := 10) C dX5_addGuesses_74 (by decide) ?_
        exact ih _ _ _ _ _ _ _ he
      · have he := iff_ hc he
        refine aw_iload C dX5_addGuesses_30 (j := 5) rfl ?_
        refine aw_istore C dX5_addGuesses_32 (by decide) rfl (lv' := [(0, .inr l0), (1, .inl l1), (2, .inl l2), (3, .inl l3), (4, .inl l4), (5, .inl l5), (6, .inl l5)]) rfl ?_
        refine wX5_addGuesses_L34 C ?_ N _ _ _ _ _ _ _ _ he
        intro h l0 l1 l2 l3 l4 l5 he
        refine aw_iinc (y := 1) C dX5_addGuesses_71 (by decide) (j := 5) rfl (by decide) rfl (lv' := [(0, .inr l0), (1, .inl l1), (2, .inl l2), (3, .inl l3), (4, .inl l4), (5, .inl (l5 + 1))]) rfl ?_
        refine aw_goto (tgt := 10) C dX5_addGuesses_74 (by decide) ?_
        exact ih _ _ _ _ _ _ _ he
set_option maxHeartbeats 4000000 in
set_option maxRecDepth 100000 in
theorem wX5_addGuesses {Γ : GG} (C : CX Γ cX5_addGuesses 7 RX5 3 0 0) {N : Nat} {sz : Nat} {out : Hp} (X : RX Γ none none out sz 0 0) {h : Hp} {l0 : Option Nat} {l1 : Int32} {l2 : Int32} {l3 : Int32} (he : fX5_addGuesses N h l0 l1 l2 l3 = some out) : AW Γ 7 h sz 0 0 0 [(0, .inr l0), (1, .inl l1), (2, .inl l2), (3, .inl l3)] [] := by
  unfold fX5_addGuesses at he
  refine aw_iload_n C dX5_addGuesses_0 rfl (j := 2) rfl ?_
  refine aw_iconst (v := 1) C dX5_addGuesses_1 (by decide) ?_
  refine aw_mmax C q_629 q_549 q_78 q_550 (Nat.le_of_ble_eq_true rfl) (Nat.le_of_ble_eq_true rfl) (Nat.le_of_ble_eq_true rfl) (Nat.le_of_ble_eq_true rfl) dX5_addGuesses_2 ?_
  refine aw_istore C dX5_addGuesses_5 (by decide) rfl (lv' := [(0, .inr l0), (1, .inl l1), (2, .inl l2), (3, .inl l3), (4, .inl (jmax l2 (1 : Int32)))]) rfl ?_
  refine aw_iconst (v := 0) C dX5_addGuesses_7 (by decide) ?_
  refine aw_istore C dX5_addGuesses_8 (by decide) rfl (lv' := [(0, .inr l0), (1, .inl l1), (2, .inl l2), (3, .inl l3), (4, .inl (jmax l2 (1 : Int32))), (5, .inl (0 : Int32))]) rfl ?_
  refine wX5_addGuesses_L10 C ?_ N _ _ _ _ _ _ _ he
  intro h he
  have he := Option.some.inj he
  subst he
  exact aw_vret C X dX5_addGuesses_77 (by decide) (by decide)
theorem cX5_addGuesses_ (l : Launch) (D : va_G) (dA : Nat → ClassId) (base : Nat) {N : Nat} {h : Hp} {sz : Nat} {l0 : Option Nat} {l1 : Int32} {l2 : Int32} {l3 : Int32} {out : Hp} (he : fX5_addGuesses N h l0 l1 l2 l3 = some out) : AM l D dA base yX5_addGuesses cX5_addGuesses 7 none 3 0 0 [.inr l0, .inl l1, .inl l2, .inl l3] h sz none out sz :=
  AM.of (by decide +kernel) (Nat.le_of_ble_eq_true rfl) rfl (fun Γ C X hn => wX5_addGuesses C X he)
set_option maxHeartbeats 4000000 in
set_option maxRecDepth 100000 in
theorem wX5_noteGuessesByTooth_L10 {Γ : GG} (C : CX Γ cX5_noteGuessesByTooth 3 RX5 4 0 0) {N : Nat} {sz : Nat} {α : Type} {out : α} {K69 : Hp → Option α} (k69 : ∀ (h : Hp), K69 h = some out → AW Γ 3 h sz 0 0 69 [] []) : ∀ (n : Nat) (h : Hp) (l0 : Option Nat) (l1 : Int32) (l2 : Int32), fX5_noteGuessesByTooth_L10 N K69 n h l0 l1 l2 = some out → AW Γ 3 h sz 0 0 10 [(0, .inr l0), (1, .inl l1), (2, .inl l2)] [] := by
  intro n
  induction n with
  | zero =>
    intro h l0 l1 l2 he
    rw [fX5_noteGuessesByTooth_L10] at he
    cases he
  | succ n ih =>
    intro h l0 l1 l2 he
    rw [fX5_noteGuessesByTooth_L10] at he
    refine aw_iload_n C dX5_noteGuessesByTooth_10 rfl (j := 2) rfl ?_
    refine aw_aload_n C dX5_noteGuessesByTooth_11 rfl (j := 0) rfl ?_
    obtain ⟨v12, hv, he⟩ := ob he
    refine aw_gA C fk_X5_26 dX5_noteGuessesByTooth_12 hv ?_
    obtain ⟨v15, hv, he⟩ := ob he
    refine aw_gI C fk_X5_205 dX5_noteGuessesByTooth_15 hv ?_
    refine aw_ic_ge (tgt := 69) C dX5_noteGuessesByTooth_18 (by decide) (fun hc => ?_) (fun hc => ?_)
    · have he := ift hc he
      refine aw_sub [] (lv' := []) rfl ?_
      exact k69 _ he
    · have he := iff_ hc he
      refine aw_aload_n C dX5_noteGuessesByTooth_21 rfl (j := 0) rfl ?_
      obtain ⟨v22, hv, he⟩ := ob he
      refine aw_gA C fk_X5_26 dX5_noteGuessesByTooth_22 hv ?_
      refine aw_iload_n C dX5_noteGuessesByTooth_25 rfl (j := 1) rfl ?_
      refine aw_iload_n C dX5_noteGuessesByTooth_26 rfl (j := 2) rfl ?_
      obtain ⟨hO, he⟩ := ifs he
      obtain ⟨v27, hv, he⟩ := ob he
      refine aw_callV (ci := 0) C mb_X5_112 ⟨q_376, q_377, rfl⟩ hO (cX0_fits_ _ _ _ _ hv) dX5_noteGuessesByTooth_27 rfl (rest := []) rfl (cat_le _ (Nat.le_of_ble_eq_true rfl)) (Nat.le_of_ble_eq_true rfl) (Nat.le_of_ble_eq_true rfl) (Nat.le_of_ble_eq_true rfl) (st2 := [.int v27]) rfl ?_
      refine aw_if_eq (tgt := 63) C dX5_noteGuessesByTooth_30 (by decide) (fun hc => ?_) (fun hc => ?_)
      · have he := ift hc he
        refine aw_iinc (y := 1) C dX5_noteGuessesByTooth_63 (by decide) (j := 2) rfl (by decide) rfl (lv' := [(0, .inr l0), (1, .inl l1), (2, .inl (l2 + 1))]) rfl ?_
        refine aw_goto (tgt := 10) C dX5_noteGuessesByTooth_66 (by decide) ?_
        exact ih _ _ _ _ he
      · have he := iff_ hc he
        refine aw_aload_n C dX5_noteGuessesByTooth_33 rfl (j := 0) rfl ?_
        refine aw_aload_n C dX5_noteGuessesByTooth_34 rfl (j := 0) rfl ?_
        obtain ⟨v35, hv, he⟩ := ob he
        refine aw_gA C fk_X5_26 dX5_noteGuessesByTooth_35 hv ?_
        refine aw_iload_n C dX5_noteGuessesByTooth_38 rfl (j := 1) rfl ?_
        obtain ⟨hO, he⟩ := ifs he
        obtain ⟨v39, hv, he⟩ := ob he
        refine aw_callV (ci := 0) C mb_X5_102 ⟨q_358, q_359, rfl⟩ hO (cX0_teethOf_ _ _ _ _ hv) dX5_noteGuessesByTooth_39 rfl (rest := [va_rf l0]) rfl (cat_le _ (Nat.le_of_ble_eq_true rfl)) (Nat.le_of_ble_eq_true rfl) (Nat.le_of_ble_eq_true rfl) (Nat.le_of_ble_eq_true rfl) (st2 := [.int v39, va_rf l0]) rfl ?_
        refine aw_aload_n C dX5_noteGuessesByTooth_42 rfl (j := 0) rfl ?_
        obtain ⟨v43, hv, he⟩ := ob he
        refine aw_gA C fk_X5_26 dX5_noteGuessesByTooth_43 hv ?_
        refine aw_iload_n C dX5_noteGuessesByTooth_46 rfl (j := 1) rfl ?_
        refine aw_iload_n C dX5_noteGuessesByTooth_47 rfl (j := 2) rfl ?_
        obtain ⟨hO, he⟩ := ifs he
        obtain ⟨v48, hv, he⟩ := ob he
        refine aw_callV (ci := 0) C mb_X5_211 ⟨q_386, q_387, rfl⟩ hO (cX0_divisorOf_ _ _ _ _ hv) dX5_noteGuessesByTooth_48 rfl (rest := [.int v39, va_rf l0]) rfl (cat_le _ (Nat.le_of_ble_eq_true rfl)) (Nat.le_of_ble_eq_true rfl) (Nat.le_of_ble_eq_true rfl) (Nat.le_of_ble_eq_true rfl) (st2 := [.int v48, .int v39, va_rf l0]) rfl ?_
        refine aw_aload_n C dX5_noteGuessesByTooth_51 rfl (j := 0) rfl ?_
        obtain ⟨v52, hv, he⟩ := ob he
        refine aw_gA C fk_X5_26 dX5_noteGuessesByTooth_52 hv ?_
        refine aw_iload_n C dX5_noteGuessesByTooth_55 rfl (j := 1) rfl ?_
        refine aw_iload_n C dX5_noteGuessesByTooth_56 rfl (j := 2) rfl ?_
        obtain ⟨hO, he⟩ := ifs he
        obtain ⟨v57, hv, he⟩ := ob he
        refine aw_callV (ci := 0) C mb_X5_116 ⟨q_382, q_383, rfl⟩ hO (cX0_petalsOf_ _ _ _ _ hv) dX5_noteGuessesByTooth_57 rfl (rest := [.int v48, .int v39, va_rf l0]) rfl (cat_le _ (Nat.le_of_ble_eq_true rfl)) (Nat.le_of_ble_eq_true rfl) (Nat.le_of_ble_eq_true rfl) (Nat.le_of_ble_eq_true rfl) (st2 := [.int v57, .int v48, .int v39, va_rf l0]) rfl ?_
        obtain ⟨hO, he⟩ := ifs he
        obtain ⟨z60, hv, he⟩ := ob he
        refine aw_callV (ci := 5) C mb_X5_344 ⟨q_698, q_28, rfl⟩ hO (cX5_addGuesses_ _ _ _ _ hv) dX5_noteGuessesByTooth_60 rfl (rest := []) rfl (cat_le _ (Nat.le_of_ble_eq_true rfl)) (Nat.le_of_ble_eq_true rfl) (Nat.le_of_ble_eq_true rfl) (Nat.le_of_ble_eq_true rfl) (st2 := []) rfl ?_
        refine aw_iinc (y := 1) C dX5_noteGuessesByTooth_63 (by decide) (j := 2) rfl (by decide) rfl (lv' := [(0, .inr l0), (1, .inl l1), (2, .inl (l2 + 1))]) rfl ?_
        refine aw_goto (tgt := 10) C dX5_noteGuessesByTooth_66 (by decide) ?_
        exact ih _ _ _ _ he
set_option maxHeartbeats 4000000 in
set_option maxRecDepth 100000 in
theorem wX5_noteGuessesByTooth {Γ : GG} (C : CX Γ cX5_noteGuessesByTooth 3 RX5 4 0 0) {N : Nat} {sz : Nat} {out : Hp} (X : RX Γ none none out sz 0 0) {h : Hp} {l0 : Option Nat} {l1 : Int32} (he : fX5_noteGuessesByTooth N h l0 l1 = some out) : AW Γ 3 h sz 0 0 0 [(0, .inr l0), (1, .inl l1)] [] := by
  unfold fX5_noteGuessesByTooth at he
  refine aw_aload_n C dX5_noteGuessesByTooth_0 rfl (j := 0) rfl ?_
  obtain ⟨v1, hv, he⟩ := ob he
  refine aw_gA C fk_X5_62 dX5_noteGuessesByTooth_1 hv ?_
  refine aw_iconst (v := 0) C dX5_noteGuessesByTooth_4 (by decide) ?_
  obtain ⟨z5, hv, he⟩ := ob he
  refine aw_callS C mb_X5_304 q_437 (cJ7_fill_53178_ _ _ _ _ hv) dX5_noteGuessesByTooth_5 rfl (rest := []) rfl (cat_le _ (Nat.le_of_ble_eq_true rfl)) (Nat.le_of_ble_eq_true rfl) (Nat.le_of_ble_eq_true rfl) (Nat.le_of_ble_eq_true rfl) (st2 := []) rfl ?_
  refine aw_iconst (v := 0) C dX5_noteGuessesByTooth_8 (by decide) ?_
  refine aw_istore_n C dX5_noteGuessesByTooth_9 rfl (by decide) rfl (lv' := [(0, .inr l0), (1, .inl l1), (2, .inl (0 : Int32))]) rfl ?_
  refine wX5_noteGuessesByTooth_L10 C ?_ N _ _ _ _ he
  intro h he
  have he := Option.some.inj he
  subst he
  exact aw_vret C X dX5_noteGuessesByTooth_69 (by decide) (by decide)
theorem cX5_noteGuessesByTooth_ (l : Launch) (D : va_G) (dA : Nat → ClassId) (base : Nat) {N : Nat} {h : Hp} {sz : Nat} {l0 : Option Nat} {l1 : Int32} {out : Hp} (he : fX5_noteGuessesByTooth N h l0 l1 = some out) : AM l D dA base yX5_noteGuessesByTooth cX5_noteGuessesByTooth 3 none 4 0 0 [.inr l0, .inl l1] h sz none out sz :=
  AM.of (by decide +kernel) (Nat.le_of_ble_eq_true rfl) rfl (fun Γ C X hn => wX5_noteGuessesByTooth C X he)
set_option maxHeartbeats 4000000 in
set_option maxRecDepth 100000 in
theorem wX5_look_L33 {Γ : GG} (C : CX Γ cX5_look 7 RX5 5 0 0) {N : Nat} {sz : Nat} {α : Type} {out : α} {K96 : Hp → Int32 → Option α} (k96 : ∀ (h : Hp) (l4 : Int32), K96 h l4 = some out → AW Γ 7 h sz 0 0 96 [(4, .inl l4)] []) : ∀ (n : Nat) (h : Hp) (l0 : Option Nat) (l1 : Int32) (l2 : Int32) (l3 : Int32) (l4 : Int32) (l5 : Int32), fX5_look_L33 N K96 n h l0 l1 l2 l3 l4 l5 = some out → AW Γ 7 h sz 0 0 33 [(0, .inr l0), (1, .inl l1), (2, .inl l2), (3, .inl l3), (4, .inl l4), (5, .inl l5)] [] := by
  intro n
  induction n with
  | zero =>
    intro h l0 l1 l2 l3 l4 l5 he
    rw [fX5_look_L33] at he
    cases he
  | succ n ih =>
    intro h l0 l1 l2 l3 l4 l5 he
    rw [fX5_look_L33] at he
    refine aw_iload C dX5_look_33 (j := 5) rfl ?_
    refine aw_aload_n C dX5_look_35 rfl (j := 0) rfl ?_
    obtain ⟨v36, hv, he⟩ := ob he
    refine aw_gA C fk_X5_26 dX5_look_36 hv ?_
    refine aw_iload_n C dX5_look_39 rfl (j := 1) rfl ?_
    obtain ⟨hO, he⟩ := ifs he
    obtain ⟨v40, hv, he⟩ := ob he
    refine aw_callV (ci := 0) C mb_X5_102 ⟨q_358, q_359, rfl⟩ hO (cX0_teethOf_ _ _ _ _ hv) dX5_look_40 rfl (rest := [.int l5]) rfl (cat_le _ (Nat.le_of_ble_eq_true rfl)) (Nat.le_of_ble_eq_true rfl) (Nat.le_of_ble_eq_true rfl) (Nat.le_of_ble_eq_true rfl) (st2 := [.int v40, .int l5]) rfl ?_
    refine aw_ic_ge (tgt := 96) C dX5_look_43 (by decide) (fun hc => ?_) (fun hc => ?_)
    · have he := ift hc he
      refine aw_sub [4] (lv' := [(4, .inl l4)]) rfl ?_
      exact k96 _ _ he
    · have he := iff_ hc he
      refine aw_iload C dX5_look_46 (j := 5) rfl ?_
      refine aw_aload_n C dX5_look_48 rfl (j := 0) rfl ?_
      obtain ⟨v49, hv, he⟩ := ob he
      refine aw_gA C fk_X5_62 dX5_look_49 hv ?_
      obtain ⟨v52, hv, he⟩ := ob he
      refine aw_alen C dX5_look_52 hv ?_
      refine aw_ic_ge (tgt := 96) C dX5_look_53 (by decide) (fun hc => ?_) (fun hc => ?_)
      · have he := ift hc he
        refine aw_sub [4] (lv' := [(4, .inl l4)]) rfl ?_
        exact k96 _ _ he
      · have he := iff_ hc he
        refine aw_aload_n C dX5_look_56 rfl (j := 0) rfl ?_
        obtain ⟨v57, hv, he⟩ := ob he
        refine aw_gA C fk_X5_62 dX5_look_57 hv ?_
        refine aw_iload C dX5_look_60 (j := 5) rfl ?_
        obtain ⟨v62, hv, he⟩ := ob he
        refine aw_iald C dX5_look_62 hv ?_
        refine aw_iload_n C dX5_look_63 rfl (j := 2) rfl ?_
        refine aw_aload_n C dX5_look_64 rfl (j := 0) rfl ?_
        obtain ⟨v65, hv, he⟩ := ob he
        refine aw_gA C fk_X5_62 dX5_look_65 hv ?_
        refine aw_iload C dX5_look_68 (j := 5) rfl ?_
        obtain ⟨v70, hv, he⟩ := ob he
        refine aw_iald C dX5_look_70 hv ?_
        refine aw_isub C dX5_look_71 ?_
        refine aw_mmax C q_629 q_549 q_78 q_550 (Nat.le_of_ble_eq_true rfl) (Nat.le_of_ble_eq_true rfl) (Nat.le_of_ble_eq_true rfl) (Nat.le_of_ble_eq_true rfl) dX5_look_72 ?_
        refine aw_istore C dX5_look_75 (by decide) rfl (lv' := [(0, .inr l0), (1, .inl l1), (2, .inl l2), (3, .inl l3), (4, .inl l4), (5, .inl l5), (6, .inl (jmax v62 (l2 - v70)))]) rfl ?_
        refine aw_iload C dX5_look_77 (j := 6) rfl ?_
        refine aw_iload_n C dX5_look_79 rfl (j := 3) rfl ?_
        refine aw_ic_ge (tgt := 90) C dX5_look_80 (by decide) (fun hc => ?_) (fun hc => ?_)
        · have he := ift hc he
          refine aw_iinc (y := 1) C dX5_look_90 (by decide) (j := 5) rfl (by decide) rfl (lv' := [(0, .inr l0), (1, .inl l1), (2, .inl l2), (3, .inl l3), (4, .inl l4), (5, .inl (l5 + 1)), (6, .inl (jmax v62 (l2 - v70)))]) rfl ?_
          refine aw_goto (tgt := 33) C dX5_look_93 (by decide) ?_
          refine aw_sub [0, 1, 2, 3, 4, 5] (lv' := [(0, .inr l0), (1, .inl l1), (2, .inl l2), (3, .inl l3), (4, .inl l4), (5, .inl (l5 + 1))]) rfl ?_
          exact ih _ _ _ _ _ _ _ he
        · have he := iff_ hc he
          refine aw_iload C dX5_look_83 (j := 6) rfl ?_
          refine aw_istore_n C dX5_look_85 rfl (by decide) rfl (lv' := [(0, .inr l0), (1, .inl l1), (2, .inl l2), (3, .inl (jmax v62 (l2 - v70))), (4, .inl l4), (5, .inl l5), (6, .inl (jmax v62 (l2 - v70)))]) rfl ?_
          refine aw_iload C dX5_look_86 (j := 5) rfl ?_
          refine aw_istore C dX5_look_88 (by decide) rfl (lv' := [(0, .inr l0), (1, .inl l1), (2, .inl l2), (3, .inl (jmax v62 (l2 - v70))), (4, .inl l5), (5, .inl l5), (6, .inl (jmax v62 (l2 - v70)))]) rfl ?_
          refine aw_iinc (y := 1) C dX5_look_90 (by decide) (j := 5) rfl (by decide) rfl (lv' := [(0, .inr l0), (1, .inl l1), (2, .inl l2), (3, .inl (jmax v62 (l2 - v70))), (4, .inl l5), (5, .inl (l5 + 1)), (6, .inl (jmax v62 (l2 - v70)))]) rfl ?_
          refine aw_goto (tgt := 33) C dX5_look_93 (by decide) ?_
          refine aw_sub [0, 1, 2, 3, 4, 5] (lv' := [(0, .inr l0), (1, .inl l1), (2, .inl l2), (3, .inl (jmax v62 (l2 - v70))), (4, .inl l5), (5, .inl (l5 + 1))]) rfl ?_
          exact ih _ _ _ _ _ _ _ he
set_option maxHeartbeats 4000000 in
set_option maxRecDepth 100000 in
theorem wX5_look {Γ : GG} (C : CX Γ cX5_look 7 RX5 5 0 0) {N : Nat} {sz : Nat} {out : Int32 × Hp} (X : RX Γ (some .int) (some (.int out.1)) out.2 sz 0 0) {h : Hp} {l0 : Option Nat} {l1 : Int32} (he : fX5_look N h l0 l1 = some out) : AW Γ 7 h sz 0 0 0 [(0, .inr l0), (1, .inl l1)] [] := by
  unfold fX5_look at he
  refine aw_aload_n C dX5_look_0 rfl (j := 0) rfl ?_
  obtain ⟨v1, hv, he⟩ := ob he
  refine aw_gA C fk_X5_26 dX5_look_1 hv ?_
  refine aw_iload_n C dX5_look_4 rfl (j := 1) rfl ?_
  obtain ⟨hO, he⟩ := ifs he
  obtain ⟨v5, hv, he⟩ := ob he
  refine aw_callV (ci := 0) C mb_X5_99 ⟨q_354, q_355, rfl⟩ hO (cX0_hasRing_ _ _ _ _ hv) dX5_look_5 rfl (rest := []) rfl (cat_le _ (Nat.le_of_ble_eq_true rfl)) (Nat.le_of_ble_eq_true rfl) (Nat.le_of_ble_eq_true rfl) (Nat.le_of_ble_eq_true rfl) (st2 := [.int v5]) rfl ?_
  refine aw_if_ne (tgt := 13) C dX5_look_8 (by decide) (fun hc => ?_) (fun hc => ?_)
  · have he := ift hc he
    refine aw_iconst (v := -1) C dX5_look_11 (by decide) ?_
    have he := Option.some.inj he
    subst he
    exact aw_iret C X dX5_look_12 (by decide) (by decide)
  · have he := iff_ hc he
    refine aw_aload_n C dX5_look_13 rfl (j := 0) rfl ?_
    refine aw_iload_n C dX5_look_14 rfl (j := 1) rfl ?_
    obtain ⟨hO, he⟩ := ifs he
    obtain ⟨v15, hv, he⟩ := ob he
    refine aw_callV (ci := 5) C mb_X5_247 ⟨q_669, q_25, rfl⟩ hO (cX5_guesses_ _ _ _ _ hv) dX5_look_15 rfl (rest := []) rfl (cat_le _ (Nat.le_of_ble_eq_true rfl)) (Nat.le_of_ble_eq_true rfl) (Nat.le_of_ble_eq_true rfl) (Nat.le_of_ble_eq_true rfl) (st2 := [.int v15]) rfl ?_
    refine aw_istore_n C dX5_look_18 rfl (by decide) rfl (lv' := [(0, .inr l0), (1, .inl l1), (2, .inl v15)]) rfl ?_
    refine aw_aload_n C dX5_look_19 rfl (j := 0) rfl ?_
    refine aw_iload_n C dX5_look_20 rfl (j := 1) rfl ?_
    obtain ⟨hO, he⟩ := ifs he
    obtain ⟨z21, hv, he⟩ := ob he
    refine aw_callV (ci := 5) C mb_X5_253 ⟨q_694, q_27, rfl⟩ hO (cX5_noteGuessesByTooth_ _ _ _ _ hv) dX5_look_21 rfl (rest := []) rfl (cat_le _ (Nat.le_of_ble_eq_true rfl)) (Nat.le_of_ble_eq_true rfl) (Nat.le_of_ble_eq_true rfl) (Nat.le_of_ble_eq_true rfl) (st2 := []) rfl ?_
    refine aw_iload_n C dX5_look_24 rfl (j := 2) rfl ?_
    refine aw_istore_n C dX5_look_25 rfl (by decide) rfl (lv' := [(0, .inr l0), (1, .inl l1), (2, .inl v15), (3, .inl v15)]) rfl ?_
    refine aw_bipush (v := -9) C dX5_look_26 (by decide) ?_
    refine aw_istore C dX5_look_28 (by decide) rfl (lv' := [(0, .inr l0), (1, .inl l1), (2, .inl v15), (3, .inl v15), (4, .inl (-9 : Int32))]) rfl ?_
    refine aw_iconst (v := 0) C dX5_look_30 (by decide) ?_
    refine aw_istore C dX5_look_31 (by decide) rfl (lv' := [(0, .inr l0), (1, .inl l1), (2, .inl v15), (3, .inl v15), (4, .inl (-9 : Int32)), (5, .inl (0 : Int32))]) rfl ?_
    refine wX5_look_L33 C ?_ N _ _ _ _ _ _ _ he
    intro h l4 he
    refine aw_iload C dX5_look_96 (j := 0) rfl ?_
    have he := Option.some.inj he
    subst he
    exact aw_iret C X dX5_look_98 (by decide) (by decide)
theorem cX5_look_ (l : Launch) (D : va_G) (dA : Nat → ClassId) (base : Nat) {N : Nat} {h : Hp} {sz : Nat} {l0 : Option Nat} {l1 : Int32} {out : Int32 × Hp} (he : fX5_look N h l0 l1 = some out) : AM l D dA base yX5_look cX5_look 7 (some .int) 5 0 0 [.inr l0, .inl l1] h sz (some (.int out.1)) out.2 sz :=
  AM.of (by decide +kernel) (Nat.le_of_ble_eq_true rfl) rfl (fun Γ C X hn => wX5_look C X he)
set_option maxHeartbeats 4000000 in
set_option maxRecDepth 100000 in
theorem wX6_look_L14 {Γ : GG} (C : CX Γ cX6_look 7 RX6 3 0 0) {N : Nat} {sz : Nat} {α : Type} {out : α} {K37 : Hp → Option Nat → Int32 → Int32 → Option α} (k37 : ∀ (h : Hp) (l0 : Option Nat) (l1 : Int32) (l2 : Int32), K37 h l0 l1 l2 = some out → AW Γ 7 h sz 0 0 37 [(0, .inr l0), (1, .inl l1), (2, .inl l2)] []) : ∀ (n : Nat) (h : Hp) (l0 : Option Nat) (l1 : Int32) (l2 : Int32) (l3 : Int32), fX6_look_L14 N K37 n h l0 l1 l2 l3 = some out → AW Γ 7 h sz 0 0 14 [(0, .inr l0), (1, .inl l1), (2, .inl l2), (3, .inl l3)] [] := by
  intro n
  induction n with
  | zero =>
    intro h l0 l1 l2 l3 he
    rw [fX6_look_L14] at he
    cases he
  | succ n ih =>
    intro h l0 l1 l2 l3 he
    rw [fX6_look_L14] at he
    refine aw_iload_n C dX6_look_14 rfl (j := 3) rfl ?_
    refine aw_aload_n C dX6_look_15 rfl (j := 0) rfl ?_
    obtain ⟨v16, hv, he⟩ := ob he
    refine aw_gA C fk_X6_7 dX6_look_16 hv ?_
    refine aw_iload_n C dX6_look_19 rfl (j := 1) rfl ?_
    obtain ⟨v20, hv, he⟩ := ob he
    refine aw_iald C dX6_look_20 hv ?_
    refine aw_ic_ge (tgt := 37) C dX6_look_21 (by decide) (fun hc => ?_) (fun hc => ?_)
    · have he := ift hc he
      refine aw_sub [0, 1, 2] (lv' := [(0, .inr l0), (1, .inl l1), (2, .inl l2)]) rfl ?_
      exact k37 _ _ _ _ he
    · have he := iff_ hc he
      refine aw_aload_n C dX6_look_24 rfl (j := 0) rfl ?_
      obtain ⟨v25, hv, he⟩ := ob he
      refine aw_gA C fk_X6_52 dX6_look_25 hv ?_
      refine aw_iload_n C dX6_look_28 rfl (j := 3) rfl ?_
      refine aw_iconst (v := 0) C dX6_look_29 (by decide) ?_
      obtain ⟨h30, hv, he⟩ := ob he
      refine aw_iast C dX6_look_30 hv ?_
      refine aw_iinc (y := 1) C dX6_look_31 (by decide) (j := 3) rfl (by decide) rfl (lv' := [(0, .inr l0), (1, .inl l1), (2, .inl l2), (3, .inl (l3 + 1))]) rfl ?_
      refine aw_goto (tgt := 14) C dX6_look_34 (by decide) ?_
      exact ih _ _ _ _ _ he
set_option maxHeartbeats 4000000 in
set_option maxRecDepth 100000 in
theorem wX6_look_L95 {Γ : GG} (C : CX Γ cX6_look 7 RX6 3 0 0) {N : Nat} {sz : Nat} {α : Type} {out : α} {K131 : Hp → Option Nat → Int32 → Int32 → Int32 → Int32 → Option α} (k131 : ∀ (h : Hp) (l0 : Option Nat) (l1 : Int32) (l2 : Int32) (l3 : Int32) (l4 : Int32), K131 h l0 l1 l2 l3 l4 = some out → AW Γ 7 h sz 0 0 131 [(0, .inr l0), (1, .inl l1), (2, .inl l2), (3, .inl l3), (4, .inl l4)] []) : ∀ (n : Nat) (h : Hp) (l0 : Option Nat) (l1 : Int32) (l2 : Int32) (l3 : Int32) (l4 : Int32) (l5 : Int32), fX6_look_L95 N K131 n h l0 l1 l2 l3 l4 l5 = some out → AW Γ 7 h sz 0 0 95 [(0, .inr l0), (1, .inl l1), (2, .inl l2), (3, .inl l3), (4, .inl l4), (5, .inl l5)] [] := by
  intro n
  induction n with
  | zero =>
    intro h l0 l1 l2 l3 l4 l5 he
    rw [fX6_look_L95] at he
    cases he
  | succ n ih =>
    intro h l0 l1 l2 l3 l4 l5 he
    rw [fX6_look_L95] at he
    refine aw_iload C dX6_look_95 (j := 5) rfl ?_
    refine aw_aload_n C dX6_look_97 rfl (j := 0) rfl ?_
    obtain ⟨v98, hv, he⟩ := ob he
    refine aw_gA C fk_X6_7 dX6_look_98 hv ?_
    refine aw_iload_n C dX6_look_101 rfl (j := 1) rfl ?_
    obtain ⟨v102, hv, he⟩ := ob he
    refine aw_iald C dX6_look_102 hv ?_
    refine aw_ic_ge (tgt := 131) C dX6_look_103 (by decide) (fun hc => ?_) (fun hc => ?_)
    · have he := ift hc he
      refine aw_sub [0, 1, 2, 3, 4] (lv' := [(0, .inr l0), (1, .inl l1), (2, .inl l2), (3, .inl l3), (4, .inl l4)]) rfl ?_
      exact k131 _ _ _ _ _ _ he
    · have he := iff_ hc he
      refine aw_aload_n C dX6_look_106 rfl (j := 0) rfl ?_
      obtain ⟨v107, hv, he⟩ := ob he
      refine aw_gA C fk_X6_52 dX6_look_107 hv ?_
      refine aw_iload C dX6_look_110 (j := 5) rfl ?_
      refine aw_dup2 C dX6_look_112 rfl (rf_cat _) ?_
      obtain ⟨v113, hv, he⟩ := ob he
      refine aw_iald C dX6_look_113 hv ?_
      refine aw_iconst (v := 1) C dX6_look_114 (by decide) ?_
      refine aw_iadd C dX6_look_115 ?_
      obtain ⟨h116, hv, he⟩ := ob he
      refine aw_iast C dX6_look_116 hv ?_
      refine aw_iload C dX6_look_117 (j := 5) rfl ?_
      refine aw_aload_n C dX6_look_119 rfl (j := 0) rfl ?_
      refine aw_iload_n C dX6_look_120 rfl (j := 1) rfl ?_
      refine aw_iload_n C dX6_look_121 rfl (j := 3) rfl ?_
      obtain ⟨hO, he⟩ := ifs he
      obtain ⟨v122, hv, he⟩ := ob he
      refine aw_callV (ci := 6) C mb_X6_133 ⟨q_942, q_47, rfl⟩ hO (cX6_commonOf_ _ _ _ _ hv) dX6_look_122 rfl (rest := [.int l5]) rfl (cat_le _ (Nat.le_of_ble_eq_true rfl)) (Nat.le_of_ble_eq_true rfl) (Nat.le_of_ble_eq_true rfl) (Nat.le_of_ble_eq_true rfl) (st2 := [.int v122, .int l5]) rfl ?_
      refine aw_iadd C dX6_look_125 ?_
      refine aw_istore C dX6_look_126 (by decide) rfl (lv' := [(0, .inr l0), (1, .inl l1), (2, .inl l2), (3, .inl l3), (4, .inl l4), (5, .inl (l5 + v122))]) rfl ?_
      refine aw_goto (tgt := 95) C dX6_look_128 (by decide) ?_
      exact ih _ _ _ _ _ _ _ he
set_option maxHeartbeats 4000000 in
set_option maxRecDepth 100000 in
theorem wX6_look_L50 {Γ : GG} (C : CX Γ cX6_look 7 RX6 3 0 0) {N : Nat} {sz : Nat} {α : Type} {out : α} {K137 : Hp → Option Nat → Int32 → Int32 → Int32 → Option α} (k137 : ∀ (h : Hp) (l0 : Option Nat) (l1 : Int32) (l2 : Int32) (l3 : Int32), K137 h l0 l1 l2 l3 = some out → AW Γ 7 h sz 0 0 137 [(0, .inr l0), (1, .inl l1), (2, .inl l2), (3, .inl l3)] []) : ∀ (n : Nat) (h : Hp) (l0 : Option Nat) (l1 : Int32) (l2 : Int32) (l3 : Int32) (l4 : Int32), fX6_look_L50 N K137 n h l0 l1 l2 l3 l4 = some out → AW Γ 7 h sz 0 0 50 [(0, .inr l0), (1, .inl l1), (2, .inl l2), (3, .inl l3), (4, .inl l4)] [] := by
  intro n
  induction n with
  | zero =>
    intro h l0 l1 l2 l3 l4 he
    rw [fX6_look_L50] at he
    cases he
  | succ n ih =>
    intro h l0 l1 l2 l3 l4 he
    rw [fX6_look_L50] at he
    refine aw_iload C dX6_look_50 (j := 4) rfl ?_
    refine aw_aload_n C dX6_look_52 rfl (j := 0) rfl ?_
    obtain ⟨v53, hv, he⟩ := ob he
    refine aw_gA C fk_X6_7 dX6_look_53 hv ?_
    refine aw_iload_n C dX6_look_56 rfl (j := 1) rfl ?_
    obtain ⟨v57, hv, he⟩ := ob he
    refine aw_iald C dX6_look_57 hv ?_
    refine aw_ic_ge (tgt := 137) C dX6_look_58 (by decide) (fun hc => ?_) (fun hc => ?_)
    · have he := ift hc he
      refine aw_sub [0, 1, 2, 3] (lv' := [(0, .inr l0), (1, .inl l1), (2, .inl l2), (3, .inl l3)]) rfl ?_
      exact k137 _ _ _ _ _ he
    · have he := iff_ hc he
      refine aw_aload_n C dX6_look_61 rfl (j := 0) rfl ?_
      refine aw_iload_n C dX6_look_62 rfl (j := 1) rfl ?_
      refine aw_iload_n C dX6_look_63 rfl (j := 3) rfl ?_
      obtain ⟨hO, he⟩ := ifs he
      obtain ⟨v64, hv, he⟩ := ob he
      refine aw_callV (ci := 6) C mb_X6_146 ⟨q_934, q_45, rfl⟩ hO (cX6_fits_ _ _ _ _ hv) dX6_look_64 rfl (rest := []) rfl (cat_le _ (Nat.le_of_ble_eq_true rfl)) (Nat.le_of_ble_eq_true rfl) (Nat.le_of_ble_eq_true rfl) (Nat.le_of_ble_eq_true rfl) (st2 := [.int v64]) rfl ?_
      refine aw_if_eq (tgt := 131) C dX6_look_67 (by decide) (fun hc => ?_) (fun hc => ?_)
      · have he := ift hc he
        refine aw_iinc (y := 1) C dX6_look_131 (by decide) (j := 4) rfl (by decide) rfl (lv' := [(0, .inr l0), (1, .inl l1), (2, .inl l2), (3, .inl l3), (4, .inl (l4 + 1))]) rfl ?_
        refine aw_goto (tgt := 50) C dX6_look_134 (by decide) ?_
        exact ih _ _ _ _ _ _ he
      · have he := iff_ hc he
        refine aw_aload_n C dX6_look_70 rfl (j := 0) rfl ?_
        refine aw_iload_n C dX6_look_71 rfl (j := 1) rfl ?_
        refine aw_iload_n C dX6_look_72 rfl (j := 3) rfl ?_
        refine aw_iload C dX6_look_73 (j := 4) rfl ?_
        obtain ⟨hO, he⟩ := ifs he
        obtain ⟨v75, hv, he⟩ := ob he
        refine aw_callV (ci := 6) C mb_X6_217 ⟨q_1101, q_68, rfl⟩ hO (cX6_isSo_ _ _ _ _ hv) dX6_look_75 rfl (rest := []) rfl (cat_le _ (Nat.le_of_ble_eq_true rfl)) (Nat.le_of_ble_eq_true rfl) (Nat.le_of_ble_eq_true rfl) (Nat.le_of_ble_eq_true rfl) (st2 := [.int v75]) rfl ?_
        refine aw_if_eq (tgt := 131) C dX6_look_78 (by decide) (fun hc => ?_) (fun hc => ?_)
        · have he := ift hc he
          refine aw_iinc (y := 1) C dX6_look_131 (by decide) (j := 4) rfl (by decide) rfl (lv' := [(0, .inr l0), (1, .inl l1), (2, .inl l2), (3, .inl l3), (4, .inl (l4 + 1))]) rfl ?_
          refine aw_goto (tgt := 50) C dX6_look_134 (by decide) ?_
          exact ih _ _ _ _ _ _ he
        · have he := iff_ hc he
          refine aw_iinc (y := 1) C dX6_look_81 (by decide) (j := 2) rfl (by decide) rfl (lv' := [(0, .inr l0), (1, .inl l1), (2, .inl (l2 + 1)), (3, .inl l3), (4, .inl l4)]) rfl ?_
          refine aw_iload C dX6_look_84 (j := 4) rfl ?_
          refine aw_aload_n C dX6_look_86 rfl (j := 0) rfl ?_
          refine aw_iload_n C dX6_look_87 rfl (j := 1) rfl ?_
          refine aw_iload_n C dX6_look_88 rfl (j := 3) rfl ?_
          obtain ⟨hO, he⟩ := ifs he
          obtain ⟨v89, hv, he⟩ := ob he
          refine aw_callV (ci := 6) C mb_X6_133 ⟨q_942, q_47, rfl⟩ hO (cX6_commonOf_ _ _ _ _ hv) dX6_look_89 rfl (rest := [.int l4]) rfl (cat_le _ (Nat.le_of_ble_eq_true rfl)) (Nat.le_of_ble_eq_true rfl) (Nat.le_of_ble_eq_true rfl) (Nat.le_of_ble_eq_true rfl) (st2 := [.int v89, .int l4]) rfl ?_
          obtain ⟨hy, he⟩ := ifn he
          refine aw_irem C dX6_look_92 hy ?_
          refine aw_istore C dX6_look_93 (by decide) rfl (lv' := [(0, .inr l0), (1, .inl l1), (2, .inl (l2 + 1)), (3, .inl l3), (4, .inl l4), (5, .inl (jrem l4 v89))]) rfl ?_
          refine wX6_look_L95 C ?_ N _ _ _ _ _ _ _ he
          intro h l0 l1 l2 l3 l4 he
          refine aw_iinc (y := 1) C dX6_look_131 (by decide) (j := 4) rfl (by decide) rfl (lv' := [(0, .inr l0), (1, .inl l1), (2, .inl l2), (3, .inl l3), (4, .inl (l4 + 1))]) rfl ?_
          refine aw_goto (tgt := 50) C dX6_look_134 (by decide) ?_
          exact ih _ _ _ _ _ _ he
set_option maxHeartbeats 4000000 in
set_option maxRecDepth 100000 in
theorem wX6_look_L39 {Γ : GG} (C : CX Γ cX6_look 7 RX6 3 0 0) {N : Nat} {sz : Nat} {α : Type} {out : α} {K143 : Hp → Option Nat → Int32 → Int32 → Option α} (k143 : ∀ (h : Hp) (l0 : Option Nat) (l1 : Int32) (l2 : Int32), K143 h l0 l1 l2 = some out → AW Γ 7 h sz 0 0 143 [(0, .inr l0), (1, .inl l1), (2, .inl l2)] []) : ∀ (n : Nat) (h : Hp) (l0 : Option Nat) (l1 : Int32) (l2 : Int32) (l3 : Int32), fX6_look_L39 N K143 n h l0 l1 l2 l3 = some out → AW Γ 7 h sz 0 0 39 [(0, .inr l0), (1, .inl l1), (2, .inl l2), (3, .inl l3)] [] := by
  intro n
  induction n with
  | zero =>
    intro h l0 l1 l2 l3 he
    rw [fX6_look_L39] at he
    cases he
  | succ n ih =>
    intro h l0 l1 l2 l3 he
    rw [fX6_look_L39] at he
    refine aw_iload_n C dX6_look_39 rfl (j := 3) rfl ?_
    refine aw_aload_n C dX6_look_40 rfl (j := 0) rfl ?_
    obtain ⟨v41, hv, he⟩ := ob he
    refine aw_gI C fk_X6_66 dX6_look_41 hv ?_
    refine aw_ic_ge (tgt := 143) C dX6_look_44 (by decide) (fun hc => ?_) (fun hc => ?_)
    · have he := ift hc he
      refine aw_sub [0, 1, 2] (lv' := [(0, .inr l0), (1, .inl l1), (2, .inl l2)]) rfl ?_
      exact k143 _ _ _ _ he
    · have he := iff_ hc he
      refine aw_iconst (v := 0) C dX6_look_47 (by decide) ?_
      refine aw_istore C dX6_look_48 (by decide) rfl (lv' := [(0, .inr l0), (1, .inl l1), (2, .inl l2), (3, .inl l3), (4, .inl (0 : Int32))]) rfl ?_
      refine wX6_look_L50 C ?_ N _ _ _ _ _ _ he
      intro h l0 l1 l2 l3 he
      refine aw_iinc (y := 1) C dX6_look_137 (by decide) (j := 3) rfl (by decide) rfl (lv' := [(0, .inr l0), (1, .inl l1), (2, .inl l2), (3, .inl (l3 + 1))]) rfl ?_
      refine aw_goto (tgt := 39) C dX6_look_140 (by decide) ?_
      exact ih _ _ _ _ _ he
set_option maxHeartbeats 4000000 in
set_option maxRecDepth 100000 in
theorem wX6_look_j216 {Γ : GG} (C : CX Γ cX6_look 7 RX6 3 0 0) {N : Nat} {sz : Nat} {α : Type} {out : α} {K152 : Hp → Option Nat → Int32 → Int32 → Int32 → Int32 → Int32 → Option α} (k152 : ∀ (h : Hp) (l0 : Option Nat) (l1 : Int32) (l2 : Int32) (l3 : Int32) (l4 : Int32) (l5 : Int32), K152 h l0 l1 l2 l3 l4 l5 = some out → AW Γ 7 h sz 0 0 152 [(0, .inr l0), (1, .inl l1), (2, .inl l2), (3, .inl l3), (4, .inl l4), (5, .inl l5)] []) {h : Hp} {l0 : Option Nat} {l1 : Int32} {l2 : Int32} {l4 : Int32} {l5 : Int32} {l6 : Int32} {s0 : Int32} (he : fX6_look_j216 N K152 h l0 l1 l2 l4 l5 l6 s0 = some out) : AW Γ 7 h sz 0 0 216 [(0, .inr l0), (1, .inl l1), (2, .inl l2), (4, .inl l4), (5, .inl l5), (6, .inl l6)] [.int s0] := by
  unfold fX6_look_j216 at he
  refine aw_istore_n C dX6_look_216 rfl (by decide) rfl (lv' := [(0, .inr l0), (1, .inl l1), (2, .inl l2), (3, .inl s0), (4, .inl l4), (5, .inl l5), (6, .inl l6)]) rfl ?_
  refine aw_iload C dX6_look_217 (j := 6) rfl ?_
  refine aw_iload C dX6_look_219 (j := 4) rfl ?_
  refine aw_ic_ge (tgt := 229) C dX6_look_221 (by decide) (fun hc => ?_) (fun hc => ?_)
  · have he := ift hc he
    refine aw_iload C dX6_look_229 (j := 4) rfl ?_
    refine aw_istore C dX6_look_231 (by decide) rfl (lv' := [(0, .inr l0), (1, .inl l1), (2, .inl l2), (3, .inl s0), (4, .inl l4), (5, .inl l5), (6, .inl l6)]) rfl ?_
    refine aw_iinc (y := 1) C dX6_look_233 (by decide) (j := 5) rfl (by decide) rfl (lv' := [(0, .inr l0), (1, .inl l1), (2, .inl l2), (3, .inl s0), (4, .inl l4), (5, .inl (l5 + 1)), (6, .inl l6)]) rfl ?_
    refine aw_goto (tgt := 152) C dX6_look_236 (by decide) ?_
    refine aw_sub [0, 1, 2, 3, 4, 5] (lv' := [(0, .inr l0), (1, .inl l1), (2, .inl l2), (3, .inl s0), (4, .inl l4), (5, .inl (l5 + 1))]) rfl ?_
    exact k152 _ _ _ _ _ _ _ he
  · have he := iff_ hc he
    refine aw_iload C dX6_look_224 (j := 6) rfl ?_
    refine aw_goto (tgt := 231) C dX6_look_226 (by decide) ?_
    refine aw_istore C dX6_look_231 (by decide) rfl (lv' := [(0, .inr l0), (1, .inl l1), (2, .inl l2), (3, .inl s0), (4, .inl l6), (5, .inl l5), (6, .inl l6)]) rfl ?_
    refine aw_iinc (y := 1) C dX6_look_233 (by decide) (j := 5) rfl (by decide) rfl (lv' := [(0, .inr l0), (1, .inl l1), (2, .inl l2), (3, .inl s0), (4, .inl l6), (5, .inl (l5 + 1)), (6, .inl l6)]) rfl ?_
    refine aw_goto (tgt := 152) C dX6_look_236 (by decide) ?_
    refine aw_sub [0, 1, 2, 3, 4, 5] (lv' := [(0, .inr l0), (1, .inl l1), (2, .inl l2), (3, .inl s0), (4, .inl l6), (5, .inl (l5 + 1))]) rfl ?_
    exact k152 _ _ _ _ _ _ _ he
set_option maxHeartbeats 4000000 in
set_option maxRecDepth 100000 in
theorem wX6_look_j201 {Γ : GG} (C : CX Γ cX6_look 7 RX6 3 0 0) {N : Nat} {sz : Nat} {α : Type} {out : α} {K152 : Hp → Option Nat → Int32 → Int32 → Int32 → Int32 → Int32 → Option α} (k152 : ∀ (h : Hp) (l0 : Option Nat) (l1 : Int32) (l2 : Int32) (l3 : Int32) (l4 : Int32) (l5 : Int32), K152 h l0 l1 l2 l3 l4 l5 = some out → AW Γ 7 h sz 0 0 152 [(0, .inr l0), (1, .inl l1), (2, .inl l2), (3, .inl l3), (4, .inl l4), (5, .inl l5)] []) {h : Hp} {l0 : Option Nat} {l1 : Int32} {l2 : Int32} {l3 : Int32} {l4 : Int32} {l5 : Int32} {s0 : Int32} (he : fX6_look_j201 N K152 h l0 l1 l2 l3 l4 l5 s0 = some out) : AW Γ 7 h sz 0 0 201 [(0, .inr l0), (1, .inl l1), (2, .inl l2), (3, .inl l3), (4, .inl l4), (5, .inl l5)] [.int s0] := by
  unfold fX6_look_j201 at he
  refine aw_istore C dX6_look_201 (by decide) rfl (lv' := [(0, .inr l0), (1, .inl l1), (2, .inl l2), (3, .inl l3), (4, .inl l4), (5, .inl l5), (6, .inl s0)]) rfl ?_
  refine aw_iload C dX6_look_203 (j := 6) rfl ?_
  refine aw_iload C dX6_look_205 (j := 4) rfl ?_
  refine aw_ic_ge (tgt := 215) C dX6_look_207 (by decide) (fun hc => ?_) (fun hc => ?_)
  · have he := ift hc he
    refine aw_iload_n C dX6_look_215 rfl (j := 3) rfl ?_
    refine aw_sub [0, 1, 2, 4, 5, 6] (lv' := [(0, .inr l0), (1, .inl l1), (2, .inl l2), (4, .inl l4), (5, .inl l5), (6, .inl s0)]) rfl ?_
    exact wX6_look_j216 C k152 he
  · have he := iff_ hc he
    refine aw_iload C dX6_look_210 (j := 5) rfl ?_
    refine aw_goto (tgt := 216) C dX6_look_212 (by decide) ?_
    refine aw_sub [0, 1, 2, 4, 5, 6] (lv' := [(0, .inr l0), (1, .inl l1), (2, .inl l2), (4, .inl l4), (5, .inl l5), (6, .inl s0)]) rfl ?_
    exact wX6_look_j216 C k152 he
set_option maxHeartbeats 4000000 in
set_option maxRecDepth 100000 in
theorem wX6_look_L152 {Γ : GG} (C : CX Γ cX6_look 7 RX6 3 0 0) {N : Nat} {sz : Nat} {α : Type} {out : α} {K239 : Hp → Int32 → Option α} (k239 : ∀ (h : Hp) (l3 : Int32), K239 h l3 = some out → AW Γ 7 h sz 0 0 239 [(3, .inl l3)] []) : ∀ (n : Nat) (h : Hp) (l0 : Option Nat) (l1 : Int32) (l2 : Int32) (l3 : Int32) (l4 : Int32) (l5 : Int32), fX6_look_L152 N K239 n h l0 l1 l2 l3 l4 l5 = some out → AW Γ 7 h sz 0 0 152 [(0, .inr l0), (1, .inl l1), (2, .inl l2), (3, .inl l3), (4, .inl l4), (5, .inl l5)] [] := by
  intro n
  induction n with
  | zero =>
    intro h l0 l1 l2 l3 l4 l5 he
    rw [fX6_look_L152] at he
    cases he
  | succ n ih =>
    intro h l0 l1 l2 l3 l4 l5 he
    rw [fX6_look_L152] at he
    refine aw_iload C dX6_look_152 (j := 5) rfl ?_
    refine aw_aload_n C dX6_look_154 rfl (j := 0) rfl ?_
    obtain ⟨v155, hv, he⟩ := ob he
    refine aw_gA C fk_X6_7 dX6_look_155 hv ?_
    refine aw_iload_n C dX6_look_158 rfl (j := 1) rfl ?_
    obtain ⟨v159, hv, he⟩ := ob he
    refine aw_iald C dX6_look_159 hv ?_
    refine aw_ic_ge (tgt := 239) C dX6_look_160 (by decide) (fun hc => ?_) (fun hc => ?_)
    · have he := ift hc he
      refine aw_sub [3] (lv' := [(3, .inl l3)]) rfl ?_
      exact k239 _ _ he
    · have he := iff_ hc he
      refine aw_aload_n C dX6_look_163 rfl (j := 0) rfl ?_
      obtain ⟨v164, hv, he⟩ := ob he
      refine aw_gA C fk_X6_52 dX6_look_164 hv ?_
      refine aw_iload C dX6_look_167 (j := 5) rfl ?_
      obtain ⟨v169, hv, he⟩ := ob he
      refine aw_iald C dX6_look_169 hv ?_
      refine aw_iload_n C dX6_look_170 rfl (j := 2) rfl ?_
      refine aw_aload_n C dX6_look_171 rfl (j := 0) rfl ?_
      obtain ⟨v172, hv, he⟩ := ob he
      refine aw_gA C fk_X6_52 dX6_look_172 hv ?_
      refine aw_iload C dX6_look_175 (j := 5) rfl ?_
      obtain ⟨v177, hv, he⟩ := ob he
      refine aw_iald C dX6_look_177 hv ?_
      refine aw_isub C dX6_look_178 ?_
      refine aw_ic_le (tgt := 192) C dX6_look_179 (by decide) (fun hc => ?_) (fun hc => ?_)
      · have he := ift hc he
        refine aw_iload_n C dX6_look_192 rfl (j := 2) rfl ?_
        refine aw_aload_n C dX6_look_193 rfl (j := 0) rfl ?_
        obtain ⟨v194, hv, he⟩ := ob he
        refine aw_gA C fk_X6_52 dX6_look_194 hv ?_
        refine aw_iload C dX6_look_197 (j := 5) rfl ?_
        obtain ⟨v199, hv, he⟩ := ob he
        refine aw_iald C dX6_look_199 hv ?_
        refine aw_isub C dX6_look_200 ?_
        exact wX6_look_j201 C ih he
      · have he := iff_ hc he
        refine aw_aload_n C dX6_look_182 rfl (j := 0) rfl ?_
        obtain ⟨v183, hv, he⟩ := ob he
        refine aw_gA C fk_X6_52 dX6_look_183 hv ?_
        refine aw_iload C dX6_look_186 (j := 5) rfl ?_
        obtain ⟨v188, hv, he⟩ := ob he
        refine aw_iald C dX6_look_188 hv ?_
        refine aw_goto (tgt := 201) C dX6_look_189 (by decide) ?_
        exact wX6_look_j201 C ih he
set_option maxHeartbeats 4000000 in
set_option maxRecDepth 100000 in
theorem wX6_look {Γ : GG} (C : CX Γ cX6_look 7 RX6 3 0 0) {N : Nat} {sz : Nat} {out : Int32 × Hp} (X : RX Γ (some .int) (some (.int out.1)) out.2 sz 0 0) {h : Hp} {l0 : Option Nat} {l1 : Int32} (he : fX6_look N h l0 l1 = some out) : AW Γ 7 h sz 0 0 0 [(0, .inr l0), (1, .inl l1)] [] := by
  unfold fX6_look at he
  refine aw_aload_n C dX6_look_0 rfl (j := 0) rfl ?_
  refine aw_iload_n C dX6_look_1 rfl (j := 1) rfl ?_
  obtain ⟨hO, he⟩ := ifs he
  obtain ⟨v2, hv, he⟩ := ob he
  refine aw_callV (ci := 6) C mb_X6_139 ⟨q_922, q_43, rfl⟩ hO (cX6_isRing_ _ _ _ _ hv) dX6_look_2 rfl (rest := []) rfl (cat_le _ (Nat.le_of_ble_eq_true rfl)) (Nat.le_of_ble_eq_true rfl) (Nat.le_of_ble_eq_true rfl) (Nat.le_of_ble_eq_true rfl) (st2 := [.int v2]) rfl ?_
  refine aw_if_ne (tgt := 10) C dX6_look_5 (by decide) (fun hc => ?_) (fun hc => ?_)
  · have he := ift hc he
    refine aw_iconst (v := -1) C dX6_look_8 (by decide) ?_
    have he := Option.some.inj he
    subst he
    exact aw_iret C X dX6_look_9 (by decide) (by decide)
  · have he := iff_ hc he
    refine aw_iconst (v := 0) C dX6_look_10 (by decide) ?_
    refine aw_istore_n C dX6_look_11 rfl (by decide) rfl (lv' := [(0, .inr l0), (1, .inl l1), (2, .inl (0 : Int32))]) rfl ?_
    refine aw_iconst (v := 0) C dX6_look_12 (by decide) ?_
    refine aw_istore_n C dX6_look_13 rfl (by decide) rfl (lv' := [(0, .inr l0), (1, .inl l1), (2, .inl (0 : Int32)), (3, .inl (0 : Int32))]) rfl ?_
    refine wX6_look_L14 C ?_ N _ _ _ _ _ he
    intro h l0 l1 l2 he
    refine aw_iconst (v := 0) C dX6_look_37 (by decide) ?_
    refine aw_istore_n C dX6_look_38 rfl (by decide) rfl (lv' := [(0, .inr l0), (1, .inl l1), (2, .inl l2), (3, .inl (0 : Int32))]) rfl ?_
    refine wX6_look_L39 C ?_ N _ _ _ _ _ he
    intro h l0 l1 l2 he
    refine aw_bipush (v := -9) C dX6_look_143 (by decide) ?_
    refine aw_istore_n C dX6_look_145 rfl (by decide) rfl (lv' := [(0, .inr l0), (1, .inl l1), (2, .inl l2), (3, .inl (-9 : Int32))]) rfl ?_
    refine aw_iload_n C dX6_look_146 rfl (j := 2) rfl ?_
    refine aw_istore C dX6_look_147 (by decide) rfl (lv' := [(0, .inr l0), (1, .inl l1), (2, .inl l2), (3, .inl (-9 : Int32)), (4, .inl l2)]) rfl ?_
    refine aw_iconst (v := 0) C dX6_look_149 (by decide) ?_
    refine aw_istore C dX6_look_150 (by decide) rfl (lv' := [(0, .inr l0), (1, .inl l1), (2, .inl l2), (3, .inl (-9 : Int32)), (4, .inl l2), (5, .inl (0 : Int32))]) rfl ?_
    refine wX6_look_L152 C ?_ N _ _ _ _ _ _ _ he
    intro h l3 he
    refine aw_iload_n C dX6_look_239 rfl (j := 0) rfl ?_
    have he := Option.some.inj he
    subst he
    exact aw_iret C X dX6_look_240 (by decide) (by decide)
theorem cX6_look_ (l : Launch) (D : va_G) (dA : Nat → ClassId) (base : Nat) {N : Nat} {h : Hp} {sz : Nat} {l0 : Option Nat} {l1 : Int32} {out : Int32 × Hp} (he : fX6_look N h l0 l1 = some out) : AM l D dA base yX6_look cX6_look 7 (some .int) 3 0 0 [.inr l0, .inl l1] h sz (some (.int out.1)) out.2 sz :=
  AM.of (by decide +kernel) (Nat.le_of_ble_eq_true rfl) rfl (fun Γ C X hn => wX6_look C X he)
set_option maxHeartbeats 4000000 in
set_option maxRecDepth 100000 in
theorem wX5_markOfCurve {Γ : GG} (C : CX Γ cX5_markOfCurve 2 RX5 0 0 0) {N : Nat} {sz : Nat} {out : Int32 × Hp} (X : RX Γ (some .int) (some (.int out.1)) out.2 sz 0 0) {h : Hp} {l0 : Option Nat} {l1 : Option Nat} (he : fX5_markOfCurve N h l0 l1 = some out) : AW Γ 2 h sz 0 0 0 [(0, .inr l0), (1, .inr l1)] [] := by
  unfold fX5_markOfCurve at he
  refine aw_aload_n C dX5_markOfCurve_0 rfl (j := 0) rfl ?_
  refine aw_dup C dX5_markOfCurve_1 (rf_cat _) ?_
  obtain ⟨v2, hv, he⟩ := ob he
  refine aw_gJ C fk_X5_54 dX5_markOfCurve_2 hv ?_
  refine aw_lconst (v := 1) C dX5_markOfCurve_5 (by decide) ?_
  refine aw_ladd C dX5_markOfCurve_6 ?_
  obtain ⟨h7, hv, he⟩ := ob he
  refine aw_put C fk_X5_54 dX5_markOfCurve_7 rfl rfl hv ?_
  refine aw_aload_n C dX5_markOfCurve_10 rfl (j := 1) rfl ?_
  obtain ⟨v11, hv, he⟩ := ob he
  refine aw_gI C fk_X5_228 dX5_markOfCurve_11 hv ?_
  have he := Option.some.inj he
  subst he
  exact aw_iret C X dX5_markOfCurve_14 (by decide) (by decide)
theorem cX5_markOfCurve_ (l : Launch) (D : va_G) (dA : Nat → ClassId) (base : Nat) {N : Nat} {h : Hp} {sz : Nat} {l0 : Option Nat} {l1 : Option Nat} {out : Int32 × Hp} (he : fX5_markOfCurve N h l0 l1 = some out) : AM l D dA base yX5_markOfCurve cX5_markOfCurve 2 (some .int) 0 0 0 [.inr l0, .inr l1] h sz (some (.int out.1)) out.2 sz :=
  AM.of (by decide +kernel) (Nat.le_of_ble_eq_true rfl) rfl (fun Γ C X hn => wX5_markOfCurve C X he)
set_option maxHeartbeats 4000000 in
set_option maxRecDepth 100000 in
theorem wX5_markOfRose {Γ : GG} (C : CX Γ cX5_markOfRose 2 RX5 1 0 0) {N : Nat} {sz : Nat} {out : Int32 × Hp} (X : RX Γ (some .int) (some (.int out.1)) out.2 sz 0 0) {h : Hp} {l0 : Option Nat} {l1 : Option Nat} (he : fX5_markOfRose N h l0 l1 = some out) : AW Γ 2 h sz 0 0 0 [(0, .inr l0), (1, .inr l1)] [] := by
  unfold fX5_markOfRose at he
  refine aw_aload_n C dX5_markOfRose_0 rfl (j := 0) rfl ?_
  refine aw_dup C dX5_markOfRose_1 (rf_cat _) ?_
  obtain ⟨v2, hv, he⟩ := ob he
  refine aw_gJ C fk_X5_54 dX5_markOfRose_2 hv ?_
  refine aw_ldc2 (v := 10) C dX5_markOfRose_5 q_714 ?_
  refine aw_ladd C dX5_markOfRose_8 ?_
  obtain ⟨h9, hv, he⟩ := ob he
  refine aw_put C fk_X5_54 dX5_markOfRose_9 rfl rfl hv ?_
  refine aw_aload_n C dX5_markOfRose_12 rfl (j := 0) rfl ?_
  refine aw_aload_n C dX5_markOfRose_13 rfl (j := 1) rfl ?_
  obtain ⟨hO, he⟩ := ifs he
  obtain ⟨z14, hv, he⟩ := ob he
  refine aw_callV (ci := 5) C mb_X5_258 ⟨q_708, q_29, rfl⟩ hO (cX5_markOfCurve_ _ _ _ _ hv) dX5_markOfRose_14 rfl (rest := []) rfl (cat_le _ (Nat.le_of_ble_eq_true rfl)) (Nat.le_of_ble_eq_true rfl) (Nat.le_of_ble_eq_true rfl) (Nat.le_of_ble_eq_true rfl) (st2 := [.int z14.1]) rfl ?_
  refine aw_aload_n C dX5_markOfRose_17 rfl (j := 1) rfl ?_
  obtain ⟨v18, hv, he⟩ := ob he
  refine aw_gI C fk_X5_145 dX5_markOfRose_18 hv ?_
  refine aw_iadd C dX5_markOfRose_21 ?_
  have he := Option.some.inj he
  subst he
  exact aw_iret C X dX5_markOfRose_22 (by decide) (by decide)
theorem cX5_markOfRose_ (l : Launch) (D : va_G) (dA : Nat → ClassId) (base : Nat) {N : Nat} {h : Hp} {sz : Nat} {l0 : Option Nat} {l1 : Option Nat} {out : Int32 × Hp} (he : fX5_markOfRose N h l0 l1 = some out) : AM l D dA base yX5_markOfRose cX5_markOfRose 2 (some .int) 1 0 0 [.inr l0, .inr l1] h sz (some (.int out.1)) out.2 sz :=
  AM.of (by decide +kernel) (Nat.le_of_ble_eq_true rfl) rfl (fun Γ C X hn => wX5_markOfRose C X he)
set_option maxHeartbeats 4000000 in
set_option maxRecDepth 100000 in
theorem wX5_markOfWeb {Γ : GG} (C : CX Γ cX5_markOfWeb 2 RX5 1 0 0) {N : Nat} {sz : Nat} {out : Int32 × Hp} (X : RX Γ (some .int) (some (.int out.1)) out.2 sz 0 0) {h : Hp} {l0 : Option Nat} {l1 : Option Nat} (he : fX5_markOfWeb N h l0 l1 = some out) : AW Γ 2 h sz 0 0 0 [(0, .inr l0), (1, .inr l1)] [] := by
  unfold fX5_markOfWeb at he
  refine aw_aload_n C dX5_markOfWeb_0 rfl (j := 0) rfl ?_
  refine aw_dup C dX5_markOfWeb_1 (rf_cat _) ?_
  obtain ⟨v2, hv, he⟩ := ob he
  refine aw_gJ C fk_X5_54 dX5_markOfWeb_2 hv ?_
  refine aw_ldc2 (v := 100) C dX5_markOfWeb_5 q_719 ?_
  refine aw_ladd C dX5_markOfWeb_8 ?_
  obtain ⟨h9, hv, he⟩ := ob he
  refine aw_put C fk_X5_54 dX5_markOfWeb_9 rfl rfl hv ?_
  refine aw_aload_n C dX5_markOfWeb_12 rfl (j := 0) rfl ?_
  refine aw_aload_n C dX5_markOfWeb_13 rfl (j := 1) rfl ?_
  obtain ⟨hO, he⟩ := ifs he
  obtain ⟨z14, hv, he⟩ := ob he
  refine aw_callV (ci := 5) C mb_X5_258 ⟨q_708, q_29, rfl⟩ hO (cX5_markOfCurve_ _ _ _ _ hv) dX5_markOfWeb_14 rfl (rest := []) rfl (cat_le _ (Nat.le_of_ble_eq_true rfl)) (Nat.le_of_ble_eq_true rfl) (Nat.le_of_ble_eq_true rfl) (Nat.le_of_ble_eq_true rfl) (st2 := [.int z14.1]) rfl ?_
  refine aw_aload_n C dX5_markOfWeb_17 rfl (j := 1) rfl ?_
  obtain ⟨v18, hv, he⟩ := ob he
  refine aw_gI C fk_X5_355 dX5_markOfWeb_18 hv ?_
  refine aw_isub C dX5_markOfWeb_21 ?_
  have he := Option.some.inj he
  subst he
  exact aw_iret C X dX5_markOfWeb_22 (by decide) (by decide)
theorem cX5_markOfWeb_ (l : Launch) (D : va_G) (dA : Nat → ClassId) (base : Nat) {N : Nat} {h : Hp} {sz : Nat} {l0 : Option Nat} {l1 : Option Nat} {out : Int32 × Hp} (he : fX5_markOfWeb N h l0 l1 = some out) : AM l D dA base yX5_markOfWeb cX5_markOfWeb 2 (some .int) 1 0 0 [.inr l0, .inr l1] h sz (some (.int out.1)) out.2 sz :=
  AM.of (by decide +kernel) (Nat.le_of_ble_eq_true rfl) rfl (fun Γ C X hn => wX5_markOfWeb C X he)
