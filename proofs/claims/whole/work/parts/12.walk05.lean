set_option maxHeartbeats 4000000 in
set_option maxRecDepth 100000 in
theorem wX5_markOfBouquet {Γ : GG} (C : CX Γ cX5_markOfBouquet 2 RX5 2 0 0) {N : Nat} {sz : Nat} {out : Int32 × Hp} (X : RX Γ (some .int) (some (.int out.1)) out.2 sz 0 0) {h : Hp} {l0 : Option Nat} {l1 : Option Nat} (he : fX5_markOfBouquet N h l0 l1 = some out) : AW Γ 2 h sz 0 0 0 [(0, .inr l0), (1, .inr l1)] [] := by
  unfold fX5_markOfBouquet at he
  refine aw_aload_n C dX5_markOfBouquet_0 rfl (j := 0) rfl ?_
  refine aw_dup C dX5_markOfBouquet_1 (rf_cat _) ?_
  obtain ⟨v2, hv, he⟩ := ob he
  refine aw_gJ C fk_X5_54 dX5_markOfBouquet_2 hv ?_
  refine aw_ldc2 (v := 1000) C dX5_markOfBouquet_5 q_724 ?_
  refine aw_ladd C dX5_markOfBouquet_8 ?_
  obtain ⟨h9, hv, he⟩ := ob he
  refine aw_put C fk_X5_54 dX5_markOfBouquet_9 rfl rfl hv ?_
  refine aw_aload_n C dX5_markOfBouquet_12 rfl (j := 0) rfl ?_
  refine aw_aload_n C dX5_markOfBouquet_13 rfl (j := 1) rfl ?_
  obtain ⟨hO, he⟩ := ifs he
  obtain ⟨z14, hv, he⟩ := ob he
  refine aw_callV (ci := 5) C mb_X5_262 ⟨q_712, q_30, rfl⟩ hO (cX5_markOfRose_ _ _ _ _ hv) dX5_markOfBouquet_14 rfl (rest := []) rfl (cat_le _ (Nat.le_of_ble_eq_true rfl)) (Nat.le_of_ble_eq_true rfl) (Nat.le_of_ble_eq_true rfl) (Nat.le_of_ble_eq_true rfl) (st2 := [.int z14.1]) rfl ?_
  refine aw_iconst (v := 2) C dX5_markOfBouquet_17 (by decide) ?_
  refine aw_imul C dX5_markOfBouquet_18 ?_
  have he := Option.some.inj he
  subst he
  exact aw_iret C X dX5_markOfBouquet_19 (by decide) (by decide)
theorem cX5_markOfBouquet_ (l : Launch) (D : va_G) (dA : Nat → ClassId) (base : Nat) {N : Nat} {h : Hp} {sz : Nat} {l0 : Option Nat} {l1 : Option Nat} {out : Int32 × Hp} (he : fX5_markOfBouquet N h l0 l1 = some out) : AM l D dA base yX5_markOfBouquet cX5_markOfBouquet 2 (some .int) 2 0 0 [.inr l0, .inr l1] h sz (some (.int out.1)) out.2 sz :=
  AM.of (by decide +kernel) (Nat.le_of_ble_eq_true rfl) rfl (fun Γ C X hn => wX5_markOfBouquet C X he)
set_option maxHeartbeats 4000000 in
set_option maxRecDepth 100000 in
theorem wX5_markOfLace {Γ : GG} (C : CX Γ cX5_markOfLace 3 RX5 2 0 0) {N : Nat} {sz : Nat} {out : Int32 × Hp} (X : RX Γ (some .int) (some (.int out.1)) out.2 sz 0 0) {h : Hp} {l0 : Option Nat} {l1 : Option Nat} {l2 : Int32} (he : fX5_markOfLace N h l0 l1 l2 = some out) : AW Γ 3 h sz 0 0 0 [(0, .inr l0), (1, .inr l1), (2, .inl l2)] [] := by
  unfold fX5_markOfLace at he
  refine aw_aload_n C dX5_markOfLace_0 rfl (j := 0) rfl ?_
  refine aw_dup C dX5_markOfLace_1 (rf_cat _) ?_
  obtain ⟨v2, hv, he⟩ := ob he
  refine aw_gJ C fk_X5_54 dX5_markOfLace_2 hv ?_
  refine aw_ldc2 (v := 10000) C dX5_markOfLace_5 q_729 ?_
  refine aw_ladd C dX5_markOfLace_8 ?_
  obtain ⟨h9, hv, he⟩ := ob he
  refine aw_put C fk_X5_54 dX5_markOfLace_9 rfl rfl hv ?_
  refine aw_aload_n C dX5_markOfLace_12 rfl (j := 0) rfl ?_
  refine aw_aload_n C dX5_markOfLace_13 rfl (j := 1) rfl ?_
  obtain ⟨hO, he⟩ := ifs he
  obtain ⟨z14, hv, he⟩ := ob he
  refine aw_callV (ci := 5) C mb_X5_265 ⟨q_717, q_31, rfl⟩ hO (cX5_markOfWeb_ _ _ _ _ hv) dX5_markOfLace_14 rfl (rest := []) rfl (cat_le _ (Nat.le_of_ble_eq_true rfl)) (Nat.le_of_ble_eq_true rfl) (Nat.le_of_ble_eq_true rfl) (Nat.le_of_ble_eq_true rfl) (st2 := [.int z14.1]) rfl ?_
  refine aw_iload_n C dX5_markOfLace_17 rfl (j := 2) rfl ?_
  refine aw_iadd C dX5_markOfLace_18 ?_
  have he := Option.some.inj he
  subst he
  exact aw_iret C X dX5_markOfLace_19 (by decide) (by decide)
theorem cX5_markOfLace_ (l : Launch) (D : va_G) (dA : Nat → ClassId) (base : Nat) {N : Nat} {h : Hp} {sz : Nat} {l0 : Option Nat} {l1 : Option Nat} {l2 : Int32} {out : Int32 × Hp} (he : fX5_markOfLace N h l0 l1 l2 = some out) : AM l D dA base yX5_markOfLace cX5_markOfLace 3 (some .int) 2 0 0 [.inr l0, .inr l1, .inl l2] h sz (some (.int out.1)) out.2 sz :=
  AM.of (by decide +kernel) (Nat.le_of_ble_eq_true rfl) rfl (fun Γ C X hn => wX5_markOfLace C X he)
set_option maxHeartbeats 4000000 in
set_option maxRecDepth 100000 in
theorem wX5_markOfStar {Γ : GG} (C : CX Γ cX5_markOfStar 2 RX5 1 0 0) {N : Nat} {sz : Nat} {out : Int32 × Hp} (X : RX Γ (some .int) (some (.int out.1)) out.2 sz 0 0) {h : Hp} {l0 : Option Nat} {l1 : Option Nat} (he : fX5_markOfStar N h l0 l1 = some out) : AW Γ 2 h sz 0 0 0 [(0, .inr l0), (1, .inr l1)] [] := by
  unfold fX5_markOfStar at he
  refine aw_aload_n C dX5_markOfStar_0 rfl (j := 0) rfl ?_
  refine aw_dup C dX5_markOfStar_1 (rf_cat _) ?_
  obtain ⟨v2, hv, he⟩ := ob he
  refine aw_gJ C fk_X5_54 dX5_markOfStar_2 hv ?_
  refine aw_ldc2 (v := 100000) C dX5_markOfStar_5 q_734 ?_
  refine aw_ladd C dX5_markOfStar_8 ?_
  obtain ⟨h9, hv, he⟩ := ob he
  refine aw_put C fk_X5_54 dX5_markOfStar_9 rfl rfl hv ?_
  refine aw_aload_n C dX5_markOfStar_12 rfl (j := 0) rfl ?_
  refine aw_aload_n C dX5_markOfStar_13 rfl (j := 1) rfl ?_
  obtain ⟨hO, he⟩ := ifs he
  obtain ⟨z14, hv, he⟩ := ob he
  refine aw_callV (ci := 5) C mb_X5_258 ⟨q_708, q_29, rfl⟩ hO (cX5_markOfCurve_ _ _ _ _ hv) dX5_markOfStar_14 rfl (rest := []) rfl (cat_le _ (Nat.le_of_ble_eq_true rfl)) (Nat.le_of_ble_eq_true rfl) (Nat.le_of_ble_eq_true rfl) (Nat.le_of_ble_eq_true rfl) (st2 := [.int z14.1]) rfl ?_
  refine aw_aload_n C dX5_markOfStar_17 rfl (j := 1) rfl ?_
  obtain ⟨v18, hv, he⟩ := ob he
  refine aw_gI C fk_X5_148 dX5_markOfStar_18 hv ?_
  refine aw_iadd C dX5_markOfStar_21 ?_
  have he := Option.some.inj he
  subst he
  exact aw_iret C X dX5_markOfStar_22 (by decide) (by decide)
theorem cX5_markOfStar_ (l : Launch) (D : va_G) (dA : Nat → ClassId) (base : Nat) {N : Nat} {h : Hp} {sz : Nat} {l0 : Option Nat} {l1 : Option Nat} {out : Int32 × Hp} (he : fX5_markOfStar N h l0 l1 = some out) : AM l D dA base yX5_markOfStar cX5_markOfStar 2 (some .int) 1 0 0 [.inr l0, .inr l1] h sz (some (.int out.1)) out.2 sz :=
  AM.of (by decide +kernel) (Nat.le_of_ble_eq_true rfl) rfl (fun Γ C X hn => wX5_markOfStar C X he)
set_option maxHeartbeats 4000000 in
set_option maxRecDepth 100000 in
theorem wX5_mark {Γ : GG} (C : CX Γ cX5_mark 4 RX5 3 0 0) {N : Nat} {sz : Nat} {out : Int32 × Hp} (X : RX Γ (some .int) (some (.int out.1)) out.2 sz 0 0) {h : Hp} {l0 : Option Nat} {l1 : Int32} {l2 : Int32} (he : fX5_mark N h l0 l1 l2 = some out) : AW Γ 4 h sz 0 0 0 [(0, .inr l0), (1, .inl l1), (2, .inl l2)] [] := by
  unfold fX5_mark at he
  refine aw_aload_n C dX5_mark_0 rfl (j := 0) rfl ?_
  obtain ⟨v1, hv, he⟩ := ob he
  refine aw_gA C fk_X5_37 dX5_mark_1 hv ?_
  refine aw_iload_n C dX5_mark_4 rfl (j := 2) rfl ?_
  obtain ⟨hO, he⟩ := ifs he
  obtain ⟨v5, hv, he⟩ := ob he
  refine aw_callV (ci := 2) C mb_X5_135 ⟨q_425, q_426, rfl⟩ hO (cX2_curveAt_ _ _ _ _ hv) dX5_mark_5 rfl (rest := []) rfl (cat_le _ (Nat.le_of_ble_eq_true rfl)) (Nat.le_of_ble_eq_true rfl) (Nat.le_of_ble_eq_true rfl) (Nat.le_of_ble_eq_true rfl) (st2 := [va_rf v5]) rfl ?_
  refine aw_astore_n C dX5_mark_8 rfl (by decide) rfl (lv' := [(0, .inr l0), (1, .inl l1), (2, .inl l2), (3, .inr v5)]) rfl ?_
  refine aw_aload_n C dX5_mark_9 rfl (j := 3) rfl ?_
  refine aw_ifnonnull (tgt := 17) C dX5_mark_10 (by decide) (fun hc => ?_) (fun hc => ?_)
  · have he := ift hc he
    refine aw_ldcw (v := -1000000) C dX5_mark_13 q_705 ?_
    have he := Option.some.inj he
    subst he
    exact aw_iret C X dX5_mark_16 (by decide) (by decide)
  · have he := iff_ hc he
    refine aw_iload_n C dX5_mark_17 rfl (j := 1) rfl ?_
    by_cases c0 : l1 = 0
    · have he := ift c0 he
      refine aw_tsIn (v := 0) (off := 38) (tgt := 56) C dX5_mark_18 c0 (by decide) (by decide) (by decide) (by decide) ?_
      refine aw_aload_n C dX5_mark_56 rfl (j := 0) rfl ?_
      refine aw_aload_n C dX5_mark_57 rfl (j := 3) rfl ?_
      obtain ⟨hO, he⟩ := ifs he
      obtain ⟨z58, hv, he⟩ := ob he
      refine aw_callV (ci := 5) C mb_X5_258 ⟨q_708, q_29, rfl⟩ hO (cX5_markOfCurve_ _ _ _ _ hv) dX5_mark_58 rfl (rest := []) rfl (cat_le _ (Nat.le_of_ble_eq_true rfl)) (Nat.le_of_ble_eq_true rfl) (Nat.le_of_ble_eq_true rfl) (Nat.le_of_ble_eq_true rfl) (st2 := [.int z58.1]) rfl ?_
      have he := Option.some.inj he
      subst he
      exact aw_iret C X dX5_mark_61 (by decide) (by decide)
    have he := iff_ c0 he
    by_cases c1 : l1 = 1
    · have he := ift c1 he
      refine aw_tsIn (v := 1) (off := 44) (tgt := 62) C dX5_mark_18 c1 (by decide) (by decide) (by decide) (by decide) ?_
      refine aw_aload_n C dX5_mark_62 rfl (j := 0) rfl ?_
      refine aw_aload_n C dX5_mark_63 rfl (j := 3) rfl ?_
      obtain ⟨hO, he⟩ := ifs he
      obtain ⟨z64, hv, he⟩ := ob he
      refine aw_callV (ci := 5) C mb_X5_262 ⟨q_712, q_30, rfl⟩ hO (cX5_markOfRose_ _ _ _ _ hv) dX5_mark_64 rfl (rest := []) rfl (cat_le _ (Nat.le_of_ble_eq_true rfl)) (Nat.le_of_ble_eq_true rfl) (Nat.le_of_ble_eq_true rfl) (Nat.le_of_ble_eq_true rfl) (st2 := [.int z64.1]) rfl ?_
      have he := Option.some.inj he
      subst he
      exact aw_iret C X dX5_mark_67 (by decide) (by decide)
    have he := iff_ c1 he
    by_cases c2 : l1 = 2
    · have he := ift c2 he
      refine aw_tsIn (v := 2) (off := 50) (tgt := 68) C dX5_mark_18 c2 (by decide) (by decide) (by decide) (by decide) ?_
      refine aw_aload_n C dX5_mark_68 rfl (j := 0) rfl ?_
      refine aw_aload_n C dX5_mark_69 rfl (j := 3) rfl ?_
      obtain ⟨hO, he⟩ := ifs he
      obtain ⟨z70, hv, he⟩ := ob he
      refine aw_callV (ci := 5) C mb_X5_265 ⟨q_717, q_31, rfl⟩ hO (cX5_markOfWeb_ _ _ _ _ hv) dX5_mark_70 rfl (rest := []) rfl (cat_le _ (Nat.le_of_ble_eq_true rfl)) (Nat.le_of_ble_eq_true rfl) (Nat.le_of_ble_eq_true rfl) (Nat.le_of_ble_eq_true rfl) (st2 := [.int z70.1]) rfl ?_
      have he := Option.some.inj he
      subst he
      exact aw_iret C X dX5_mark_73 (by decide) (by decide)
    have he := iff_ c2 he
    by_cases c3 : l1 = 3
    · have he := ift c3 he
      refine aw_tsIn (v := 3) (off := 56) (tgt := 74) C dX5_mark_18 c3 (by decide) (by decide) (by decide) (by decide) ?_
      refine aw_aload_n C dX5_mark_74 rfl (j := 0) rfl ?_
      refine aw_aload_n C dX5_mark_75 rfl (j := 3) rfl ?_
      obtain ⟨hO, he⟩ := ifs he
      obtain ⟨z76, hv, he⟩ := ob he
      refine aw_callV (ci := 5) C mb_X5_268 ⟨q_722, q_32, rfl⟩ hO (cX5_markOfBouquet_ _ _ _ _ hv) dX5_mark_76 rfl (rest := []) rfl (cat_le _ (Nat.le_of_ble_eq_true rfl)) (Nat.le_of_ble_eq_true rfl) (Nat.le_of_ble_eq_true rfl) (Nat.le_of_ble_eq_true rfl) (st2 := [.int z76.1]) rfl ?_
      have he := Option.some.inj he
      subst he
      exact aw_iret C X dX5_mark_79 (by decide) (by decide)
    have he := iff_ c3 he
    by_cases c4 : l1 = 4
    · have he := ift c4 he
      refine aw_tsIn (v := 4) (off := 62) (tgt := 80) C dX5_mark_18 c4 (by decide) (by decide) (by decide) (by decide) ?_
      refine aw_aload_n C dX5_mark_80 rfl (j := 0) rfl ?_
      refine aw_aload_n C dX5_mark_81 rfl (j := 3) rfl ?_
      refine aw_iload_n C dX5_mark_82 rfl (j := 2) rfl ?_
      obtain ⟨hO, he⟩ := ifs he
      obtain ⟨z83, hv, he⟩ := ob he
      refine aw_callV (ci := 5) C mb_X5_271 ⟨q_727, q_33, rfl⟩ hO (cX5_markOfLace_ _ _ _ _ hv) dX5_mark_83 rfl (rest := []) rfl (cat_le _ (Nat.le_of_ble_eq_true rfl)) (Nat.le_of_ble_eq_true rfl) (Nat.le_of_ble_eq_true rfl) (Nat.le_of_ble_eq_true rfl) (st2 := [.int z83.1]) rfl ?_
      have he := Option.some.inj he
      subst he
      exact aw_iret C X dX5_mark_86 (by decide) (by decide)
    have he := iff_ c4 he
    by_cases c5 : l1 = 5
    · have he := ift c5 he
      refine aw_tsIn (v := 5) (off := 69) (tgt := 87) C dX5_mark_18 c5 (by decide) (by decide) (by decide) (by decide) ?_
      refine aw_aload_n C dX5_mark_87 rfl (j := 0) rfl ?_
      refine aw_aload_n C dX5_mark_88 rfl (j := 3) rfl ?_
      obtain ⟨hO, he⟩ := ifs he
      obtain ⟨z89, hv, he⟩ := ob he
      refine aw_callV (ci := 5) C mb_X5_275 ⟨q_732, q_34, rfl⟩ hO (cX5_markOfStar_ _ _ _ _ hv) dX5_mark_89 rfl (rest := []) rfl (cat_le _ (Nat.le_of_ble_eq_true rfl)) (Nat.le_of_ble_eq_true rfl) (Nat.le_of_ble_eq_true rfl) (Nat.le_of_ble_eq_true rfl) (st2 := [.int z89.1]) rfl ?_
      have he := Option.some.inj he
      subst he
      exact aw_iret C X dX5_mark_92 (by decide) (by decide)
    have he := iff_ c5 he
    refine aw_tsOut (tgt := 93) C dX5_mark_18 (by have e0 := lv_neT c0 (by decide : (0 : Int32).toInt = 0); have e1 := lv_neT c1 (by decide : (1 : Int32).toInt = 1); have e2 := lv_neT c2 (by decide : (2 : Int32).toInt = 2); have e3 := lv_neT c3 (by decide : (3 : Int32).toInt = 3); have e4 := lv_neT c4 (by decide : (4 : Int32).toInt = 4); have e5 := lv_neT c5 (by decide : (5 : Int32).toInt = 5);  omega) (by decide) ?_
    refine aw_ldcw (v := -1000000) C dX5_mark_93 q_705 ?_
    have he := Option.some.inj he
    subst he
    exact aw_iret C X dX5_mark_96 (by decide) (by decide)
theorem cX5_mark_ (l : Launch) (D : va_G) (dA : Nat → ClassId) (base : Nat) {N : Nat} {h : Hp} {sz : Nat} {l0 : Option Nat} {l1 : Int32} {l2 : Int32} {out : Int32 × Hp} (he : fX5_mark N h l0 l1 l2 = some out) : AM l D dA base yX5_mark cX5_mark 4 (some .int) 3 0 0 [.inr l0, .inl l1, .inl l2] h sz (some (.int out.1)) out.2 sz :=
  AM.of (by decide +kernel) (Nat.le_of_ble_eq_true rfl) rfl (fun Γ C X hn => wX5_mark C X he)
set_option maxHeartbeats 4000000 in
set_option maxRecDepth 100000 in
theorem wX6_marked_j161 {Γ : GG} (C : CX Γ cX6_marked 5 RX6 3 0 0) {N : Nat} {sz : Nat} {out : Int32 × Hp} (X : RX Γ (some .int) (some (.int out.1)) out.2 sz 0 0) {h : Hp} {l0 : Option Nat} {l1 : Int32} {l3 : Int32} {l4 : Int32} (he : fX6_marked_j161 N h l0 l1 l3 l4 = some out) : AW Γ 5 h sz 0 0 161 [(0, .inr l0), (1, .inl l1), (3, .inl l3), (4, .inl l4)] [] := by
  unfold fX6_marked_j161 at he
  refine aw_iload_n C dX6_marked_161 rfl (j := 1) rfl ?_
  refine aw_iconst (v := 5) C dX6_marked_162 (by decide) ?_
  refine aw_ic_ne (tgt := 191) C dX6_marked_163 (by decide) (fun hc => ?_) (fun hc => ?_)
  · have he := ift hc he
    refine aw_iload C dX6_marked_166 (j := 3) rfl ?_
    refine aw_aload_n C dX6_marked_168 rfl (j := 0) rfl ?_
    obtain ⟨v169, hv, he⟩ := ob he
    refine aw_gA C fk_X6_19 dX6_marked_169 hv ?_
    refine aw_iload_n C dX6_marked_172 rfl (j := 2) rfl ?_
    refine aw_iconst (v := 3) C dX6_marked_173 (by decide) ?_
    refine aw_iadd C dX6_marked_174 ?_
    obtain ⟨v175, hv, he⟩ := ob he
    refine aw_iald C dX6_marked_175 hv ?_
    refine aw_iadd C dX6_marked_176 ?_
    refine aw_istore C dX6_marked_177 (by decide) rfl (lv' := [(0, .inr l0), (1, .inl l1), (3, .inl l3), (4, .inl (l4 + v175))]) rfl ?_
    refine aw_aload_n C dX6_marked_179 rfl (j := 0) rfl ?_
    refine aw_dup C dX6_marked_180 (rf_cat _) ?_
    obtain ⟨v181, hv, he⟩ := ob he
    refine aw_gJ C fk_X6_220 dX6_marked_181 hv ?_
    refine aw_ldc2 (v := 100000) C dX6_marked_184 q_1119 ?_
    refine aw_ladd C dX6_marked_187 ?_
    obtain ⟨h188, hv, he⟩ := ob he
    refine aw_put C fk_X6_220 dX6_marked_188 rfl rfl hv ?_
    refine aw_iload C dX6_marked_191 (j := 3) rfl ?_
    have he := Option.some.inj he
    subst he
    exact aw_iret C X dX6_marked_193 (by decide) (by decide)
  · have he := iff_ hc he
    refine aw_iload C dX6_marked_191 (j := 3) rfl ?_
    have he := Option.some.inj he
    subst he
    exact aw_iret C X dX6_marked_193 (by decide) (by decide)
set_option maxHeartbeats 4000000 in
set_option maxRecDepth 100000 in
theorem wX6_marked_j138 {Γ : GG} (C : CX Γ cX6_marked 5 RX6 3 0 0) {N : Nat} {sz : Nat} {out : Int32 × Hp} (X : RX Γ (some .int) (some (.int out.1)) out.2 sz 0 0) {h : Hp} {l0 : Option Nat} {l1 : Int32} {l2 : Int32} {l3 : Int32} {l4 : Int32} (he : fX6_marked_j138 N h l0 l1 l2 l3 l4 = some out) : AW Γ 5 h sz 0 0 138 [(0, .inr l0), (1, .inl l1), (2, .inl l2), (3, .inl l3), (4, .inl l4)] [] := by
  unfold fX6_marked_j138 at he
  refine aw_iload_n C dX6_marked_138 rfl (j := 1) rfl ?_
  refine aw_iconst (v := 4) C dX6_marked_139 (by decide) ?_
  refine aw_ic_ne (tgt := 161) C dX6_marked_140 (by decide) (fun hc => ?_) (fun hc => ?_)
  · have he := ift hc he
    refine aw_iload C dX6_marked_143 (j := 4) rfl ?_
    refine aw_iload_n C dX6_marked_145 rfl (j := 2) rfl ?_
    refine aw_iadd C dX6_marked_146 ?_
    refine aw_istore C dX6_marked_147 (by decide) rfl (lv' := [(0, .inr l0), (1, .inl l1), (2, .inl l2), (3, .inl l3), (4, .inl (l4 + l2))]) rfl ?_
    refine aw_aload_n C dX6_marked_149 rfl (j := 0) rfl ?_
    refine aw_dup C dX6_marked_150 (rf_cat _) ?_
    obtain ⟨v151, hv, he⟩ := ob he
    refine aw_gJ C fk_X6_220 dX6_marked_151 hv ?_
    refine aw_ldc2 (v := 10000) C dX6_marked_154 q_1118 ?_
    refine aw_ladd C dX6_marked_157 ?_
    obtain ⟨h158, hv, he⟩ := ob he
    refine aw_put C fk_X6_220 dX6_marked_158 rfl rfl hv ?_
    refine aw_sub [0, 1, 3, 4] (lv' := [(0, .inr l0), (1, .inl l1), (3, .inl l3), (4, .inl (l4 + l2))]) rfl ?_
    exact wX6_marked_j161 C X he
  · have he := iff_ hc he
    refine aw_sub [0, 1, 3, 4] (lv' := [(0, .inr l0), (1, .inl l1), (3, .inl l3), (4, .inl l4)]) rfl ?_
    exact wX6_marked_j161 C X he
set_option maxHeartbeats 4000000 in
set_option maxRecDepth 100000 in
theorem wX6_marked_j115 {Γ : GG} (C : CX Γ cX6_marked 5 RX6 3 0 0) {N : Nat} {sz : Nat} {out : Int32 × Hp} (X : RX Γ (some .int) (some (.int out.1)) out.2 sz 0 0) {h : Hp} {l0 : Option Nat} {l1 : Int32} {l2 : Int32} {l3 : Int32} {l4 : Int32} (he : fX6_marked_j115 N h l0 l1 l2 l3 l4 = some out) : AW Γ 5 h sz 0 0 115 [(0, .inr l0), (1, .inl l1), (2, .inl l2), (3, .inl l3), (4, .inl l4)] [] := by
  unfold fX6_marked_j115 at he
  refine aw_iload_n C dX6_marked_115 rfl (j := 1) rfl ?_
  refine aw_iconst (v := 3) C dX6_marked_116 (by decide) ?_
  refine aw_ic_ne (tgt := 138) C dX6_marked_117 (by decide) (fun hc => ?_) (fun hc => ?_)
  · have he := ift hc he
    refine aw_iload C dX6_marked_120 (j := 4) rfl ?_
    refine aw_iconst (v := 2) C dX6_marked_122 (by decide) ?_
    refine aw_imul C dX6_marked_123 ?_
    refine aw_istore C dX6_marked_124 (by decide) rfl (lv' := [(0, .inr l0), (1, .inl l1), (2, .inl l2), (3, .inl l3), (4, .inl (l4 * (2 : Int32)))]) rfl ?_
    refine aw_aload_n C dX6_marked_126 rfl (j := 0) rfl ?_
    refine aw_dup C dX6_marked_127 (rf_cat _) ?_
    obtain ⟨v128, hv, he⟩ := ob he
    refine aw_gJ C fk_X6_220 dX6_marked_128 hv ?_
    refine aw_ldc2 (v := 1000) C dX6_marked_131 q_1117 ?_
    refine aw_ladd C dX6_marked_134 ?_
    obtain ⟨h135, hv, he⟩ := ob he
    refine aw_put C fk_X6_220 dX6_marked_135 rfl rfl hv ?_
    exact wX6_marked_j138 C X he
  · have he := iff_ hc he
    exact wX6_marked_j138 C X he
set_option maxHeartbeats 4000000 in
set_option maxRecDepth 100000 in
theorem wX6_marked_j80 {Γ : GG} (C : CX Γ cX6_marked 5 RX6 3 0 0) {N : Nat} {sz : Nat} {out : Int32 × Hp} (X : RX Γ (some .int) (some (.int out.1)) out.2 sz 0 0) {h : Hp} {l0 : Option Nat} {l1 : Int32} {l2 : Int32} {l3 : Int32} {l4 : Int32} (he : fX6_marked_j80 N h l0 l1 l2 l3 l4 = some out) : AW Γ 5 h sz 0 0 80 [(0, .inr l0), (1, .inl l1), (2, .inl l2), (3, .inl l3), (4, .inl l4)] [] := by
  unfold fX6_marked_j80 at he
  refine aw_iload C dX6_marked_80 (j := 4) rfl ?_
  refine aw_aload_n C dX6_marked_82 rfl (j := 0) rfl ?_
  refine aw_aload_n C dX6_marked_83 rfl (j := 0) rfl ?_
  obtain ⟨v84, hv, he⟩ := ob he
  refine aw_gA C fk_X6_19 dX6_marked_84 hv ?_
  refine aw_iload_n C dX6_marked_87 rfl (j := 3) rfl ?_
  obtain ⟨v88, hv, he⟩ := ob he
  refine aw_iald C dX6_marked_88 hv ?_
  refine aw_aload_n C dX6_marked_89 rfl (j := 0) rfl ?_
  obtain ⟨v90, hv, he⟩ := ob he
  refine aw_gA C fk_X6_19 dX6_marked_90 hv ?_
  refine aw_iload_n C dX6_marked_93 rfl (j := 3) rfl ?_
  refine aw_iconst (v := 1) C dX6_marked_94 (by decide) ?_
  refine aw_iadd C dX6_marked_95 ?_
  obtain ⟨v96, hv, he⟩ := ob he
  refine aw_iald C dX6_marked_96 hv ?_
  obtain ⟨hO, he⟩ := ifs he
  obtain ⟨v97, hv, he⟩ := ob he
  refine aw_callV (ci := 6) C mb_X6_136 ⟨q_949, q_48, rfl⟩ hO (cX6_roundsOf_ _ _ _ _ hv) dX6_marked_97 rfl (rest := [.int l4]) rfl (cat_le _ (Nat.le_of_ble_eq_true rfl)) (Nat.le_of_ble_eq_true rfl) (Nat.le_of_ble_eq_true rfl) (Nat.le_of_ble_eq_true rfl) (st2 := [.int v97, .int l4]) rfl ?_
  refine aw_isub C dX6_marked_100 ?_
  refine aw_istore C dX6_marked_101 (by decide) rfl (lv' := [(0, .inr l0), (1, .inl l1), (2, .inl l2), (3, .inl l3), (4, .inl (l4 - v97))]) rfl ?_
  refine aw_aload_n C dX6_marked_103 rfl (j := 0) rfl ?_
  refine aw_dup C dX6_marked_104 (rf_cat _) ?_
  obtain ⟨v105, hv, he⟩ := ob he
  refine aw_gJ C fk_X6_220 dX6_marked_105 hv ?_
  refine aw_ldc2 (v := 100) C dX6_marked_108 q_1116 ?_
  refine aw_ladd C dX6_marked_111 ?_
  obtain ⟨h112, hv, he⟩ := ob he
  refine aw_put C fk_X6_220 dX6_marked_112 rfl rfl hv ?_
  exact wX6_marked_j115 C X he
set_option maxHeartbeats 4000000 in
set_option maxRecDepth 100000 in
theorem wX6_marked_j70 {Γ : GG} (C : CX Γ cX6_marked 5 RX6 3 0 0) {N : Nat} {sz : Nat} {out : Int32 × Hp} (X : RX Γ (some .int) (some (.int out.1)) out.2 sz 0 0) {h : Hp} {l0 : Option Nat} {l1 : Int32} {l2 : Int32} {l3 : Int32} {l4 : Int32} (he : fX6_marked_j70 N h l0 l1 l2 l3 l4 = some out) : AW Γ 5 h sz 0 0 70 [(0, .inr l0), (1, .inl l1), (2, .inl l2), (3, .inl l3), (4, .inl l4)] [] := by
  unfold fX6_marked_j70 at he
  refine aw_iload_n C dX6_marked_70 rfl (j := 1) rfl ?_
  refine aw_iconst (v := 2) C dX6_marked_71 (by decide) ?_
  refine aw_ic_eq (tgt := 80) C dX6_marked_72 (by decide) (fun hc => ?_) (fun hc => ?_)
  · have he := ift hc he
    exact wX6_marked_j80 C X he
  · have he := iff_ hc he
    refine aw_iload_n C dX6_marked_75 rfl (j := 1) rfl ?_
    refine aw_iconst (v := 4) C dX6_marked_76 (by decide) ?_
    refine aw_ic_ne (tgt := 115) C dX6_marked_77 (by decide) (fun hc => ?_) (fun hc => ?_)
    · have he := ift hc he
      exact wX6_marked_j80 C X he
    · have he := iff_ hc he
      exact wX6_marked_j115 C X he
set_option maxHeartbeats 4000000 in
set_option maxRecDepth 100000 in
theorem wX6_marked_j45 {Γ : GG} (C : CX Γ cX6_marked 5 RX6 3 0 0) {N : Nat} {sz : Nat} {out : Int32 × Hp} (X : RX Γ (some .int) (some (.int out.1)) out.2 sz 0 0) {h : Hp} {l0 : Option Nat} {l1 : Int32} {l2 : Int32} {l3 : Int32} {l4 : Int32} (he : fX6_marked_j45 N h l0 l1 l2 l3 l4 = some out) : AW Γ 5 h sz 0 0 45 [(0, .inr l0), (1, .inl l1), (2, .inl l2), (3, .inl l3), (4, .inl l4)] [] := by
  unfold fX6_marked_j45 at he
  refine aw_iload C dX6_marked_45 (j := 4) rfl ?_
  refine aw_aload_n C dX6_marked_47 rfl (j := 0) rfl ?_
  obtain ⟨v48, hv, he⟩ := ob he
  refine aw_gA C fk_X6_19 dX6_marked_48 hv ?_
  refine aw_iload_n C dX6_marked_51 rfl (j := 3) rfl ?_
  refine aw_iconst (v := 2) C dX6_marked_52 (by decide) ?_
  refine aw_iadd C dX6_marked_53 ?_
  obtain ⟨v54, hv, he⟩ := ob he
  refine aw_iald C dX6_marked_54 hv ?_
  refine aw_iadd C dX6_marked_55 ?_
  refine aw_istore C dX6_marked_56 (by decide) rfl (lv' := [(0, .inr l0), (1, .inl l1), (2, .inl l2), (3, .inl l3), (4, .inl (l4 + v54))]) rfl ?_
  refine aw_aload_n C dX6_marked_58 rfl (j := 0) rfl ?_
  refine aw_dup C dX6_marked_59 (rf_cat _) ?_
  obtain ⟨v60, hv, he⟩ := ob he
  refine aw_gJ C fk_X6_220 dX6_marked_60 hv ?_
  refine aw_ldc2 (v := 10) C dX6_marked_63 q_1115 ?_
  refine aw_ladd C dX6_marked_66 ?_
  obtain ⟨h67, hv, he⟩ := ob he
  refine aw_put C fk_X6_220 dX6_marked_67 rfl rfl hv ?_
  exact wX6_marked_j70 C X he
set_option maxHeartbeats 4000000 in
set_option maxRecDepth 100000 in
theorem wX6_marked {Γ : GG} (C : CX Γ cX6_marked 5 RX6 3 0 0) {N : Nat} {sz : Nat} {out : Int32 × Hp} (X : RX Γ (some .int) (some (.int out.1)) out.2 sz 0 0) {h : Hp} {l0 : Option Nat} {l1 : Int32} {l2 : Int32} (he : fX6_marked N h l0 l1 l2 = some out) : AW Γ 5 h sz 0 0 0 [(0, .inr l0), (1, .inl l1), (2, .inl l2)] [] := by
  unfold fX6_marked at he
  refine aw_bipush (v := 6) C dX6_marked_0 (by decide) ?_
  refine aw_iload_n C dX6_marked_2 rfl (j := 2) rfl ?_
  refine aw_imul C dX6_marked_3 ?_
  refine aw_istore_n C dX6_marked_4 rfl (by decide) rfl (lv' := [(0, .inr l0), (1, .inl l1), (2, .inl l2), (3, .inl ((6 : Int32) * l2))]) rfl ?_
  refine aw_aload_n C dX6_marked_5 rfl (j := 0) rfl ?_
  refine aw_aload_n C dX6_marked_6 rfl (j := 0) rfl ?_
  obtain ⟨v7, hv, he⟩ := ob he
  refine aw_gA C fk_X6_19 dX6_marked_7 hv ?_
  refine aw_iload_n C dX6_marked_10 rfl (j := 3) rfl ?_
  obtain ⟨v11, hv, he⟩ := ob he
  refine aw_iald C dX6_marked_11 hv ?_
  refine aw_aload_n C dX6_marked_12 rfl (j := 0) rfl ?_
  obtain ⟨v13, hv, he⟩ := ob he
  refine aw_gA C fk_X6_19 dX6_marked_13 hv ?_
  refine aw_iload_n C dX6_marked_16 rfl (j := 3) rfl ?_
  refine aw_iconst (v := 1) C dX6_marked_17 (by decide) ?_
  refine aw_iadd C dX6_marked_18 ?_
  obtain ⟨v19, hv, he⟩ := ob he
  refine aw_iald C dX6_marked_19 hv ?_
  obtain ⟨hO, he⟩ := ifs he
  obtain ⟨v20, hv, he⟩ := ob he
  refine aw_callV (ci := 6) C mb_X6_149 ⟨q_938, q_46, rfl⟩ hO (cX6_petalsOf_ _ _ _ _ hv) dX6_marked_20 rfl (rest := []) rfl (cat_le _ (Nat.le_of_ble_eq_true rfl)) (Nat.le_of_ble_eq_true rfl) (Nat.le_of_ble_eq_true rfl) (Nat.le_of_ble_eq_true rfl) (st2 := [.int v20]) rfl ?_
  refine aw_istore C dX6_marked_23 (by decide) rfl (lv' := [(0, .inr l0), (1, .inl l1), (2, .inl l2), (3, .inl ((6 : Int32) * l2)), (4, .inl v20)]) rfl ?_
  refine aw_aload_n C dX6_marked_25 rfl (j := 0) rfl ?_
  refine aw_dup C dX6_marked_26 (rf_cat _) ?_
  obtain ⟨v27, hv, he⟩ := ob he
  refine aw_gJ C fk_X6_220 dX6_marked_27 hv ?_
  refine aw_lconst (v := 1) C dX6_marked_30 (by decide) ?_
  refine aw_ladd C dX6_marked_31 ?_
  obtain ⟨h32, hv, he⟩ := ob he
  refine aw_put C fk_X6_220 dX6_marked_32 rfl rfl hv ?_
  refine aw_iload_n C dX6_marked_35 rfl (j := 1) rfl ?_
  refine aw_iconst (v := 1) C dX6_marked_36 (by decide) ?_
  refine aw_ic_eq (tgt := 45) C dX6_marked_37 (by decide) (fun hc => ?_) (fun hc => ?_)
  · have he := ift hc he
    exact wX6_marked_j45 C X he
  · have he := iff_ hc he
    refine aw_iload_n C dX6_marked_40 rfl (j := 1) rfl ?_
    refine aw_iconst (v := 3) C dX6_marked_41 (by decide) ?_
    refine aw_ic_ne (tgt := 70) C dX6_marked_42 (by decide) (fun hc => ?_) (fun hc => ?_)
    · have he := ift hc he
      exact wX6_marked_j45 C X he
    · have he := iff_ hc he
      exact wX6_marked_j70 C X he
theorem cX6_marked_ (l : Launch) (D : va_G) (dA : Nat → ClassId) (base : Nat) {N : Nat} {h : Hp} {sz : Nat} {l0 : Option Nat} {l1 : Int32} {l2 : Int32} {out : Int32 × Hp} (he : fX6_marked N h l0 l1 l2 = some out) : AM l D dA base yX6_marked cX6_marked 5 (some .int) 3 0 0 [.inr l0, .inl l1, .inl l2] h sz (some (.int out.1)) out.2 sz :=
  AM.of (by decide +kernel) (Nat.le_of_ble_eq_true rfl) rfl (fun Γ C X hn => wX6_marked C X he)
set_option maxHeartbeats 4000000 in
set_option maxRecDepth 100000 in
theorem wX6_mark {Γ : GG} (C : CX Γ cX6_mark 3 RX6 4 0 0) {N : Nat} {sz : Nat} {out : Int32 × Hp} (X : RX Γ (some .int) (some (.int out.1)) out.2 sz 0 0) {h : Hp} {l0 : Option Nat} {l1 : Int32} {l2 : Int32} (he : fX6_mark N h l0 l1 l2 = some out) : AW Γ 3 h sz 0 0 0 [(0, .inr l0), (1, .inl l1), (2, .inl l2)] [] := by
  unfold fX6_mark at he
  refine aw_iload_n C dX6_mark_0 rfl (j := 1) rfl ?_
  refine aw_iconst (v := 0) C dX6_mark_1 (by decide) ?_
  refine aw_iconst (v := 5) C dX6_mark_2 (by decide) ?_
  obtain ⟨v3, hv, he⟩ := ob he
  refine aw_callS C mb_X6_62 q_874 (cX6_in_ _ _ _ _ hv) dX6_mark_3 rfl (rest := []) rfl (cat_le _ (Nat.le_of_ble_eq_true rfl)) (Nat.le_of_ble_eq_true rfl) (Nat.le_of_ble_eq_true rfl) (Nat.le_of_ble_eq_true rfl) (st2 := [.int v3]) rfl ?_
  refine aw_if_eq (tgt := 26) C dX6_mark_6 (by decide) (fun hc => ?_) (fun hc => ?_)
  · have he := ift hc he
    refine aw_ldc (v := -1000000) C dX6_mark_26 q_1120 ?_
    have he := Option.some.inj he
    subst he
    exact aw_iret C X dX6_mark_28 (by decide) (by decide)
  · have he := iff_ hc he
    refine aw_aload_n C dX6_mark_9 rfl (j := 0) rfl ?_
    refine aw_iload_n C dX6_mark_10 rfl (j := 2) rfl ?_
    obtain ⟨hO, he⟩ := ifs he
    obtain ⟨v11, hv, he⟩ := ob he
    refine aw_callV (ci := 6) C mb_X6_178 ⟨q_992, q_56, rfl⟩ hO (cX6_isCurve_ _ _ _ _ hv) dX6_mark_11 rfl (rest := []) rfl (cat_le _ (Nat.le_of_ble_eq_true rfl)) (Nat.le_of_ble_eq_true rfl) (Nat.le_of_ble_eq_true rfl) (Nat.le_of_ble_eq_true rfl) (st2 := [.int v11]) rfl ?_
    refine aw_if_eq (tgt := 26) C dX6_mark_14 (by decide) (fun hc => ?_) (fun hc => ?_)
    · have he := ift hc he
      refine aw_ldc (v := -1000000) C dX6_mark_26 q_1120 ?_
      have he := Option.some.inj he
      subst he
      exact aw_iret C X dX6_mark_28 (by decide) (by decide)
    · have he := iff_ hc he
      refine aw_aload_n C dX6_mark_17 rfl (j := 0) rfl ?_
      refine aw_iload_n C dX6_mark_18 rfl (j := 1) rfl ?_
      refine aw_iload_n C dX6_mark_19 rfl (j := 2) rfl ?_
      obtain ⟨hO, he⟩ := ifs he
      obtain ⟨z20, hv, he⟩ := ob he
      refine aw_callV (ci := 6) C mb_X6_234 ⟨q_1113, q_69, rfl⟩ hO (cX6_marked_ _ _ _ _ hv) dX6_mark_20 rfl (rest := []) rfl (cat_le _ (Nat.le_of_ble_eq_true rfl)) (Nat.le_of_ble_eq_true rfl) (Nat.le_of_ble_eq_true rfl) (Nat.le_of_ble_eq_true rfl) (st2 := [.int z20.1]) rfl ?_
      refine aw_goto (tgt := 28) C dX6_mark_23 (by decide) ?_
      have he := Option.some.inj he
      subst he
      exact aw_iret C X dX6_mark_28 (by decide) (by decide)
theorem cX6_mark_ (l : Launch) (D : va_G) (dA : Nat → ClassId) (base : Nat) {N : Nat} {h : Hp} {sz : Nat} {l0 : Option Nat} {l1 : Int32} {l2 : Int32} {out : Int32 × Hp} (he : fX6_mark N h l0 l1 l2 = some out) : AM l D dA base yX6_mark cX6_mark 3 (some .int) 4 0 0 [.inr l0, .inl l1, .inl l2] h sz (some (.int out.1)) out.2 sz :=
  AM.of (by decide +kernel) (Nat.le_of_ble_eq_true rfl) rfl (fun Γ C X hn => wX6_mark C X he)
set_option maxHeartbeats 4000000 in
set_option maxRecDepth 100000 in
theorem wX8_becomes_L2 {Γ : GG} (C : CX Γ cX8_becomes 3 RX8 0 0 0) {N : Nat} {sz : Nat} {α : Type} {out : α} {K26 : Hp → Option Nat → Option Nat → Option α} (k26 : ∀ (h : Hp) (l0 : Option Nat) (l1 : Option Nat), K26 h l0 l1 = some out → AW Γ 3 h sz 0 0 26 [(0, .inr l0), (1, .inr l1)] []) : ∀ (n : Nat) (h : Hp) (l0 : Option Nat) (l1 : Option Nat) (l2 : Int32), fX8_becomes_L2 N K26 n h l0 l1 l2 = some out → AW Γ 3 h sz 0 0 2 [(0, .inr l0), (1, .inr l1), (2, .inl l2)] [] := by
  intro n
  induction n with
  | zero =>
    intro h l0 l1 l2 he
    rw [fX8_becomes_L2] at he
    cases he
  | succ n ih =>
    intro h l0 l1 l2 he
    rw [fX8_becomes_L2] at he
    refine aw_iload_n C dX8_becomes_2 rfl (j := 2) rfl ?_
    refine aw_bipush (v := 10) C dX8_becomes_3 (by decide) ?_
    refine aw_ic_ge (tgt := 26) C dX8_becomes_5 (by decide) (fun hc => ?_) (fun hc => ?_)
    · have he := ift hc he
      refine aw_sub [0, 1] (lv' := [(0, .inr l0), (1, .inr l1)]) rfl ?_
      exact k26 _ _ _ he
    · have he := iff_ hc he
      refine aw_aload_n C dX8_becomes_8 rfl (j := 0) rfl ?_
      obtain ⟨v9, hv, he⟩ := ob he
      refine aw_gA C fk_X8_11 dX8_becomes_9 hv ?_
      refine aw_iload_n C dX8_becomes_12 rfl (j := 2) rfl ?_
      refine aw_aload_n C dX8_becomes_13 rfl (j := 1) rfl ?_
      obtain ⟨v14, hv, he⟩ := ob he
      refine aw_gA C fk_X8_11 dX8_becomes_14 hv ?_
      refine aw_iload_n C dX8_becomes_17 rfl (j := 2) rfl ?_
      obtain ⟨v18, hv, he⟩ := ob he
      refine aw_aald C (by decide) dX8_becomes_18 hv ?_
      obtain ⟨h19, hv, he⟩ := ob he
      refine aw_aast C (by decide) dX8_becomes_19 hv ?_
      refine aw_iinc (y := 1) C dX8_becomes_20 (by decide) (j := 2) rfl (by decide) rfl (lv' := [(0, .inr l0), (1, .inr l1), (2, .inl (l2 + 1))]) rfl ?_
      refine aw_goto (tgt := 2) C dX8_becomes_23 (by decide) ?_
      exact ih _ _ _ _ he
set_option maxHeartbeats 4000000 in
set_option maxRecDepth 100000 in
theorem wX8_becomes {Γ : GG} (C : CX Γ cX8_becomes 3 RX8 0 0 0) {N : Nat} {sz : Nat} {out : Hp} (X : RX Γ none none out sz 0 0) {h : Hp} {l0 : Option Nat} {l1 : Option Nat} (he : fX8_becomes N h l0 l1 = some out) : AW Γ 3 h sz 0 0 0 [(0, .inr l0), (1, .inr l1)] [] := by
  unfold fX8_becomes at he
  refine aw_iconst (v := 0) C dX8_becomes_0 (by decide) ?_
  refine aw_istore_n C dX8_becomes_1 rfl (by decide) rfl (lv' := [(0, .inr l0), (1, .inr l1), (2, .inl (0 : Int32))]) rfl ?_
  refine wX8_becomes_L2 C ?_ N _ _ _ _ he
  intro h l0 l1 he
  refine aw_aload_n C dX8_becomes_26 rfl (j := 0) rfl ?_
  refine aw_aload_n C dX8_becomes_27 rfl (j := 1) rfl ?_
  obtain ⟨v28, hv, he⟩ := ob he
  refine aw_gI C fk_X8_17 dX8_becomes_28 hv ?_
  obtain ⟨h31, hv, he⟩ := ob he
  refine aw_put C fk_X8_17 dX8_becomes_31 rfl rfl hv ?_
  have he := Option.some.inj he
  subst he
  exact aw_vret C X dX8_becomes_34 (by decide) (by decide)
theorem cX8_becomes_ (l : Launch) (D : va_G) (dA : Nat → ClassId) (base : Nat) {N : Nat} {h : Hp} {sz : Nat} {l0 : Option Nat} {l1 : Option Nat} {out : Hp} (he : fX8_becomes N h l0 l1 = some out) : AM l D dA base yX8_becomes cX8_becomes 3 none 0 0 0 [.inr l0, .inr l1] h sz none out sz :=
  AM.of (by decide +kernel) (Nat.le_of_ble_eq_true rfl) rfl (fun Γ C X hn => wX8_becomes C X he)
set_option maxHeartbeats 4000000 in
set_option maxRecDepth 100000 in
theorem wX7_init {Γ : GG} (C : CX Γ cX7_init 3 RX7 2 2 12) {N : Nat} {out : Hp × Nat} (X : RX Γ none none out.1 out.2 2 12) (hin : (g_t Γ).name = "<init>") {h : Hp} {sz : Nat} {l0 : Option Nat} {l1 : Option Nat} {l2 : Option Nat} (he : fX7_init N h sz l0 l1 l2 = some out) : AW Γ 3 h sz 0 0 0 [(0, .inr l0), (1, .inr l1), (2, .inr l2)] [] := by
  unfold fX7_init at he
  refine aw_aload_n C dX7_init_0 rfl (j := 0) rfl ?_
  obtain ⟨hy, he⟩ := ifn he
  refine aw_objInit C q_743 q_89 q_90 (Nat.le_of_ble_eq_true rfl) (Nat.le_of_ble_eq_true rfl) hy dX7_init_1 ?_
  refine aw_aload_n C dX7_init_4 rfl (j := 0) rfl ?_
  refine aw_new C nk_X7_7 dX7_init_5 (by decide) (by decide) ?_
  refine aw_dup C dX7_init_8 (rf_cat _) ?_
  obtain ⟨z9, hv, he⟩ := ob he
  refine aw_callI C mb_X7_9 ⟨rfl, q_187⟩ (cX8_init_ _ _ _ _ hv) dX7_init_9 rfl (rest := [va_rf (some sz), va_rf l0]) rfl (cat_le _ (Nat.le_of_ble_eq_true rfl)) (Nat.le_of_ble_eq_true rfl) (Nat.le_of_ble_eq_true rfl) (Nat.le_of_ble_eq_true rfl) (st2 := [va_rf (some sz), va_rf l0]) rfl ?_
  obtain ⟨h12, hv, he⟩ := ob he
  refine aw_putF C fk_X7_10 rfl hin dX7_init_12 (nf_ref (Or.inl ⟨_, rfl⟩) _).1 (nf_ref (Or.inl ⟨_, rfl⟩) _).2 hv ?_
  refine aw_aload_n C dX7_init_15 rfl (j := 0) rfl ?_
  refine aw_aload_n C dX7_init_16 rfl (j := 1) rfl ?_
  obtain ⟨h17, hv, he⟩ := ob he
  refine aw_putF C fk_X7_16 rfl hin dX7_init_17 (nf_ref (Or.inl ⟨_, rfl⟩) _).1 (nf_ref (Or.inl ⟨_, rfl⟩) _).2 hv ?_
  refine aw_aload_n C dX7_init_20 rfl (j := 0) rfl ?_
  obtain ⟨v21, hv, he⟩ := ob he
  refine aw_gA C fk_X7_10 dX7_init_21 hv ?_
  refine aw_aload_n C dX7_init_24 rfl (j := 2) rfl ?_
  obtain ⟨hO, he⟩ := ifs he
  obtain ⟨z25, hv, he⟩ := ob he
  refine aw_callV (ci := 8) C mb_X7_20 ⟨q_747, q_748, rfl⟩ hO (cX8_becomes_ _ _ _ _ hv) dX7_init_25 rfl (rest := []) rfl (cat_le _ (Nat.le_of_ble_eq_true rfl)) (Nat.le_of_ble_eq_true rfl) (Nat.le_of_ble_eq_true rfl) (Nat.le_of_ble_eq_true rfl) (st2 := []) rfl ?_
  have he := Option.some.inj he
  subst he
  exact aw_vret C X dX7_init_28 (by decide) (by decide)
theorem cX7_init_ (l : Launch) (D : va_G) (dA : Nat → ClassId) (base : Nat) {N : Nat} {h : Hp} {sz : Nat} {l0 : Option Nat} {l1 : Option Nat} {l2 : Option Nat} {out : Hp × Nat} (he : fX7_init N h sz l0 l1 l2 = some out) : AM l D dA base yX7_init cX7_init 3 none 2 2 12 [.inr l0, .inr l1, .inr l2] h sz none out.1 out.2 :=
  AM.of (by decide +kernel) (Nat.le_of_ble_eq_true rfl) rfl (fun Γ C X hn => wX7_init C X hn he)
set_option maxHeartbeats 4000000 in
set_option maxRecDepth 100000 in
theorem wX5_keep {Γ : GG} (C : CX Γ cX5_keep 2 RX5 3 3 14) {N : Nat} {out : Int32 × Hp × Nat} (X : RX Γ (some .int) (some (.int out.1)) out.2.1 out.2.2 3 14) {h : Hp} {sz : Nat} {l0 : Option Nat} {l1 : Int32} (he : fX5_keep N h sz l0 l1 = some out) : AW Γ 2 h sz 0 0 0 [(0, .inr l0), (1, .inl l1)] [] := by
  unfold fX5_keep at he
  refine aw_iload_n C dX5_keep_0 rfl (j := 1) rfl ?_
  refine aw_iconst (v := 0) C dX5_keep_1 (by decide) ?_
  refine aw_iconst (v := 1) C dX5_keep_2 (by decide) ?_
  obtain ⟨v3, hv, he⟩ := ob he
  refine aw_callS C mb_X5_72 q_241 (cX5_within_ _ _ _ _ hv) dX5_keep_3 rfl (rest := []) rfl (cat_le _ (Nat.le_of_ble_eq_true rfl)) (Nat.le_of_ble_eq_true rfl) (Nat.le_of_ble_eq_true rfl) (Nat.le_of_ble_eq_true rfl) (st2 := [.int v3]) rfl ?_
  refine aw_if_ne (tgt := 11) C dX5_keep_6 (by decide) (fun hc => ?_) (fun hc => ?_)
  · have he := ift hc he
    refine aw_iconst (v := -1) C dX5_keep_9 (by decide) ?_
    have he := Option.some.inj he
    subst he
    exact aw_iret C X dX5_keep_10 (by decide) (by decide)
  · have he := iff_ hc he
    refine aw_aload_n C dX5_keep_11 rfl (j := 0) rfl ?_
    obtain ⟨v12, hv, he⟩ := ob he
    refine aw_gA C fk_X5_50 dX5_keep_12 hv ?_
    refine aw_iload_n C dX5_keep_15 rfl (j := 1) rfl ?_
    refine aw_new C nk_X5_48 dX5_keep_16 (by decide) (by decide) ?_
    refine aw_dup C dX5_keep_19 (rf_cat _) ?_
    refine aw_aload_n C dX5_keep_20 rfl (j := 0) rfl ?_
    obtain ⟨v21, hv, he⟩ := ob he
    refine aw_gA C fk_X5_37 dX5_keep_21 hv ?_
    refine aw_aload_n C dX5_keep_24 rfl (j := 0) rfl ?_
    obtain ⟨v25, hv, he⟩ := ob he
    refine aw_gA C fk_X5_44 dX5_keep_25 hv ?_
    obtain ⟨z28, hv, he⟩ := ob he
    refine aw_callI C mb_X5_278 ⟨rfl, q_741⟩ (cX7_init_ _ _ _ _ hv) dX5_keep_28 rfl (rest := [va_rf (some sz), .int l1, va_rf v12]) rfl (cat_le _ (Nat.le_of_ble_eq_true rfl)) (Nat.le_of_ble_eq_true rfl) (Nat.le_of_ble_eq_true rfl) (Nat.le_of_ble_eq_true rfl) (st2 := [va_rf (some sz), .int l1, va_rf v12]) rfl ?_
    obtain ⟨h31, hv, he⟩ := ob he
    refine aw_aast C (by decide) dX5_keep_31 hv ?_
    refine aw_aload_n C dX5_keep_32 rfl (j := 0) rfl ?_
    obtain ⟨v33, hv, he⟩ := ob he
    refine aw_gA C fk_X5_37 dX5_keep_33 hv ?_
    obtain ⟨v36, hv, he⟩ := ob he
    refine aw_gA C fk_X5_160 dX5_keep_36 hv ?_
    obtain ⟨v39, hv, he⟩ := ob he
    refine aw_alen C dX5_keep_39 hv ?_
    have he := Option.some.inj he
    subst he
    exact aw_iret C X dX5_keep_40 (by decide) (by decide)
theorem cX5_keep_ (l : Launch) (D : va_G) (dA : Nat → ClassId) (base : Nat) {N : Nat} {h : Hp} {sz : Nat} {l0 : Option Nat} {l1 : Int32} {out : Int32 × Hp × Nat} (he : fX5_keep N h sz l0 l1 = some out) : AM l D dA base yX5_keep cX5_keep 2 (some .int) 3 3 14 [.inr l0, .inl l1] h sz (some (.int out.1)) out.2.1 out.2.2 :=
  AM.of (by decide +kernel) (Nat.le_of_ble_eq_true rfl) rfl (fun Γ C X hn => wX5_keep C X he)
set_option maxHeartbeats 4000000 in
set_option maxRecDepth 100000 in
theorem wX6_keep_L49 {Γ : GG} (C : CX Γ cX6_keep 4 RX6 1 0 0) {N : Nat} {sz : Nat} {α : Type} {out : α} {K79 : Hp → Option Nat → Option α} (k79 : ∀ (h : Hp) (l0 : Option Nat), K79 h l0 = some out → AW Γ 4 h sz 0 0 79 [(0, .inr l0)] []) : ∀ (n : Nat) (h : Hp) (l0 : Option Nat) (l2 : Int32) (l3 : Int32), fX6_keep_L49 N K79 n h l0 l2 l3 = some out → AW Γ 4 h sz 0 0 49 [(0, .inr l0), (2, .inl l2), (3, .inl l3)] [] := by
  intro n
  induction n with
  | zero =>
    intro h l0 l2 l3 he
    rw [fX6_keep_L49] at he
    cases he
  | succ n ih =>
    intro h l0 l2 l3 he
    rw [fX6_keep_L49] at he
    refine aw_iload_n C dX6_keep_49 rfl (j := 2) rfl ?_
    refine aw_sipush (v := 780) C dX6_keep_50 (by decide) ?_
    refine aw_ic_ge (tgt := 79) C dX6_keep_53 (by decide) (fun hc => ?_) (fun hc => ?_)
    · have he := ift hc he
      refine aw_sub [0] (lv' := [(0, .inr l0)]) rfl ?_
      exact k79 _ _ he
    · have he := iff_ hc he
      refine aw_aload_n C dX6_keep_56 rfl (j := 0) rfl ?_
      obtain ⟨v57, hv, he⟩ := ob he
      refine aw_gA C fk_X6_55 dX6_keep_57 hv ?_
      refine aw_iload_n C dX6_keep_60 rfl (j := 1) rfl ?_
      refine aw_bipush (v := 80) C dX6_keep_61 (by decide) ?_
      refine aw_iadd C dX6_keep_63 ?_
      refine aw_iload_n C dX6_keep_64 rfl (j := 2) rfl ?_
      refine aw_iadd C dX6_keep_65 ?_
      refine aw_aload_n C dX6_keep_66 rfl (j := 0) rfl ?_
      obtain ⟨v67, hv, he⟩ := ob he
      refine aw_gA C fk_X6_40 dX6_keep_67 hv ?_
      refine aw_iload_n C dX6_keep_70 rfl (j := 2) rfl ?_
      obtain ⟨v71, hv, he⟩ := ob he
      refine aw_iald C dX6_keep_71 hv ?_
      obtain ⟨h72, hv, he⟩ := ob he
      refine aw_iast C dX6_keep_72 hv ?_
      refine aw_iinc (y := 1) C dX6_keep_73 (by decide) (j := 2) rfl (by decide) rfl (lv' := [(0, .inr l0), (2, .inl l2), (3, .inl (l3 + 1))]) rfl ?_
      refine aw_goto (tgt := 49) C dX6_keep_76 (by decide) ?_
      exact ih _ _ _ _ he
set_option maxHeartbeats 4000000 in
set_option maxRecDepth 100000 in
theorem wX6_keep {Γ : GG} (C : CX Γ cX6_keep 4 RX6 1 0 0) {N : Nat} {sz : Nat} {out : Int32 × Hp} (X : RX Γ (some .int) (some (.int out.1)) out.2 sz 0 0) {h : Hp} {l0 : Option Nat} {l1 : Int32} (he : fX6_keep N h l0 l1 = some out) : AW Γ 4 h sz 0 0 0 [(0, .inr l0), (1, .inl l1)] [] := by
  unfold fX6_keep at he
  refine aw_iload_n C dX6_keep_0 rfl (j := 1) rfl ?_
  refine aw_iconst (v := 0) C dX6_keep_1 (by decide) ?_
  refine aw_iconst (v := 1) C dX6_keep_2 (by decide) ?_
  obtain ⟨v3, hv, he⟩ := ob he
  refine aw_callS C mb_X6_62 q_874 (cX6_in_ _ _ _ _ hv) dX6_keep_3 rfl (rest := []) rfl (cat_le _ (Nat.le_of_ble_eq_true rfl)) (Nat.le_of_ble_eq_true rfl) (Nat.le_of_ble_eq_true rfl) (Nat.le_of_ble_eq_true rfl) (st2 := [.int v3]) rfl ?_
  refine aw_if_ne (tgt := 11) C dX6_keep_6 (by decide) (fun hc => ?_) (fun hc => ?_)
  · have he := ift hc he
    refine aw_iconst (v := -1) C dX6_keep_9 (by decide) ?_
    have he := Option.some.inj he
    subst he
    exact aw_iret C X dX6_keep_10 (by decide) (by decide)
  · have he := iff_ hc he
    refine aw_sipush (v := 860) C dX6_keep_11 (by decide) ?_
    refine aw_iload_n C dX6_keep_14 rfl (j := 1) rfl ?_
    refine aw_imul C dX6_keep_15 ?_
    refine aw_istore_n C dX6_keep_16 rfl (by decide) rfl (lv' := [(0, .inr l0), (1, .inl l1), (2, .inl ((860 : Int32) * l1))]) rfl ?_
    refine aw_aload_n C dX6_keep_17 rfl (j := 0) rfl ?_
    obtain ⟨v18, hv, he⟩ := ob he
    refine aw_gA C fk_X6_55 dX6_keep_18 hv ?_
    refine aw_iload_n C dX6_keep_21 rfl (j := 2) rfl ?_
    refine aw_iconst (v := 1) C dX6_keep_22 (by decide) ?_
    obtain ⟨h23, hv, he⟩ := ob he
    refine aw_iast C dX6_keep_23 hv ?_
    refine aw_aload_n C dX6_keep_24 rfl (j := 0) rfl ?_
    obtain ⟨v25, hv, he⟩ := ob he
    refine aw_gA C fk_X6_55 dX6_keep_25 hv ?_
    refine aw_iload_n C dX6_keep_28 rfl (j := 2) rfl ?_
    refine aw_iconst (v := 1) C dX6_keep_29 (by decide) ?_
    refine aw_iadd C dX6_keep_30 ?_
    refine aw_aload_n C dX6_keep_31 rfl (j := 0) rfl ?_
    obtain ⟨v32, hv, he⟩ := ob he
    refine aw_gI C fk_X6_126 dX6_keep_32 hv ?_
    obtain ⟨h35, hv, he⟩ := ob he
    refine aw_iast C dX6_keep_35 hv ?_
    refine aw_aload_n C dX6_keep_36 rfl (j := 0) rfl ?_
    refine aw_aload_n C dX6_keep_37 rfl (j := 0) rfl ?_
    obtain ⟨v38, hv, he⟩ := ob he
    refine aw_gA C fk_X6_55 dX6_keep_38 hv ?_
    refine aw_iload_n C dX6_keep_41 rfl (j := 2) rfl ?_
    refine aw_iconst (v := 2) C dX6_keep_42 (by decide) ?_
    refine aw_iadd C dX6_keep_43 ?_
    obtain ⟨hO, he⟩ := ifs he
    obtain ⟨z44, hv, he⟩ := ob he
    refine aw_callV (ci := 6) C mb_X6_184 ⟨q_1008, q_59, rfl⟩ hO (cX6_lays_ _ _ _ _ hv) dX6_keep_44 rfl (rest := []) rfl (cat_le _ (Nat.le_of_ble_eq_true rfl)) (Nat.le_of_ble_eq_true rfl) (Nat.le_of_ble_eq_true rfl) (Nat.le_of_ble_eq_true rfl) (st2 := []) rfl ?_
    refine aw_iconst (v := 0) C dX6_keep_47 (by decide) ?_
    refine aw_istore_n C dX6_keep_48 rfl (by decide) rfl (lv' := [(0, .inr l0), (1, .inl l1), (2, .inl ((860 : Int32) * l1)), (3, .inl (0 : Int32))]) rfl ?_
    refine aw_sub [0, 2, 3] (lv' := [(0, .inr l0), (2, .inl ((860 : Int32) * l1)), (3, .inl (0 : Int32))]) rfl ?_
    refine wX6_keep_L49 C ?_ N _ _ _ _ he
    intro h l0 he
    refine aw_aload_n C dX6_keep_79 rfl (j := 0) rfl ?_
    obtain ⟨v80, hv, he⟩ := ob he
    refine aw_gI C fk_X6_72 dX6_keep_80 hv ?_
    have he := Option.some.inj he
    subst he
    exact aw_iret C X dX6_keep_83 (by decide) (by decide)
theorem cX6_keep_ (l : Launch) (D : va_G) (dA : Nat → ClassId) (base : Nat) {N : Nat} {h : Hp} {sz : Nat} {l0 : Option Nat} {l1 : Int32} {out : Int32 × Hp} (he : fX6_keep N h l0 l1 = some out) : AM l D dA base yX6_keep cX6_keep 4 (some .int) 1 0 0 [.inr l0, .inl l1] h sz (some (.int out.1)) out.2 sz :=
  AM.of (by decide +kernel) (Nat.le_of_ble_eq_true rfl) rfl (fun Γ C X hn => wX6_keep C X he)
set_option maxHeartbeats 4000000 in
set_option maxRecDepth 100000 in
theorem wX5_back {Γ : GG} (C : CX Γ cX5_back 3 RX5 1 0 0) {N : Nat} {sz : Nat} {out : Int32 × Hp} (X : RX Γ (some .int) (some (.int out.1)) out.2 sz 0 0) {h : Hp} {l0 : Option Nat} {l1 : Int32} (he : fX5_back N h l0 l1 = some out) : AW Γ 3 h sz 0 0 0 [(0, .inr l0), (1, .inl l1)] [] := by
  unfold fX5_back at he
  refine aw_iload_n C dX5_back_0 rfl (j := 1) rfl ?_
  refine aw_iconst (v := 0) C dX5_back_1 (by decide) ?_
  refine aw_iconst (v := 1) C dX5_back_2 (by decide) ?_
  obtain ⟨v3, hv, he⟩ := ob he
  refine aw_callS C mb_X5_72 q_241 (cX5_within_ _ _ _ _ hv) dX5_back_3 rfl (rest := []) rfl (cat_le _ (Nat.le_of_ble_eq_true rfl)) (Nat.le_of_ble_eq_true rfl) (Nat.le_of_ble_eq_true rfl) (Nat.le_of_ble_eq_true rfl) (st2 := [.int v3]) rfl ?_
  refine aw_if_ne (tgt := 11) C dX5_back_6 (by decide) (fun hc => ?_) (fun hc => ?_)
  · have he := ift hc he
    refine aw_iconst (v := -1) C dX5_back_9 (by decide) ?_
    have he := Option.some.inj he
    subst he
    exact aw_iret C X dX5_back_10 (by decide) (by decide)
  · have he := iff_ hc he
    refine aw_aload_n C dX5_back_11 rfl (j := 0) rfl ?_
    obtain ⟨v12, hv, he⟩ := ob he
    refine aw_gA C fk_X5_50 dX5_back_12 hv ?_
    refine aw_iload_n C dX5_back_15 rfl (j := 1) rfl ?_
    obtain ⟨v16, hv, he⟩ := ob he
    refine aw_aald C (by decide) dX5_back_16 hv ?_
    refine aw_astore_n C dX5_back_17 rfl (by decide) rfl (lv' := [(0, .inr l0), (1, .inl l1), (2, .inr v16)]) rfl ?_
    refine aw_aload_n C dX5_back_18 rfl (j := 2) rfl ?_
    refine aw_ifnonnull (tgt := 25) C dX5_back_19 (by decide) (fun hc => ?_) (fun hc => ?_)
    · have he := ift hc he
      refine aw_bipush (v := -2) C dX5_back_22 (by decide) ?_
      have he := Option.some.inj he
      subst he
      exact aw_iret C X dX5_back_24 (by decide) (by decide)
    · have he := iff_ hc he
      refine aw_aload_n C dX5_back_25 rfl (j := 0) rfl ?_
      refine aw_aload_n C dX5_back_26 rfl (j := 2) rfl ?_
      obtain ⟨v27, hv, he⟩ := ob he
      refine aw_gA C fk_X5_281 dX5_back_27 hv ?_
      obtain ⟨h30, hv, he⟩ := ob he
      refine aw_put C fk_X5_37 dX5_back_30 (nf_ref (Or.inl ⟨_, rfl⟩) _).1 (nf_ref (Or.inl ⟨_, rfl⟩) _).2 hv ?_
      refine aw_aload_n C dX5_back_33 rfl (j := 0) rfl ?_
      obtain ⟨v34, hv, he⟩ := ob he
      refine aw_gA C fk_X5_44 dX5_back_34 hv ?_
      refine aw_aload_n C dX5_back_37 rfl (j := 2) rfl ?_
      obtain ⟨v38, hv, he⟩ := ob he
      refine aw_gA C fk_X5_282 dX5_back_38 hv ?_
      obtain ⟨hO, he⟩ := ifs he
      obtain ⟨z41, hv, he⟩ := ob he
      refine aw_callV (ci := 8) C mb_X5_283 ⟨q_747, q_748, rfl⟩ hO (cX8_becomes_ _ _ _ _ hv) dX5_back_41 rfl (rest := []) rfl (cat_le _ (Nat.le_of_ble_eq_true rfl)) (Nat.le_of_ble_eq_true rfl) (Nat.le_of_ble_eq_true rfl) (Nat.le_of_ble_eq_true rfl) (st2 := []) rfl ?_
      refine aw_aload_n C dX5_back_44 rfl (j := 0) rfl ?_
      obtain ⟨v45, hv, he⟩ := ob he
      refine aw_gA C fk_X5_37 dX5_back_45 hv ?_
      obtain ⟨v48, hv, he⟩ := ob he
      refine aw_gA C fk_X5_160 dX5_back_48 hv ?_
      obtain ⟨v51, hv, he⟩ := ob he
      refine aw_alen C dX5_back_51 hv ?_
      have he := Option.some.inj he
      subst he
      exact aw_iret C X dX5_back_52 (by decide) (by decide)
theorem cX5_back_ (l : Launch) (D : va_G) (dA : Nat → ClassId) (base : Nat) {N : Nat} {h : Hp} {sz : Nat} {l0 : Option Nat} {l1 : Int32} {out : Int32 × Hp} (he : fX5_back N h l0 l1 = some out) : AM l D dA base yX5_back cX5_back 3 (some .int) 1 0 0 [.inr l0, .inl l1] h sz (some (.int out.1)) out.2 sz :=
  AM.of (by decide +kernel) (Nat.le_of_ble_eq_true rfl) rfl (fun Γ C X hn => wX5_back C X he)
set_option maxHeartbeats 4000000 in
set_option maxRecDepth 100000 in
theorem wX6_back_L54 {Γ : GG} (C : CX Γ cX6_back 4 RX6 1 0 0) {N : Nat} {sz : Nat} {α : Type} {out : α} {K84 : Hp → Option Nat → Option α} (k84 : ∀ (h : Hp) (l0 : Option Nat), K84 h l0 = some out → AW Γ 4 h sz 0 0 84 [(0, .inr l0)] []) : ∀ (n : Nat) (h : Hp) (l0 : Option Nat) (l2 : Int32) (l3 : Int32), fX6_back_L54 N K84 n h l0 l2 l3 = some out → AW Γ 4 h sz 0 0 54 [(0, .inr l0), (2, .inl l2), (3, .inl l3)] [] := by
  intro n
  induction n with
  | zero =>
    intro h l0 l2 l3 he
    rw [fX6_back_L54] at he
    cases he
  | succ n ih =>
    intro h l0 l2 l3 he
    rw [fX6_back_L54] at he
    refine aw_iload_n C dX6_back_54 rfl (j := 2) rfl ?_
    refine aw_sipush (v := 780) C dX6_back_55 (by decide) ?_
    refine aw_ic_ge (tgt := 84) C dX6_back_58 (by decide) (fun hc => ?_) (fun hc => ?_)
    · have he := ift hc he
      refine aw_sub [0] (lv' := [(0, .inr l0)]) rfl ?_
      exact k84 _ _ he
    · have he := iff_ hc he
      refine aw_aload_n C dX6_back_61 rfl (j := 0) rfl ?_
      obtain ⟨v62, hv, he⟩ := ob he
      refine aw_gA C fk_X6_40 dX6_back_62 hv ?_
      refine aw_iload_n C dX6_back_65 rfl (j := 2) rfl ?_
      refine aw_aload_n C dX6_back_66 rfl (j := 0) rfl ?_
      obtain ⟨v67, hv, he⟩ := ob he
      refine aw_gA C fk_X6_55 dX6_back_67 hv ?_
      refine aw_iload_n C dX6_back_70 rfl (j := 1) rfl ?_
      refine aw_bipush (v := 80) C dX6_back_71 (by decide) ?_
      refine aw_iadd C dX6_back_73 ?_
      refine aw_iload_n C dX6_back_74 rfl (j := 2) rfl ?_
      refine aw_iadd C dX6_back_75 ?_
      obtain ⟨v76, hv, he⟩ := ob he
      refine aw_iald C dX6_back_76 hv ?_
      obtain ⟨h77, hv, he⟩ := ob he
      refine aw_iast C dX6_back_77 hv ?_
      refine aw_iinc (y := 1) C dX6_back_78 (by decide) (j := 2) rfl (by decide) rfl (lv' := [(0, .inr l0), (2, .inl l2), (3, .inl (l3 + 1))]) rfl ?_
      refine aw_goto (tgt := 54) C dX6_back_81 (by decide) ?_
      exact ih _ _ _ _ he
set_option maxHeartbeats 4000000 in
set_option maxRecDepth 100000 in
theorem wX6_back {Γ : GG} (C : CX Γ cX6_back 4 RX6 1 0 0) {N : Nat} {sz : Nat} {out : Int32 × Hp} (X : RX Γ (some .int) (some (.int out.1)) out.2 sz 0 0) {h : Hp} {l0 : Option Nat} {l1 : Int32} (he : fX6_back N h l0 l1 = some out) : AW Γ 4 h sz 0 0 0 [(0, .inr l0), (1, .inl l1)] [] := by
  unfold fX6_back at he
  refine aw_iload_n C dX6_back_0 rfl (j := 1) rfl ?_
  refine aw_iconst (v := 0) C dX6_back_1 (by decide) ?_
  refine aw_iconst (v := 1) C dX6_back_2 (by decide) ?_
  obtain ⟨v3, hv, he⟩ := ob he
  refine aw_callS C mb_X6_62 q_874 (cX6_in_ _ _ _ _ hv) dX6_back_3 rfl (rest := []) rfl (cat_le _ (Nat.le_of_ble_eq_true rfl)) (Nat.le_of_ble_eq_true rfl) (Nat.le_of_ble_eq_true rfl) (Nat.le_of_ble_eq_true rfl) (st2 := [.int v3]) rfl ?_
  refine aw_if_ne (tgt := 11) C dX6_back_6 (by decide) (fun hc => ?_) (fun hc => ?_)
  · have he := ift hc he
    refine aw_iconst (v := -1) C dX6_back_9 (by decide) ?_
    have he := Option.some.inj he
    subst he
    exact aw_iret C X dX6_back_10 (by decide) (by decide)
  · have he := iff_ hc he
    refine aw_sipush (v := 860) C dX6_back_11 (by decide) ?_
    refine aw_iload_n C dX6_back_14 rfl (j := 1) rfl ?_
    refine aw_imul C dX6_back_15 ?_
    refine aw_istore_n C dX6_back_16 rfl (by decide) rfl (lv' := [(0, .inr l0), (1, .inl l1), (2, .inl ((860 : Int32) * l1))]) rfl ?_
    refine aw_aload_n C dX6_back_17 rfl (j := 0) rfl ?_
    obtain ⟨v18, hv, he⟩ := ob he
    refine aw_gA C fk_X6_55 dX6_back_18 hv ?_
    refine aw_iload_n C dX6_back_21 rfl (j := 2) rfl ?_
    obtain ⟨v22, hv, he⟩ := ob he
    refine aw_iald C dX6_back_22 hv ?_
    refine aw_if_ne (tgt := 29) C dX6_back_23 (by decide) (fun hc => ?_) (fun hc => ?_)
    · have he := ift hc he
      refine aw_bipush (v := -2) C dX6_back_26 (by decide) ?_
      have he := Option.some.inj he
      subst he
      exact aw_iret C X dX6_back_28 (by decide) (by decide)
    · have he := iff_ hc he
      refine aw_aload_n C dX6_back_29 rfl (j := 0) rfl ?_
      refine aw_aload_n C dX6_back_30 rfl (j := 0) rfl ?_
      obtain ⟨v31, hv, he⟩ := ob he
      refine aw_gA C fk_X6_55 dX6_back_31 hv ?_
      refine aw_iload_n C dX6_back_34 rfl (j := 2) rfl ?_
      refine aw_iconst (v := 1) C dX6_back_35 (by decide) ?_
      refine aw_iadd C dX6_back_36 ?_
      obtain ⟨v37, hv, he⟩ := ob he
      refine aw_iald C dX6_back_37 hv ?_
      obtain ⟨h38, hv, he⟩ := ob he
      refine aw_put C fk_X6_126 dX6_back_38 rfl rfl hv ?_
      refine aw_aload_n C dX6_back_41 rfl (j := 0) rfl ?_
      refine aw_aload_n C dX6_back_42 rfl (j := 0) rfl ?_
      obtain ⟨v43, hv, he⟩ := ob he
      refine aw_gA C fk_X6_55 dX6_back_43 hv ?_
      refine aw_iload_n C dX6_back_46 rfl (j := 2) rfl ?_
      refine aw_iconst (v := 2) C dX6_back_47 (by decide) ?_
      refine aw_iadd C dX6_back_48 ?_
      obtain ⟨hO, he⟩ := ifs he
      obtain ⟨z49, hv, he⟩ := ob he
      refine aw_callV (ci := 6) C mb_X6_191 ⟨q_1028, q_60, rfl⟩ hO (cX6_takes_ _ _ _ _ hv) dX6_back_49 rfl (rest := []) rfl (cat_le _ (Nat.le_of_ble_eq_true rfl)) (Nat.le_of_ble_eq_true rfl) (Nat.le_of_ble_eq_true rfl) (Nat.le_of_ble_eq_true rfl) (st2 := []) rfl ?_
      refine aw_iconst (v := 0) C dX6_back_52 (by decide) ?_
      refine aw_istore_n C dX6_back_53 rfl (by decide) rfl (lv' := [(0, .inr l0), (1, .inl l1), (2, .inl ((860 : Int32) * l1)), (3, .inl (0 : Int32))]) rfl ?_
      refine aw_sub [0, 2, 3] (lv' := [(0, .inr l0), (2, .inl ((860 : Int32) * l1)), (3, .inl (0 : Int32))]) rfl ?_
      refine wX6_back_L54 C ?_ N _ _ _ _ he
      intro h l0 he
      refine aw_aload_n C dX6_back_84 rfl (j := 0) rfl ?_
      obtain ⟨v85, hv, he⟩ := ob he
      refine aw_gI C fk_X6_72 dX6_back_85 hv ?_
      have he := Option.some.inj he
      subst he
      exact aw_iret C X dX6_back_88 (by decide) (by decide)
theorem cX6_back_ (l : Launch) (D : va_G) (dA : Nat → ClassId) (base : Nat) {N : Nat} {h : Hp} {sz : Nat} {l0 : Option Nat} {l1 : Int32} {out : Int32 × Hp} (he : fX6_back N h l0 l1 = some out) : AM l D dA base yX6_back cX6_back 4 (some .int) 1 0 0 [.inr l0, .inl l1] h sz (some (.int out.1)) out.2 sz :=
  AM.of (by decide +kernel) (Nat.le_of_ble_eq_true rfl) rfl (fun Γ C X hn => wX6_back C X he)
set_option maxHeartbeats 4000000 in
set_option maxRecDepth 100000 in
theorem wX5_count {Γ : GG} (C : CX Γ cX5_count 2 RX5 0 0 0) {N : Nat} {sz : Nat} {h : Hp} {out : Int32} (X : RX Γ (some .int) (some (.int out)) h sz 0 0) {l0 : Option Nat} {l1 : Int32} (he : fX5_count N h l0 l1 = some out) : AW Γ 2 h sz 0 0 0 [(0, .inr l0), (1, .inl l1)] [] := by
  unfold fX5_count at he
  refine aw_iload_n C dX5_count_0 rfl (j := 1) rfl ?_
  by_cases c0 : l1 = 0
  · have he := ift c0 he
    refine aw_tsIn (v := 0) (off := 39) (tgt := 40) C dX5_count_1 c0 (by decide) (by decide) (by decide) (by decide) ?_
    refine aw_aload_n C dX5_count_40 rfl (j := 0) rfl ?_
    obtain ⟨v41, hv, he⟩ := ob he
    refine aw_gA C fk_X5_26 dX5_count_41 hv ?_
    obtain ⟨v44, hv, he⟩ := ob he
    refine aw_gI C fk_X5_287 dX5_count_44 hv ?_
    have he := Option.some.inj he
    subst he
    exact aw_iret C X dX5_count_47 (by decide) (by decide)
  have he := iff_ c0 he
  by_cases c1 : l1 = 1
  · have he := ift c1 he
    refine aw_tsIn (v := 1) (off := 47) (tgt := 48) C dX5_count_1 c1 (by decide) (by decide) (by decide) (by decide) ?_
    refine aw_aload_n C dX5_count_48 rfl (j := 0) rfl ?_
    obtain ⟨v49, hv, he⟩ := ob he
    refine aw_gA C fk_X5_26 dX5_count_49 hv ?_
    obtain ⟨v52, hv, he⟩ := ob he
    refine aw_gI C fk_X5_205 dX5_count_52 hv ?_
    have he := Option.some.inj he
    subst he
    exact aw_iret C X dX5_count_55 (by decide) (by decide)
  have he := iff_ c1 he
  by_cases c2 : l1 = 2
  · have he := ift c2 he
    refine aw_tsIn (v := 2) (off := 55) (tgt := 56) C dX5_count_1 c2 (by decide) (by decide) (by decide) (by decide) ?_
    refine aw_aload_n C dX5_count_56 rfl (j := 0) rfl ?_
    obtain ⟨v57, hv, he⟩ := ob he
    refine aw_gA C fk_X5_26 dX5_count_57 hv ?_
    obtain ⟨v60, hv, he⟩ := ob he
    refine aw_gI C fk_X5_290 dX5_count_60 hv ?_
    have he := Option.some.inj he
    subst he
    exact aw_iret C X dX5_count_63 (by decide) (by decide)
  have he := iff_ c2 he
  by_cases c3 : l1 = 3
  · have he := ift c3 he
    refine aw_tsIn (v := 3) (off := 63) (tgt := 64) C dX5_count_1 c3 (by decide) (by decide) (by decide) (by decide) ?_
    refine aw_aload_n C dX5_count_64 rfl (j := 0) rfl ?_
    obtain ⟨v65, hv, he⟩ := ob he
    refine aw_gA C fk_X5_19 dX5_count_65 hv ?_
    obtain ⟨v68, hv, he⟩ := ob he
    refine aw_gI C fk_X5_243 dX5_count_68 hv ?_
    have he := Option.some.inj he
    subst he
    exact aw_iret C X dX5_count_71 (by decide) (by decide)
  have he := iff_ c3 he
  by_cases c4 : l1 = 4
  · have he := ift c4 he
    refine aw_tsIn (v := 4) (off := 71) (tgt := 72) C dX5_count_1 c4 (by decide) (by decide) (by decide) (by decide) ?_
    refine aw_aload_n C dX5_count_72 rfl (j := 0) rfl ?_
    obtain ⟨v73, hv, he⟩ := ob he
    refine aw_gA C fk_X5_44 dX5_count_73 hv ?_
    obtain ⟨v76, hv, he⟩ := ob he
    refine aw_gI C fk_X5_193 dX5_count_76 hv ?_
    have he := Option.some.inj he
    subst he
    exact aw_iret C X dX5_count_79 (by decide) (by decide)
  have he := iff_ c4 he
  by_cases c5 : l1 = 5
  · have he := ift c5 he
    refine aw_tsIn (v := 5) (off := 79) (tgt := 80) C dX5_count_1 c5 (by decide) (by decide) (by decide) (by decide) ?_
    refine aw_aload_n C dX5_count_80 rfl (j := 0) rfl ?_
    obtain ⟨v81, hv, he⟩ := ob he
    refine aw_gA C fk_X5_10 dX5_count_81 hv ?_
    obtain ⟨v84, hv, he⟩ := ob he
    refine aw_gI C fk_X5_80 dX5_count_84 hv ?_
    have he := Option.some.inj he
    subst he
    exact aw_iret C X dX5_count_87 (by decide) (by decide)
  have he := iff_ c5 he
  refine aw_tsOut (tgt := 88) C dX5_count_1 (by have e0 := lv_neT c0 (by decide : (0 : Int32).toInt = 0); have e1 := lv_neT c1 (by decide : (1 : Int32).toInt = 1); have e2 := lv_neT c2 (by decide : (2 : Int32).toInt = 2); have e3 := lv_neT c3 (by decide : (3 : Int32).toInt = 3); have e4 := lv_neT c4 (by decide : (4 : Int32).toInt = 4); have e5 := lv_neT c5 (by decide : (5 : Int32).toInt = 5);  omega) (by decide) ?_
  refine aw_iconst (v := -1) C dX5_count_88 (by decide) ?_
  have he := Option.some.inj he
  subst he
  exact aw_iret C X dX5_count_89 (by decide) (by decide)
theorem cX5_count_ (l : Launch) (D : va_G) (dA : Nat → ClassId) (base : Nat) {N : Nat} {h : Hp} {sz : Nat} {l0 : Option Nat} {l1 : Int32} {out : Int32} (he : fX5_count N h l0 l1 = some out) : AM l D dA base yX5_count cX5_count 2 (some .int) 0 0 0 [.inr l0, .inl l1] h sz (some (.int out)) h sz :=
  AM.of (by decide +kernel) (Nat.le_of_ble_eq_true rfl) rfl (fun Γ C X hn => wX5_count C X he)
set_option maxHeartbeats 4000000 in
set_option maxRecDepth 100000 in
theorem wX6_count {Γ : GG} (C : CX Γ cX6_count 2 RX6 1 0 0) {N : Nat} {sz : Nat} {h : Hp} {out : Int32} (X : RX Γ (some .int) (some (.int out)) h sz 0 0) {l0 : Option Nat} {l1 : Int32} (he : fX6_count N h l0 l1 = some out) : AW Γ 2 h sz 0 0 0 [(0, .inr l0), (1, .inl l1)] [] := by
  unfold fX6_count at he
  refine aw_iload_n C dX6_count_0 rfl (j := 1) rfl ?_
  refine aw_iconst (v := 0) C dX6_count_1 (by decide) ?_
  refine aw_iconst (v := 5) C dX6_count_2 (by decide) ?_
  obtain ⟨v3, hv, he⟩ := ob he
  refine aw_callS C mb_X6_62 q_874 (cX6_in_ _ _ _ _ hv) dX6_count_3 rfl (rest := []) rfl (cat_le _ (Nat.le_of_ble_eq_true rfl)) (Nat.le_of_ble_eq_true rfl) (Nat.le_of_ble_eq_true rfl) (Nat.le_of_ble_eq_true rfl) (st2 := [.int v3]) rfl ?_
  refine aw_if_ne (tgt := 11) C dX6_count_6 (by decide) (fun hc => ?_) (fun hc => ?_)
  · have he := ift hc he
    refine aw_iconst (v := -1) C dX6_count_9 (by decide) ?_
    have he := Option.some.inj he
    subst he
    exact aw_iret C X dX6_count_10 (by decide) (by decide)
  · have he := iff_ hc he
    refine aw_iload_n C dX6_count_11 rfl (j := 1) rfl ?_
    refine aw_if_ne (tgt := 22) C dX6_count_12 (by decide) (fun hc => ?_) (fun hc => ?_)
    · have he := ift hc he
      refine aw_aload_n C dX6_count_15 rfl (j := 0) rfl ?_
      obtain ⟨v16, hv, he⟩ := ob he
      refine aw_gI C fk_X6_58 dX6_count_16 hv ?_
      refine aw_goto (tgt := 74) C dX6_count_19 (by decide) ?_
      have he := Option.some.inj he
      subst he
      exact aw_iret C X dX6_count_74 (by decide) (by decide)
    · have he := iff_ hc he
      refine aw_iload_n C dX6_count_22 rfl (j := 1) rfl ?_
      refine aw_iconst (v := 1) C dX6_count_23 (by decide) ?_
      refine aw_ic_ne (tgt := 34) C dX6_count_24 (by decide) (fun hc => ?_) (fun hc => ?_)
      · have he := ift hc he
        refine aw_aload_n C dX6_count_27 rfl (j := 0) rfl ?_
        obtain ⟨v28, hv, he⟩ := ob he
        refine aw_gI C fk_X6_66 dX6_count_28 hv ?_
        refine aw_goto (tgt := 74) C dX6_count_31 (by decide) ?_
        have he := Option.some.inj he
        subst he
        exact aw_iret C X dX6_count_74 (by decide) (by decide)
      · have he := iff_ hc he
        refine aw_iload_n C dX6_count_34 rfl (j := 1) rfl ?_
        refine aw_iconst (v := 2) C dX6_count_35 (by decide) ?_
        refine aw_ic_ne (tgt := 46) C dX6_count_36 (by decide) (fun hc => ?_) (fun hc => ?_)
        · have he := ift hc he
          refine aw_aload_n C dX6_count_39 rfl (j := 0) rfl ?_
          obtain ⟨v40, hv, he⟩ := ob he
          refine aw_gI C fk_X6_69 dX6_count_40 hv ?_
          refine aw_goto (tgt := 74) C dX6_count_43 (by decide) ?_
          have he := Option.some.inj he
          subst he
          exact aw_iret C X dX6_count_74 (by decide) (by decide)
        · have he := iff_ hc he
          refine aw_iload_n C dX6_count_46 rfl (j := 1) rfl ?_
          refine aw_iconst (v := 3) C dX6_count_47 (by decide) ?_
          refine aw_ic_ne (tgt := 58) C dX6_count_48 (by decide) (fun hc => ?_) (fun hc => ?_)
          · have he := ift hc he
            refine aw_aload_n C dX6_count_51 rfl (j := 0) rfl ?_
            obtain ⟨v52, hv, he⟩ := ob he
            refine aw_gI C fk_X6_123 dX6_count_52 hv ?_
            refine aw_goto (tgt := 74) C dX6_count_55 (by decide) ?_
            have he := Option.some.inj he
            subst he
            exact aw_iret C X dX6_count_74 (by decide) (by decide)
          · have he := iff_ hc he
            refine aw_iload_n C dX6_count_58 rfl (j := 1) rfl ?_
            refine aw_iconst (v := 4) C dX6_count_59 (by decide) ?_
            refine aw_ic_ne (tgt := 70) C dX6_count_60 (by decide) (fun hc => ?_) (fun hc => ?_)
            · have he := ift hc he
              refine aw_aload_n C dX6_count_63 rfl (j := 0) rfl ?_
              obtain ⟨v64, hv, he⟩ := ob he
              refine aw_gI C fk_X6_126 dX6_count_64 hv ?_
              refine aw_goto (tgt := 74) C dX6_count_67 (by decide) ?_
              have he := Option.some.inj he
              subst he
              exact aw_iret C X dX6_count_74 (by decide) (by decide)
            · have he := iff_ hc he
              refine aw_aload_n C dX6_count_70 rfl (j := 0) rfl ?_
              obtain ⟨v71, hv, he⟩ := ob he
              refine aw_gI C fk_X6_75 dX6_count_71 hv ?_
              have he := Option.some.inj he
              subst he
              exact aw_iret C X dX6_count_74 (by decide) (by decide)
theorem cX6_count_ (l : Launch) (D : va_G) (dA : Nat → ClassId) (base : Nat) {N : Nat} {h : Hp} {sz : Nat} {l0 : Option Nat} {l1 : Int32} {out : Int32} (he : fX6_count N h l0 l1 = some out) : AM l D dA base yX6_count cX6_count 2 (some .int) 1 0 0 [.inr l0, .inl l1] h sz (some (.int out)) h sz :=
  AM.of (by decide +kernel) (Nat.le_of_ble_eq_true rfl) rfl (fun Γ C X hn => wX6_count C X he)
set_option maxHeartbeats 4000000 in
set_option maxRecDepth 100000 in
theorem wX5_trace {Γ : GG} (C : CX Γ cX5_trace 1 RX5 0 0 0) {N : Nat} {sz : Nat} {h : Hp} {out : Int64} (X : RX Γ (some .long) (some (.long out)) h sz 0 0) {l0 : Option Nat} (he : fX5_trace N h l0 = some out) : AW Γ 1 h sz 0 0 0 [(0, .inr l0)] [] := by
  unfold fX5_trace at he
  refine aw_aload_n C dX5_trace_0 rfl (j := 0) rfl ?_
  obtain ⟨v1, hv, he⟩ := ob he
  refine aw_gJ C fk_X5_54 dX5_trace_1 hv ?_
  have he := Option.some.inj he
  subst he
  exact aw_lret C X dX5_trace_4 (by decide) (by decide)
theorem cX5_trace_ (l : Launch) (D : va_G) (dA : Nat → ClassId) (base : Nat) {N : Nat} {h : Hp} {sz : Nat} {l0 : Option Nat} {out : Int64} (he : fX5_trace N h l0 = some out) : AM l D dA base yX5_trace cX5_trace 1 (some .long) 0 0 0 [.inr l0] h sz (some (.long out)) h sz :=
  AM.of (by decide +kernel) (Nat.le_of_ble_eq_true rfl) rfl (fun Γ C X hn => wX5_trace C X he)
set_option maxHeartbeats 4000000 in
set_option maxRecDepth 100000 in
theorem wX6_trace {Γ : GG} (C : CX Γ cX6_trace 1 RX6 0 0 0) {N : Nat} {sz : Nat} {h : Hp} {out : Int64} (X : RX Γ (some .long) (some (.long out)) h sz 0 0) {l0 : Option Nat} (he : fX6_trace N h l0 = some out) : AW Γ 1 h sz 0 0 0 [(0, .inr l0)] [] := by
  unfold fX6_trace at he
  refine aw_aload_n C dX6_trace_0 rfl (j := 0) rfl ?_
  obtain ⟨v1, hv, he⟩ := ob he
  refine aw_gJ C fk_X6_220 dX6_trace_1 hv ?_
  have he := Option.some.inj he
  subst he
  exact aw_lret C X dX6_trace_4 (by decide) (by decide)
theorem cX6_trace_ (l : Launch) (D : va_G) (dA : Nat → ClassId) (base : Nat) {N : Nat} {h : Hp} {sz : Nat} {l0 : Option Nat} {out : Int64} (he : fX6_trace N h l0 = some out) : AM l D dA base yX6_trace cX6_trace 1 (some .long) 0 0 0 [.inr l0] h sz (some (.long out)) h sz :=
  AM.of (by decide +kernel) (Nat.le_of_ble_eq_true rfl) rfl (fun Γ C X hn => wX6_trace C X he)
