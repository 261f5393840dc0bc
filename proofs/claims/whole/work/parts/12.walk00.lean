set_option maxHeartbeats 4000000 in
set_option maxRecDepth 100000 in
theorem wX4_init {Γ : GG} (C : CX Γ cX4_init 1 RX4 1 1 100) {N : Nat} {out : Hp × Nat} (X : RX Γ none none out.1 out.2 1 100) (hin : (g_t Γ).name = "<init>") {h : Hp} {sz : Nat} {l0 : Option Nat} (he : fX4_init N h sz l0 = some out) : AW Γ 1 h sz 0 0 0 [(0, .inr l0)] [] := by
  unfold fX4_init at he
  refine aw_aload_n C dX4_init_0 rfl (j := 0) rfl ?_
  obtain ⟨hy, he⟩ := ifn he
  refine aw_objInit C q_96 q_89 q_90 (Nat.le_of_ble_eq_true rfl) (Nat.le_of_ble_eq_true rfl) hy dX4_init_1 ?_
  refine aw_aload_n C dX4_init_4 rfl (j := 0) rfl ?_
  refine aw_bipush (v := 100) C dX4_init_5 (by decide) ?_
  refine aw_newI (N := 100) C q_117 dX4_init_7 (by decide) (by decide) (by decide) (by decide) (by decide) ?_
  obtain ⟨h9, hv, he⟩ := ob he
  refine aw_putF C fk_X4_9 rfl hin dX4_init_9 (nf_ref (Or.inr ⟨_, rfl⟩) _).1 (nf_ref (Or.inr ⟨_, rfl⟩) _).2 hv ?_
  refine aw_aload_n C dX4_init_12 rfl (j := 0) rfl ?_
  refine aw_iconst (v := 0) C dX4_init_13 (by decide) ?_
  obtain ⟨h14, hv, he⟩ := ob he
  refine aw_put C fk_X4_15 dX4_init_14 rfl rfl hv ?_
  refine aw_aload_n C dX4_init_17 rfl (j := 0) rfl ?_
  refine aw_iconst (v := 0) C dX4_init_18 (by decide) ?_
  obtain ⟨h19, hv, he⟩ := ob he
  refine aw_put C fk_X4_19 dX4_init_19 rfl rfl hv ?_
  refine aw_aload_n C dX4_init_22 rfl (j := 0) rfl ?_
  refine aw_iconst (v := 0) C dX4_init_23 (by decide) ?_
  obtain ⟨h24, hv, he⟩ := ob he
  refine aw_put C fk_X4_22 dX4_init_24 rfl rfl hv ?_
  refine aw_aload_n C dX4_init_27 rfl (j := 0) rfl ?_
  refine aw_iconst (v := 0) C dX4_init_28 (by decide) ?_
  obtain ⟨h29, hv, he⟩ := ob he
  refine aw_put C fk_X4_25 dX4_init_29 rfl rfl hv ?_
  refine aw_aload_n C dX4_init_32 rfl (j := 0) rfl ?_
  refine aw_iconst (v := 0) C dX4_init_33 (by decide) ?_
  obtain ⟨h34, hv, he⟩ := ob he
  refine aw_put C fk_X4_28 dX4_init_34 rfl rfl hv ?_
  have he := Option.some.inj he
  subst he
  exact aw_vret C X dX4_init_37 (by decide) (by decide)
theorem cX4_init_ (l : Launch) (D : va_G) (dA : Nat → ClassId) (base : Nat) {N : Nat} {h : Hp} {sz : Nat} {l0 : Option Nat} {out : Hp × Nat} (he : fX4_init N h sz l0 = some out) : AM l D dA base yX4_init cX4_init 1 none 1 1 100 [.inr l0] h sz none out.1 out.2 :=
  AM.of (by decide +kernel) (Nat.le_of_ble_eq_true rfl) rfl (fun Γ C X hn => wX4_init C X hn he)
set_option maxHeartbeats 4000000 in
set_option maxRecDepth 100000 in
theorem wX3_init {Γ : GG} (C : CX Γ cX3_init 1 RX3 1 2 12) {N : Nat} {out : Hp × Nat} (X : RX Γ none none out.1 out.2 2 12) (hin : (g_t Γ).name = "<init>") {h : Hp} {sz : Nat} {l0 : Option Nat} (he : fX3_init N h sz l0 = some out) : AW Γ 1 h sz 0 0 0 [(0, .inr l0)] [] := by
  unfold fX3_init at he
  refine aw_aload_n C dX3_init_0 rfl (j := 0) rfl ?_
  obtain ⟨hy, he⟩ := ifn he
  refine aw_objInit C q_123 q_89 q_90 (Nat.le_of_ble_eq_true rfl) (Nat.le_of_ble_eq_true rfl) hy dX3_init_1 ?_
  refine aw_aload_n C dX3_init_4 rfl (j := 0) rfl ?_
  refine aw_bipush (v := 6) C dX3_init_5 (by decide) ?_
  refine aw_newI (N := 6) C q_117 dX3_init_7 (by decide) (by decide) (by decide) (by decide) (by decide) ?_
  obtain ⟨h9, hv, he⟩ := ob he
  refine aw_putF C fk_X3_9 rfl hin dX3_init_9 (nf_ref (Or.inr ⟨_, rfl⟩) _).1 (nf_ref (Or.inr ⟨_, rfl⟩) _).2 hv ?_
  refine aw_aload_n C dX3_init_12 rfl (j := 0) rfl ?_
  refine aw_bipush (v := 6) C dX3_init_13 (by decide) ?_
  refine aw_newZ (N := 6) C q_135 dX3_init_15 (by decide) (by decide) (by decide) (by decide) (by decide) ?_
  obtain ⟨h17, hv, he⟩ := ob he
  refine aw_putF C fk_X3_15 rfl hin dX3_init_17 (nf_ref (Or.inr ⟨_, rfl⟩) _).1 (nf_ref (Or.inr ⟨_, rfl⟩) _).2 hv ?_
  refine aw_aload_n C dX3_init_20 rfl (j := 0) rfl ?_
  refine aw_iconst (v := 0) C dX3_init_21 (by decide) ?_
  obtain ⟨h22, hv, he⟩ := ob he
  refine aw_put C fk_X3_19 dX3_init_22 rfl rfl hv ?_
  have he := Option.some.inj he
  subst he
  exact aw_vret C X dX3_init_25 (by decide) (by decide)
theorem cX3_init_ (l : Launch) (D : va_G) (dA : Nat → ClassId) (base : Nat) {N : Nat} {h : Hp} {sz : Nat} {l0 : Option Nat} {out : Hp × Nat} (he : fX3_init N h sz l0 = some out) : AM l D dA base yX3_init cX3_init 1 none 1 2 12 [.inr l0] h sz none out.1 out.2 :=
  AM.of (by decide +kernel) (Nat.le_of_ble_eq_true rfl) rfl (fun Γ C X hn => wX3_init C X hn he)
set_option maxHeartbeats 4000000 in
set_option maxRecDepth 100000 in
theorem wX0_init {Γ : GG} (C : CX Γ cX0_init 1 RX0 1 3 14) {N : Nat} {out : Hp × Nat} (X : RX Γ none none out.1 out.2 3 14) (hin : (g_t Γ).name = "<init>") {h : Hp} {sz : Nat} {l0 : Option Nat} (he : fX0_init N h sz l0 = some out) : AW Γ 1 h sz 0 0 0 [(0, .inr l0)] [] := by
  unfold fX0_init at he
  refine aw_aload_n C dX0_init_0 rfl (j := 0) rfl ?_
  obtain ⟨hy, he⟩ := ifn he
  refine aw_objInit C q_141 q_89 q_90 (Nat.le_of_ble_eq_true rfl) (Nat.le_of_ble_eq_true rfl) hy dX0_init_1 ?_
  refine aw_aload_n C dX0_init_4 rfl (j := 0) rfl ?_
  refine aw_iconst (v := 4) C dX0_init_5 (by decide) ?_
  refine aw_newI (N := 4) C q_117 dX0_init_6 (by decide) (by decide) (by decide) (by decide) (by decide) ?_
  obtain ⟨h8, hv, he⟩ := ob he
  refine aw_putF C fk_X0_9 rfl hin dX0_init_8 (nf_ref (Or.inr ⟨_, rfl⟩) _).1 (nf_ref (Or.inr ⟨_, rfl⟩) _).2 hv ?_
  refine aw_aload_n C dX0_init_11 rfl (j := 0) rfl ?_
  refine aw_bipush (v := 6) C dX0_init_12 (by decide) ?_
  refine aw_newI (N := 6) C q_117 dX0_init_14 (by decide) (by decide) (by decide) (by decide) (by decide) ?_
  obtain ⟨h16, hv, he⟩ := ob he
  refine aw_putF C fk_X0_15 rfl hin dX0_init_16 (nf_ref (Or.inr ⟨_, rfl⟩) _).1 (nf_ref (Or.inr ⟨_, rfl⟩) _).2 hv ?_
  refine aw_aload_n C dX0_init_19 rfl (j := 0) rfl ?_
  refine aw_iconst (v := 4) C dX0_init_20 (by decide) ?_
  refine aw_newI (N := 4) C q_117 dX0_init_21 (by decide) (by decide) (by decide) (by decide) (by decide) ?_
  obtain ⟨h23, hv, he⟩ := ob he
  refine aw_putF C fk_X0_18 rfl hin dX0_init_23 (nf_ref (Or.inr ⟨_, rfl⟩) _).1 (nf_ref (Or.inr ⟨_, rfl⟩) _).2 hv ?_
  refine aw_aload_n C dX0_init_26 rfl (j := 0) rfl ?_
  refine aw_iconst (v := 0) C dX0_init_27 (by decide) ?_
  obtain ⟨h28, hv, he⟩ := ob he
  refine aw_put C fk_X0_21 dX0_init_28 rfl rfl hv ?_
  refine aw_aload_n C dX0_init_31 rfl (j := 0) rfl ?_
  refine aw_iconst (v := 0) C dX0_init_32 (by decide) ?_
  obtain ⟨h33, hv, he⟩ := ob he
  refine aw_put C fk_X0_25 dX0_init_33 rfl rfl hv ?_
  refine aw_aload_n C dX0_init_36 rfl (j := 0) rfl ?_
  refine aw_iconst (v := 0) C dX0_init_37 (by decide) ?_
  obtain ⟨h38, hv, he⟩ := ob he
  refine aw_put C fk_X0_28 dX0_init_38 rfl rfl hv ?_
  have he := Option.some.inj he
  subst he
  exact aw_vret C X dX0_init_41 (by decide) (by decide)
theorem cX0_init_ (l : Launch) (D : va_G) (dA : Nat → ClassId) (base : Nat) {N : Nat} {h : Hp} {sz : Nat} {l0 : Option Nat} {out : Hp × Nat} (he : fX0_init N h sz l0 = some out) : AM l D dA base yX0_init cX0_init 1 none 1 3 14 [.inr l0] h sz none out.1 out.2 :=
  AM.of (by decide +kernel) (Nat.le_of_ble_eq_true rfl) rfl (fun Γ C X hn => wX0_init C X hn he)
set_option maxHeartbeats 4000000 in
set_option maxRecDepth 100000 in
theorem wX2_init {Γ : GG} (C : CX Γ cX2_init 4 RX2 1 0 0) {N : Nat} {sz : Nat} {out : Hp} (X : RX Γ none none out sz 0 0) (hin : (g_t Γ).name = "<init>") {h : Hp} {l0 : Option Nat} {l1 : Int32} {l2 : Option Nat} {l3 : Option Nat} (he : fX2_init N h l0 l1 l2 l3 = some out) : AW Γ 4 h sz 0 0 0 [(0, .inr l0), (1, .inl l1), (2, .inr l2), (3, .inr l3)] [] := by
  unfold fX2_init at he
  refine aw_aload_n C dX2_init_0 rfl (j := 0) rfl ?_
  obtain ⟨hy, he⟩ := ifn he
  refine aw_objInit C q_171 q_89 q_90 (Nat.le_of_ble_eq_true rfl) (Nat.le_of_ble_eq_true rfl) hy dX2_init_1 ?_
  refine aw_aload_n C dX2_init_4 rfl (j := 0) rfl ?_
  refine aw_iload_n C dX2_init_5 rfl (j := 1) rfl ?_
  obtain ⟨h6, hv, he⟩ := ob he
  refine aw_putF C fk_X2_9 rfl hin dX2_init_6 rfl rfl hv ?_
  refine aw_aload_n C dX2_init_9 rfl (j := 0) rfl ?_
  refine aw_aload_n C dX2_init_10 rfl (j := 2) rfl ?_
  obtain ⟨h11, hv, he⟩ := ob he
  refine aw_putF C fk_X2_15 rfl hin dX2_init_11 (nf_ref (Or.inr ⟨_, rfl⟩) _).1 (nf_ref (Or.inr ⟨_, rfl⟩) _).2 hv ?_
  refine aw_aload_n C dX2_init_14 rfl (j := 0) rfl ?_
  refine aw_aload_n C dX2_init_15 rfl (j := 3) rfl ?_
  obtain ⟨h16, hv, he⟩ := ob he
  refine aw_putF C fk_X2_19 rfl hin dX2_init_16 (nf_ref (Or.inr ⟨_, rfl⟩) _).1 (nf_ref (Or.inr ⟨_, rfl⟩) _).2 hv ?_
  have he := Option.some.inj he
  subst he
  exact aw_vret C X dX2_init_19 (by decide) (by decide)
theorem cX2_init_ (l : Launch) (D : va_G) (dA : Nat → ClassId) (base : Nat) {N : Nat} {h : Hp} {sz : Nat} {l0 : Option Nat} {l1 : Int32} {l2 : Option Nat} {l3 : Option Nat} {out : Hp} (he : fX2_init N h l0 l1 l2 l3 = some out) : AM l D dA base yX2_init cX2_init 4 none 1 0 0 [.inr l0, .inl l1, .inr l2, .inr l3] h sz none out sz :=
  AM.of (by decide +kernel) (Nat.le_of_ble_eq_true rfl) rfl (fun Γ C X hn => wX2_init C X hn he)
set_option maxHeartbeats 4000000 in
set_option maxRecDepth 100000 in
theorem wX8_init {Γ : GG} (C : CX Γ cX8_init 1 RX8 1 1 10) {N : Nat} {out : Hp × Nat} (X : RX Γ none none out.1 out.2 1 10) (hin : (g_t Γ).name = "<init>") {h : Hp} {sz : Nat} {l0 : Option Nat} (he : fX8_init N h sz l0 = some out) : AW Γ 1 h sz 0 0 0 [(0, .inr l0)] [] := by
  unfold fX8_init at he
  refine aw_aload_n C dX8_init_0 rfl (j := 0) rfl ?_
  obtain ⟨hy, he⟩ := ifn he
  refine aw_objInit C q_189 q_89 q_90 (Nat.le_of_ble_eq_true rfl) (Nat.le_of_ble_eq_true rfl) hy dX8_init_1 ?_
  refine aw_aload_n C dX8_init_4 rfl (j := 0) rfl ?_
  refine aw_bipush (v := 10) C dX8_init_5 (by decide) ?_
  refine aw_newA (N := 10) (i := 3) (t := 3) C rfl (fun z => z.2.2.2.1) q_190 dX8_init_7 (by decide) (by decide) (by decide) (by decide) (by decide) ?_
  obtain ⟨h10, hv, he⟩ := ob he
  refine aw_putF C fk_X8_11 rfl hin dX8_init_10 (nf_ref (Or.inr ⟨_, rfl⟩) _).1 (nf_ref (Or.inr ⟨_, rfl⟩) _).2 hv ?_
  refine aw_aload_n C dX8_init_13 rfl (j := 0) rfl ?_
  refine aw_iconst (v := 0) C dX8_init_14 (by decide) ?_
  obtain ⟨h15, hv, he⟩ := ob he
  refine aw_put C fk_X8_17 dX8_init_15 rfl rfl hv ?_
  have he := Option.some.inj he
  subst he
  exact aw_vret C X dX8_init_18 (by decide) (by decide)
theorem cX8_init_ (l : Launch) (D : va_G) (dA : Nat → ClassId) (base : Nat) {N : Nat} {h : Hp} {sz : Nat} {l0 : Option Nat} {out : Hp × Nat} (he : fX8_init N h sz l0 = some out) : AM l D dA base yX8_init cX8_init 1 none 1 1 10 [.inr l0] h sz none out.1 out.2 :=
  AM.of (by decide +kernel) (Nat.le_of_ble_eq_true rfl) rfl (fun Γ C X hn => wX8_init C X hn he)
set_option maxHeartbeats 4000000 in
set_option maxRecDepth 100000 in
theorem wX5_init {Γ : GG} (C : CX Γ cX5_init 1 RX5 2 18 1638) {N : Nat} {out : Hp × Nat} (X : RX Γ none none out.1 out.2 18 1638) (hin : (g_t Γ).name = "<init>") {h : Hp} {sz : Nat} {l0 : Option Nat} (he : fX5_init N h sz l0 = some out) : AW Γ 1 h sz 0 0 0 [(0, .inr l0)] [] := by
  unfold fX5_init at he
  refine aw_aload_n C dX5_init_0 rfl (j := 0) rfl ?_
  obtain ⟨hy, he⟩ := ifn he
  refine aw_objInit C q_88 q_89 q_90 (Nat.le_of_ble_eq_true rfl) (Nat.le_of_ble_eq_true rfl) hy dX5_init_1 ?_
  refine aw_aload_n C dX5_init_4 rfl (j := 0) rfl ?_
  refine aw_new C nk_X5_7 dX5_init_5 (by decide) (by decide) ?_
  refine aw_dup C dX5_init_8 (rf_cat _) ?_
  obtain ⟨z9, hv, he⟩ := ob he
  refine aw_callI C mb_X5_9 ⟨rfl, q_94⟩ (cX4_init_ _ _ _ _ hv) dX5_init_9 rfl (rest := [va_rf (some sz), va_rf l0]) rfl (cat_le _ (Nat.le_of_ble_eq_true rfl)) (Nat.le_of_ble_eq_true rfl) (Nat.le_of_ble_eq_true rfl) (Nat.le_of_ble_eq_true rfl) (st2 := [va_rf (some sz), va_rf l0]) rfl ?_
  obtain ⟨h12, hv, he⟩ := ob he
  refine aw_putF C fk_X5_10 rfl hin dX5_init_12 (nf_ref (Or.inl ⟨_, rfl⟩) _).1 (nf_ref (Or.inl ⟨_, rfl⟩) _).2 hv ?_
  refine aw_aload_n C dX5_init_15 rfl (j := 0) rfl ?_
  refine aw_new C nk_X5_16 dX5_init_16 (by decide) (by decide) ?_
  refine aw_dup C dX5_init_19 (rf_cat _) ?_
  obtain ⟨z20, hv, he⟩ := ob he
  refine aw_callI C mb_X5_18 ⟨rfl, q_121⟩ (cX3_init_ _ _ _ _ hv) dX5_init_20 rfl (rest := [va_rf (some z9.2), va_rf l0]) rfl (cat_le _ (Nat.le_of_ble_eq_true rfl)) (Nat.le_of_ble_eq_true rfl) (Nat.le_of_ble_eq_true rfl) (Nat.le_of_ble_eq_true rfl) (st2 := [va_rf (some z9.2), va_rf l0]) rfl ?_
  obtain ⟨h23, hv, he⟩ := ob he
  refine aw_putF C fk_X5_19 rfl hin dX5_init_23 (nf_ref (Or.inl ⟨_, rfl⟩) _).1 (nf_ref (Or.inl ⟨_, rfl⟩) _).2 hv ?_
  refine aw_aload_n C dX5_init_26 rfl (j := 0) rfl ?_
  refine aw_new C nk_X5_23 dX5_init_27 (by decide) (by decide) ?_
  refine aw_dup C dX5_init_30 (rf_cat _) ?_
  obtain ⟨z31, hv, he⟩ := ob he
  refine aw_callI C mb_X5_25 ⟨rfl, q_139⟩ (cX0_init_ _ _ _ _ hv) dX5_init_31 rfl (rest := [va_rf (some z20.2), va_rf l0]) rfl (cat_le _ (Nat.le_of_ble_eq_true rfl)) (Nat.le_of_ble_eq_true rfl) (Nat.le_of_ble_eq_true rfl) (Nat.le_of_ble_eq_true rfl) (st2 := [va_rf (some z20.2), va_rf l0]) rfl ?_
  obtain ⟨h34, hv, he⟩ := ob he
  refine aw_put C fk_X5_26 dX5_init_34 (nf_ref (Or.inl ⟨_, rfl⟩) _).1 (nf_ref (Or.inl ⟨_, rfl⟩) _).2 hv ?_
  refine aw_aload_n C dX5_init_37 rfl (j := 0) rfl ?_
  refine aw_new C nk_X5_30 dX5_init_38 (by decide) (by decide) ?_
  refine aw_dup C dX5_init_41 (rf_cat _) ?_
  refine aw_iconst (v := 0) C dX5_init_42 (by decide) ?_
  refine aw_iconst (v := 0) C dX5_init_43 (by decide) ?_
  refine aw_newI (N := 0) C q_117 dX5_init_44 (by decide) (by decide) (by decide) (by decide) (by decide) ?_
  refine aw_iconst (v := 0) C dX5_init_46 (by decide) ?_
  refine aw_newA (N := 0) (i := 2) (t := 2) C rfl (fun z => z.2.2.1) q_166 dX5_init_47 (by decide) (by decide) (by decide) (by decide) (by decide) ?_
  obtain ⟨z50, hv, he⟩ := ob he
  refine aw_callI C mb_X5_34 ⟨rfl, q_169⟩ (cX2_init_ _ _ _ _ hv) dX5_init_50 rfl (rest := [va_rf (some z31.2), va_rf l0]) rfl (cat_le _ (Nat.le_of_ble_eq_true rfl)) (Nat.le_of_ble_eq_true rfl) (Nat.le_of_ble_eq_true rfl) (Nat.le_of_ble_eq_true rfl) (st2 := [va_rf (some z31.2), va_rf l0]) rfl ?_
  obtain ⟨h53, hv, he⟩ := ob he
  refine aw_put C fk_X5_37 dX5_init_53 (nf_ref (Or.inl ⟨_, rfl⟩) _).1 (nf_ref (Or.inl ⟨_, rfl⟩) _).2 hv ?_
  refine aw_aload_n C dX5_init_56 rfl (j := 0) rfl ?_
  refine aw_new C nk_X5_41 dX5_init_57 (by decide) (by decide) ?_
  refine aw_dup C dX5_init_60 (rf_cat _) ?_
  obtain ⟨z61, hv, he⟩ := ob he
  refine aw_callI C mb_X5_43 ⟨rfl, q_187⟩ (cX8_init_ _ _ _ _ hv) dX5_init_61 rfl (rest := [va_rf (some (((z31.2 + 1) + 1) + 1)), va_rf l0]) rfl (cat_le _ (Nat.le_of_ble_eq_true rfl)) (Nat.le_of_ble_eq_true rfl) (Nat.le_of_ble_eq_true rfl) (Nat.le_of_ble_eq_true rfl) (st2 := [va_rf (some (((z31.2 + 1) + 1) + 1)), va_rf l0]) rfl ?_
  obtain ⟨h64, hv, he⟩ := ob he
  refine aw_putF C fk_X5_44 rfl hin dX5_init_64 (nf_ref (Or.inl ⟨_, rfl⟩) _).1 (nf_ref (Or.inl ⟨_, rfl⟩) _).2 hv ?_
  refine aw_aload_n C dX5_init_67 rfl (j := 0) rfl ?_
  refine aw_iconst (v := 2) C dX5_init_68 (by decide) ?_
  refine aw_newA (N := 2) (i := 4) (t := 8) C rfl (fun z => z.2.2.2.2.2) q_200 dX5_init_69 (by decide) (by decide) (by decide) (by decide) (by decide) ?_
  obtain ⟨h72, hv, he⟩ := ob he
  refine aw_putF C fk_X5_50 rfl hin dX5_init_72 (nf_ref (Or.inr ⟨_, rfl⟩) _).1 (nf_ref (Or.inr ⟨_, rfl⟩) _).2 hv ?_
  refine aw_aload_n C dX5_init_75 rfl (j := 0) rfl ?_
  refine aw_lconst (v := 0) C dX5_init_76 (by decide) ?_
  obtain ⟨h77, hv, he⟩ := ob he
  refine aw_put C fk_X5_54 dX5_init_77 rfl rfl hv ?_
  refine aw_aload_n C dX5_init_80 rfl (j := 0) rfl ?_
  refine aw_sipush (v := 360) C dX5_init_81 (by decide) ?_
  refine aw_newI (N := 360) C q_117 dX5_init_84 (by decide) (by decide) (by decide) (by decide) (by decide) ?_
  obtain ⟨h86, hv, he⟩ := ob he
  refine aw_putF C fk_X5_58 rfl hin dX5_init_86 (nf_ref (Or.inr ⟨_, rfl⟩) _).1 (nf_ref (Or.inr ⟨_, rfl⟩) _).2 hv ?_
  refine aw_aload_n C dX5_init_89 rfl (j := 0) rfl ?_
  refine aw_bipush (v := 120) C dX5_init_90 (by decide) ?_
  refine aw_newI (N := 120) C q_117 dX5_init_92 (by decide) (by decide) (by decide) (by decide) (by decide) ?_
  obtain ⟨h94, hv, he⟩ := ob he
  refine aw_putF C fk_X5_62 rfl hin dX5_init_94 (nf_ref (Or.inr ⟨_, rfl⟩) _).1 (nf_ref (Or.inr ⟨_, rfl⟩) _).2 hv ?_
  refine aw_aload_n C dX5_init_97 rfl (j := 0) rfl ?_
  refine aw_sipush (v := 1000) C dX5_init_98 (by decide) ?_
  refine aw_newI (N := 1000) C q_117 dX5_init_101 (by decide) (by decide) (by decide) (by decide) (by decide) ?_
  obtain ⟨h103, hv, he⟩ := ob he
  refine aw_putF C fk_X5_65 rfl hin dX5_init_103 (nf_ref (Or.inr ⟨_, rfl⟩) _).1 (nf_ref (Or.inr ⟨_, rfl⟩) _).2 hv ?_
  refine aw_aload_n C dX5_init_106 rfl (j := 0) rfl ?_
  refine aw_iconst (v := 0) C dX5_init_107 (by decide) ?_
  obtain ⟨h108, hv, he⟩ := ob he
  refine aw_put C fk_X5_68 dX5_init_108 rfl rfl hv ?_
  have he := Option.some.inj he
  subst he
  exact aw_vret C X dX5_init_111 (by decide) (by decide)
theorem cX5_init_ (l : Launch) (D : va_G) (dA : Nat → ClassId) (base : Nat) {N : Nat} {h : Hp} {sz : Nat} {l0 : Option Nat} {out : Hp × Nat} (he : fX5_init N h sz l0 = some out) : AM l D dA base yX5_init cX5_init 1 none 2 18 1638 [.inr l0] h sz none out.1 out.2 :=
  AM.of (by decide +kernel) (Nat.le_of_ble_eq_true rfl) rfl (fun Γ C X hn => wX5_init C X hn he)
set_option maxHeartbeats 4000000 in
set_option maxRecDepth 100000 in
theorem wX6_init {Γ : GG} (C : CX Γ cX6_init 1 RX6 1 16 7192) {N : Nat} {out : Hp × Nat} (X : RX Γ none none out.1 out.2 16 7192) (hin : (g_t Γ).name = "<init>") {h : Hp} {sz : Nat} {l0 : Option Nat} (he : fX6_init N h sz l0 = some out) : AW Γ 1 h sz 0 0 0 [(0, .inr l0)] [] := by
  unfold fX6_init at he
  refine aw_aload_n C dX6_init_0 rfl (j := 0) rfl ?_
  obtain ⟨hy, he⟩ := ifn he
  refine aw_objInit C q_777 q_89 q_90 (Nat.le_of_ble_eq_true rfl) (Nat.le_of_ble_eq_true rfl) hy dX6_init_1 ?_
  refine aw_aload_n C dX6_init_4 rfl (j := 0) rfl ?_
  refine aw_iconst (v := 4) C dX6_init_5 (by decide) ?_
  refine aw_newI (N := 4) C q_117 dX6_init_6 (by decide) (by decide) (by decide) (by decide) (by decide) ?_
  obtain ⟨h8, hv, he⟩ := ob he
  refine aw_putF C fk_X6_7 rfl hin dX6_init_8 (nf_ref (Or.inr ⟨_, rfl⟩) _).1 (nf_ref (Or.inr ⟨_, rfl⟩) _).2 hv ?_
  refine aw_aload_n C dX6_init_11 rfl (j := 0) rfl ?_
  refine aw_bipush (v := 6) C dX6_init_12 (by decide) ?_
  refine aw_newI (N := 6) C q_117 dX6_init_14 (by decide) (by decide) (by decide) (by decide) (by decide) ?_
  obtain ⟨h16, hv, he⟩ := ob he
  refine aw_putF C fk_X6_13 rfl hin dX6_init_16 (nf_ref (Or.inr ⟨_, rfl⟩) _).1 (nf_ref (Or.inr ⟨_, rfl⟩) _).2 hv ?_
  refine aw_aload_n C dX6_init_19 rfl (j := 0) rfl ?_
  refine aw_iconst (v := 4) C dX6_init_20 (by decide) ?_
  refine aw_newI (N := 4) C q_117 dX6_init_21 (by decide) (by decide) (by decide) (by decide) (by decide) ?_
  obtain ⟨h23, hv, he⟩ := ob he
  refine aw_putF C fk_X6_16 rfl hin dX6_init_23 (nf_ref (Or.inr ⟨_, rfl⟩) _).1 (nf_ref (Or.inr ⟨_, rfl⟩) _).2 hv ?_
  refine aw_aload_n C dX6_init_26 rfl (j := 0) rfl ?_
  refine aw_bipush (v := 72) C dX6_init_27 (by decide) ?_
  refine aw_newI (N := 72) C q_117 dX6_init_29 (by decide) (by decide) (by decide) (by decide) (by decide) ?_
  obtain ⟨h31, hv, he⟩ := ob he
  refine aw_putF C fk_X6_19 rfl hin dX6_init_31 (nf_ref (Or.inr ⟨_, rfl⟩) _).1 (nf_ref (Or.inr ⟨_, rfl⟩) _).2 hv ?_
  refine aw_aload_n C dX6_init_34 rfl (j := 0) rfl ?_
  refine aw_bipush (v := 6) C dX6_init_35 (by decide) ?_
  refine aw_newI (N := 6) C q_117 dX6_init_37 (by decide) (by decide) (by decide) (by decide) (by decide) ?_
  obtain ⟨h39, hv, he⟩ := ob he
  refine aw_putF C fk_X6_22 rfl hin dX6_init_39 (nf_ref (Or.inr ⟨_, rfl⟩) _).1 (nf_ref (Or.inr ⟨_, rfl⟩) _).2 hv ?_
  refine aw_aload_n C dX6_init_42 rfl (j := 0) rfl ?_
  refine aw_bipush (v := 6) C dX6_init_43 (by decide) ?_
  refine aw_newI (N := 6) C q_117 dX6_init_45 (by decide) (by decide) (by decide) (by decide) (by decide) ?_
  obtain ⟨h47, hv, he⟩ := ob he
  refine aw_putF C fk_X6_25 rfl hin dX6_init_47 (nf_ref (Or.inr ⟨_, rfl⟩) _).1 (nf_ref (Or.inr ⟨_, rfl⟩) _).2 hv ?_
  refine aw_aload_n C dX6_init_50 rfl (j := 0) rfl ?_
  refine aw_bipush (v := 100) C dX6_init_51 (by decide) ?_
  refine aw_newI (N := 100) C q_117 dX6_init_53 (by decide) (by decide) (by decide) (by decide) (by decide) ?_
  obtain ⟨h55, hv, he⟩ := ob he
  refine aw_putF C fk_X6_28 rfl hin dX6_init_55 (nf_ref (Or.inr ⟨_, rfl⟩) _).1 (nf_ref (Or.inr ⟨_, rfl⟩) _).2 hv ?_
  refine aw_aload_n C dX6_init_58 rfl (j := 0) rfl ?_
  refine aw_iconst (v := 4) C dX6_init_59 (by decide) ?_
  refine aw_newI (N := 4) C q_117 dX6_init_60 (by decide) (by decide) (by decide) (by decide) (by decide) ?_
  obtain ⟨h62, hv, he⟩ := ob he
  refine aw_putF C fk_X6_31 rfl hin dX6_init_62 (nf_ref (Or.inr ⟨_, rfl⟩) _).1 (nf_ref (Or.inr ⟨_, rfl⟩) _).2 hv ?_
  refine aw_aload_n C dX6_init_65 rfl (j := 0) rfl ?_
  refine aw_bipush (v := 6) C dX6_init_66 (by decide) ?_
  refine aw_newI (N := 6) C q_117 dX6_init_68 (by decide) (by decide) (by decide) (by decide) (by decide) ?_
  obtain ⟨h70, hv, he⟩ := ob he
  refine aw_putF C fk_X6_34 rfl hin dX6_init_70 (nf_ref (Or.inr ⟨_, rfl⟩) _).1 (nf_ref (Or.inr ⟨_, rfl⟩) _).2 hv ?_
  refine aw_aload_n C dX6_init_73 rfl (j := 0) rfl ?_
  refine aw_iconst (v := 4) C dX6_init_74 (by decide) ?_
  refine aw_newI (N := 4) C q_117 dX6_init_75 (by decide) (by decide) (by decide) (by decide) (by decide) ?_
  obtain ⟨h77, hv, he⟩ := ob he
  refine aw_putF C fk_X6_37 rfl hin dX6_init_77 (nf_ref (Or.inr ⟨_, rfl⟩) _).1 (nf_ref (Or.inr ⟨_, rfl⟩) _).2 hv ?_
  refine aw_aload_n C dX6_init_80 rfl (j := 0) rfl ?_
  refine aw_sipush (v := 780) C dX6_init_81 (by decide) ?_
  refine aw_newI (N := 780) C q_117 dX6_init_84 (by decide) (by decide) (by decide) (by decide) (by decide) ?_
  obtain ⟨h86, hv, he⟩ := ob he
  refine aw_putF C fk_X6_40 rfl hin dX6_init_86 (nf_ref (Or.inr ⟨_, rfl⟩) _).1 (nf_ref (Or.inr ⟨_, rfl⟩) _).2 hv ?_
  refine aw_aload_n C dX6_init_89 rfl (j := 0) rfl ?_
  refine aw_sipush (v := 3240) C dX6_init_90 (by decide) ?_
  refine aw_newI (N := 3240) C q_117 dX6_init_93 (by decide) (by decide) (by decide) (by decide) (by decide) ?_
  obtain ⟨h95, hv, he⟩ := ob he
  refine aw_putF C fk_X6_43 rfl hin dX6_init_95 (nf_ref (Or.inr ⟨_, rfl⟩) _).1 (nf_ref (Or.inr ⟨_, rfl⟩) _).2 hv ?_
  refine aw_aload_n C dX6_init_98 rfl (j := 0) rfl ?_
  refine aw_bipush (v := 120) C dX6_init_99 (by decide) ?_
  refine aw_newI (N := 120) C q_117 dX6_init_101 (by decide) (by decide) (by decide) (by decide) (by decide) ?_
  obtain ⟨h103, hv, he⟩ := ob he
  refine aw_putF C fk_X6_46 rfl hin dX6_init_103 (nf_ref (Or.inr ⟨_, rfl⟩) _).1 (nf_ref (Or.inr ⟨_, rfl⟩) _).2 hv ?_
  refine aw_aload_n C dX6_init_106 rfl (j := 0) rfl ?_
  refine aw_sipush (v := 1000) C dX6_init_107 (by decide) ?_
  refine aw_newI (N := 1000) C q_117 dX6_init_110 (by decide) (by decide) (by decide) (by decide) (by decide) ?_
  obtain ⟨h112, hv, he⟩ := ob he
  refine aw_putF C fk_X6_49 rfl hin dX6_init_112 (nf_ref (Or.inr ⟨_, rfl⟩) _).1 (nf_ref (Or.inr ⟨_, rfl⟩) _).2 hv ?_
  refine aw_aload_n C dX6_init_115 rfl (j := 0) rfl ?_
  refine aw_bipush (v := 120) C dX6_init_116 (by decide) ?_
  refine aw_newI (N := 120) C q_117 dX6_init_118 (by decide) (by decide) (by decide) (by decide) (by decide) ?_
  obtain ⟨h120, hv, he⟩ := ob he
  refine aw_putF C fk_X6_52 rfl hin dX6_init_120 (nf_ref (Or.inr ⟨_, rfl⟩) _).1 (nf_ref (Or.inr ⟨_, rfl⟩) _).2 hv ?_
  refine aw_aload_n C dX6_init_123 rfl (j := 0) rfl ?_
  refine aw_sipush (v := 1720) C dX6_init_124 (by decide) ?_
  refine aw_newI (N := 1720) C q_117 dX6_init_127 (by decide) (by decide) (by decide) (by decide) (by decide) ?_
  obtain ⟨h129, hv, he⟩ := ob he
  refine aw_putF C fk_X6_55 rfl hin dX6_init_129 (nf_ref (Or.inr ⟨_, rfl⟩) _).1 (nf_ref (Or.inr ⟨_, rfl⟩) _).2 hv ?_
  have he := Option.some.inj he
  subst he
  exact aw_vret C X dX6_init_132 (by decide) (by decide)
theorem cX6_init_ (l : Launch) (D : va_G) (dA : Nat → ClassId) (base : Nat) {N : Nat} {h : Hp} {sz : Nat} {l0 : Option Nat} {out : Hp × Nat} (he : fX6_init N h sz l0 = some out) : AM l D dA base yX6_init cX6_init 1 none 1 16 7192 [.inr l0] h sz none out.1 out.2 :=
  AM.of (by decide +kernel) (Nat.le_of_ble_eq_true rfl) rfl (fun Γ C X hn => wX6_init C X hn he)
set_option maxHeartbeats 4000000 in
set_option maxRecDepth 100000 in
theorem wX5_within {Γ : GG} (C : CX Γ cX5_within 3 RX5 0 0 0) {N : Nat} {sz : Nat} {h : Hp} {out : Int32} (X : RX Γ (some .boolean) (some (.int out)) h sz 0 0) {l0 : Int32} {l1 : Int32} {l2 : Int32} (he : fX5_within N h l0 l1 l2 = some out) : AW Γ 3 h sz 0 0 0 [(0, .inl l0), (1, .inl l1), (2, .inl l2)] [] := by
  unfold fX5_within at he
  refine aw_iload_n C dX5_within_0 rfl (j := 0) rfl ?_
  refine aw_iload_n C dX5_within_1 rfl (j := 1) rfl ?_
  refine aw_ic_lt (tgt := 14) C dX5_within_2 (by decide) (fun hc => ?_) (fun hc => ?_)
  · have he := ift hc he
    refine aw_iconst (v := 0) C dX5_within_14 (by decide) ?_
    have he := Option.some.inj he
    subst he
    exact aw_zret C X (by decide) dX5_within_15 (by decide) (by decide)
  · have he := iff_ hc he
    refine aw_iload_n C dX5_within_5 rfl (j := 0) rfl ?_
    refine aw_iload_n C dX5_within_6 rfl (j := 2) rfl ?_
    refine aw_ic_gt (tgt := 14) C dX5_within_7 (by decide) (fun hc => ?_) (fun hc => ?_)
    · have he := ift hc he
      refine aw_iconst (v := 0) C dX5_within_14 (by decide) ?_
      have he := Option.some.inj he
      subst he
      exact aw_zret C X (by decide) dX5_within_15 (by decide) (by decide)
    · have he := iff_ hc he
      refine aw_iconst (v := 1) C dX5_within_10 (by decide) ?_
      refine aw_goto (tgt := 15) C dX5_within_11 (by decide) ?_
      have he := Option.some.inj he
      subst he
      exact aw_zret C X (by decide) dX5_within_15 (by decide) (by decide)
theorem cX5_within_ (l : Launch) (D : va_G) (dA : Nat → ClassId) (base : Nat) {N : Nat} {h : Hp} {sz : Nat} {l0 : Int32} {l1 : Int32} {l2 : Int32} {out : Int32} (he : fX5_within N h l0 l1 l2 = some out) : AM l D dA base yX5_within cX5_within 3 (some .boolean) 0 0 0 [.inl l0, .inl l1, .inl l2] h sz (some (.int out)) h sz :=
  AM.of (by decide +kernel) (Nat.le_of_ble_eq_true rfl) rfl (fun Γ C X hn => wX5_within C X he)
set_option maxHeartbeats 4000000 in
set_option maxRecDepth 100000 in
theorem wX4_adds {Γ : GG} (C : CX Γ cX4_adds 2 RX4 0 0 0) {N : Nat} {sz : Nat} {out : Int32 × Hp} (X : RX Γ (some .boolean) (some (.int out.1)) out.2 sz 0 0) {h : Hp} {l0 : Option Nat} {l1 : Int32} (he : fX4_adds N h l0 l1 = some out) : AW Γ 2 h sz 0 0 0 [(0, .inr l0), (1, .inl l1)] [] := by
  unfold fX4_adds at he
  refine aw_aload_n C dX4_adds_0 rfl (j := 0) rfl ?_
  obtain ⟨v1, hv, he⟩ := ob he
  refine aw_gI C fk_X4_15 dX4_adds_1 hv ?_
  refine aw_bipush (v := 100) C dX4_adds_4 (by decide) ?_
  refine aw_ic_lt (tgt := 11) C dX4_adds_6 (by decide) (fun hc => ?_) (fun hc => ?_)
  · have he := ift hc he
    refine aw_aload_n C dX4_adds_11 rfl (j := 0) rfl ?_
    obtain ⟨v12, hv, he⟩ := ob he
    refine aw_gA C fk_X4_9 dX4_adds_12 hv ?_
    refine aw_aload_n C dX4_adds_15 rfl (j := 0) rfl ?_
    obtain ⟨v16, hv, he⟩ := ob he
    refine aw_gI C fk_X4_15 dX4_adds_16 hv ?_
    refine aw_iload_n C dX4_adds_19 rfl (j := 1) rfl ?_
    obtain ⟨h20, hv, he⟩ := ob he
    refine aw_iast C dX4_adds_20 hv ?_
    refine aw_aload_n C dX4_adds_21 rfl (j := 0) rfl ?_
    refine aw_dup C dX4_adds_22 (rf_cat _) ?_
    obtain ⟨v23, hv, he⟩ := ob he
    refine aw_gI C fk_X4_15 dX4_adds_23 hv ?_
    refine aw_iconst (v := 1) C dX4_adds_26 (by decide) ?_
    refine aw_iadd C dX4_adds_27 ?_
    obtain ⟨h28, hv, he⟩ := ob he
    refine aw_put C fk_X4_15 dX4_adds_28 rfl rfl hv ?_
    refine aw_iconst (v := 1) C dX4_adds_31 (by decide) ?_
    have he := Option.some.inj he
    subst he
    exact aw_zret C X (by decide) dX4_adds_32 (by decide) (by decide)
  · have he := iff_ hc he
    refine aw_iconst (v := 0) C dX4_adds_9 (by decide) ?_
    have he := Option.some.inj he
    subst he
    exact aw_zret C X (by decide) dX4_adds_10 (by decide) (by decide)
theorem cX4_adds_ (l : Launch) (D : va_G) (dA : Nat → ClassId) (base : Nat) {N : Nat} {h : Hp} {sz : Nat} {l0 : Option Nat} {l1 : Int32} {out : Int32 × Hp} (he : fX4_adds N h l0 l1 = some out) : AM l D dA base yX4_adds cX4_adds 2 (some .boolean) 0 0 0 [.inr l0, .inl l1] h sz (some (.int out.1)) out.2 sz :=
  AM.of (by decide +kernel) (Nat.le_of_ble_eq_true rfl) rfl (fun Γ C X hn => wX4_adds C X he)
set_option maxHeartbeats 4000000 in
set_option maxRecDepth 100000 in
theorem wX5_type {Γ : GG} (C : CX Γ cX5_type 2 RX5 1 0 0) {N : Nat} {sz : Nat} {out : Int32 × Hp} (X : RX Γ (some .int) (some (.int out.1)) out.2 sz 0 0) {h : Hp} {l0 : Option Nat} {l1 : Int32} (he : fX5_type N h l0 l1 = some out) : AW Γ 2 h sz 0 0 0 [(0, .inr l0), (1, .inl l1)] [] := by
  unfold fX5_type at he
  refine aw_iload_n C dX5_type_0 rfl (j := 1) rfl ?_
  refine aw_iconst (v := 0) C dX5_type_1 (by decide) ?_
  refine aw_sipush (v := 255) C dX5_type_2 (by decide) ?_
  obtain ⟨v5, hv, he⟩ := ob he
  refine aw_callS C mb_X5_72 q_241 (cX5_within_ _ _ _ _ hv) dX5_type_5 rfl (rest := []) rfl (cat_le _ (Nat.le_of_ble_eq_true rfl)) (Nat.le_of_ble_eq_true rfl) (Nat.le_of_ble_eq_true rfl) (Nat.le_of_ble_eq_true rfl) (st2 := [.int v5]) rfl ?_
  refine aw_if_ne (tgt := 13) C dX5_type_8 (by decide) (fun hc => ?_) (fun hc => ?_)
  · have he := ift hc he
    refine aw_iconst (v := -1) C dX5_type_11 (by decide) ?_
    have he := Option.some.inj he
    subst he
    exact aw_iret C X dX5_type_12 (by decide) (by decide)
  · have he := iff_ hc he
    refine aw_aload_n C dX5_type_13 rfl (j := 0) rfl ?_
    obtain ⟨v14, hv, he⟩ := ob he
    refine aw_gA C fk_X5_10 dX5_type_14 hv ?_
    refine aw_iload_n C dX5_type_17 rfl (j := 1) rfl ?_
    obtain ⟨hO, he⟩ := ifs he
    obtain ⟨z18, hv, he⟩ := ob he
    refine aw_callV (ci := 4) C mb_X5_76 ⟨q_244, q_245, rfl⟩ hO (cX4_adds_ _ _ _ _ hv) dX5_type_18 rfl (rest := []) rfl (cat_le _ (Nat.le_of_ble_eq_true rfl)) (Nat.le_of_ble_eq_true rfl) (Nat.le_of_ble_eq_true rfl) (Nat.le_of_ble_eq_true rfl) (st2 := [.int z18.1]) rfl ?_
    refine aw_if_eq (tgt := 34) C dX5_type_21 (by decide) (fun hc => ?_) (fun hc => ?_)
    · have he := ift hc he
      refine aw_bipush (v := -3) C dX5_type_34 (by decide) ?_
      have he := Option.some.inj he
      subst he
      exact aw_iret C X dX5_type_36 (by decide) (by decide)
    · have he := iff_ hc he
      refine aw_aload_n C dX5_type_24 rfl (j := 0) rfl ?_
      obtain ⟨v25, hv, he⟩ := ob he
      refine aw_gA C fk_X5_10 dX5_type_25 hv ?_
      obtain ⟨v28, hv, he⟩ := ob he
      refine aw_gI C fk_X5_80 dX5_type_28 hv ?_
      refine aw_goto (tgt := 36) C dX5_type_31 (by decide) ?_
      have he := Option.some.inj he
      subst he
      exact aw_iret C X dX5_type_36 (by decide) (by decide)
theorem cX5_type_ (l : Launch) (D : va_G) (dA : Nat → ClassId) (base : Nat) {N : Nat} {h : Hp} {sz : Nat} {l0 : Option Nat} {l1 : Int32} {out : Int32 × Hp} (he : fX5_type N h l0 l1 = some out) : AM l D dA base yX5_type cX5_type 2 (some .int) 1 0 0 [.inr l0, .inl l1] h sz (some (.int out.1)) out.2 sz :=
  AM.of (by decide +kernel) (Nat.le_of_ble_eq_true rfl) rfl (fun Γ C X hn => wX5_type C X he)
set_option maxHeartbeats 4000000 in
set_option maxRecDepth 100000 in
theorem wX6_in {Γ : GG} (C : CX Γ cX6_in 3 RX6 0 0 0) {N : Nat} {sz : Nat} {h : Hp} {out : Int32} (X : RX Γ (some .boolean) (some (.int out)) h sz 0 0) {l0 : Int32} {l1 : Int32} {l2 : Int32} (he : fX6_in N h l0 l1 l2 = some out) : AW Γ 3 h sz 0 0 0 [(0, .inl l0), (1, .inl l1), (2, .inl l2)] [] := by
  unfold fX6_in at he
  refine aw_iload_n C dX6_in_0 rfl (j := 0) rfl ?_
  refine aw_iload_n C dX6_in_1 rfl (j := 1) rfl ?_
  refine aw_ic_lt (tgt := 14) C dX6_in_2 (by decide) (fun hc => ?_) (fun hc => ?_)
  · have he := ift hc he
    refine aw_iconst (v := 0) C dX6_in_14 (by decide) ?_
    have he := Option.some.inj he
    subst he
    exact aw_zret C X (by decide) dX6_in_15 (by decide) (by decide)
  · have he := iff_ hc he
    refine aw_iload_n C dX6_in_5 rfl (j := 0) rfl ?_
    refine aw_iload_n C dX6_in_6 rfl (j := 2) rfl ?_
    refine aw_ic_gt (tgt := 14) C dX6_in_7 (by decide) (fun hc => ?_) (fun hc => ?_)
    · have he := ift hc he
      refine aw_iconst (v := 0) C dX6_in_14 (by decide) ?_
      have he := Option.some.inj he
      subst he
      exact aw_zret C X (by decide) dX6_in_15 (by decide) (by decide)
    · have he := iff_ hc he
      refine aw_iconst (v := 1) C dX6_in_10 (by decide) ?_
      refine aw_goto (tgt := 15) C dX6_in_11 (by decide) ?_
      have he := Option.some.inj he
      subst he
      exact aw_zret C X (by decide) dX6_in_15 (by decide) (by decide)
theorem cX6_in_ (l : Launch) (D : va_G) (dA : Nat → ClassId) (base : Nat) {N : Nat} {h : Hp} {sz : Nat} {l0 : Int32} {l1 : Int32} {l2 : Int32} {out : Int32} (he : fX6_in N h l0 l1 l2 = some out) : AM l D dA base yX6_in cX6_in 3 (some .boolean) 0 0 0 [.inl l0, .inl l1, .inl l2] h sz (some (.int out)) h sz :=
  AM.of (by decide +kernel) (Nat.le_of_ble_eq_true rfl) rfl (fun Γ C X hn => wX6_in C X he)
set_option maxHeartbeats 4000000 in
set_option maxRecDepth 100000 in
theorem wX6_type {Γ : GG} (C : CX Γ cX6_type 2 RX6 1 0 0) {N : Nat} {sz : Nat} {out : Int32 × Hp} (X : RX Γ (some .int) (some (.int out.1)) out.2 sz 0 0) {h : Hp} {l0 : Option Nat} {l1 : Int32} (he : fX6_type N h l0 l1 = some out) : AW Γ 2 h sz 0 0 0 [(0, .inr l0), (1, .inl l1)] [] := by
  unfold fX6_type at he
  refine aw_iload_n C dX6_type_0 rfl (j := 1) rfl ?_
  refine aw_iconst (v := 0) C dX6_type_1 (by decide) ?_
  refine aw_sipush (v := 255) C dX6_type_2 (by decide) ?_
  obtain ⟨v5, hv, he⟩ := ob he
  refine aw_callS C mb_X6_62 q_874 (cX6_in_ _ _ _ _ hv) dX6_type_5 rfl (rest := []) rfl (cat_le _ (Nat.le_of_ble_eq_true rfl)) (Nat.le_of_ble_eq_true rfl) (Nat.le_of_ble_eq_true rfl) (Nat.le_of_ble_eq_true rfl) (st2 := [.int v5]) rfl ?_
  refine aw_if_ne (tgt := 13) C dX6_type_8 (by decide) (fun hc => ?_) (fun hc => ?_)
  · have he := ift hc he
    refine aw_iconst (v := -1) C dX6_type_11 (by decide) ?_
    have he := Option.some.inj he
    subst he
    exact aw_iret C X dX6_type_12 (by decide) (by decide)
  · have he := iff_ hc he
    refine aw_aload_n C dX6_type_13 rfl (j := 0) rfl ?_
    obtain ⟨v14, hv, he⟩ := ob he
    refine aw_gI C fk_X6_75 dX6_type_14 hv ?_
    refine aw_bipush (v := 100) C dX6_type_17 (by decide) ?_
    refine aw_ic_ne (tgt := 25) C dX6_type_19 (by decide) (fun hc => ?_) (fun hc => ?_)
    · have he := ift hc he
      refine aw_bipush (v := -3) C dX6_type_22 (by decide) ?_
      have he := Option.some.inj he
      subst he
      exact aw_iret C X dX6_type_24 (by decide) (by decide)
    · have he := iff_ hc he
      refine aw_aload_n C dX6_type_25 rfl (j := 0) rfl ?_
      obtain ⟨v26, hv, he⟩ := ob he
      refine aw_gA C fk_X6_28 dX6_type_26 hv ?_
      refine aw_aload_n C dX6_type_29 rfl (j := 0) rfl ?_
      obtain ⟨v30, hv, he⟩ := ob he
      refine aw_gI C fk_X6_75 dX6_type_30 hv ?_
      refine aw_iload_n C dX6_type_33 rfl (j := 1) rfl ?_
      obtain ⟨h34, hv, he⟩ := ob he
      refine aw_iast C dX6_type_34 hv ?_
      refine aw_aload_n C dX6_type_35 rfl (j := 0) rfl ?_
      refine aw_dup C dX6_type_36 (rf_cat _) ?_
      obtain ⟨v37, hv, he⟩ := ob he
      refine aw_gI C fk_X6_75 dX6_type_37 hv ?_
      refine aw_iconst (v := 1) C dX6_type_40 (by decide) ?_
      refine aw_iadd C dX6_type_41 ?_
      obtain ⟨h42, hv, he⟩ := ob he
      refine aw_put C fk_X6_75 dX6_type_42 rfl rfl hv ?_
      refine aw_aload_n C dX6_type_45 rfl (j := 0) rfl ?_
      obtain ⟨v46, hv, he⟩ := ob he
      refine aw_gI C fk_X6_75 dX6_type_46 hv ?_
      have he := Option.some.inj he
      subst he
      exact aw_iret C X dX6_type_49 (by decide) (by decide)
theorem cX6_type_ (l : Launch) (D : va_G) (dA : Nat → ClassId) (base : Nat) {N : Nat} {h : Hp} {sz : Nat} {l0 : Option Nat} {l1 : Int32} {out : Int32 × Hp} (he : fX6_type N h l0 l1 = some out) : AM l D dA base yX6_type cX6_type 2 (some .int) 1 0 0 [.inr l0, .inl l1] h sz (some (.int out.1)) out.2 sz :=
  AM.of (by decide +kernel) (Nat.le_of_ble_eq_true rfl) rfl (fun Γ C X hn => wX6_type C X he)
set_option maxHeartbeats 4000000 in
set_option maxRecDepth 100000 in
theorem wX4_empties {Γ : GG} (C : CX Γ cX4_empties 2 RX4 0 0 0) {N : Nat} {sz : Nat} {out : Int32 × Hp} (X : RX Γ (some .int) (some (.int out.1)) out.2 sz 0 0) {h : Hp} {l0 : Option Nat} (he : fX4_empties N h l0 = some out) : AW Γ 2 h sz 0 0 0 [(0, .inr l0)] [] := by
  unfold fX4_empties at he
  refine aw_aload_n C dX4_empties_0 rfl (j := 0) rfl ?_
  obtain ⟨v1, hv, he⟩ := ob he
  refine aw_gI C fk_X4_15 dX4_empties_1 hv ?_
  refine aw_istore_n C dX4_empties_4 rfl (by decide) rfl (lv' := [(0, .inr l0), (1, .inl v1)]) rfl ?_
  refine aw_aload_n C dX4_empties_5 rfl (j := 0) rfl ?_
  refine aw_iconst (v := 0) C dX4_empties_6 (by decide) ?_
  obtain ⟨h7, hv, he⟩ := ob he
  refine aw_put C fk_X4_15 dX4_empties_7 rfl rfl hv ?_
  refine aw_iload_n C dX4_empties_10 rfl (j := 1) rfl ?_
  have he := Option.some.inj he
  subst he
  exact aw_iret C X dX4_empties_11 (by decide) (by decide)
theorem cX4_empties_ (l : Launch) (D : va_G) (dA : Nat → ClassId) (base : Nat) {N : Nat} {h : Hp} {sz : Nat} {l0 : Option Nat} {out : Int32 × Hp} (he : fX4_empties N h l0 = some out) : AM l D dA base yX4_empties cX4_empties 2 (some .int) 0 0 0 [.inr l0] h sz (some (.int out.1)) out.2 sz :=
  AM.of (by decide +kernel) (Nat.le_of_ble_eq_true rfl) rfl (fun Γ C X hn => wX4_empties C X he)
set_option maxHeartbeats 4000000 in
set_option maxRecDepth 100000 in
theorem wX5_clear {Γ : GG} (C : CX Γ cX5_clear 1 RX5 1 0 0) {N : Nat} {sz : Nat} {out : Int32 × Hp} (X : RX Γ (some .int) (some (.int out.1)) out.2 sz 0 0) {h : Hp} {l0 : Option Nat} (he : fX5_clear N h l0 = some out) : AW Γ 1 h sz 0 0 0 [(0, .inr l0)] [] := by
  unfold fX5_clear at he
  refine aw_aload_n C dX5_clear_0 rfl (j := 0) rfl ?_
  obtain ⟨v1, hv, he⟩ := ob he
  refine aw_gA C fk_X5_10 dX5_clear_1 hv ?_
  obtain ⟨hO, he⟩ := ifs he
  obtain ⟨z4, hv, he⟩ := ob he
  refine aw_callV (ci := 4) C mb_X5_84 ⟨q_252, q_253, rfl⟩ hO (cX4_empties_ _ _ _ _ hv) dX5_clear_4 rfl (rest := []) rfl (cat_le _ (Nat.le_of_ble_eq_true rfl)) (Nat.le_of_ble_eq_true rfl) (Nat.le_of_ble_eq_true rfl) (Nat.le_of_ble_eq_true rfl) (st2 := [.int z4.1]) rfl ?_
  have he := Option.some.inj he
  subst he
  exact aw_iret C X dX5_clear_7 (by decide) (by decide)
theorem cX5_clear_ (l : Launch) (D : va_G) (dA : Nat → ClassId) (base : Nat) {N : Nat} {h : Hp} {sz : Nat} {l0 : Option Nat} {out : Int32 × Hp} (he : fX5_clear N h l0 = some out) : AM l D dA base yX5_clear cX5_clear 1 (some .int) 1 0 0 [.inr l0] h sz (some (.int out.1)) out.2 sz :=
  AM.of (by decide +kernel) (Nat.le_of_ble_eq_true rfl) rfl (fun Γ C X hn => wX5_clear C X he)
set_option maxHeartbeats 4000000 in
set_option maxRecDepth 100000 in
theorem wX6_clear {Γ : GG} (C : CX Γ cX6_clear 2 RX6 0 0 0) {N : Nat} {sz : Nat} {out : Int32 × Hp} (X : RX Γ (some .int) (some (.int out.1)) out.2 sz 0 0) {h : Hp} {l0 : Option Nat} (he : fX6_clear N h l0 = some out) : AW Γ 2 h sz 0 0 0 [(0, .inr l0)] [] := by
  unfold fX6_clear at he
  refine aw_aload_n C dX6_clear_0 rfl (j := 0) rfl ?_
  obtain ⟨v1, hv, he⟩ := ob he
  refine aw_gI C fk_X6_75 dX6_clear_1 hv ?_
  refine aw_istore_n C dX6_clear_4 rfl (by decide) rfl (lv' := [(0, .inr l0), (1, .inl v1)]) rfl ?_
  refine aw_aload_n C dX6_clear_5 rfl (j := 0) rfl ?_
  refine aw_iconst (v := 0) C dX6_clear_6 (by decide) ?_
  obtain ⟨h7, hv, he⟩ := ob he
  refine aw_put C fk_X6_75 dX6_clear_7 rfl rfl hv ?_
  refine aw_iload_n C dX6_clear_10 rfl (j := 1) rfl ?_
  have he := Option.some.inj he
  subst he
  exact aw_iret C X dX6_clear_11 (by decide) (by decide)
theorem cX6_clear_ (l : Launch) (D : va_G) (dA : Nat → ClassId) (base : Nat) {N : Nat} {h : Hp} {sz : Nat} {l0 : Option Nat} {out : Int32 × Hp} (he : fX6_clear N h l0 = some out) : AM l D dA base yX6_clear cX6_clear 2 (some .int) 0 0 0 [.inr l0] h sz (some (.int out.1)) out.2 sz :=
  AM.of (by decide +kernel) (Nat.le_of_ble_eq_true rfl) rfl (fun Γ C X hn => wX6_clear C X he)
set_option maxHeartbeats 4000000 in
set_option maxRecDepth 100000 in
theorem wX4_byteAt {Γ : GG} (C : CX Γ cX4_byteAt 2 RX4 0 0 0) {N : Nat} {sz : Nat} {h : Hp} {out : Int32} (X : RX Γ (some .int) (some (.int out)) h sz 0 0) {l0 : Option Nat} {l1 : Int32} (he : fX4_byteAt N h l0 l1 = some out) : AW Γ 2 h sz 0 0 0 [(0, .inr l0), (1, .inl l1)] [] := by
  unfold fX4_byteAt at he
  refine aw_iload_n C dX4_byteAt_0 rfl (j := 1) rfl ?_
  refine aw_if_lt (tgt := 21) C dX4_byteAt_1 (by decide) (fun hc => ?_) (fun hc => ?_)
  · have he := ift hc he
    refine aw_iconst (v := 0) C dX4_byteAt_21 (by decide) ?_
    have he := Option.some.inj he
    subst he
    exact aw_iret C X dX4_byteAt_22 (by decide) (by decide)
  · have he := iff_ hc he
    refine aw_iload_n C dX4_byteAt_4 rfl (j := 1) rfl ?_
    refine aw_aload_n C dX4_byteAt_5 rfl (j := 0) rfl ?_
    obtain ⟨v6, hv, he⟩ := ob he
    refine aw_gI C fk_X4_15 dX4_byteAt_6 hv ?_
    refine aw_ic_ge (tgt := 21) C dX4_byteAt_9 (by decide) (fun hc => ?_) (fun hc => ?_)
    · have he := ift hc he
      refine aw_iconst (v := 0) C dX4_byteAt_21 (by decide) ?_
      have he := Option.some.inj he
      subst he
      exact aw_iret C X dX4_byteAt_22 (by decide) (by decide)
    · have he := iff_ hc he
      refine aw_aload_n C dX4_byteAt_12 rfl (j := 0) rfl ?_
      obtain ⟨v13, hv, he⟩ := ob he
      refine aw_gA C fk_X4_9 dX4_byteAt_13 hv ?_
      refine aw_iload_n C dX4_byteAt_16 rfl (j := 1) rfl ?_
      obtain ⟨v17, hv, he⟩ := ob he
      refine aw_iald C dX4_byteAt_17 hv ?_
      refine aw_goto (tgt := 22) C dX4_byteAt_18 (by decide) ?_
      have he := Option.some.inj he
      subst he
      exact aw_iret C X dX4_byteAt_22 (by decide) (by decide)
theorem cX4_byteAt_ (l : Launch) (D : va_G) (dA : Nat → ClassId) (base : Nat) {N : Nat} {h : Hp} {sz : Nat} {l0 : Option Nat} {l1 : Int32} {out : Int32} (he : fX4_byteAt N h l0 l1 = some out) : AM l D dA base yX4_byteAt cX4_byteAt 2 (some .int) 0 0 0 [.inr l0, .inl l1] h sz (some (.int out)) h sz :=
  AM.of (by decide +kernel) (Nat.le_of_ble_eq_true rfl) rfl (fun Γ C X hn => wX4_byteAt C X he)
set_option maxHeartbeats 4000000 in
set_option maxRecDepth 100000 in
theorem wX4_isLetter {Γ : GG} (C : CX Γ cX4_isLetter 1 RX4 0 0 0) {N : Nat} {sz : Nat} {h : Hp} {out : Int32} (X : RX Γ (some .boolean) (some (.int out)) h sz 0 0) {l0 : Int32} (he : fX4_isLetter N h l0 = some out) : AW Γ 1 h sz 0 0 0 [(0, .inl l0)] [] := by
  unfold fX4_isLetter at he
  refine aw_iload_n C dX4_isLetter_0 rfl (j := 0) rfl ?_
  refine aw_bipush (v := 97) C dX4_isLetter_1 (by decide) ?_
  refine aw_ic_lt (tgt := 16) C dX4_isLetter_3 (by decide) (fun hc => ?_) (fun hc => ?_)
  · have he := ift hc he
    refine aw_iconst (v := 0) C dX4_isLetter_16 (by decide) ?_
    have he := Option.some.inj he
    subst he
    exact aw_zret C X (by decide) dX4_isLetter_17 (by decide) (by decide)
  · have he := iff_ hc he
    refine aw_iload_n C dX4_isLetter_6 rfl (j := 0) rfl ?_
    refine aw_bipush (v := 122) C dX4_isLetter_7 (by decide) ?_
    refine aw_ic_gt (tgt := 16) C dX4_isLetter_9 (by decide) (fun hc => ?_) (fun hc => ?_)
    · have he := ift hc he
      refine aw_iconst (v := 0) C dX4_isLetter_16 (by decide) ?_
      have he := Option.some.inj he
      subst he
      exact aw_zret C X (by decide) dX4_isLetter_17 (by decide) (by decide)
    · have he := iff_ hc he
      refine aw_iconst (v := 1) C dX4_isLetter_12 (by decide) ?_
      refine aw_goto (tgt := 17) C dX4_isLetter_13 (by decide) ?_
      have he := Option.some.inj he
      subst he
      exact aw_zret C X (by decide) dX4_isLetter_17 (by decide) (by decide)
theorem cX4_isLetter_ (l : Launch) (D : va_G) (dA : Nat → ClassId) (base : Nat) {N : Nat} {h : Hp} {sz : Nat} {l0 : Int32} {out : Int32} (he : fX4_isLetter N h l0 = some out) : AM l D dA base yX4_isLetter cX4_isLetter 1 (some .boolean) 0 0 0 [.inl l0] h sz (some (.int out)) h sz :=
  AM.of (by decide +kernel) (Nat.le_of_ble_eq_true rfl) rfl (fun Γ C X hn => wX4_isLetter C X he)
set_option maxHeartbeats 4000000 in
set_option maxRecDepth 100000 in
theorem wX4_readLetters_L0 {Γ : GG} (C : CX Γ cX4_readLetters 1 RX4 1 0 0) {N : Nat} {sz : Nat} {α : Type} {out : α} {K38 : Hp → Option Nat → Option α} (k38 : ∀ (h : Hp) (l0 : Option Nat), K38 h l0 = some out → AW Γ 1 h sz 0 0 38 [(0, .inr l0)] []) : ∀ (n : Nat) (h : Hp) (l0 : Option Nat), fX4_readLetters_L0 N K38 n h l0 = some out → AW Γ 1 h sz 0 0 0 [(0, .inr l0)] [] := by
  intro n
  induction n with
  | zero =>
    intro h l0 he
    rw [fX4_readLetters_L0] at he
    cases he
  | succ n ih =>
    intro h l0 he
    rw [fX4_readLetters_L0] at he
    refine aw_aload_n C dX4_readLetters_0 rfl (j := 0) rfl ?_
    obtain ⟨v1, hv, he⟩ := ob he
    refine aw_gI C fk_X4_22 dX4_readLetters_1 hv ?_
    refine aw_aload_n C dX4_readLetters_4 rfl (j := 0) rfl ?_
    obtain ⟨v5, hv, he⟩ := ob he
    refine aw_gI C fk_X4_15 dX4_readLetters_5 hv ?_
    refine aw_ic_ge (tgt := 38) C dX4_readLetters_8 (by decide) (fun hc => ?_) (fun hc => ?_)
    · have he := ift hc he
      exact k38 _ _ he
    · have he := iff_ hc he
      refine aw_aload_n C dX4_readLetters_11 rfl (j := 0) rfl ?_
      refine aw_aload_n C dX4_readLetters_12 rfl (j := 0) rfl ?_
      obtain ⟨v13, hv, he⟩ := ob he
      refine aw_gI C fk_X4_22 dX4_readLetters_13 hv ?_
      obtain ⟨hO, he⟩ := ifs he
      obtain ⟨v16, hv, he⟩ := ob he
      refine aw_callV (ci := 4) C mb_X4_44 ⟨q_269, q_1, rfl⟩ hO (cX4_byteAt_ _ _ _ _ hv) dX4_readLetters_16 rfl (rest := []) rfl (cat_le _ (Nat.le_of_ble_eq_true rfl)) (Nat.le_of_ble_eq_true rfl) (Nat.le_of_ble_eq_true rfl) (Nat.le_of_ble_eq_true rfl) (st2 := [.int v16]) rfl ?_
      obtain ⟨v19, hv, he⟩ := ob he
      refine aw_callS C mb_X4_48 q_272 (cX4_isLetter_ _ _ _ _ hv) dX4_readLetters_19 rfl (rest := []) rfl (cat_le _ (Nat.le_of_ble_eq_true rfl)) (Nat.le_of_ble_eq_true rfl) (Nat.le_of_ble_eq_true rfl) (Nat.le_of_ble_eq_true rfl) (st2 := [.int v19]) rfl ?_
      refine aw_if_eq (tgt := 38) C dX4_readLetters_22 (by decide) (fun hc => ?_) (fun hc => ?_)
      · have he := ift hc he
        exact k38 _ _ he
      · have he := iff_ hc he
        refine aw_aload_n C dX4_readLetters_25 rfl (j := 0) rfl ?_
        refine aw_dup C dX4_readLetters_26 (rf_cat _) ?_
        obtain ⟨v27, hv, he⟩ := ob he
        refine aw_gI C fk_X4_22 dX4_readLetters_27 hv ?_
        refine aw_iconst (v := 1) C dX4_readLetters_30 (by decide) ?_
        refine aw_iadd C dX4_readLetters_31 ?_
        obtain ⟨h32, hv, he⟩ := ob he
        refine aw_put C fk_X4_22 dX4_readLetters_32 rfl rfl hv ?_
        refine aw_goto (tgt := 0) C dX4_readLetters_35 (by decide) ?_
        exact ih _ _ he
set_option maxHeartbeats 4000000 in
set_option maxRecDepth 100000 in
theorem wX4_readLetters_j38 {Γ : GG} (C : CX Γ cX4_readLetters 1 RX4 1 0 0) {N : Nat} {sz : Nat} {out : Hp} (X : RX Γ none none out sz 0 0) {h : Hp} {l0 : Option Nat} (he : fX4_readLetters_j38 N h l0 = some out) : AW Γ 1 h sz 0 0 38 [(0, .inr l0)] [] := by
  unfold fX4_readLetters_j38 at he
  refine aw_aload_n C dX4_readLetters_38 rfl (j := 0) rfl ?_
  refine aw_iconst (v := 1) C dX4_readLetters_39 (by decide) ?_
  obtain ⟨h40, hv, he⟩ := ob he
  refine aw_put C fk_X4_25 dX4_readLetters_40 rfl rfl hv ?_
  refine aw_aload_n C dX4_readLetters_43 rfl (j := 0) rfl ?_
  refine aw_aload_n C dX4_readLetters_44 rfl (j := 0) rfl ?_
  obtain ⟨v45, hv, he⟩ := ob he
  refine aw_gI C fk_X4_22 dX4_readLetters_45 hv ?_
  refine aw_aload_n C dX4_readLetters_48 rfl (j := 0) rfl ?_
  obtain ⟨v49, hv, he⟩ := ob he
  refine aw_gI C fk_X4_19 dX4_readLetters_49 hv ?_
  refine aw_isub C dX4_readLetters_52 ?_
  refine aw_iconst (v := 1) C dX4_readLetters_53 (by decide) ?_
  refine aw_ic_ne (tgt := 68) C dX4_readLetters_54 (by decide) (fun hc => ?_) (fun hc => ?_)
  · have he := ift hc he
    refine aw_aload_n C dX4_readLetters_57 rfl (j := 0) rfl ?_
    refine aw_aload_n C dX4_readLetters_58 rfl (j := 0) rfl ?_
    obtain ⟨v59, hv, he⟩ := ob he
    refine aw_gI C fk_X4_19 dX4_readLetters_59 hv ?_
    obtain ⟨hO, he⟩ := ifs he
    obtain ⟨v62, hv, he⟩ := ob he
    refine aw_callV (ci := 4) C mb_X4_44 ⟨q_269, q_1, rfl⟩ hO (cX4_byteAt_ _ _ _ _ hv) dX4_readLetters_62 rfl (rest := [va_rf l0]) rfl (cat_le _ (Nat.le_of_ble_eq_true rfl)) (Nat.le_of_ble_eq_true rfl) (Nat.le_of_ble_eq_true rfl) (Nat.le_of_ble_eq_true rfl) (st2 := [.int v62, va_rf l0]) rfl ?_
    refine aw_goto (tgt := 69) C dX4_readLetters_65 (by decide) ?_
    obtain ⟨h69, hv, he⟩ := ob he
    refine aw_put C fk_X4_28 dX4_readLetters_69 rfl rfl hv ?_
    have he := Option.some.inj he
    subst he
    exact aw_vret C X dX4_readLetters_72 (by decide) (by decide)
  · have he := iff_ hc he
    refine aw_iconst (v := 0) C dX4_readLetters_68 (by decide) ?_
    obtain ⟨h69, hv, he⟩ := ob he
    refine aw_put C fk_X4_28 dX4_readLetters_69 rfl rfl hv ?_
    have he := Option.some.inj he
    subst he
    exact aw_vret C X dX4_readLetters_72 (by decide) (by decide)
set_option maxHeartbeats 4000000 in
set_option maxRecDepth 100000 in
theorem wX4_readLetters {Γ : GG} (C : CX Γ cX4_readLetters 1 RX4 1 0 0) {N : Nat} {sz : Nat} {out : Hp} (X : RX Γ none none out sz 0 0) {h : Hp} {l0 : Option Nat} (he : fX4_readLetters N h l0 = some out) : AW Γ 1 h sz 0 0 0 [(0, .inr l0)] [] := by
  unfold fX4_readLetters at he
  refine wX4_readLetters_L0 C ?_ N _ _ he
  intro h l0 he
  exact wX4_readLetters_j38 C X he
theorem cX4_readLetters_ (l : Launch) (D : va_G) (dA : Nat → ClassId) (base : Nat) {N : Nat} {h : Hp} {sz : Nat} {l0 : Option Nat} {out : Hp} (he : fX4_readLetters N h l0 = some out) : AM l D dA base yX4_readLetters cX4_readLetters 1 none 1 0 0 [.inr l0] h sz none out sz :=
  AM.of (by decide +kernel) (Nat.le_of_ble_eq_true rfl) rfl (fun Γ C X hn => wX4_readLetters C X he)
set_option maxHeartbeats 4000000 in
set_option maxRecDepth 100000 in
theorem wX4_isDigit {Γ : GG} (C : CX Γ cX4_isDigit 1 RX4 0 0 0) {N : Nat} {sz : Nat} {h : Hp} {out : Int32} (X : RX Γ (some .boolean) (some (.int out)) h sz 0 0) {l0 : Int32} (he : fX4_isDigit N h l0 = some out) : AW Γ 1 h sz 0 0 0 [(0, .inl l0)] [] := by
  unfold fX4_isDigit at he
  refine aw_iload_n C dX4_isDigit_0 rfl (j := 0) rfl ?_
  refine aw_bipush (v := 48) C dX4_isDigit_1 (by decide) ?_
  refine aw_ic_lt (tgt := 16) C dX4_isDigit_3 (by decide) (fun hc => ?_) (fun hc => ?_)
  · have he := ift hc he
    refine aw_iconst (v := 0) C dX4_isDigit_16 (by decide) ?_
    have he := Option.some.inj he
    subst he
    exact aw_zret C X (by decide) dX4_isDigit_17 (by decide) (by decide)
  · have he := iff_ hc he
    refine aw_iload_n C dX4_isDigit_6 rfl (j := 0) rfl ?_
    refine aw_bipush (v := 57) C dX4_isDigit_7 (by decide) ?_
    refine aw_ic_gt (tgt := 16) C dX4_isDigit_9 (by decide) (fun hc => ?_) (fun hc => ?_)
    · have he := ift hc he
      refine aw_iconst (v := 0) C dX4_isDigit_16 (by decide) ?_
      have he := Option.some.inj he
      subst he
      exact aw_zret C X (by decide) dX4_isDigit_17 (by decide) (by decide)
    · have he := iff_ hc he
      refine aw_iconst (v := 1) C dX4_isDigit_12 (by decide) ?_
      refine aw_goto (tgt := 17) C dX4_isDigit_13 (by decide) ?_
      have he := Option.some.inj he
      subst he
      exact aw_zret C X (by decide) dX4_isDigit_17 (by decide) (by decide)
theorem cX4_isDigit_ (l : Launch) (D : va_G) (dA : Nat → ClassId) (base : Nat) {N : Nat} {h : Hp} {sz : Nat} {l0 : Int32} {out : Int32} (he : fX4_isDigit N h l0 = some out) : AM l D dA base yX4_isDigit cX4_isDigit 1 (some .boolean) 0 0 0 [.inl l0] h sz (some (.int out)) h sz :=
  AM.of (by decide +kernel) (Nat.le_of_ble_eq_true rfl) rfl (fun Γ C X hn => wX4_isDigit C X he)
set_option maxHeartbeats 4000000 in
set_option maxRecDepth 100000 in
theorem wX4_readNumber_L5 {Γ : GG} (C : CX Γ cX4_readNumber 2 RX4 1 0 0) {N : Nat} {sz : Nat} {α : Type} {out : α} {K72 : Hp → Option Nat → Option α} (k72 : ∀ (h : Hp) (l0 : Option Nat), K72 h l0 = some out → AW Γ 2 h sz 0 0 72 [(0, .inr l0)] []) : ∀ (n : Nat) (h : Hp) (l0 : Option Nat), fX4_readNumber_L5 N K72 n h l0 = some out → AW Γ 2 h sz 0 0 5 [(0, .inr l0)] [] := by
  intro n
  induction n with
  | zero =>
    intro h l0 he
    rw [fX4_readNumber_L5] at he
    cases he
  | succ n ih =>
    intro h l0 he
    rw [fX4_readNumber_L5] at he
    refine aw_aload_n C dX4_readNumber_5 rfl (j := 0) rfl ?_
    obtain ⟨v6, hv, he⟩ := ob he
    refine aw_gI C fk_X4_22 dX4_readNumber_6 hv ?_
    refine aw_aload_n C dX4_readNumber_9 rfl (j := 0) rfl ?_
    obtain ⟨v10, hv, he⟩ := ob he
    refine aw_gI C fk_X4_15 dX4_readNumber_10 hv ?_
    refine aw_ic_ge (tgt := 72) C dX4_readNumber_13 (by decide) (fun hc => ?_) (fun hc => ?_)
    · have he := ift hc he
      exact k72 _ _ he
    · have he := iff_ hc he
      refine aw_aload_n C dX4_readNumber_16 rfl (j := 0) rfl ?_
      refine aw_aload_n C dX4_readNumber_17 rfl (j := 0) rfl ?_
      obtain ⟨v18, hv, he⟩ := ob he
      refine aw_gI C fk_X4_22 dX4_readNumber_18 hv ?_
      obtain ⟨hO, he⟩ := ifs he
      obtain ⟨v21, hv, he⟩ := ob he
      refine aw_callV (ci := 4) C mb_X4_44 ⟨q_269, q_1, rfl⟩ hO (cX4_byteAt_ _ _ _ _ hv) dX4_readNumber_21 rfl (rest := []) rfl (cat_le _ (Nat.le_of_ble_eq_true rfl)) (Nat.le_of_ble_eq_true rfl) (Nat.le_of_ble_eq_true rfl) (Nat.le_of_ble_eq_true rfl) (st2 := [.int v21]) rfl ?_
      obtain ⟨v24, hv, he⟩ := ob he
      refine aw_callS C mb_X4_54 q_279 (cX4_isDigit_ _ _ _ _ hv) dX4_readNumber_24 rfl (rest := []) rfl (cat_le _ (Nat.le_of_ble_eq_true rfl)) (Nat.le_of_ble_eq_true rfl) (Nat.le_of_ble_eq_true rfl) (Nat.le_of_ble_eq_true rfl) (st2 := [.int v24]) rfl ?_
      refine aw_if_eq (tgt := 72) C dX4_readNumber_27 (by decide) (fun hc => ?_) (fun hc => ?_)
      · have he := ift hc he
        exact k72 _ _ he
      · have he := iff_ hc he
        refine aw_aload_n C dX4_readNumber_30 rfl (j := 0) rfl ?_
        refine aw_bipush (v := 10) C dX4_readNumber_31 (by decide) ?_
        refine aw_aload_n C dX4_readNumber_33 rfl (j := 0) rfl ?_
        obtain ⟨v34, hv, he⟩ := ob he
        refine aw_gI C fk_X4_28 dX4_readNumber_34 hv ?_
        refine aw_imul C dX4_readNumber_37 ?_
        refine aw_aload_n C dX4_readNumber_38 rfl (j := 0) rfl ?_
        refine aw_aload_n C dX4_readNumber_39 rfl (j := 0) rfl ?_
        obtain ⟨v40, hv, he⟩ := ob he
        refine aw_gI C fk_X4_22 dX4_readNumber_40 hv ?_
        obtain ⟨hO, he⟩ := ifs he
        obtain ⟨v43, hv, he⟩ := ob he
        refine aw_callV (ci := 4) C mb_X4_44 ⟨q_269, q_1, rfl⟩ hO (cX4_byteAt_ _ _ _ _ hv) dX4_readNumber_43 rfl (rest := [.int ((10 : Int32) * v34), va_rf l0]) rfl (cat_le _ (Nat.le_of_ble_eq_true rfl)) (Nat.le_of_ble_eq_true rfl) (Nat.le_of_ble_eq_true rfl) (Nat.le_of_ble_eq_true rfl) (st2 := [.int v43, .int ((10 : Int32) * v34), va_rf l0]) rfl ?_
        refine aw_iadd C dX4_readNumber_46 ?_
        refine aw_bipush (v := 48) C dX4_readNumber_47 (by decide) ?_
        refine aw_isub C dX4_readNumber_49 ?_
        refine aw_sipush (v := 1000) C dX4_readNumber_50 (by decide) ?_
        refine aw_mmin C q_285 q_286 q_78 q_287 (Nat.le_of_ble_eq_true rfl) (Nat.le_of_ble_eq_true rfl) (Nat.le_of_ble_eq_true rfl) (Nat.le_of_ble_eq_true rfl) dX4_readNumber_53 ?_
        obtain ⟨h56, hv, he⟩ := ob he
        refine aw_put C fk_X4_28 dX4_readNumber_56 rfl rfl hv ?_
        refine aw_aload_n C dX4_readNumber_59 rfl (j := 0) rfl ?_
        refine aw_dup C dX4_readNumber_60 (rf_cat _) ?_
        obtain ⟨v61, hv, he⟩ := ob he
        refine aw_gI C fk_X4_22 dX4_readNumber_61 hv ?_
        refine aw_iconst (v := 1) C dX4_readNumber_64 (by decide) ?_
        refine aw_iadd C dX4_readNumber_65 ?_
        obtain ⟨h66, hv, he⟩ := ob he
        refine aw_put C fk_X4_22 dX4_readNumber_66 rfl rfl hv ?_
        refine aw_goto (tgt := 5) C dX4_readNumber_69 (by decide) ?_
        exact ih _ _ he
set_option maxHeartbeats 4000000 in
set_option maxRecDepth 100000 in
theorem wX4_readNumber_j103 {Γ : GG} (C : CX Γ cX4_readNumber 2 RX4 1 0 0) {N : Nat} {sz : Nat} {out : Hp} (X : RX Γ none none out sz 0 0) {h : Hp} {l0 : Option Nat} {s0 : Int32} (he : fX4_readNumber_j103 N h l0 s0 = some out) : AW Γ 2 h sz 0 0 103 [(0, .inr l0)] [.int s0] := by
  unfold fX4_readNumber_j103 at he
  refine aw_istore_n C dX4_readNumber_103 rfl (by decide) rfl (lv' := [(0, .inr l0), (1, .inl s0)]) rfl ?_
  refine aw_aload_n C dX4_readNumber_104 rfl (j := 0) rfl ?_
  refine aw_iload_n C dX4_readNumber_105 rfl (j := 1) rfl ?_
  refine aw_if_ne (tgt := 119) C dX4_readNumber_106 (by decide) (fun hc => ?_) (fun hc => ?_)
  · have he := ift hc he
    refine aw_aload_n C dX4_readNumber_109 rfl (j := 0) rfl ?_
    obtain ⟨v110, hv, he⟩ := ob he
    refine aw_gI C fk_X4_28 dX4_readNumber_110 hv ?_
    refine aw_sipush (v := 999) C dX4_readNumber_113 (by decide) ?_
    refine aw_ic_le (tgt := 123) C dX4_readNumber_116 (by decide) (fun hc => ?_) (fun hc => ?_)
    · have he := ift hc he
      refine aw_iconst (v := 2) C dX4_readNumber_123 (by decide) ?_
      obtain ⟨h124, hv, he⟩ := ob he
      refine aw_put C fk_X4_25 dX4_readNumber_124 rfl rfl hv ?_
      have he := Option.some.inj he
      subst he
      exact aw_vret C X dX4_readNumber_127 (by decide) (by decide)
    · have he := iff_ hc he
      refine aw_iconst (v := 4) C dX4_readNumber_119 (by decide) ?_
      refine aw_goto (tgt := 124) C dX4_readNumber_120 (by decide) ?_
      obtain ⟨h124, hv, he⟩ := ob he
      refine aw_put C fk_X4_25 dX4_readNumber_124 rfl rfl hv ?_
      have he := Option.some.inj he
      subst he
      exact aw_vret C X dX4_readNumber_127 (by decide) (by decide)
  · have he := iff_ hc he
    refine aw_iconst (v := 4) C dX4_readNumber_119 (by decide) ?_
    refine aw_goto (tgt := 124) C dX4_readNumber_120 (by decide) ?_
    obtain ⟨h124, hv, he⟩ := ob he
    refine aw_put C fk_X4_25 dX4_readNumber_124 rfl rfl hv ?_
    have he := Option.some.inj he
    subst he
    exact aw_vret C X dX4_readNumber_127 (by decide) (by decide)
set_option maxHeartbeats 4000000 in
set_option maxRecDepth 100000 in
theorem wX4_readNumber_j72 {Γ : GG} (C : CX Γ cX4_readNumber 2 RX4 1 0 0) {N : Nat} {sz : Nat} {out : Hp} (X : RX Γ none none out sz 0 0) {h : Hp} {l0 : Option Nat} (he : fX4_readNumber_j72 N h l0 = some out) : AW Γ 2 h sz 0 0 72 [(0, .inr l0)] [] := by
  unfold fX4_readNumber_j72 at he
  refine aw_aload_n C dX4_readNumber_72 rfl (j := 0) rfl ?_
  refine aw_aload_n C dX4_readNumber_73 rfl (j := 0) rfl ?_
  obtain ⟨v74, hv, he⟩ := ob he
  refine aw_gI C fk_X4_19 dX4_readNumber_74 hv ?_
  obtain ⟨hO, he⟩ := ifs he
  obtain ⟨v77, hv, he⟩ := ob he
  refine aw_callV (ci := 4) C mb_X4_44 ⟨q_269, q_1, rfl⟩ hO (cX4_byteAt_ _ _ _ _ hv) dX4_readNumber_77 rfl (rest := []) rfl (cat_le _ (Nat.le_of_ble_eq_true rfl)) (Nat.le_of_ble_eq_true rfl) (Nat.le_of_ble_eq_true rfl) (Nat.le_of_ble_eq_true rfl) (st2 := [.int v77]) rfl ?_
  refine aw_bipush (v := 48) C dX4_readNumber_80 (by decide) ?_
  refine aw_ic_ne (tgt := 102) C dX4_readNumber_82 (by decide) (fun hc => ?_) (fun hc => ?_)
  · have he := ift hc he
    refine aw_aload_n C dX4_readNumber_85 rfl (j := 0) rfl ?_
    obtain ⟨v86, hv, he⟩ := ob he
    refine aw_gI C fk_X4_22 dX4_readNumber_86 hv ?_
    refine aw_aload_n C dX4_readNumber_89 rfl (j := 0) rfl ?_
    obtain ⟨v90, hv, he⟩ := ob he
    refine aw_gI C fk_X4_19 dX4_readNumber_90 hv ?_
    refine aw_isub C dX4_readNumber_93 ?_
    refine aw_iconst (v := 1) C dX4_readNumber_94 (by decide) ?_
    refine aw_ic_le (tgt := 102) C dX4_readNumber_95 (by decide) (fun hc => ?_) (fun hc => ?_)
    · have he := ift hc he
      refine aw_iconst (v := 0) C dX4_readNumber_102 (by decide) ?_
      exact wX4_readNumber_j103 C X he
    · have he := iff_ hc he
      refine aw_iconst (v := 1) C dX4_readNumber_98 (by decide) ?_
      refine aw_goto (tgt := 103) C dX4_readNumber_99 (by decide) ?_
      exact wX4_readNumber_j103 C X he
  · have he := iff_ hc he
    refine aw_iconst (v := 0) C dX4_readNumber_102 (by decide) ?_
    exact wX4_readNumber_j103 C X he
set_option maxHeartbeats 4000000 in
set_option maxRecDepth 100000 in
theorem wX4_readNumber {Γ : GG} (C : CX Γ cX4_readNumber 2 RX4 1 0 0) {N : Nat} {sz : Nat} {out : Hp} (X : RX Γ none none out sz 0 0) {h : Hp} {l0 : Option Nat} (he : fX4_readNumber N h l0 = some out) : AW Γ 2 h sz 0 0 0 [(0, .inr l0)] [] := by
  unfold fX4_readNumber at he
  refine aw_aload_n C dX4_readNumber_0 rfl (j := 0) rfl ?_
  refine aw_iconst (v := 0) C dX4_readNumber_1 (by decide) ?_
  obtain ⟨h2, hv, he⟩ := ob he
  refine aw_put C fk_X4_28 dX4_readNumber_2 rfl rfl hv ?_
  refine wX4_readNumber_L5 C ?_ N _ _ he
  intro h l0 he
  exact wX4_readNumber_j72 C X he
theorem cX4_readNumber_ (l : Launch) (D : va_G) (dA : Nat → ClassId) (base : Nat) {N : Nat} {h : Hp} {sz : Nat} {l0 : Option Nat} {out : Hp} (he : fX4_readNumber N h l0 = some out) : AM l D dA base yX4_readNumber cX4_readNumber 2 none 1 0 0 [.inr l0] h sz none out sz :=
  AM.of (by decide +kernel) (Nat.le_of_ble_eq_true rfl) rfl (fun Γ C X hn => wX4_readNumber C X he)
set_option maxHeartbeats 4000000 in
set_option maxRecDepth 100000 in
theorem wX4_readToken_L0 {Γ : GG} (C : CX Γ cX4_readToken 2 RX4 2 0 0) {N : Nat} {sz : Nat} {α : Type} {out : α} {K37 : Hp → Option Nat → Option α} (k37 : ∀ (h : Hp) (l0 : Option Nat), K37 h l0 = some out → AW Γ 2 h sz 0 0 37 [(0, .inr l0)] []) : ∀ (n : Nat) (h : Hp) (l0 : Option Nat), fX4_readToken_L0 N K37 n h l0 = some out → AW Γ 2 h sz 0 0 0 [(0, .inr l0)] [] := by
  intro n
  induction n with
  | zero =>
    intro h l0 he
    rw [fX4_readToken_L0] at he
    cases he
  | succ n ih =>
    intro h l0 he
    rw [fX4_readToken_L0] at he
    refine aw_aload_n C dX4_readToken_0 rfl (j := 0) rfl ?_
    obtain ⟨v1, hv, he⟩ := ob he
    refine aw_gI C fk_X4_22 dX4_readToken_1 hv ?_
    refine aw_aload_n C dX4_readToken_4 rfl (j := 0) rfl ?_
    obtain ⟨v5, hv, he⟩ := ob he
    refine aw_gI C fk_X4_15 dX4_readToken_5 hv ?_
    refine aw_ic_ge (tgt := 37) C dX4_readToken_8 (by decide) (fun hc => ?_) (fun hc => ?_)
    · have he := ift hc he
      exact k37 _ _ he
    · have he := iff_ hc he
      refine aw_aload_n C dX4_readToken_11 rfl (j := 0) rfl ?_
      refine aw_aload_n C dX4_readToken_12 rfl (j := 0) rfl ?_
      obtain ⟨v13, hv, he⟩ := ob he
      refine aw_gI C fk_X4_22 dX4_readToken_13 hv ?_
      obtain ⟨hO, he⟩ := ifs he
      obtain ⟨v16, hv, he⟩ := ob he
      refine aw_callV (ci := 4) C mb_X4_44 ⟨q_269, q_1, rfl⟩ hO (cX4_byteAt_ _ _ _ _ hv) dX4_readToken_16 rfl (rest := []) rfl (cat_le _ (Nat.le_of_ble_eq_true rfl)) (Nat.le_of_ble_eq_true rfl) (Nat.le_of_ble_eq_true rfl) (Nat.le_of_ble_eq_true rfl) (st2 := [.int v16]) rfl ?_
      refine aw_bipush (v := 32) C dX4_readToken_19 (by decide) ?_
      refine aw_ic_ne (tgt := 37) C dX4_readToken_21 (by decide) (fun hc => ?_) (fun hc => ?_)
      · have he := ift hc he
        refine aw_aload_n C dX4_readToken_24 rfl (j := 0) rfl ?_
        refine aw_dup C dX4_readToken_25 (rf_cat _) ?_
        obtain ⟨v26, hv, he⟩ := ob he
        refine aw_gI C fk_X4_22 dX4_readToken_26 hv ?_
        refine aw_iconst (v := 1) C dX4_readToken_29 (by decide) ?_
        refine aw_iadd C dX4_readToken_30 ?_
        obtain ⟨h31, hv, he⟩ := ob he
        refine aw_put C fk_X4_22 dX4_readToken_31 rfl rfl hv ?_
        refine aw_goto (tgt := 0) C dX4_readToken_34 (by decide) ?_
        exact ih _ _ he
      · have he := iff_ hc he
        exact k37 _ _ he
set_option maxHeartbeats 4000000 in
set_option maxRecDepth 100000 in
theorem wX4_readToken_j113 {Γ : GG} (C : CX Γ cX4_readToken 2 RX4 2 0 0) {N : Nat} {sz : Nat} {out : Hp} (X : RX Γ none none out sz 0 0) {h : Hp} {l0 : Option Nat} {s0 : Int32} {s1 : Option Nat} (he : fX4_readToken_j113 N h l0 s0 s1 = some out) : AW Γ 2 h sz 0 0 113 [(0, .inr l0)] [.int s0, va_rf s1] := by
  unfold fX4_readToken_j113 at he
  obtain ⟨h113, hv, he⟩ := ob he
  refine aw_put C fk_X4_25 dX4_readToken_113 rfl rfl hv ?_
  refine aw_aload_n C dX4_readToken_116 rfl (j := 0) rfl ?_
  refine aw_dup C dX4_readToken_117 (rf_cat _) ?_
  obtain ⟨v118, hv, he⟩ := ob he
  refine aw_gI C fk_X4_22 dX4_readToken_118 hv ?_
  refine aw_iconst (v := 1) C dX4_readToken_121 (by decide) ?_
  refine aw_iadd C dX4_readToken_122 ?_
  obtain ⟨h123, hv, he⟩ := ob he
  refine aw_put C fk_X4_22 dX4_readToken_123 rfl rfl hv ?_
  have he := Option.some.inj he
  subst he
  exact aw_vret C X dX4_readToken_126 (by decide) (by decide)
set_option maxHeartbeats 4000000 in
set_option maxRecDepth 100000 in
theorem wX4_readToken_j37 {Γ : GG} (C : CX Γ cX4_readToken 2 RX4 2 0 0) {N : Nat} {sz : Nat} {out : Hp} (X : RX Γ none none out sz 0 0) {h : Hp} {l0 : Option Nat} (he : fX4_readToken_j37 N h l0 = some out) : AW Γ 2 h sz 0 0 37 [(0, .inr l0)] [] := by
  unfold fX4_readToken_j37 at he
  refine aw_aload_n C dX4_readToken_37 rfl (j := 0) rfl ?_
  refine aw_aload_n C dX4_readToken_38 rfl (j := 0) rfl ?_
  obtain ⟨v39, hv, he⟩ := ob he
  refine aw_gI C fk_X4_22 dX4_readToken_39 hv ?_
  obtain ⟨h42, hv, he⟩ := ob he
  refine aw_put C fk_X4_19 dX4_readToken_42 rfl rfl hv ?_
  refine aw_aload_n C dX4_readToken_45 rfl (j := 0) rfl ?_
  refine aw_aload_n C dX4_readToken_46 rfl (j := 0) rfl ?_
  obtain ⟨v47, hv, he⟩ := ob he
  refine aw_gI C fk_X4_19 dX4_readToken_47 hv ?_
  obtain ⟨hO, he⟩ := ifs he
  obtain ⟨v50, hv, he⟩ := ob he
  refine aw_callV (ci := 4) C mb_X4_44 ⟨q_269, q_1, rfl⟩ hO (cX4_byteAt_ _ _ _ _ hv) dX4_readToken_50 rfl (rest := []) rfl (cat_le _ (Nat.le_of_ble_eq_true rfl)) (Nat.le_of_ble_eq_true rfl) (Nat.le_of_ble_eq_true rfl) (Nat.le_of_ble_eq_true rfl) (st2 := [.int v50]) rfl ?_
  refine aw_istore_n C dX4_readToken_53 rfl (by decide) rfl (lv' := [(0, .inr l0), (1, .inl v50)]) rfl ?_
  refine aw_aload_n C dX4_readToken_54 rfl (j := 0) rfl ?_
  obtain ⟨v55, hv, he⟩ := ob he
  refine aw_gI C fk_X4_19 dX4_readToken_55 hv ?_
  refine aw_aload_n C dX4_readToken_58 rfl (j := 0) rfl ?_
  obtain ⟨v59, hv, he⟩ := ob he
  refine aw_gI C fk_X4_15 dX4_readToken_59 hv ?_
  refine aw_ic_lt (tgt := 73) C dX4_readToken_62 (by decide) (fun hc => ?_) (fun hc => ?_)
  · have he := ift hc he
    refine aw_iload_n C dX4_readToken_73 rfl (j := 1) rfl ?_
    obtain ⟨v74, hv, he⟩ := ob he
    refine aw_callS C mb_X4_48 q_272 (cX4_isLetter_ _ _ _ _ hv) dX4_readToken_74 rfl (rest := []) rfl (cat_le _ (Nat.le_of_ble_eq_true rfl)) (Nat.le_of_ble_eq_true rfl) (Nat.le_of_ble_eq_true rfl) (Nat.le_of_ble_eq_true rfl) (st2 := [.int v74]) rfl ?_
    refine aw_if_eq (tgt := 87) C dX4_readToken_77 (by decide) (fun hc => ?_) (fun hc => ?_)
    · have he := ift hc he
      refine aw_iload_n C dX4_readToken_87 rfl (j := 1) rfl ?_
      obtain ⟨v88, hv, he⟩ := ob he
      refine aw_callS C mb_X4_54 q_279 (cX4_isDigit_ _ _ _ _ hv) dX4_readToken_88 rfl (rest := []) rfl (cat_le _ (Nat.le_of_ble_eq_true rfl)) (Nat.le_of_ble_eq_true rfl) (Nat.le_of_ble_eq_true rfl) (Nat.le_of_ble_eq_true rfl) (st2 := [.int v88]) rfl ?_
      refine aw_if_eq (tgt := 101) C dX4_readToken_91 (by decide) (fun hc => ?_) (fun hc => ?_)
      · have he := ift hc he
        refine aw_aload_n C dX4_readToken_101 rfl (j := 0) rfl ?_
        refine aw_iload_n C dX4_readToken_102 rfl (j := 1) rfl ?_
        refine aw_bipush (v := 59) C dX4_readToken_103 (by decide) ?_
        refine aw_ic_ne (tgt := 112) C dX4_readToken_105 (by decide) (fun hc => ?_) (fun hc => ?_)
        · have he := ift hc he
          refine aw_iconst (v := 3) C dX4_readToken_108 (by decide) ?_
          refine aw_goto (tgt := 113) C dX4_readToken_109 (by decide) ?_
          refine aw_sub [0] (lv' := [(0, .inr l0)]) rfl ?_
          exact wX4_readToken_j113 C X he
        · have he := iff_ hc he
          refine aw_iconst (v := 4) C dX4_readToken_112 (by decide) ?_
          refine aw_sub [0] (lv' := [(0, .inr l0)]) rfl ?_
          exact wX4_readToken_j113 C X he
      · have he := iff_ hc he
        refine aw_aload_n C dX4_readToken_94 rfl (j := 0) rfl ?_
        obtain ⟨hO, he⟩ := ifs he
        obtain ⟨z95, hv, he⟩ := ob he
        refine aw_callV (ci := 4) C mb_X4_57 ⟨q_283, q_3, rfl⟩ hO (cX4_readNumber_ _ _ _ _ hv) dX4_readToken_95 rfl (rest := []) rfl (cat_le _ (Nat.le_of_ble_eq_true rfl)) (Nat.le_of_ble_eq_true rfl) (Nat.le_of_ble_eq_true rfl) (Nat.le_of_ble_eq_true rfl) (st2 := []) rfl ?_
        refine aw_goto (tgt := 126) C dX4_readToken_98 (by decide) ?_
        have he := Option.some.inj he
        subst he
        exact aw_vret C X dX4_readToken_126 (by decide) (by decide)
    · have he := iff_ hc he
      refine aw_aload_n C dX4_readToken_80 rfl (j := 0) rfl ?_
      obtain ⟨hO, he⟩ := ifs he
      obtain ⟨z81, hv, he⟩ := ob he
      refine aw_callV (ci := 4) C mb_X4_51 ⟨q_276, q_2, rfl⟩ hO (cX4_readLetters_ _ _ _ _ hv) dX4_readToken_81 rfl (rest := []) rfl (cat_le _ (Nat.le_of_ble_eq_true rfl)) (Nat.le_of_ble_eq_true rfl) (Nat.le_of_ble_eq_true rfl) (Nat.le_of_ble_eq_true rfl) (st2 := []) rfl ?_
      refine aw_goto (tgt := 126) C dX4_readToken_84 (by decide) ?_
      have he := Option.some.inj he
      subst he
      exact aw_vret C X dX4_readToken_126 (by decide) (by decide)
  · have he := iff_ hc he
    refine aw_aload_n C dX4_readToken_65 rfl (j := 0) rfl ?_
    refine aw_iconst (v := 0) C dX4_readToken_66 (by decide) ?_
    obtain ⟨h67, hv, he⟩ := ob he
    refine aw_put C fk_X4_25 dX4_readToken_67 rfl rfl hv ?_
    refine aw_goto (tgt := 126) C dX4_readToken_70 (by decide) ?_
    have he := Option.some.inj he
    subst he
    exact aw_vret C X dX4_readToken_126 (by decide) (by decide)
set_option maxHeartbeats 4000000 in
set_option maxRecDepth 100000 in
theorem wX4_readToken {Γ : GG} (C : CX Γ cX4_readToken 2 RX4 2 0 0) {N : Nat} {sz : Nat} {out : Hp} (X : RX Γ none none out sz 0 0) {h : Hp} {l0 : Option Nat} (he : fX4_readToken N h l0 = some out) : AW Γ 2 h sz 0 0 0 [(0, .inr l0)] [] := by
  unfold fX4_readToken at he
  refine wX4_readToken_L0 C ?_ N _ _ he
  intro h l0 he
  exact wX4_readToken_j37 C X he
theorem cX4_readToken_ (l : Launch) (D : va_G) (dA : Nat → ClassId) (base : Nat) {N : Nat} {h : Hp} {sz : Nat} {l0 : Option Nat} {out : Hp} (he : fX4_readToken N h l0 = some out) : AM l D dA base yX4_readToken cX4_readToken 2 none 2 0 0 [.inr l0] h sz none out sz :=
  AM.of (by decide +kernel) (Nat.le_of_ble_eq_true rfl) rfl (fun Γ C X hn => wX4_readToken C X he)
set_option maxHeartbeats 4000000 in
set_option maxRecDepth 100000 in
theorem wX0_hasRoomFor {Γ : GG} (C : CX Γ cX0_hasRoomFor 2 RX0 0 0 0) {N : Nat} {sz : Nat} {h : Hp} {out : Int32} (X : RX Γ (some .boolean) (some (.int out)) h sz 0 0) {l0 : Option Nat} {l1 : Int32} (he : fX0_hasRoomFor N h l0 l1 = some out) : AW Γ 2 h sz 0 0 0 [(0, .inr l0), (1, .inl l1)] [] := by
  unfold fX0_hasRoomFor at he
  refine aw_iload_n C dX0_hasRoomFor_0 rfl (j := 1) rfl ?_
  by_cases c0 : l1 = 112
  · have he := ift c0 he
    refine aw_lsw (off := 64) (tgt := 65) C dX0_hasRoomFor_1 (by decide) (by rw [c0]; decide) (by decide) ?_
    refine aw_aload_n C dX0_hasRoomFor_65 rfl (j := 0) rfl ?_
    obtain ⟨v66, hv, he⟩ := ob he
    refine aw_gI C fk_X0_28 dX0_hasRoomFor_66 hv ?_
    refine aw_iconst (v := 4) C dX0_hasRoomFor_69 (by decide) ?_
    refine aw_ic_ge (tgt := 77) C dX0_hasRoomFor_70 (by decide) (fun hc => ?_) (fun hc => ?_)
    · have he := ift hc he
      refine aw_iconst (v := 0) C dX0_hasRoomFor_77 (by decide) ?_
      have he := Option.some.inj he
      subst he
      exact aw_zret C X (by decide) dX0_hasRoomFor_78 (by decide) (by decide)
    · have he := iff_ hc he
      refine aw_iconst (v := 1) C dX0_hasRoomFor_73 (by decide) ?_
      refine aw_goto (tgt := 78) C dX0_hasRoomFor_74 (by decide) ?_
      have he := Option.some.inj he
      subst he
      exact aw_zret C X (by decide) dX0_hasRoomFor_78 (by decide) (by decide)
  have he := iff_ c0 he
  by_cases c1 : l1 = 114
  · have he := ift c1 he
    refine aw_lsw (off := 35) (tgt := 36) C dX0_hasRoomFor_1 (by decide) (by rw [c1]; decide) (by decide) ?_
    refine aw_aload_n C dX0_hasRoomFor_36 rfl (j := 0) rfl ?_
    obtain ⟨v37, hv, he⟩ := ob he
    refine aw_gI C fk_X0_21 dX0_hasRoomFor_37 hv ?_
    refine aw_iconst (v := 4) C dX0_hasRoomFor_40 (by decide) ?_
    refine aw_ic_ge (tgt := 48) C dX0_hasRoomFor_41 (by decide) (fun hc => ?_) (fun hc => ?_)
    · have he := ift hc he
      refine aw_iconst (v := 0) C dX0_hasRoomFor_48 (by decide) ?_
      have he := Option.some.inj he
      subst he
      exact aw_zret C X (by decide) dX0_hasRoomFor_49 (by decide) (by decide)
    · have he := iff_ hc he
      refine aw_iconst (v := 1) C dX0_hasRoomFor_44 (by decide) ?_
      refine aw_goto (tgt := 49) C dX0_hasRoomFor_45 (by decide) ?_
      have he := Option.some.inj he
      subst he
      exact aw_zret C X (by decide) dX0_hasRoomFor_49 (by decide) (by decide)
  have he := iff_ c1 he
  by_cases c2 : l1 = 119
  · have he := ift c2 he
    refine aw_lsw (off := 49) (tgt := 50) C dX0_hasRoomFor_1 (by decide) (by rw [c2]; decide) (by decide) ?_
    refine aw_aload_n C dX0_hasRoomFor_50 rfl (j := 0) rfl ?_
    obtain ⟨v51, hv, he⟩ := ob he
    refine aw_gI C fk_X0_25 dX0_hasRoomFor_51 hv ?_
    refine aw_bipush (v := 6) C dX0_hasRoomFor_54 (by decide) ?_
    refine aw_ic_ge (tgt := 63) C dX0_hasRoomFor_56 (by decide) (fun hc => ?_) (fun hc => ?_)
    · have he := ift hc he
      refine aw_iconst (v := 0) C dX0_hasRoomFor_63 (by decide) ?_
      have he := Option.some.inj he
      subst he
      exact aw_zret C X (by decide) dX0_hasRoomFor_64 (by decide) (by decide)
    · have he := iff_ hc he
      refine aw_iconst (v := 1) C dX0_hasRoomFor_59 (by decide) ?_
      refine aw_goto (tgt := 64) C dX0_hasRoomFor_60 (by decide) ?_
      have he := Option.some.inj he
      subst he
      exact aw_zret C X (by decide) dX0_hasRoomFor_64 (by decide) (by decide)
  have he := iff_ c2 he
  refine aw_lsw (off := 78) (tgt := 79) C dX0_hasRoomFor_1 (by decide) ((lv_osw c0 (by decide)).trans ((lv_osw c1 (by decide)).trans ((lv_osw c2 (by decide)).trans rfl))) (by decide) ?_
  refine aw_iconst (v := 0) C dX0_hasRoomFor_79 (by decide) ?_
  have he := Option.some.inj he
  subst he
  exact aw_zret C X (by decide) dX0_hasRoomFor_80 (by decide) (by decide)
theorem cX0_hasRoomFor_ (l : Launch) (D : va_G) (dA : Nat → ClassId) (base : Nat) {N : Nat} {h : Hp} {sz : Nat} {l0 : Option Nat} {l1 : Int32} {out : Int32} (he : fX0_hasRoomFor N h l0 l1 = some out) : AM l D dA base yX0_hasRoomFor cX0_hasRoomFor 2 (some .boolean) 0 0 0 [.inr l0, .inl l1] h sz (some (.int out)) h sz :=
  AM.of (by decide +kernel) (Nat.le_of_ble_eq_true rfl) rfl (fun Γ C X hn => wX0_hasRoomFor C X he)
set_option maxHeartbeats 4000000 in
set_option maxRecDepth 100000 in
theorem wJ9_floorMod_7cf53 {Γ : GG} (C : CX Γ cJ9_floorMod_7cf53 3 RJ9 0 0 0) {N : Nat} {sz : Nat} {h : Hp} {out : Int32} (X : RX Γ (some .int) (some (.int out)) h sz 0 0) {l0 : Int32} {l1 : Int32} (he : fJ9_floorMod_7cf53 N h l0 l1 = some out) : AW Γ 3 h sz 0 0 0 [(0, .inl l0), (1, .inl l1)] [] := by
  unfold fJ9_floorMod_7cf53 at he
  refine aw_iload_n C dJ9_floorMod_7cf53_0 rfl (j := 0) rfl ?_
  refine aw_iload_n C dJ9_floorMod_7cf53_1 rfl (j := 1) rfl ?_
  obtain ⟨hy, he⟩ := ifn he
  refine aw_irem C dJ9_floorMod_7cf53_2 hy ?_
  refine aw_istore_n C dJ9_floorMod_7cf53_3 rfl (by decide) rfl (lv' := [(0, .inl l0), (1, .inl l1), (2, .inl (jrem l0 l1))]) rfl ?_
  refine aw_iload_n C dJ9_floorMod_7cf53_4 rfl (j := 0) rfl ?_
  refine aw_iload_n C dJ9_floorMod_7cf53_5 rfl (j := 1) rfl ?_
  refine aw_ixor C dJ9_floorMod_7cf53_6 ?_
  refine aw_if_ge (tgt := 18) C dJ9_floorMod_7cf53_7 (by decide) (fun hc => ?_) (fun hc => ?_)
  · have he := ift hc he
    refine aw_iload_n C dJ9_floorMod_7cf53_18 rfl (j := 2) rfl ?_
    have he := Option.some.inj he
    subst he
    exact aw_iret C X dJ9_floorMod_7cf53_19 (by decide) (by decide)
  · have he := iff_ hc he
    refine aw_iload_n C dJ9_floorMod_7cf53_10 rfl (j := 2) rfl ?_
    refine aw_if_eq (tgt := 18) C dJ9_floorMod_7cf53_11 (by decide) (fun hc => ?_) (fun hc => ?_)
    · have he := ift hc he
      refine aw_iload_n C dJ9_floorMod_7cf53_18 rfl (j := 2) rfl ?_
      have he := Option.some.inj he
      subst he
      exact aw_iret C X dJ9_floorMod_7cf53_19 (by decide) (by decide)
    · have he := iff_ hc he
      refine aw_iload_n C dJ9_floorMod_7cf53_14 rfl (j := 2) rfl ?_
      refine aw_iload_n C dJ9_floorMod_7cf53_15 rfl (j := 1) rfl ?_
      refine aw_iadd C dJ9_floorMod_7cf53_16 ?_
      have he := Option.some.inj he
      subst he
      exact aw_iret C X dJ9_floorMod_7cf53_17 (by decide) (by decide)
theorem cJ9_floorMod_7cf53_ (l : Launch) (D : va_G) (dA : Nat → ClassId) (base : Nat) {N : Nat} {h : Hp} {sz : Nat} {l0 : Int32} {l1 : Int32} {out : Int32} (he : fJ9_floorMod_7cf53 N h l0 l1 = some out) : AM l D dA base yJ9_floorMod_7cf53 cJ9_floorMod_7cf53 3 (some .int) 0 0 0 [.inl l0, .inl l1] h sz (some (.int out)) h sz :=
  AM.ofF (by decide +kernel) (Nat.le_of_ble_eq_true rfl) rfl (fun Γ C X hn => wJ9_floorMod_7cf53 C X he)
set_option maxHeartbeats 4000000 in
set_option maxRecDepth 100000 in
theorem wX5_rest {Γ : GG} (C : CX Γ cX5_rest 2 RX5 1 0 0) {N : Nat} {sz : Nat} {h : Hp} {out : Int32} (X : RX Γ (some .int) (some (.int out)) h sz 0 0) {l0 : Int32} {l1 : Int32} (he : fX5_rest N h l0 l1 = some out) : AW Γ 2 h sz 0 0 0 [(0, .inl l0), (1, .inl l1)] [] := by
  unfold fX5_rest at he
  refine aw_iload_n C dX5_rest_0 rfl (j := 1) rfl ?_
  refine aw_if_gt (tgt := 8) C dX5_rest_1 (by decide) (fun hc => ?_) (fun hc => ?_)
  · have he := ift hc he
    refine aw_iload_n C dX5_rest_8 rfl (j := 0) rfl ?_
    refine aw_iload_n C dX5_rest_9 rfl (j := 1) rfl ?_
    obtain ⟨v10, hv, he⟩ := ob he
    refine aw_callS C mb_X5_293 q_305 (cJ9_floorMod_7cf53_ _ _ _ _ hv) dX5_rest_10 rfl (rest := []) rfl (cat_le _ (Nat.le_of_ble_eq_true rfl)) (Nat.le_of_ble_eq_true rfl) (Nat.le_of_ble_eq_true rfl) (Nat.le_of_ble_eq_true rfl) (st2 := [.int v10]) rfl ?_
    have he := Option.some.inj he
    subst he
    exact aw_iret C X dX5_rest_13 (by decide) (by decide)
  · have he := iff_ hc he
    refine aw_iconst (v := 0) C dX5_rest_4 (by decide) ?_
    refine aw_goto (tgt := 13) C dX5_rest_5 (by decide) ?_
    have he := Option.some.inj he
    subst he
    exact aw_iret C X dX5_rest_13 (by decide) (by decide)
theorem cX5_rest_ (l : Launch) (D : va_G) (dA : Nat → ClassId) (base : Nat) {N : Nat} {h : Hp} {sz : Nat} {l0 : Int32} {l1 : Int32} {out : Int32} (he : fX5_rest N h l0 l1 = some out) : AM l D dA base yX5_rest cX5_rest 2 (some .int) 1 0 0 [.inl l0, .inl l1] h sz (some (.int out)) h sz :=
  AM.of (by decide +kernel) (Nat.le_of_ble_eq_true rfl) rfl (fun Γ C X hn => wX5_rest C X he)
set_option maxHeartbeats 4000000 in
set_option maxRecDepth 100000 in
theorem wX0_addsRing {Γ : GG} (C : CX Γ cX0_addsRing 2 RX0 2 0 0) {N : Nat} {sz : Nat} {out : Int32 × Hp} (X : RX Γ (some .boolean) (some (.int out.1)) out.2 sz 0 0) {h : Hp} {l0 : Option Nat} {l1 : Int32} (he : fX0_addsRing N h l0 l1 = some out) : AW Γ 2 h sz 0 0 0 [(0, .inr l0), (1, .inl l1)] [] := by
  unfold fX0_addsRing at he
  refine aw_aload_n C dX0_addsRing_0 rfl (j := 0) rfl ?_
  obtain ⟨v1, hv, he⟩ := ob he
  refine aw_gI C fk_X0_21 dX0_addsRing_1 hv ?_
  refine aw_iconst (v := 4) C dX0_addsRing_4 (by decide) ?_
  refine aw_ic_ge (tgt := 29) C dX0_addsRing_5 (by decide) (fun hc => ?_) (fun hc => ?_)
  · have he := ift hc he
    refine aw_iconst (v := 0) C dX0_addsRing_29 (by decide) ?_
    have he := Option.some.inj he
    subst he
    exact aw_zret C X (by decide) dX0_addsRing_30 (by decide) (by decide)
  · have he := iff_ hc he
    refine aw_iload_n C dX0_addsRing_8 rfl (j := 1) rfl ?_
    refine aw_bipush (v := 12) C dX0_addsRing_9 (by decide) ?_
    refine aw_bipush (v := 120) C dX0_addsRing_11 (by decide) ?_
    obtain ⟨v13, hv, he⟩ := ob he
    refine aw_callS C mb_X0_41 q_241 (cX5_within_ _ _ _ _ hv) dX0_addsRing_13 rfl (rest := []) rfl (cat_le _ (Nat.le_of_ble_eq_true rfl)) (Nat.le_of_ble_eq_true rfl) (Nat.le_of_ble_eq_true rfl) (Nat.le_of_ble_eq_true rfl) (st2 := [.int v13]) rfl ?_
    refine aw_if_eq (tgt := 29) C dX0_addsRing_16 (by decide) (fun hc => ?_) (fun hc => ?_)
    · have he := ift hc he
      refine aw_iconst (v := 0) C dX0_addsRing_29 (by decide) ?_
      have he := Option.some.inj he
      subst he
      exact aw_zret C X (by decide) dX0_addsRing_30 (by decide) (by decide)
    · have he := iff_ hc he
      refine aw_sipush (v := 360) C dX0_addsRing_19 (by decide) ?_
      refine aw_iload_n C dX0_addsRing_22 rfl (j := 1) rfl ?_
      obtain ⟨v23, hv, he⟩ := ob he
      refine aw_callS C mb_X0_45 q_302 (cX5_rest_ _ _ _ _ hv) dX0_addsRing_23 rfl (rest := []) rfl (cat_le _ (Nat.le_of_ble_eq_true rfl)) (Nat.le_of_ble_eq_true rfl) (Nat.le_of_ble_eq_true rfl) (Nat.le_of_ble_eq_true rfl) (st2 := [.int v23]) rfl ?_
      refine aw_if_eq (tgt := 31) C dX0_addsRing_26 (by decide) (fun hc => ?_) (fun hc => ?_)
      · have he := ift hc he
        refine aw_aload_n C dX0_addsRing_31 rfl (j := 0) rfl ?_
        obtain ⟨v32, hv, he⟩ := ob he
        refine aw_gA C fk_X0_9 dX0_addsRing_32 hv ?_
        refine aw_aload_n C dX0_addsRing_35 rfl (j := 0) rfl ?_
        obtain ⟨v36, hv, he⟩ := ob he
        refine aw_gI C fk_X0_21 dX0_addsRing_36 hv ?_
        refine aw_iload_n C dX0_addsRing_39 rfl (j := 1) rfl ?_
        obtain ⟨h40, hv, he⟩ := ob he
        refine aw_iast C dX0_addsRing_40 hv ?_
        refine aw_aload_n C dX0_addsRing_41 rfl (j := 0) rfl ?_
        refine aw_dup C dX0_addsRing_42 (rf_cat _) ?_
        obtain ⟨v43, hv, he⟩ := ob he
        refine aw_gI C fk_X0_21 dX0_addsRing_43 hv ?_
        refine aw_iconst (v := 1) C dX0_addsRing_46 (by decide) ?_
        refine aw_iadd C dX0_addsRing_47 ?_
        obtain ⟨h48, hv, he⟩ := ob he
        refine aw_put C fk_X0_21 dX0_addsRing_48 rfl rfl hv ?_
        refine aw_iconst (v := 1) C dX0_addsRing_51 (by decide) ?_
        have he := Option.some.inj he
        subst he
        exact aw_zret C X (by decide) dX0_addsRing_52 (by decide) (by decide)
      · have he := iff_ hc he
        refine aw_iconst (v := 0) C dX0_addsRing_29 (by decide) ?_
        have he := Option.some.inj he
        subst he
        exact aw_zret C X (by decide) dX0_addsRing_30 (by decide) (by decide)
theorem cX0_addsRing_ (l : Launch) (D : va_G) (dA : Nat → ClassId) (base : Nat) {N : Nat} {h : Hp} {sz : Nat} {l0 : Option Nat} {l1 : Int32} {out : Int32 × Hp} (he : fX0_addsRing N h l0 l1 = some out) : AM l D dA base yX0_addsRing cX0_addsRing 2 (some .boolean) 2 0 0 [.inr l0, .inl l1] h sz (some (.int out.1)) out.2 sz :=
  AM.of (by decide +kernel) (Nat.le_of_ble_eq_true rfl) rfl (fun Γ C X hn => wX0_addsRing C X he)
set_option maxHeartbeats 4000000 in
set_option maxRecDepth 100000 in
theorem wX0_addsWheel {Γ : GG} (C : CX Γ cX0_addsWheel 2 RX0 1 0 0) {N : Nat} {sz : Nat} {out : Int32 × Hp} (X : RX Γ (some .boolean) (some (.int out.1)) out.2 sz 0 0) {h : Hp} {l0 : Option Nat} {l1 : Int32} (he : fX0_addsWheel N h l0 l1 = some out) : AW Γ 2 h sz 0 0 0 [(0, .inr l0), (1, .inl l1)] [] := by
  unfold fX0_addsWheel at he
  refine aw_aload_n C dX0_addsWheel_0 rfl (j := 0) rfl ?_
  obtain ⟨v1, hv, he⟩ := ob he
  refine aw_gI C fk_X0_25 dX0_addsWheel_1 hv ?_
  refine aw_bipush (v := 6) C dX0_addsWheel_4 (by decide) ?_
  refine aw_ic_ge (tgt := 19) C dX0_addsWheel_6 (by decide) (fun hc => ?_) (fun hc => ?_)
  · have he := ift hc he
    refine aw_iconst (v := 0) C dX0_addsWheel_19 (by decide) ?_
    have he := Option.some.inj he
    subst he
    exact aw_zret C X (by decide) dX0_addsWheel_20 (by decide) (by decide)
  · have he := iff_ hc he
    refine aw_iload_n C dX0_addsWheel_9 rfl (j := 1) rfl ?_
    refine aw_iconst (v := 3) C dX0_addsWheel_10 (by decide) ?_
    refine aw_bipush (v := 99) C dX0_addsWheel_11 (by decide) ?_
    obtain ⟨v13, hv, he⟩ := ob he
    refine aw_callS C mb_X0_41 q_241 (cX5_within_ _ _ _ _ hv) dX0_addsWheel_13 rfl (rest := []) rfl (cat_le _ (Nat.le_of_ble_eq_true rfl)) (Nat.le_of_ble_eq_true rfl) (Nat.le_of_ble_eq_true rfl) (Nat.le_of_ble_eq_true rfl) (st2 := [.int v13]) rfl ?_
    refine aw_if_ne (tgt := 21) C dX0_addsWheel_16 (by decide) (fun hc => ?_) (fun hc => ?_)
    · have he := ift hc he
      refine aw_iconst (v := 0) C dX0_addsWheel_19 (by decide) ?_
      have he := Option.some.inj he
      subst he
      exact aw_zret C X (by decide) dX0_addsWheel_20 (by decide) (by decide)
    · have he := iff_ hc he
      refine aw_aload_n C dX0_addsWheel_21 rfl (j := 0) rfl ?_
      obtain ⟨v22, hv, he⟩ := ob he
      refine aw_gA C fk_X0_15 dX0_addsWheel_22 hv ?_
      refine aw_aload_n C dX0_addsWheel_25 rfl (j := 0) rfl ?_
      obtain ⟨v26, hv, he⟩ := ob he
      refine aw_gI C fk_X0_25 dX0_addsWheel_26 hv ?_
      refine aw_iload_n C dX0_addsWheel_29 rfl (j := 1) rfl ?_
      obtain ⟨h30, hv, he⟩ := ob he
      refine aw_iast C dX0_addsWheel_30 hv ?_
      refine aw_aload_n C dX0_addsWheel_31 rfl (j := 0) rfl ?_
      refine aw_dup C dX0_addsWheel_32 (rf_cat _) ?_
      obtain ⟨v33, hv, he⟩ := ob he
      refine aw_gI C fk_X0_25 dX0_addsWheel_33 hv ?_
      refine aw_iconst (v := 1) C dX0_addsWheel_36 (by decide) ?_
      refine aw_iadd C dX0_addsWheel_37 ?_
      obtain ⟨h38, hv, he⟩ := ob he
      refine aw_put C fk_X0_25 dX0_addsWheel_38 rfl rfl hv ?_
      refine aw_iconst (v := 1) C dX0_addsWheel_41 (by decide) ?_
      have he := Option.some.inj he
      subst he
      exact aw_zret C X (by decide) dX0_addsWheel_42 (by decide) (by decide)
theorem cX0_addsWheel_ (l : Launch) (D : va_G) (dA : Nat → ClassId) (base : Nat) {N : Nat} {h : Hp} {sz : Nat} {l0 : Option Nat} {l1 : Int32} {out : Int32 × Hp} (he : fX0_addsWheel N h l0 l1 = some out) : AM l D dA base yX0_addsWheel cX0_addsWheel 2 (some .boolean) 1 0 0 [.inr l0, .inl l1] h sz (some (.int out.1)) out.2 sz :=
  AM.of (by decide +kernel) (Nat.le_of_ble_eq_true rfl) rfl (fun Γ C X hn => wX0_addsWheel C X he)
set_option maxHeartbeats 4000000 in
set_option maxRecDepth 100000 in
theorem wX0_addsPen {Γ : GG} (C : CX Γ cX0_addsPen 2 RX0 1 0 0) {N : Nat} {sz : Nat} {out : Int32 × Hp} (X : RX Γ (some .boolean) (some (.int out.1)) out.2 sz 0 0) {h : Hp} {l0 : Option Nat} {l1 : Int32} (he : fX0_addsPen N h l0 l1 = some out) : AW Γ 2 h sz 0 0 0 [(0, .inr l0), (1, .inl l1)] [] := by
  unfold fX0_addsPen at he
  refine aw_aload_n C dX0_addsPen_0 rfl (j := 0) rfl ?_
  obtain ⟨v1, hv, he⟩ := ob he
  refine aw_gI C fk_X0_28 dX0_addsPen_1 hv ?_
  refine aw_iconst (v := 4) C dX0_addsPen_4 (by decide) ?_
  refine aw_ic_ge (tgt := 19) C dX0_addsPen_5 (by decide) (fun hc => ?_) (fun hc => ?_)
  · have he := ift hc he
    refine aw_iconst (v := 0) C dX0_addsPen_19 (by decide) ?_
    have he := Option.some.inj he
    subst he
    exact aw_zret C X (by decide) dX0_addsPen_20 (by decide) (by decide)
  · have he := iff_ hc he
    refine aw_iload_n C dX0_addsPen_8 rfl (j := 1) rfl ?_
    refine aw_iconst (v := 0) C dX0_addsPen_9 (by decide) ?_
    refine aw_sipush (v := 999) C dX0_addsPen_10 (by decide) ?_
    obtain ⟨v13, hv, he⟩ := ob he
    refine aw_callS C mb_X0_41 q_241 (cX5_within_ _ _ _ _ hv) dX0_addsPen_13 rfl (rest := []) rfl (cat_le _ (Nat.le_of_ble_eq_true rfl)) (Nat.le_of_ble_eq_true rfl) (Nat.le_of_ble_eq_true rfl) (Nat.le_of_ble_eq_true rfl) (st2 := [.int v13]) rfl ?_
    refine aw_if_ne (tgt := 21) C dX0_addsPen_16 (by decide) (fun hc => ?_) (fun hc => ?_)
    · have he := ift hc he
      refine aw_iconst (v := 0) C dX0_addsPen_19 (by decide) ?_
      have he := Option.some.inj he
      subst he
      exact aw_zret C X (by decide) dX0_addsPen_20 (by decide) (by decide)
    · have he := iff_ hc he
      refine aw_aload_n C dX0_addsPen_21 rfl (j := 0) rfl ?_
      obtain ⟨v22, hv, he⟩ := ob he
      refine aw_gA C fk_X0_18 dX0_addsPen_22 hv ?_
      refine aw_aload_n C dX0_addsPen_25 rfl (j := 0) rfl ?_
      obtain ⟨v26, hv, he⟩ := ob he
      refine aw_gI C fk_X0_28 dX0_addsPen_26 hv ?_
      refine aw_iload_n C dX0_addsPen_29 rfl (j := 1) rfl ?_
      obtain ⟨h30, hv, he⟩ := ob he
      refine aw_iast C dX0_addsPen_30 hv ?_
      refine aw_aload_n C dX0_addsPen_31 rfl (j := 0) rfl ?_
      refine aw_dup C dX0_addsPen_32 (rf_cat _) ?_
      obtain ⟨v33, hv, he⟩ := ob he
      refine aw_gI C fk_X0_28 dX0_addsPen_33 hv ?_
      refine aw_iconst (v := 1) C dX0_addsPen_36 (by decide) ?_
      refine aw_iadd C dX0_addsPen_37 ?_
      obtain ⟨h38, hv, he⟩ := ob he
      refine aw_put C fk_X0_28 dX0_addsPen_38 rfl rfl hv ?_
      refine aw_iconst (v := 1) C dX0_addsPen_41 (by decide) ?_
      have he := Option.some.inj he
      subst he
      exact aw_zret C X (by decide) dX0_addsPen_42 (by decide) (by decide)
theorem cX0_addsPen_ (l : Launch) (D : va_G) (dA : Nat → ClassId) (base : Nat) {N : Nat} {h : Hp} {sz : Nat} {l0 : Option Nat} {l1 : Int32} {out : Int32 × Hp} (he : fX0_addsPen N h l0 l1 = some out) : AM l D dA base yX0_addsPen cX0_addsPen 2 (some .boolean) 1 0 0 [.inr l0, .inl l1] h sz (some (.int out.1)) out.2 sz :=
  AM.of (by decide +kernel) (Nat.le_of_ble_eq_true rfl) rfl (fun Γ C X hn => wX0_addsPen C X he)
set_option maxHeartbeats 4000000 in
set_option maxRecDepth 100000 in
theorem wX0_adds {Γ : GG} (C : CX Γ cX0_adds 3 RX0 3 0 0) {N : Nat} {sz : Nat} {out : Int32 × Hp} (X : RX Γ (some .boolean) (some (.int out.1)) out.2 sz 0 0) {h : Hp} {l0 : Option Nat} {l1 : Int32} {l2 : Int32} (he : fX0_adds N h l0 l1 l2 = some out) : AW Γ 3 h sz 0 0 0 [(0, .inr l0), (1, .inl l1), (2, .inl l2)] [] := by
  unfold fX0_adds at he
  refine aw_iload_n C dX0_adds_0 rfl (j := 1) rfl ?_
  by_cases c0 : l1 = 112
  · have he := ift c0 he
    refine aw_lsw (off := 47) (tgt := 48) C dX0_adds_1 (by decide) (by rw [c0]; decide) (by decide) ?_
    refine aw_aload_n C dX0_adds_48 rfl (j := 0) rfl ?_
    refine aw_iload_n C dX0_adds_49 rfl (j := 2) rfl ?_
    obtain ⟨hO, he⟩ := ifs he
    obtain ⟨z50, hv, he⟩ := ob he
    refine aw_callV (ci := 0) C mb_X0_38 ⟨q_313, q_6, rfl⟩ hO (cX0_addsPen_ _ _ _ _ hv) dX0_adds_50 rfl (rest := []) rfl (cat_le _ (Nat.le_of_ble_eq_true rfl)) (Nat.le_of_ble_eq_true rfl) (Nat.le_of_ble_eq_true rfl) (Nat.le_of_ble_eq_true rfl) (st2 := [.int z50.1]) rfl ?_
    obtain ⟨hz, he⟩ := ifs he
    have he := Option.some.inj he
    subst he
    exact aw_zret C X hz dX0_adds_53 (by decide) (by decide)
  have he := iff_ c0 he
  by_cases c1 : l1 = 114
  · have he := ift c1 he
    refine aw_lsw (off := 35) (tgt := 36) C dX0_adds_1 (by decide) (by rw [c1]; decide) (by decide) ?_
    refine aw_aload_n C dX0_adds_36 rfl (j := 0) rfl ?_
    refine aw_iload_n C dX0_adds_37 rfl (j := 2) rfl ?_
    obtain ⟨hO, he⟩ := ifs he
    obtain ⟨z38, hv, he⟩ := ob he
    refine aw_callV (ci := 0) C mb_X0_31 ⟨q_298, q_4, rfl⟩ hO (cX0_addsRing_ _ _ _ _ hv) dX0_adds_38 rfl (rest := []) rfl (cat_le _ (Nat.le_of_ble_eq_true rfl)) (Nat.le_of_ble_eq_true rfl) (Nat.le_of_ble_eq_true rfl) (Nat.le_of_ble_eq_true rfl) (st2 := [.int z38.1]) rfl ?_
    obtain ⟨hz, he⟩ := ifs he
    have he := Option.some.inj he
    subst he
    exact aw_zret C X hz dX0_adds_41 (by decide) (by decide)
  have he := iff_ c1 he
  by_cases c2 : l1 = 119
  · have he := ift c2 he
    refine aw_lsw (off := 41) (tgt := 42) C dX0_adds_1 (by decide) (by rw [c2]; decide) (by decide) ?_
    refine aw_aload_n C dX0_adds_42 rfl (j := 0) rfl ?_
    refine aw_iload_n C dX0_adds_43 rfl (j := 2) rfl ?_
    obtain ⟨hO, he⟩ := ifs he
    obtain ⟨z44, hv, he⟩ := ob he
    refine aw_callV (ci := 0) C mb_X0_35 ⟨q_309, q_5, rfl⟩ hO (cX0_addsWheel_ _ _ _ _ hv) dX0_adds_44 rfl (rest := []) rfl (cat_le _ (Nat.le_of_ble_eq_true rfl)) (Nat.le_of_ble_eq_true rfl) (Nat.le_of_ble_eq_true rfl) (Nat.le_of_ble_eq_true rfl) (st2 := [.int z44.1]) rfl ?_
    obtain ⟨hz, he⟩ := ifs he
    have he := Option.some.inj he
    subst he
    exact aw_zret C X hz dX0_adds_47 (by decide) (by decide)
  have he := iff_ c2 he
  refine aw_lsw (off := 53) (tgt := 54) C dX0_adds_1 (by decide) ((lv_osw c0 (by decide)).trans ((lv_osw c1 (by decide)).trans ((lv_osw c2 (by decide)).trans rfl))) (by decide) ?_
  refine aw_iconst (v := 0) C dX0_adds_54 (by decide) ?_
  have he := Option.some.inj he
  subst he
  exact aw_zret C X (by decide) dX0_adds_55 (by decide) (by decide)
theorem cX0_adds_ (l : Launch) (D : va_G) (dA : Nat → ClassId) (base : Nat) {N : Nat} {h : Hp} {sz : Nat} {l0 : Option Nat} {l1 : Int32} {l2 : Int32} {out : Int32 × Hp} (he : fX0_adds N h l0 l1 l2 = some out) : AM l D dA base yX0_adds cX0_adds 3 (some .boolean) 3 0 0 [.inr l0, .inl l1, .inl l2] h sz (some (.int out.1)) out.2 sz :=
  AM.of (by decide +kernel) (Nat.le_of_ble_eq_true rfl) rfl (fun Γ C X hn => wX0_adds C X he)
set_option maxHeartbeats 4000000 in
set_option maxRecDepth 100000 in
theorem wX4_faultIn_L11 {Γ : GG} (C : CX Γ cX4_faultIn 4 RX4 4 0 0) {N : Nat} {sz : Nat} {α : Type} {out : α} {K45 : Hp → Option Nat → Option α} (k45 : ∀ (h : Hp) (l0 : Option Nat), K45 h l0 = some out → AW Γ 4 h sz 0 0 45 [(0, .inr l0)] []) {K74 : Hp → Option Nat → Option α} (k74 : ∀ (h : Hp) (l0 : Option Nat), K74 h l0 = some out → AW Γ 4 h sz 0 0 74 [(0, .inr l0)] []) {K91 : Hp → Option Nat → Option α} (k91 : ∀ (h : Hp) (l0 : Option Nat), K91 h l0 = some out → AW Γ 4 h sz 0 0 91 [(0, .inr l0)] []) {K106 : Hp → Option α} (k106 : ∀ (h : Hp), K106 h = some out → AW Γ 4 h sz 0 0 106 [] []) : ∀ (n : Nat) (h : Hp) (l0 : Option Nat) (l1 : Option Nat) (l2 : Int32), fX4_faultIn_L11 N K45 K74 K91 K106 n h l0 l1 l2 = some out → AW Γ 4 h sz 0 0 11 [(0, .inr l0), (1, .inr l1), (2, .inl l2)] [] := by
  intro n
  induction n with
  | zero =>
    intro h l0 l1 l2 he
    rw [fX4_faultIn_L11] at he
    cases he
  | succ n ih =>
    intro h l0 l1 l2 he
    rw [fX4_faultIn_L11] at he
    refine aw_iload_n C dX4_faultIn_11 rfl (j := 2) rfl ?_
    refine aw_bipush (v := 100) C dX4_faultIn_12 (by decide) ?_
    refine aw_ic_gt (tgt := 106) C dX4_faultIn_14 (by decide) (fun hc => ?_) (fun hc => ?_)
    · have he := ift hc he
      refine aw_sub [] (lv' := []) rfl ?_
      exact k106 _ he
    · have he := iff_ hc he
      refine aw_aload_n C dX4_faultIn_17 rfl (j := 0) rfl ?_
      obtain ⟨v18, hv, he⟩ := ob he
      refine aw_gI C fk_X4_25 dX4_faultIn_18 hv ?_
      refine aw_if_eq (tgt := 106) C dX4_faultIn_21 (by decide) (fun hc => ?_) (fun hc => ?_)
      · have he := ift hc he
        refine aw_sub [] (lv' := []) rfl ?_
        exact k106 _ he
      · have he := iff_ hc he
        refine aw_aload_n C dX4_faultIn_24 rfl (j := 0) rfl ?_
        obtain ⟨v25, hv, he⟩ := ob he
        refine aw_gI C fk_X4_28 dX4_faultIn_25 hv ?_
        refine aw_istore_n C dX4_faultIn_28 rfl (by decide) rfl (lv' := [(0, .inr l0), (1, .inr l1), (2, .inl l2), (3, .inl v25)]) rfl ?_
        refine aw_aload_n C dX4_faultIn_29 rfl (j := 0) rfl ?_
        obtain ⟨v30, hv, he⟩ := ob he
        refine aw_gI C fk_X4_25 dX4_faultIn_30 hv ?_
        refine aw_iconst (v := 1) C dX4_faultIn_33 (by decide) ?_
        refine aw_ic_ne (tgt := 45) C dX4_faultIn_34 (by decide) (fun hc => ?_) (fun hc => ?_)
        · have he := ift hc he
          refine aw_aload_n C dX4_faultIn_37 rfl (j := 1) rfl ?_
          refine aw_iload_n C dX4_faultIn_38 rfl (j := 3) rfl ?_
          obtain ⟨hO, he⟩ := ifs he
          obtain ⟨v39, hv, he⟩ := ob he
          refine aw_callV (ci := 0) C mb_X4_34 ⟨q_289, q_290, rfl⟩ hO (cX0_hasRoomFor_ _ _ _ _ hv) dX4_faultIn_39 rfl (rest := []) rfl (cat_le _ (Nat.le_of_ble_eq_true rfl)) (Nat.le_of_ble_eq_true rfl) (Nat.le_of_ble_eq_true rfl) (Nat.le_of_ble_eq_true rfl) (st2 := [.int v39]) rfl ?_
          refine aw_if_ne (tgt := 50) C dX4_faultIn_42 (by decide) (fun hc => ?_) (fun hc => ?_)
          · have he := ift hc he
            refine aw_sub [0] (lv' := [(0, .inr l0)]) rfl ?_
            exact k45 _ _ he
          · have he := iff_ hc he
            refine aw_aload_n C dX4_faultIn_50 rfl (j := 0) rfl ?_
            obtain ⟨hO, he⟩ := ifs he
            obtain ⟨z51, hv, he⟩ := ob he
            refine aw_callV (ci := 4) C mb_X4_31 ⟨q_265, q_0, rfl⟩ hO (cX4_readToken_ _ _ _ _ hv) dX4_faultIn_51 rfl (rest := []) rfl (cat_le _ (Nat.le_of_ble_eq_true rfl)) (Nat.le_of_ble_eq_true rfl) (Nat.le_of_ble_eq_true rfl) (Nat.le_of_ble_eq_true rfl) (st2 := []) rfl ?_
            refine aw_aload_n C dX4_faultIn_54 rfl (j := 0) rfl ?_
            obtain ⟨v55, hv, he⟩ := ob he
            refine aw_gI C fk_X4_25 dX4_faultIn_55 hv ?_
            refine aw_iconst (v := 2) C dX4_faultIn_58 (by decide) ?_
            refine aw_ic_ne (tgt := 74) C dX4_faultIn_59 (by decide) (fun hc => ?_) (fun hc => ?_)
            · have he := ift hc he
              refine aw_aload_n C dX4_faultIn_62 rfl (j := 1) rfl ?_
              refine aw_iload_n C dX4_faultIn_63 rfl (j := 3) rfl ?_
              refine aw_aload_n C dX4_faultIn_64 rfl (j := 0) rfl ?_
              obtain ⟨v65, hv, he⟩ := ob he
              refine aw_gI C fk_X4_28 dX4_faultIn_65 hv ?_
              obtain ⟨hO, he⟩ := ifs he
              obtain ⟨z68, hv, he⟩ := ob he
              refine aw_callV (ci := 0) C mb_X4_40 ⟨q_293, q_294, rfl⟩ hO (cX0_adds_ _ _ _ _ hv) dX4_faultIn_68 rfl (rest := []) rfl (cat_le _ (Nat.le_of_ble_eq_true rfl)) (Nat.le_of_ble_eq_true rfl) (Nat.le_of_ble_eq_true rfl) (Nat.le_of_ble_eq_true rfl) (st2 := [.int z68.1]) rfl ?_
              refine aw_if_ne (tgt := 79) C dX4_faultIn_71 (by decide) (fun hc => ?_) (fun hc => ?_)
              · have he := ift hc he
                refine aw_sub [0] (lv' := [(0, .inr l0)]) rfl ?_
                exact k74 _ _ he
              · have he := iff_ hc he
                refine aw_aload_n C dX4_faultIn_79 rfl (j := 0) rfl ?_
                obtain ⟨hO, he⟩ := ifs he
                obtain ⟨z80, hv, he⟩ := ob he
                refine aw_callV (ci := 4) C mb_X4_31 ⟨q_265, q_0, rfl⟩ hO (cX4_readToken_ _ _ _ _ hv) dX4_faultIn_80 rfl (rest := []) rfl (cat_le _ (Nat.le_of_ble_eq_true rfl)) (Nat.le_of_ble_eq_true rfl) (Nat.le_of_ble_eq_true rfl) (Nat.le_of_ble_eq_true rfl) (st2 := []) rfl ?_
                refine aw_aload_n C dX4_faultIn_83 rfl (j := 0) rfl ?_
                obtain ⟨v84, hv, he⟩ := ob he
                refine aw_gI C fk_X4_25 dX4_faultIn_84 hv ?_
                refine aw_iconst (v := 3) C dX4_faultIn_87 (by decide) ?_
                refine aw_ic_eq (tgt := 96) C dX4_faultIn_88 (by decide) (fun hc => ?_) (fun hc => ?_)
                · have he := ift hc he
                  refine aw_aload_n C dX4_faultIn_96 rfl (j := 0) rfl ?_
                  obtain ⟨hO, he⟩ := ifs he
                  obtain ⟨z97, hv, he⟩ := ob he
                  refine aw_callV (ci := 4) C mb_X4_31 ⟨q_265, q_0, rfl⟩ hO (cX4_readToken_ _ _ _ _ hv) dX4_faultIn_97 rfl (rest := []) rfl (cat_le _ (Nat.le_of_ble_eq_true rfl)) (Nat.le_of_ble_eq_true rfl) (Nat.le_of_ble_eq_true rfl) (Nat.le_of_ble_eq_true rfl) (st2 := []) rfl ?_
                  refine aw_iinc (y := 1) C dX4_faultIn_100 (by decide) (j := 2) rfl (by decide) rfl (lv' := [(0, .inr l0), (1, .inr l1), (2, .inl (l2 + 1)), (3, .inl v25)]) rfl ?_
                  refine aw_goto (tgt := 11) C dX4_faultIn_103 (by decide) ?_
                  refine aw_sub [0, 1, 2] (lv' := [(0, .inr l0), (1, .inr l1), (2, .inl (l2 + 1))]) rfl ?_
                  exact ih _ _ _ _ he
                · have he := iff_ hc he
                  refine aw_sub [0] (lv' := [(0, .inr l0)]) rfl ?_
                  exact k91 _ _ he
            · have he := iff_ hc he
              refine aw_sub [0] (lv' := [(0, .inr l0)]) rfl ?_
              exact k74 _ _ he
        · have he := iff_ hc he
          refine aw_sub [0] (lv' := [(0, .inr l0)]) rfl ?_
          exact k45 _ _ he
set_option maxHeartbeats 4000000 in
set_option maxRecDepth 100000 in
theorem wX4_faultIn {Γ : GG} (C : CX Γ cX4_faultIn 4 RX4 4 0 0) {N : Nat} {sz : Nat} {out : Int32 × Hp} (X : RX Γ (some .int) (some (.int out.1)) out.2 sz 0 0) {h : Hp} {l0 : Option Nat} {l1 : Option Nat} (he : fX4_faultIn N h l0 l1 = some out) : AW Γ 4 h sz 0 0 0 [(0, .inr l0), (1, .inr l1)] [] := by
  unfold fX4_faultIn at he
  refine aw_aload_n C dX4_faultIn_0 rfl (j := 0) rfl ?_
  refine aw_iconst (v := 0) C dX4_faultIn_1 (by decide) ?_
  obtain ⟨h2, hv, he⟩ := ob he
  refine aw_put C fk_X4_22 dX4_faultIn_2 rfl rfl hv ?_
  refine aw_aload_n C dX4_faultIn_5 rfl (j := 0) rfl ?_
  obtain ⟨hO, he⟩ := ifs he
  obtain ⟨z6, hv, he⟩ := ob he
  refine aw_callV (ci := 4) C mb_X4_31 ⟨q_265, q_0, rfl⟩ hO (cX4_readToken_ _ _ _ _ hv) dX4_faultIn_6 rfl (rest := []) rfl (cat_le _ (Nat.le_of_ble_eq_true rfl)) (Nat.le_of_ble_eq_true rfl) (Nat.le_of_ble_eq_true rfl) (Nat.le_of_ble_eq_true rfl) (st2 := []) rfl ?_
  refine aw_iconst (v := 0) C dX4_faultIn_9 (by decide) ?_
  refine aw_istore_n C dX4_faultIn_10 rfl (by decide) rfl (lv' := [(0, .inr l0), (1, .inr l1), (2, .inl (0 : Int32))]) rfl ?_
  refine wX4_faultIn_L11 C ?_ ?_ ?_ ?_ N _ _ _ _ he
  · intro h l0 he
    refine aw_aload_n C dX4_faultIn_45 rfl (j := 0) rfl ?_
    obtain ⟨v46, hv, he⟩ := ob he
    refine aw_gI C fk_X4_19 dX4_faultIn_46 hv ?_
    have he := Option.some.inj he
    subst he
    exact aw_iret C X dX4_faultIn_49 (by decide) (by decide)
  · intro h l0 he
    refine aw_aload_n C dX4_faultIn_74 rfl (j := 0) rfl ?_
    obtain ⟨v75, hv, he⟩ := ob he
    refine aw_gI C fk_X4_19 dX4_faultIn_75 hv ?_
    have he := Option.some.inj he
    subst he
    exact aw_iret C X dX4_faultIn_78 (by decide) (by decide)
  · intro h l0 he
    refine aw_aload_n C dX4_faultIn_91 rfl (j := 0) rfl ?_
    obtain ⟨v92, hv, he⟩ := ob he
    refine aw_gI C fk_X4_19 dX4_faultIn_92 hv ?_
    have he := Option.some.inj he
    subst he
    exact aw_iret C X dX4_faultIn_95 (by decide) (by decide)
  · intro h he
    refine aw_iconst (v := -1) C dX4_faultIn_106 (by decide) ?_
    have he := Option.some.inj he
    subst he
    exact aw_iret C X dX4_faultIn_107 (by decide) (by decide)
theorem cX4_faultIn_ (l : Launch) (D : va_G) (dA : Nat → ClassId) (base : Nat) {N : Nat} {h : Hp} {sz : Nat} {l0 : Option Nat} {l1 : Option Nat} {out : Int32 × Hp} (he : fX4_faultIn N h l0 l1 = some out) : AM l D dA base yX4_faultIn cX4_faultIn 4 (some .int) 4 0 0 [.inr l0, .inr l1] h sz (some (.int out.1)) out.2 sz :=
  AM.of (by decide +kernel) (Nat.le_of_ble_eq_true rfl) rfl (fun Γ C X hn => wX4_faultIn C X he)
set_option maxHeartbeats 4000000 in
set_option maxRecDepth 100000 in
theorem wJ7_copyOf_59c91 {Γ : GG} (C : CX Γ cJ7_copyOf_59c91 3 RJ7 1 1 16) {N : Nat} {out : Option Nat × Hp × Nat} (X : RX Γ (some (.array .int)) (some (va_rf out.1)) out.2.1 out.2.2 1 16) {h : Hp} {sz : Nat} {l0 : Option Nat} {l1 : Int32} (he : fJ7_copyOf_59c91 N h sz l0 l1 = some out) : AW Γ 3 h sz 0 0 0 [(0, .inr l0), (1, .inl l1)] [] := by
  unfold fJ7_copyOf_59c91 at he
  refine aw_iload_n C dJ7_copyOf_59c91_0 rfl (j := 1) rfl ?_
  refine aw_aload_n C dJ7_copyOf_59c91_1 rfl (j := 0) rfl ?_
  obtain ⟨v2, hv, he⟩ := ob he
  refine aw_alen C dJ7_copyOf_59c91_2 hv ?_
  refine aw_ic_ne (tgt := 14) C dJ7_copyOf_59c91_3 (by decide) (fun hc => ?_) (fun hc => ?_)
  · have he := ift hc he
    refine aw_aload_n C dJ7_copyOf_59c91_6 rfl (j := 0) rfl ?_
    obtain ⟨h7, hv, he⟩ := ob he
    refine aw_clone C q_326 q_327 q_328 q_329 q_330 dJ7_copyOf_59c91_7 (Nat.le_of_ble_eq_true rfl) (Nat.le_of_ble_eq_true rfl) (Nat.le_of_ble_eq_true rfl) (Nat.le_of_ble_eq_true rfl) hv ?_
    obtain ⟨hO, he⟩ := ifs he
    refine aw_castI C q_332 dJ7_copyOf_59c91_10 hO ?_
    have he := Option.some.inj he
    subst he
    exact aw_aret C X (Or.inr ⟨_, rfl⟩) dJ7_copyOf_59c91_13 (by decide) (by decide)
  · have he := iff_ hc he
    refine aw_iload_n C dJ7_copyOf_59c91_14 rfl (j := 1) rfl ?_
    obtain ⟨hx, he⟩ := ifs he
    refine aw_newI C q_117 dJ7_copyOf_59c91_15 hx.1 rfl (by omega) (by decide) (by have := hx.2; omega) ?_
    refine aw_wide (k' := 1) (n' := 16) (by decide) (by have := hx.2; omega) ?_
    refine aw_astore_n C dJ7_copyOf_59c91_17 rfl (by decide) rfl (lv' := [(0, .inr l0), (1, .inl l1), (2, .inr (some sz))]) rfl ?_
    refine aw_aload_n C dJ7_copyOf_59c91_18 rfl (j := 0) rfl ?_
    refine aw_iconst (v := 0) C dJ7_copyOf_59c91_19 (by decide) ?_
    refine aw_aload_n C dJ7_copyOf_59c91_20 rfl (j := 2) rfl ?_
    refine aw_iconst (v := 0) C dJ7_copyOf_59c91_21 (by decide) ?_
    refine aw_aload_n C dJ7_copyOf_59c91_22 rfl (j := 0) rfl ?_
    obtain ⟨v23, hv, he⟩ := ob he
    refine aw_alen C dJ7_copyOf_59c91_23 hv ?_
    refine aw_iload_n C dJ7_copyOf_59c91_24 rfl (j := 1) rfl ?_
    refine aw_mmin C q_333 q_286 q_78 q_287 (Nat.le_of_ble_eq_true rfl) (Nat.le_of_ble_eq_true rfl) (Nat.le_of_ble_eq_true rfl) (Nat.le_of_ble_eq_true rfl) dJ7_copyOf_59c91_25 ?_
    obtain ⟨h28, hv, he⟩ := ob he
    refine aw_acopy C q_334 q_336 q_335 q_80 dJ7_copyOf_59c91_28 (Nat.le_of_ble_eq_true rfl) (Nat.le_of_ble_eq_true rfl) hv ?_
    refine aw_aload_n C dJ7_copyOf_59c91_31 rfl (j := 2) rfl ?_
    have he := Option.some.inj he
    subst he
    exact aw_aret C X (Or.inr ⟨_, rfl⟩) dJ7_copyOf_59c91_32 (by decide) (by decide)
theorem cJ7_copyOf_59c91_ (l : Launch) (D : va_G) (dA : Nat → ClassId) (base : Nat) {N : Nat} {h : Hp} {sz : Nat} {l0 : Option Nat} {l1 : Int32} {out : Option Nat × Hp × Nat} (he : fJ7_copyOf_59c91 N h sz l0 l1 = some out) : AM l D dA base yJ7_copyOf_59c91 cJ7_copyOf_59c91 3 (some (.array .int)) 1 1 16 [.inr l0, .inl l1] h sz (some (va_rf out.1)) out.2.1 out.2.2 :=
  AM.ofF (by decide +kernel) (Nat.le_of_ble_eq_true rfl) rfl (fun Γ C X hn => wJ7_copyOf_59c91 C X he)
set_option maxHeartbeats 4000000 in
set_option maxRecDepth 100000 in
theorem wX0_inkTold {Γ : GG} (C : CX Γ cX0_inkTold 1 RX0 2 1 16) {N : Nat} {out : Option Nat × Hp × Nat} (X : RX Γ (some (.array .int)) (some (va_rf out.1)) out.2.1 out.2.2 1 16) {h : Hp} {sz : Nat} {l0 : Option Nat} (he : fX0_inkTold N h sz l0 = some out) : AW Γ 1 h sz 0 0 0 [(0, .inr l0)] [] := by
  unfold fX0_inkTold at he
  refine aw_aload_n C dX0_inkTold_0 rfl (j := 0) rfl ?_
  obtain ⟨v1, hv, he⟩ := ob he
  refine aw_gA C fk_X0_18 dX0_inkTold_1 hv ?_
  refine aw_aload_n C dX0_inkTold_4 rfl (j := 0) rfl ?_
  obtain ⟨v5, hv, he⟩ := ob he
  refine aw_gI C fk_X0_28 dX0_inkTold_5 hv ?_
  obtain ⟨z8, hv, he⟩ := ob he
  refine aw_callS C mb_X0_55 q_324 (cJ7_copyOf_59c91_ _ _ _ _ hv) dX0_inkTold_8 rfl (rest := []) rfl (cat_le _ (Nat.le_of_ble_eq_true rfl)) (Nat.le_of_ble_eq_true rfl) (Nat.le_of_ble_eq_true rfl) (Nat.le_of_ble_eq_true rfl) (st2 := [va_rf z8.1]) rfl ?_
  have he := Option.some.inj he
  subst he
  exact aw_aret C X (Or.inr ⟨_, rfl⟩) dX0_inkTold_11 (by decide) (by decide)
theorem cX0_inkTold_ (l : Launch) (D : va_G) (dA : Nat → ClassId) (base : Nat) {N : Nat} {h : Hp} {sz : Nat} {l0 : Option Nat} {out : Option Nat × Hp × Nat} (he : fX0_inkTold N h sz l0 = some out) : AM l D dA base yX0_inkTold cX0_inkTold 1 (some (.array .int)) 2 1 16 [.inr l0] h sz (some (va_rf out.1)) out.2.1 out.2.2 :=
  AM.of (by decide +kernel) (Nat.le_of_ble_eq_true rfl) rfl (fun Γ C X hn => wX0_inkTold C X he)
set_option maxHeartbeats 4000000 in
set_option maxRecDepth 100000 in
theorem wX8_empties_L2 {Γ : GG} (C : CX Γ cX8_empties 2 RX8 0 0 0) {N : Nat} {sz : Nat} {α : Type} {out : α} {K21 : Hp → Option Nat → Option α} (k21 : ∀ (h : Hp) (l0 : Option Nat), K21 h l0 = some out → AW Γ 2 h sz 0 0 21 [(0, .inr l0)] []) : ∀ (n : Nat) (h : Hp) (l0 : Option Nat) (l1 : Int32), fX8_empties_L2 N K21 n h l0 l1 = some out → AW Γ 2 h sz 0 0 2 [(0, .inr l0), (1, .inl l1)] [] := by
  intro n
  induction n with
  | zero =>
    intro h l0 l1 he
    rw [fX8_empties_L2] at he
    cases he
  | succ n ih =>
    intro h l0 l1 he
    rw [fX8_empties_L2] at he
    refine aw_iload_n C dX8_empties_2 rfl (j := 1) rfl ?_
    refine aw_bipush (v := 10) C dX8_empties_3 (by decide) ?_
    refine aw_ic_ge (tgt := 21) C dX8_empties_5 (by decide) (fun hc => ?_) (fun hc => ?_)
    · have he := ift hc he
      refine aw_sub [0] (lv' := [(0, .inr l0)]) rfl ?_
      exact k21 _ _ he
    · have he := iff_ hc he
      refine aw_aload_n C dX8_empties_8 rfl (j := 0) rfl ?_
      obtain ⟨v9, hv, he⟩ := ob he
      refine aw_gA C fk_X8_11 dX8_empties_9 hv ?_
      refine aw_iload_n C dX8_empties_12 rfl (j := 1) rfl ?_
      refine aw_null C dX8_empties_13 ?_
      obtain ⟨h14, hv, he⟩ := ob he
      refine aw_aast C (by decide) dX8_empties_14 hv ?_
      refine aw_iinc (y := 1) C dX8_empties_15 (by decide) (j := 1) rfl (by decide) rfl (lv' := [(0, .inr l0), (1, .inl (l1 + 1))]) rfl ?_
      refine aw_goto (tgt := 2) C dX8_empties_18 (by decide) ?_
      exact ih _ _ _ he
set_option maxHeartbeats 4000000 in
set_option maxRecDepth 100000 in
theorem wX8_empties {Γ : GG} (C : CX Γ cX8_empties 2 RX8 0 0 0) {N : Nat} {sz : Nat} {out : Hp} (X : RX Γ none none out sz 0 0) {h : Hp} {l0 : Option Nat} (he : fX8_empties N h l0 = some out) : AW Γ 2 h sz 0 0 0 [(0, .inr l0)] [] := by
  unfold fX8_empties at he
  refine aw_iconst (v := 0) C dX8_empties_0 (by decide) ?_
  refine aw_istore_n C dX8_empties_1 rfl (by decide) rfl (lv' := [(0, .inr l0), (1, .inl (0 : Int32))]) rfl ?_
  refine wX8_empties_L2 C ?_ N _ _ _ he
  intro h l0 he
  refine aw_aload_n C dX8_empties_21 rfl (j := 0) rfl ?_
  refine aw_iconst (v := 0) C dX8_empties_22 (by decide) ?_
  obtain ⟨h23, hv, he⟩ := ob he
  refine aw_put C fk_X8_17 dX8_empties_23 rfl rfl hv ?_
  have he := Option.some.inj he
  subst he
  exact aw_vret C X dX8_empties_26 (by decide) (by decide)
theorem cX8_empties_ (l : Launch) (D : va_G) (dA : Nat → ClassId) (base : Nat) {N : Nat} {h : Hp} {sz : Nat} {l0 : Option Nat} {out : Hp} (he : fX8_empties N h l0 = some out) : AM l D dA base yX8_empties cX8_empties 2 none 0 0 0 [.inr l0] h sz none out sz :=
  AM.of (by decide +kernel) (Nat.le_of_ble_eq_true rfl) rfl (fun Γ C X hn => wX8_empties C X he)
set_option maxHeartbeats 4000000 in
set_option maxRecDepth 100000 in
theorem wX3_empties {Γ : GG} (C : CX Γ cX3_empties 2 RX3 0 0 0) {N : Nat} {sz : Nat} {out : Int32 × Hp} (X : RX Γ (some .int) (some (.int out.1)) out.2 sz 0 0) {h : Hp} {l0 : Option Nat} (he : fX3_empties N h l0 = some out) : AW Γ 2 h sz 0 0 0 [(0, .inr l0)] [] := by
  unfold fX3_empties at he
  refine aw_aload_n C dX3_empties_0 rfl (j := 0) rfl ?_
  obtain ⟨v1, hv, he⟩ := ob he
  refine aw_gI C fk_X3_19 dX3_empties_1 hv ?_
  refine aw_istore_n C dX3_empties_4 rfl (by decide) rfl (lv' := [(0, .inr l0), (1, .inl v1)]) rfl ?_
  refine aw_aload_n C dX3_empties_5 rfl (j := 0) rfl ?_
  refine aw_iconst (v := 0) C dX3_empties_6 (by decide) ?_
  obtain ⟨h7, hv, he⟩ := ob he
  refine aw_put C fk_X3_19 dX3_empties_7 rfl rfl hv ?_
  refine aw_iload_n C dX3_empties_10 rfl (j := 1) rfl ?_
  have he := Option.some.inj he
  subst he
  exact aw_iret C X dX3_empties_11 (by decide) (by decide)
theorem cX3_empties_ (l : Launch) (D : va_G) (dA : Nat → ClassId) (base : Nat) {N : Nat} {h : Hp} {sz : Nat} {l0 : Option Nat} {out : Int32 × Hp} (he : fX3_empties N h l0 = some out) : AM l D dA base yX3_empties cX3_empties 2 (some .int) 0 0 0 [.inr l0] h sz (some (.int out.1)) out.2 sz :=
  AM.of (by decide +kernel) (Nat.le_of_ble_eq_true rfl) rfl (fun Γ C X hn => wX3_empties C X he)
set_option maxHeartbeats 4000000 in
set_option maxRecDepth 100000 in
theorem wX5_startAnew_L47 {Γ : GG} (C : CX Γ cX5_startAnew 3 RX5 3 3 19) {N : Nat} {α : Type} {out : α} {K65 : Hp → Nat → Option α} (k65 : ∀ (h : Hp) (sz : Nat), K65 h sz = some out → AW Γ 3 h sz 3 19 65 [] []) : ∀ (n : Nat) (h : Hp) (sz : Nat) (l0 : Option Nat) (l2 : Int32), fX5_startAnew_L47 N K65 n h sz l0 l2 = some out → AW Γ 3 h sz 3 19 47 [(0, .inr l0), (2, .inl l2)] [] := by
  intro n
  induction n with
  | zero =>
    intro h sz l0 l2 he
    rw [fX5_startAnew_L47] at he
    cases he
  | succ n ih =>
    intro h sz l0 l2 he
    rw [fX5_startAnew_L47] at he
    refine aw_iload_n C dX5_startAnew_47 rfl (j := 1) rfl ?_
    refine aw_iconst (v := 2) C dX5_startAnew_48 (by decide) ?_
    refine aw_ic_ge (tgt := 65) C dX5_startAnew_49 (by decide) (fun hc => ?_) (fun hc => ?_)
    · have he := ift hc he
      refine aw_sub [] (lv' := []) rfl ?_
      exact k65 _ _ he
    · have he := iff_ hc he
      refine aw_aload_n C dX5_startAnew_52 rfl (j := 0) rfl ?_
      obtain ⟨v53, hv, he⟩ := ob he
      refine aw_gA C fk_X5_50 dX5_startAnew_53 hv ?_
      refine aw_iload_n C dX5_startAnew_56 rfl (j := 1) rfl ?_
      refine aw_null C dX5_startAnew_57 ?_
      obtain ⟨h58, hv, he⟩ := ob he
      refine aw_aast C (by decide) dX5_startAnew_58 hv ?_
      refine aw_iinc (y := 1) C dX5_startAnew_59 (by decide) (j := 1) rfl (by decide) rfl (lv' := [(0, .inr l0), (2, .inl (l2 + 1))]) rfl ?_
      refine aw_goto (tgt := 47) C dX5_startAnew_62 (by decide) ?_
      exact ih _ _ _ _ he
set_option maxHeartbeats 4000000 in
set_option maxRecDepth 100000 in
theorem wX5_startAnew {Γ : GG} (C : CX Γ cX5_startAnew 3 RX5 3 3 19) {N : Nat} {out : Hp × Nat} (X : RX Γ none none out.1 out.2 3 19) {h : Hp} {sz : Nat} {l0 : Option Nat} {l1 : Option Nat} (he : fX5_startAnew N h sz l0 l1 = some out) : AW Γ 3 h sz 0 0 0 [(0, .inr l0), (1, .inr l1)] [] := by
  unfold fX5_startAnew at he
  refine aw_aload_n C dX5_startAnew_0 rfl (j := 0) rfl ?_
  refine aw_aload_n C dX5_startAnew_1 rfl (j := 1) rfl ?_
  obtain ⟨h2, hv, he⟩ := ob he
  refine aw_put C fk_X5_26 dX5_startAnew_2 (nf_ref (Or.inl ⟨_, rfl⟩) _).1 (nf_ref (Or.inl ⟨_, rfl⟩) _).2 hv ?_
  refine aw_aload_n C dX5_startAnew_5 rfl (j := 0) rfl ?_
  refine aw_new C nk_X5_30 dX5_startAnew_6 (by decide) (by decide) ?_
  refine aw_dup C dX5_startAnew_9 (rf_cat _) ?_
  refine aw_iconst (v := 0) C dX5_startAnew_10 (by decide) ?_
  refine aw_aload_n C dX5_startAnew_11 rfl (j := 1) rfl ?_
  obtain ⟨hO, he⟩ := ifs he
  obtain ⟨z12, hv, he⟩ := ob he
  refine aw_callV (ci := 0) C mb_X5_296 ⟨q_320, q_321, rfl⟩ hO (cX0_inkTold_ _ _ _ _ hv) dX5_startAnew_12 rfl (rest := [.int (0 : Int32), va_rf (some sz), va_rf (some sz), va_rf l0]) rfl (cat_le _ (Nat.le_of_ble_eq_true rfl)) (Nat.le_of_ble_eq_true rfl) (Nat.le_of_ble_eq_true rfl) (Nat.le_of_ble_eq_true rfl) (st2 := [va_rf z12.1, .int (0 : Int32), va_rf (some sz), va_rf (some sz), va_rf l0]) rfl ?_
  refine aw_iconst (v := 0) C dX5_startAnew_15 (by decide) ?_
  refine aw_newA (N := 0) (i := 2) (t := 2) C rfl (fun z => z.2.2.1) q_166 dX5_startAnew_16 (by decide) (by decide) (by decide) (by decide) (by decide) ?_
  obtain ⟨z19, hv, he⟩ := ob he
  refine aw_callI C mb_X5_34 ⟨rfl, q_169⟩ (cX2_init_ _ _ _ _ hv) dX5_startAnew_19 rfl (rest := [va_rf (some sz), va_rf l0]) rfl (cat_le _ (Nat.le_of_ble_eq_true rfl)) (Nat.le_of_ble_eq_true rfl) (Nat.le_of_ble_eq_true rfl) (Nat.le_of_ble_eq_true rfl) (st2 := [va_rf (some sz), va_rf l0]) rfl ?_
  obtain ⟨h22, hv, he⟩ := ob he
  refine aw_put C fk_X5_37 dX5_startAnew_22 (nf_ref (Or.inl ⟨_, rfl⟩) _).1 (nf_ref (Or.inl ⟨_, rfl⟩) _).2 hv ?_
  refine aw_aload_n C dX5_startAnew_25 rfl (j := 0) rfl ?_
  obtain ⟨v26, hv, he⟩ := ob he
  refine aw_gA C fk_X5_44 dX5_startAnew_26 hv ?_
  obtain ⟨hO, he⟩ := ifs he
  obtain ⟨z29, hv, he⟩ := ob he
  refine aw_callV (ci := 8) C mb_X5_300 ⟨q_338, q_339, rfl⟩ hO (cX8_empties_ _ _ _ _ hv) dX5_startAnew_29 rfl (rest := []) rfl (cat_le _ (Nat.le_of_ble_eq_true rfl)) (Nat.le_of_ble_eq_true rfl) (Nat.le_of_ble_eq_true rfl) (Nat.le_of_ble_eq_true rfl) (st2 := []) rfl ?_
  refine aw_aload_n C dX5_startAnew_32 rfl (j := 0) rfl ?_
  refine aw_iconst (v := 0) C dX5_startAnew_33 (by decide) ?_
  obtain ⟨h34, hv, he⟩ := ob he
  refine aw_put C fk_X5_68 dX5_startAnew_34 rfl rfl hv ?_
  refine aw_aload_n C dX5_startAnew_37 rfl (j := 0) rfl ?_
  obtain ⟨v38, hv, he⟩ := ob he
  refine aw_gA C fk_X5_19 dX5_startAnew_38 hv ?_
  obtain ⟨hO, he⟩ := ifs he
  obtain ⟨z41, hv, he⟩ := ob he
  refine aw_callV (ci := 3) C mb_X5_246 ⟨q_342, q_343, rfl⟩ hO (cX3_empties_ _ _ _ _ hv) dX5_startAnew_41 rfl (rest := []) rfl (cat_le _ (Nat.le_of_ble_eq_true rfl)) (Nat.le_of_ble_eq_true rfl) (Nat.le_of_ble_eq_true rfl) (Nat.le_of_ble_eq_true rfl) (st2 := [.int z41.1]) rfl ?_
  refine aw_pop C dX5_startAnew_44 rfl ?_
  refine aw_iconst (v := 0) C dX5_startAnew_45 (by decide) ?_
  refine aw_istore_n C dX5_startAnew_46 rfl (by decide) rfl (lv' := [(0, .inr l0), (1, .inr l1), (2, .inl (0 : Int32))]) rfl ?_
  refine aw_sub [0, 2] (lv' := [(0, .inr l0), (2, .inl (0 : Int32))]) rfl ?_
  refine wX5_startAnew_L47 C ?_ N _ _ _ _ he
  intro h sz he
  have he := Option.some.inj he
  subst he
  exact aw_vret C X dX5_startAnew_65 (by decide) (by decide)
theorem cX5_startAnew_ (l : Launch) (D : va_G) (dA : Nat → ClassId) (base : Nat) {N : Nat} {h : Hp} {sz : Nat} {l0 : Option Nat} {l1 : Option Nat} {out : Hp × Nat} (he : fX5_startAnew N h sz l0 l1 = some out) : AM l D dA base yX5_startAnew cX5_startAnew 3 none 3 3 19 [.inr l0, .inr l1] h sz none out.1 out.2 :=
  AM.of (by decide +kernel) (Nat.le_of_ble_eq_true rfl) rfl (fun Γ C X hn => wX5_startAnew C X he)
set_option maxHeartbeats 4000000 in
set_option maxRecDepth 100000 in
theorem wX0_items {Γ : GG} (C : CX Γ cX0_items 1 RX0 0 0 0) {N : Nat} {sz : Nat} {h : Hp} {out : Int32} (X : RX Γ (some .int) (some (.int out)) h sz 0 0) {l0 : Option Nat} (he : fX0_items N h l0 = some out) : AW Γ 1 h sz 0 0 0 [(0, .inr l0)] [] := by
  unfold fX0_items at he
  refine aw_aload_n C dX0_items_0 rfl (j := 0) rfl ?_
  obtain ⟨v1, hv, he⟩ := ob he
  refine aw_gI C fk_X0_21 dX0_items_1 hv ?_
  refine aw_aload_n C dX0_items_4 rfl (j := 0) rfl ?_
  obtain ⟨v5, hv, he⟩ := ob he
  refine aw_gI C fk_X0_25 dX0_items_5 hv ?_
  refine aw_iadd C dX0_items_8 ?_
  refine aw_aload_n C dX0_items_9 rfl (j := 0) rfl ?_
  obtain ⟨v10, hv, he⟩ := ob he
  refine aw_gI C fk_X0_28 dX0_items_10 hv ?_
  refine aw_iadd C dX0_items_13 ?_
  have he := Option.some.inj he
  subst he
  exact aw_iret C X dX0_items_14 (by decide) (by decide)
theorem cX0_items_ (l : Launch) (D : va_G) (dA : Nat → ClassId) (base : Nat) {N : Nat} {h : Hp} {sz : Nat} {l0 : Option Nat} {out : Int32} (he : fX0_items N h l0 = some out) : AM l D dA base yX0_items cX0_items 1 (some .int) 0 0 0 [.inr l0] h sz (some (.int out)) h sz :=
  AM.of (by decide +kernel) (Nat.le_of_ble_eq_true rfl) rfl (fun Γ C X hn => wX0_items C X he)
set_option maxHeartbeats 4000000 in
set_option maxRecDepth 100000 in
theorem wX5_box {Γ : GG} (C : CX Γ cX5_box 3 RX5 5 7 39) {N : Nat} {out : Int32 × Hp × Nat} (X : RX Γ (some .int) (some (.int out.1)) out.2.1 out.2.2 7 39) {h : Hp} {sz : Nat} {l0 : Option Nat} (he : fX5_box N h sz l0 = some out) : AW Γ 3 h sz 0 0 0 [(0, .inr l0)] [] := by
  unfold fX5_box at he
  refine aw_new C nk_X5_23 dX5_box_0 (by decide) (by decide) ?_
  refine aw_dup C dX5_box_3 (rf_cat _) ?_
  obtain ⟨z4, hv, he⟩ := ob he
  refine aw_callI C mb_X5_25 ⟨rfl, q_139⟩ (cX0_init_ _ _ _ _ hv) dX5_box_4 rfl (rest := [va_rf (some sz)]) rfl (cat_le _ (Nat.le_of_ble_eq_true rfl)) (Nat.le_of_ble_eq_true rfl) (Nat.le_of_ble_eq_true rfl) (Nat.le_of_ble_eq_true rfl) (st2 := [va_rf (some sz)]) rfl ?_
  refine aw_astore_n C dX5_box_7 rfl (by decide) rfl (lv' := [(0, .inr l0), (1, .inr (some sz))]) rfl ?_
  refine aw_aload_n C dX5_box_8 rfl (j := 0) rfl ?_
  obtain ⟨v9, hv, he⟩ := ob he
  refine aw_gA C fk_X5_10 dX5_box_9 hv ?_
  refine aw_aload_n C dX5_box_12 rfl (j := 1) rfl ?_
  obtain ⟨hO, he⟩ := ifs he
  obtain ⟨z13, hv, he⟩ := ob he
  refine aw_callV (ci := 4) C mb_X5_88 ⟨q_260, q_261, rfl⟩ hO (cX4_faultIn_ _ _ _ _ hv) dX5_box_13 rfl (rest := []) rfl (cat_le _ (Nat.le_of_ble_eq_true rfl)) (Nat.le_of_ble_eq_true rfl) (Nat.le_of_ble_eq_true rfl) (Nat.le_of_ble_eq_true rfl) (st2 := [.int z13.1]) rfl ?_
  refine aw_istore_n C dX5_box_16 rfl (by decide) rfl (lv' := [(0, .inr l0), (1, .inr (some sz)), (2, .inl z13.1)]) rfl ?_
  refine aw_iload_n C dX5_box_17 rfl (j := 2) rfl ?_
  refine aw_iconst (v := -1) C dX5_box_18 (by decide) ?_
  refine aw_ic_eq (tgt := 27) C dX5_box_19 (by decide) (fun hc => ?_) (fun hc => ?_)
  · have he := ift hc he
    refine aw_aload_n C dX5_box_27 rfl (j := 0) rfl ?_
    obtain ⟨v28, hv, he⟩ := ob he
    refine aw_gA C fk_X5_10 dX5_box_28 hv ?_
    obtain ⟨hO, he⟩ := ifs he
    obtain ⟨z31, hv, he⟩ := ob he
    refine aw_callV (ci := 4) C mb_X5_84 ⟨q_252, q_253, rfl⟩ hO (cX4_empties_ _ _ _ _ hv) dX5_box_31 rfl (rest := []) rfl (cat_le _ (Nat.le_of_ble_eq_true rfl)) (Nat.le_of_ble_eq_true rfl) (Nat.le_of_ble_eq_true rfl) (Nat.le_of_ble_eq_true rfl) (st2 := [.int z31.1]) rfl ?_
    refine aw_pop C dX5_box_34 rfl ?_
    refine aw_aload_n C dX5_box_35 rfl (j := 0) rfl ?_
    refine aw_aload_n C dX5_box_36 rfl (j := 1) rfl ?_
    obtain ⟨hO, he⟩ := ifs he
    obtain ⟨z37, hv, he⟩ := ob he
    refine aw_callV (ci := 5) C mb_X5_92 ⟨q_317, q_7, rfl⟩ hO (cX5_startAnew_ _ _ _ _ hv) dX5_box_37 rfl (rest := []) rfl (cat_le _ (Nat.le_of_ble_eq_true rfl)) (Nat.le_of_ble_eq_true rfl) (Nat.le_of_ble_eq_true rfl) (Nat.le_of_ble_eq_true rfl) (st2 := []) rfl ?_
    refine aw_aload_n C dX5_box_40 rfl (j := 1) rfl ?_
    obtain ⟨hO, he⟩ := ifs he
    obtain ⟨v41, hv, he⟩ := ob he
    refine aw_callV (ci := 0) C mb_X5_96 ⟨q_346, q_347, rfl⟩ hO (cX0_items_ _ _ _ _ hv) dX5_box_41 rfl (rest := []) rfl (cat_le _ (Nat.le_of_ble_eq_true rfl)) (Nat.le_of_ble_eq_true rfl) (Nat.le_of_ble_eq_true rfl) (Nat.le_of_ble_eq_true rfl) (st2 := [.int v41]) rfl ?_
    have he := Option.some.inj he
    subst he
    exact aw_iret C X dX5_box_44 (by decide) (by decide)
  · have he := iff_ hc he
    refine aw_bipush (v := -10) C dX5_box_22 (by decide) ?_
    refine aw_iload_n C dX5_box_24 rfl (j := 2) rfl ?_
    refine aw_isub C dX5_box_25 ?_
    have he := Option.some.inj he
    subst he
    exact aw_iret C X dX5_box_26 (by decide) (by decide)
theorem cX5_box_ (l : Launch) (D : va_G) (dA : Nat → ClassId) (base : Nat) {N : Nat} {h : Hp} {sz : Nat} {l0 : Option Nat} {out : Int32 × Hp × Nat} (he : fX5_box N h sz l0 = some out) : AM l D dA base yX5_box cX5_box 3 (some .int) 5 7 39 [.inr l0] h sz (some (.int out.1)) out.2.1 out.2.2 :=
  AM.of (by decide +kernel) (Nat.le_of_ble_eq_true rfl) rfl (fun Γ C X hn => wX5_box C X he)
set_option maxHeartbeats 4000000 in
set_option maxRecDepth 100000 in
theorem wX6_here {Γ : GG} (C : CX Γ cX6_here 1 RX6 0 0 0) {N : Nat} {sz : Nat} {h : Hp} {out : Int32} (X : RX Γ (some .int) (some (.int out)) h sz 0 0) {l0 : Option Nat} (he : fX6_here N h l0 = some out) : AW Γ 1 h sz 0 0 0 [(0, .inr l0)] [] := by
  unfold fX6_here at he
  refine aw_aload_n C dX6_here_0 rfl (j := 0) rfl ?_
  obtain ⟨v1, hv, he⟩ := ob he
  refine aw_gI C fk_X6_78 dX6_here_1 hv ?_
  refine aw_aload_n C dX6_here_4 rfl (j := 0) rfl ?_
  obtain ⟨v5, hv, he⟩ := ob he
  refine aw_gI C fk_X6_75 dX6_here_5 hv ?_
  refine aw_ic_ge (tgt := 23) C dX6_here_8 (by decide) (fun hc => ?_) (fun hc => ?_)
  · have he := ift hc he
    refine aw_bipush (v := -9) C dX6_here_23 (by decide) ?_
    have he := Option.some.inj he
    subst he
    exact aw_iret C X dX6_here_25 (by decide) (by decide)
  · have he := iff_ hc he
    refine aw_aload_n C dX6_here_11 rfl (j := 0) rfl ?_
    obtain ⟨v12, hv, he⟩ := ob he
    refine aw_gA C fk_X6_28 dX6_here_12 hv ?_
    refine aw_aload_n C dX6_here_15 rfl (j := 0) rfl ?_
    obtain ⟨v16, hv, he⟩ := ob he
    refine aw_gI C fk_X6_78 dX6_here_16 hv ?_
    obtain ⟨v19, hv, he⟩ := ob he
    refine aw_iald C dX6_here_19 hv ?_
    refine aw_goto (tgt := 25) C dX6_here_20 (by decide) ?_
    have he := Option.some.inj he
    subst he
    exact aw_iret C X dX6_here_25 (by decide) (by decide)
theorem cX6_here_ (l : Launch) (D : va_G) (dA : Nat → ClassId) (base : Nat) {N : Nat} {h : Hp} {sz : Nat} {l0 : Option Nat} {out : Int32} (he : fX6_here N h l0 = some out) : AM l D dA base yX6_here cX6_here 1 (some .int) 0 0 0 [.inr l0] h sz (some (.int out)) h sz :=
  AM.of (by decide +kernel) (Nat.le_of_ble_eq_true rfl) rfl (fun Γ C X hn => wX6_here C X he)
set_option maxHeartbeats 4000000 in
set_option maxRecDepth 100000 in
theorem wX6_skip_L0 {Γ : GG} (C : CX Γ cX6_skip 1 RX6 1 0 0) {N : Nat} {sz : Nat} {α : Type} {out : α} {K22 : Hp → Option α} (k22 : ∀ (h : Hp), K22 h = some out → AW Γ 1 h sz 0 0 22 [] []) : ∀ (n : Nat) (h : Hp) (l0 : Option Nat), fX6_skip_L0 N K22 n h l0 = some out → AW Γ 1 h sz 0 0 0 [(0, .inr l0)] [] := by
  intro n
  induction n with
  | zero =>
    intro h l0 he
    rw [fX6_skip_L0] at he
    cases he
  | succ n ih =>
    intro h l0 he
    rw [fX6_skip_L0] at he
    refine aw_aload_n C dX6_skip_0 rfl (j := 0) rfl ?_
    obtain ⟨hO, he⟩ := ifs he
    obtain ⟨v1, hv, he⟩ := ob he
    refine aw_callV (ci := 6) C mb_X6_81 ⟨q_890, q_36, rfl⟩ hO (cX6_here_ _ _ _ _ hv) dX6_skip_1 rfl (rest := []) rfl (cat_le _ (Nat.le_of_ble_eq_true rfl)) (Nat.le_of_ble_eq_true rfl) (Nat.le_of_ble_eq_true rfl) (Nat.le_of_ble_eq_true rfl) (st2 := [.int v1]) rfl ?_
    refine aw_bipush (v := 32) C dX6_skip_4 (by decide) ?_
    refine aw_ic_ne (tgt := 22) C dX6_skip_6 (by decide) (fun hc => ?_) (fun hc => ?_)
    · have he := ift hc he
      refine aw_aload_n C dX6_skip_9 rfl (j := 0) rfl ?_
      refine aw_dup C dX6_skip_10 (rf_cat _) ?_
      obtain ⟨v11, hv, he⟩ := ob he
      refine aw_gI C fk_X6_78 dX6_skip_11 hv ?_
      refine aw_iconst (v := 1) C dX6_skip_14 (by decide) ?_
      refine aw_iadd C dX6_skip_15 ?_
      obtain ⟨h16, hv, he⟩ := ob he
      refine aw_put C fk_X6_78 dX6_skip_16 rfl rfl hv ?_
      refine aw_goto (tgt := 0) C dX6_skip_19 (by decide) ?_
      exact ih _ _ he
    · have he := iff_ hc he
      refine aw_sub [] (lv' := []) rfl ?_
      exact k22 _ he
set_option maxHeartbeats 4000000 in
set_option maxRecDepth 100000 in
theorem wX6_skip {Γ : GG} (C : CX Γ cX6_skip 1 RX6 1 0 0) {N : Nat} {sz : Nat} {out : Hp} (X : RX Γ none none out sz 0 0) {h : Hp} {l0 : Option Nat} (he : fX6_skip N h l0 = some out) : AW Γ 1 h sz 0 0 0 [(0, .inr l0)] [] := by
  unfold fX6_skip at he
  refine wX6_skip_L0 C ?_ N _ _ he
  intro h he
  have he := Option.some.inj he
  subst he
  exact aw_vret C X dX6_skip_22 (by decide) (by decide)
theorem cX6_skip_ (l : Launch) (D : va_G) (dA : Nat → ClassId) (base : Nat) {N : Nat} {h : Hp} {sz : Nat} {l0 : Option Nat} {out : Hp} (he : fX6_skip N h l0 = some out) : AM l D dA base yX6_skip cX6_skip 1 none 1 0 0 [.inr l0] h sz none out sz :=
  AM.of (by decide +kernel) (Nat.le_of_ble_eq_true rfl) rfl (fun Γ C X hn => wX6_skip C X he)
set_option maxHeartbeats 4000000 in
set_option maxRecDepth 100000 in
theorem wX6_number_L9 {Γ : GG} (C : CX Γ cX6_number 5 RX6 2 0 0) {N : Nat} {sz : Nat} {α : Type} {out : α} {K81 : Hp → Option Nat → Int32 → Int32 → Int32 → Int32 → Option α} (k81 : ∀ (h : Hp) (l0 : Option Nat) (l1 : Int32) (l2 : Int32) (l3 : Int32) (l4 : Int32), K81 h l0 l1 l2 l3 l4 = some out → AW Γ 5 h sz 0 0 81 [(0, .inr l0), (1, .inl l1), (2, .inl l2), (3, .inl l3), (4, .inl l4)] []) : ∀ (n : Nat) (h : Hp) (l0 : Option Nat) (l1 : Int32) (l2 : Int32) (l3 : Int32) (l4 : Int32), fX6_number_L9 N K81 n h l0 l1 l2 l3 l4 = some out → AW Γ 5 h sz 0 0 9 [(0, .inr l0), (1, .inl l1), (2, .inl l2), (3, .inl l3), (4, .inl l4)] [] := by
  intro n
  induction n with
  | zero =>
    intro h l0 l1 l2 l3 l4 he
    rw [fX6_number_L9] at he
    cases he
  | succ n ih =>
    intro h l0 l1 l2 l3 l4 he
    rw [fX6_number_L9] at he
    refine aw_aload_n C dX6_number_9 rfl (j := 0) rfl ?_
    obtain ⟨v10, hv, he⟩ := ob he
    refine aw_gI C fk_X6_78 dX6_number_10 hv ?_
    refine aw_iload_n C dX6_number_13 rfl (j := 3) rfl ?_
    refine aw_iadd C dX6_number_14 ?_
    refine aw_aload_n C dX6_number_15 rfl (j := 0) rfl ?_
    obtain ⟨v16, hv, he⟩ := ob he
    refine aw_gI C fk_X6_75 dX6_number_16 hv ?_
    refine aw_ic_ge (tgt := 81) C dX6_number_19 (by decide) (fun hc => ?_) (fun hc => ?_)
    · have he := ift hc he
      exact k81 _ _ _ _ _ _ he
    · have he := iff_ hc he
      refine aw_aload_n C dX6_number_22 rfl (j := 0) rfl ?_
      obtain ⟨v23, hv, he⟩ := ob he
      refine aw_gA C fk_X6_28 dX6_number_23 hv ?_
      refine aw_aload_n C dX6_number_26 rfl (j := 0) rfl ?_
      obtain ⟨v27, hv, he⟩ := ob he
      refine aw_gI C fk_X6_78 dX6_number_27 hv ?_
      refine aw_iload_n C dX6_number_30 rfl (j := 3) rfl ?_
      refine aw_iadd C dX6_number_31 ?_
      obtain ⟨v32, hv, he⟩ := ob he
      refine aw_iald C dX6_number_32 hv ?_
      refine aw_bipush (v := 48) C dX6_number_33 (by decide) ?_
      refine aw_bipush (v := 57) C dX6_number_35 (by decide) ?_
      obtain ⟨v37, hv, he⟩ := ob he
      refine aw_callS C mb_X6_62 q_874 (cX6_in_ _ _ _ _ hv) dX6_number_37 rfl (rest := []) rfl (cat_le _ (Nat.le_of_ble_eq_true rfl)) (Nat.le_of_ble_eq_true rfl) (Nat.le_of_ble_eq_true rfl) (Nat.le_of_ble_eq_true rfl) (st2 := [.int v37]) rfl ?_
      refine aw_if_eq (tgt := 81) C dX6_number_40 (by decide) (fun hc => ?_) (fun hc => ?_)
      · have he := ift hc he
        exact k81 _ _ _ _ _ _ he
      · have he := iff_ hc he
        refine aw_iload_n C dX6_number_43 rfl (j := 3) rfl ?_
        refine aw_iconst (v := 3) C dX6_number_44 (by decide) ?_
        refine aw_ic_ge (tgt := 71) C dX6_number_45 (by decide) (fun hc => ?_) (fun hc => ?_)
        · have he := ift hc he
          refine aw_iload C dX6_number_71 (j := 4) rfl ?_
          refine aw_istore C dX6_number_73 (by decide) rfl (lv' := [(0, .inr l0), (1, .inl l1), (2, .inl l2), (3, .inl l3), (4, .inl l4)]) rfl ?_
          refine aw_iinc (y := 1) C dX6_number_75 (by decide) (j := 3) rfl (by decide) rfl (lv' := [(0, .inr l0), (1, .inl l1), (2, .inl l2), (3, .inl (l3 + 1)), (4, .inl l4)]) rfl ?_
          refine aw_goto (tgt := 9) C dX6_number_78 (by decide) ?_
          exact ih _ _ _ _ _ _ he
        · have he := iff_ hc he
          refine aw_bipush (v := 10) C dX6_number_48 (by decide) ?_
          refine aw_iload C dX6_number_50 (j := 4) rfl ?_
          refine aw_imul C dX6_number_52 ?_
          refine aw_aload_n C dX6_number_53 rfl (j := 0) rfl ?_
          obtain ⟨v54, hv, he⟩ := ob he
          refine aw_gA C fk_X6_28 dX6_number_54 hv ?_
          refine aw_aload_n C dX6_number_57 rfl (j := 0) rfl ?_
          obtain ⟨v58, hv, he⟩ := ob he
          refine aw_gI C fk_X6_78 dX6_number_58 hv ?_
          refine aw_iload_n C dX6_number_61 rfl (j := 3) rfl ?_
          refine aw_iadd C dX6_number_62 ?_
          obtain ⟨v63, hv, he⟩ := ob he
          refine aw_iald C dX6_number_63 hv ?_
          refine aw_iadd C dX6_number_64 ?_
          refine aw_bipush (v := 48) C dX6_number_65 (by decide) ?_
          refine aw_isub C dX6_number_67 ?_
          refine aw_goto (tgt := 73) C dX6_number_68 (by decide) ?_
          refine aw_istore C dX6_number_73 (by decide) rfl (lv' := [(0, .inr l0), (1, .inl l1), (2, .inl l2), (3, .inl l3), (4, .inl ((((10 : Int32) * l4) + v63) - (48 : Int32)))]) rfl ?_
          refine aw_iinc (y := 1) C dX6_number_75 (by decide) (j := 3) rfl (by decide) rfl (lv' := [(0, .inr l0), (1, .inl l1), (2, .inl l2), (3, .inl (l3 + 1)), (4, .inl ((((10 : Int32) * l4) + v63) - (48 : Int32)))]) rfl ?_
          refine aw_goto (tgt := 9) C dX6_number_78 (by decide) ?_
          exact ih _ _ _ _ _ _ he
set_option maxHeartbeats 4000000 in
set_option maxRecDepth 100000 in
theorem wX6_number_j104 {Γ : GG} (C : CX Γ cX6_number 5 RX6 2 0 0) {N : Nat} {sz : Nat} {out : Int32 × Hp} (X : RX Γ (some .boolean) (some (.int out.1)) out.2 sz 0 0) {h : Hp} {l0 : Option Nat} {l1 : Int32} {l2 : Int32} {l3 : Int32} {l4 : Int32} (he : fX6_number_j104 N h l0 l1 l2 l3 l4 = some out) : AW Γ 5 h sz 0 0 104 [(0, .inr l0), (1, .inl l1), (2, .inl l2), (3, .inl l3), (4, .inl l4)] [] := by
  unfold fX6_number_j104 at he
  refine aw_iload C dX6_number_104 (j := 4) rfl ?_
  refine aw_iload_n C dX6_number_106 rfl (j := 1) rfl ?_
  refine aw_iload_n C dX6_number_107 rfl (j := 2) rfl ?_
  obtain ⟨v108, hv, he⟩ := ob he
  refine aw_callS C mb_X6_62 q_874 (cX6_in_ _ _ _ _ hv) dX6_number_108 rfl (rest := []) rfl (cat_le _ (Nat.le_of_ble_eq_true rfl)) (Nat.le_of_ble_eq_true rfl) (Nat.le_of_ble_eq_true rfl) (Nat.le_of_ble_eq_true rfl) (st2 := [.int v108]) rfl ?_
  refine aw_if_ne (tgt := 116) C dX6_number_111 (by decide) (fun hc => ?_) (fun hc => ?_)
  · have he := ift hc he
    refine aw_iconst (v := 0) C dX6_number_114 (by decide) ?_
    have he := Option.some.inj he
    subst he
    exact aw_zret C X (by decide) dX6_number_115 (by decide) (by decide)
  · have he := iff_ hc he
    refine aw_aload_n C dX6_number_116 rfl (j := 0) rfl ?_
    refine aw_iload C dX6_number_117 (j := 4) rfl ?_
    obtain ⟨h119, hv, he⟩ := ob he
    refine aw_put C fk_X6_88 dX6_number_119 rfl rfl hv ?_
    refine aw_aload_n C dX6_number_122 rfl (j := 0) rfl ?_
    refine aw_dup C dX6_number_123 (rf_cat _) ?_
    obtain ⟨v124, hv, he⟩ := ob he
    refine aw_gI C fk_X6_78 dX6_number_124 hv ?_
    refine aw_iload_n C dX6_number_127 rfl (j := 3) rfl ?_
    refine aw_iadd C dX6_number_128 ?_
    obtain ⟨h129, hv, he⟩ := ob he
    refine aw_put C fk_X6_78 dX6_number_129 rfl rfl hv ?_
    refine aw_iconst (v := 1) C dX6_number_132 (by decide) ?_
    have he := Option.some.inj he
    subst he
    exact aw_zret C X (by decide) dX6_number_133 (by decide) (by decide)
set_option maxHeartbeats 4000000 in
set_option maxRecDepth 100000 in
theorem wX6_number_j81 {Γ : GG} (C : CX Γ cX6_number 5 RX6 2 0 0) {N : Nat} {sz : Nat} {out : Int32 × Hp} (X : RX Γ (some .boolean) (some (.int out.1)) out.2 sz 0 0) {h : Hp} {l0 : Option Nat} {l1 : Int32} {l2 : Int32} {l3 : Int32} {l4 : Int32} (he : fX6_number_j81 N h l0 l1 l2 l3 l4 = some out) : AW Γ 5 h sz 0 0 81 [(0, .inr l0), (1, .inl l1), (2, .inl l2), (3, .inl l3), (4, .inl l4)] [] := by
  unfold fX6_number_j81 at he
  refine aw_iload_n C dX6_number_81 rfl (j := 3) rfl ?_
  refine aw_iconst (v := 1) C dX6_number_82 (by decide) ?_
  refine aw_iconst (v := 3) C dX6_number_83 (by decide) ?_
  obtain ⟨v84, hv, he⟩ := ob he
  refine aw_callS C mb_X6_62 q_874 (cX6_in_ _ _ _ _ hv) dX6_number_84 rfl (rest := []) rfl (cat_le _ (Nat.le_of_ble_eq_true rfl)) (Nat.le_of_ble_eq_true rfl) (Nat.le_of_ble_eq_true rfl) (Nat.le_of_ble_eq_true rfl) (st2 := [.int v84]) rfl ?_
  refine aw_if_eq (tgt := 114) C dX6_number_87 (by decide) (fun hc => ?_) (fun hc => ?_)
  · have he := ift hc he
    refine aw_iconst (v := 0) C dX6_number_114 (by decide) ?_
    have he := Option.some.inj he
    subst he
    exact aw_zret C X (by decide) dX6_number_115 (by decide) (by decide)
  · have he := iff_ hc he
    refine aw_iload_n C dX6_number_90 rfl (j := 3) rfl ?_
    refine aw_iconst (v := 1) C dX6_number_91 (by decide) ?_
    refine aw_ic_le (tgt := 104) C dX6_number_92 (by decide) (fun hc => ?_) (fun hc => ?_)
    · have he := ift hc he
      exact wX6_number_j104 C X he
    · have he := iff_ hc he
      refine aw_aload_n C dX6_number_95 rfl (j := 0) rfl ?_
      obtain ⟨hO, he⟩ := ifs he
      obtain ⟨v96, hv, he⟩ := ob he
      refine aw_callV (ci := 6) C mb_X6_81 ⟨q_890, q_36, rfl⟩ hO (cX6_here_ _ _ _ _ hv) dX6_number_96 rfl (rest := []) rfl (cat_le _ (Nat.le_of_ble_eq_true rfl)) (Nat.le_of_ble_eq_true rfl) (Nat.le_of_ble_eq_true rfl) (Nat.le_of_ble_eq_true rfl) (st2 := [.int v96]) rfl ?_
      refine aw_bipush (v := 48) C dX6_number_99 (by decide) ?_
      refine aw_ic_eq (tgt := 114) C dX6_number_101 (by decide) (fun hc => ?_) (fun hc => ?_)
      · have he := ift hc he
        refine aw_iconst (v := 0) C dX6_number_114 (by decide) ?_
        have he := Option.some.inj he
        subst he
        exact aw_zret C X (by decide) dX6_number_115 (by decide) (by decide)
      · have he := iff_ hc he
        exact wX6_number_j104 C X he
set_option maxHeartbeats 4000000 in
set_option maxRecDepth 100000 in
theorem wX6_number {Γ : GG} (C : CX Γ cX6_number 5 RX6 2 0 0) {N : Nat} {sz : Nat} {out : Int32 × Hp} (X : RX Γ (some .boolean) (some (.int out.1)) out.2 sz 0 0) {h : Hp} {l0 : Option Nat} {l1 : Int32} {l2 : Int32} (he : fX6_number N h l0 l1 l2 = some out) : AW Γ 5 h sz 0 0 0 [(0, .inr l0), (1, .inl l1), (2, .inl l2)] [] := by
  unfold fX6_number at he
  refine aw_aload_n C dX6_number_0 rfl (j := 0) rfl ?_
  obtain ⟨hO, he⟩ := ifs he
  obtain ⟨z1, hv, he⟩ := ob he
  refine aw_callV (ci := 6) C mb_X6_85 ⟨q_886, q_35, rfl⟩ hO (cX6_skip_ _ _ _ _ hv) dX6_number_1 rfl (rest := []) rfl (cat_le _ (Nat.le_of_ble_eq_true rfl)) (Nat.le_of_ble_eq_true rfl) (Nat.le_of_ble_eq_true rfl) (Nat.le_of_ble_eq_true rfl) (st2 := []) rfl ?_
  refine aw_iconst (v := 0) C dX6_number_4 (by decide) ?_
  refine aw_istore_n C dX6_number_5 rfl (by decide) rfl (lv' := [(0, .inr l0), (1, .inl l1), (2, .inl l2), (3, .inl (0 : Int32))]) rfl ?_
  refine aw_iconst (v := 0) C dX6_number_6 (by decide) ?_
  refine aw_istore C dX6_number_7 (by decide) rfl (lv' := [(0, .inr l0), (1, .inl l1), (2, .inl l2), (3, .inl (0 : Int32)), (4, .inl (0 : Int32))]) rfl ?_
  refine wX6_number_L9 C ?_ N _ _ _ _ _ _ he
  intro h l0 l1 l2 l3 l4 he
  exact wX6_number_j81 C X he
theorem cX6_number_ (l : Launch) (D : va_G) (dA : Nat → ClassId) (base : Nat) {N : Nat} {h : Hp} {sz : Nat} {l0 : Option Nat} {l1 : Int32} {l2 : Int32} {out : Int32 × Hp} (he : fX6_number N h l0 l1 l2 = some out) : AM l D dA base yX6_number cX6_number 5 (some .boolean) 2 0 0 [.inr l0, .inl l1, .inl l2] h sz (some (.int out.1)) out.2 sz :=
  AM.of (by decide +kernel) (Nat.le_of_ble_eq_true rfl) rfl (fun Γ C X hn => wX6_number C X he)
set_option maxHeartbeats 4000000 in
set_option maxRecDepth 100000 in
theorem wX6_ends {Γ : GG} (C : CX Γ cX6_ends 1 RX6 2 0 0) {N : Nat} {sz : Nat} {out : Int32 × Hp} (X : RX Γ (some .boolean) (some (.int out.1)) out.2 sz 0 0) {h : Hp} {l0 : Option Nat} (he : fX6_ends N h l0 = some out) : AW Γ 1 h sz 0 0 0 [(0, .inr l0)] [] := by
  unfold fX6_ends at he
  refine aw_aload_n C dX6_ends_0 rfl (j := 0) rfl ?_
  obtain ⟨hO, he⟩ := ifs he
  obtain ⟨z1, hv, he⟩ := ob he
  refine aw_callV (ci := 6) C mb_X6_85 ⟨q_886, q_35, rfl⟩ hO (cX6_skip_ _ _ _ _ hv) dX6_ends_1 rfl (rest := []) rfl (cat_le _ (Nat.le_of_ble_eq_true rfl)) (Nat.le_of_ble_eq_true rfl) (Nat.le_of_ble_eq_true rfl) (Nat.le_of_ble_eq_true rfl) (st2 := []) rfl ?_
  refine aw_aload_n C dX6_ends_4 rfl (j := 0) rfl ?_
  obtain ⟨hO, he⟩ := ifs he
  obtain ⟨v5, hv, he⟩ := ob he
  refine aw_callV (ci := 6) C mb_X6_81 ⟨q_890, q_36, rfl⟩ hO (cX6_here_ _ _ _ _ hv) dX6_ends_5 rfl (rest := []) rfl (cat_le _ (Nat.le_of_ble_eq_true rfl)) (Nat.le_of_ble_eq_true rfl) (Nat.le_of_ble_eq_true rfl) (Nat.le_of_ble_eq_true rfl) (st2 := [.int v5]) rfl ?_
  refine aw_bipush (v := 59) C dX6_ends_8 (by decide) ?_
  refine aw_ic_eq (tgt := 15) C dX6_ends_10 (by decide) (fun hc => ?_) (fun hc => ?_)
  · have he := ift hc he
    refine aw_aload_n C dX6_ends_15 rfl (j := 0) rfl ?_
    refine aw_dup C dX6_ends_16 (rf_cat _) ?_
    obtain ⟨v17, hv, he⟩ := ob he
    refine aw_gI C fk_X6_78 dX6_ends_17 hv ?_
    refine aw_iconst (v := 1) C dX6_ends_20 (by decide) ?_
    refine aw_iadd C dX6_ends_21 ?_
    obtain ⟨h22, hv, he⟩ := ob he
    refine aw_put C fk_X6_78 dX6_ends_22 rfl rfl hv ?_
    refine aw_iconst (v := 1) C dX6_ends_25 (by decide) ?_
    have he := Option.some.inj he
    subst he
    exact aw_zret C X (by decide) dX6_ends_26 (by decide) (by decide)
  · have he := iff_ hc he
    refine aw_iconst (v := 0) C dX6_ends_13 (by decide) ?_
    have he := Option.some.inj he
    subst he
    exact aw_zret C X (by decide) dX6_ends_14 (by decide) (by decide)
theorem cX6_ends_ (l : Launch) (D : va_G) (dA : Nat → ClassId) (base : Nat) {N : Nat} {h : Hp} {sz : Nat} {l0 : Option Nat} {out : Int32 × Hp} (he : fX6_ends N h l0 = some out) : AM l D dA base yX6_ends cX6_ends 1 (some .boolean) 2 0 0 [.inr l0] h sz (some (.int out.1)) out.2 sz :=
  AM.of (by decide +kernel) (Nat.le_of_ble_eq_true rfl) rfl (fun Γ C X hn => wX6_ends C X he)
set_option maxHeartbeats 4000000 in
set_option maxRecDepth 100000 in
theorem wX6_readsRing {Γ : GG} (C : CX Γ cX6_readsRing 2 RX6 3 0 0) {N : Nat} {sz : Nat} {out : Int32 × Hp} (X : RX Γ (some .boolean) (some (.int out.1)) out.2 sz 0 0) {h : Hp} {l0 : Option Nat} (he : fX6_readsRing N h l0 = some out) : AW Γ 2 h sz 0 0 0 [(0, .inr l0)] [] := by
  unfold fX6_readsRing at he
  refine aw_aload_n C dX6_readsRing_0 rfl (j := 0) rfl ?_
  obtain ⟨v1, hv, he⟩ := ob he
  refine aw_gI C fk_X6_78 dX6_readsRing_1 hv ?_
  refine aw_istore_n C dX6_readsRing_4 rfl (by decide) rfl (lv' := [(0, .inr l0), (1, .inl v1)]) rfl ?_
  refine aw_aload_n C dX6_readsRing_5 rfl (j := 0) rfl ?_
  refine aw_bipush (v := 12) C dX6_readsRing_6 (by decide) ?_
  refine aw_bipush (v := 120) C dX6_readsRing_8 (by decide) ?_
  obtain ⟨hO, he⟩ := ifs he
  obtain ⟨z10, hv, he⟩ := ob he
  refine aw_callV (ci := 6) C mb_X6_91 ⟨q_902, q_39, rfl⟩ hO (cX6_number_ _ _ _ _ hv) dX6_readsRing_10 rfl (rest := []) rfl (cat_le _ (Nat.le_of_ble_eq_true rfl)) (Nat.le_of_ble_eq_true rfl) (Nat.le_of_ble_eq_true rfl) (Nat.le_of_ble_eq_true rfl) (st2 := [.int z10.1]) rfl ?_
  refine aw_if_ne (tgt := 18) C dX6_readsRing_13 (by decide) (fun hc => ?_) (fun hc => ?_)
  · have he := ift hc he
    refine aw_iconst (v := 0) C dX6_readsRing_16 (by decide) ?_
    have he := Option.some.inj he
    subst he
    exact aw_zret C X (by decide) dX6_readsRing_17 (by decide) (by decide)
  · have he := iff_ hc he
    refine aw_sipush (v := 360) C dX6_readsRing_18 (by decide) ?_
    refine aw_aload_n C dX6_readsRing_21 rfl (j := 0) rfl ?_
    obtain ⟨v22, hv, he⟩ := ob he
    refine aw_gI C fk_X6_88 dX6_readsRing_22 hv ?_
    obtain ⟨hy, he⟩ := ifn he
    refine aw_irem C dX6_readsRing_25 hy ?_
    refine aw_if_eq (tgt := 40) C dX6_readsRing_26 (by decide) (fun hc => ?_) (fun hc => ?_)
    · have he := ift hc he
      refine aw_aload_n C dX6_readsRing_40 rfl (j := 0) rfl ?_
      obtain ⟨v41, hv, he⟩ := ob he
      refine aw_gA C fk_X6_31 dX6_readsRing_41 hv ?_
      refine aw_aload_n C dX6_readsRing_44 rfl (j := 0) rfl ?_
      obtain ⟨v45, hv, he⟩ := ob he
      refine aw_gI C fk_X6_95 dX6_readsRing_45 hv ?_
      refine aw_aload_n C dX6_readsRing_48 rfl (j := 0) rfl ?_
      obtain ⟨v49, hv, he⟩ := ob he
      refine aw_gI C fk_X6_88 dX6_readsRing_49 hv ?_
      obtain ⟨h52, hv, he⟩ := ob he
      refine aw_iast C dX6_readsRing_52 hv ?_
      refine aw_aload_n C dX6_readsRing_53 rfl (j := 0) rfl ?_
      refine aw_dup C dX6_readsRing_54 (rf_cat _) ?_
      obtain ⟨v55, hv, he⟩ := ob he
      refine aw_gI C fk_X6_95 dX6_readsRing_55 hv ?_
      refine aw_iconst (v := 1) C dX6_readsRing_58 (by decide) ?_
      refine aw_iadd C dX6_readsRing_59 ?_
      obtain ⟨h60, hv, he⟩ := ob he
      refine aw_put C fk_X6_95 dX6_readsRing_60 rfl rfl hv ?_
      refine aw_aload_n C dX6_readsRing_63 rfl (j := 0) rfl ?_
      obtain ⟨hO, he⟩ := ifs he
      obtain ⟨z64, hv, he⟩ := ob he
      refine aw_callV (ci := 6) C mb_X6_98 ⟨q_906, q_40, rfl⟩ hO (cX6_ends_ _ _ _ _ hv) dX6_readsRing_64 rfl (rest := []) rfl (cat_le _ (Nat.le_of_ble_eq_true rfl)) (Nat.le_of_ble_eq_true rfl) (Nat.le_of_ble_eq_true rfl) (Nat.le_of_ble_eq_true rfl) (st2 := [.int z64.1]) rfl ?_
      obtain ⟨hz, he⟩ := ifs he
      have he := Option.some.inj he
      subst he
      exact aw_zret C X hz dX6_readsRing_67 (by decide) (by decide)
    · have he := iff_ hc he
      refine aw_aload_n C dX6_readsRing_29 rfl (j := 0) rfl ?_
      refine aw_iload_n C dX6_readsRing_30 rfl (j := 1) rfl ?_
      obtain ⟨h31, hv, he⟩ := ob he
      refine aw_put C fk_X6_78 dX6_readsRing_31 rfl rfl hv ?_
      refine aw_aload_n C dX6_readsRing_34 rfl (j := 0) rfl ?_
      obtain ⟨hO, he⟩ := ifs he
      obtain ⟨z35, hv, he⟩ := ob he
      refine aw_callV (ci := 6) C mb_X6_85 ⟨q_886, q_35, rfl⟩ hO (cX6_skip_ _ _ _ _ hv) dX6_readsRing_35 rfl (rest := []) rfl (cat_le _ (Nat.le_of_ble_eq_true rfl)) (Nat.le_of_ble_eq_true rfl) (Nat.le_of_ble_eq_true rfl) (Nat.le_of_ble_eq_true rfl) (st2 := []) rfl ?_
      refine aw_iconst (v := 0) C dX6_readsRing_38 (by decide) ?_
      have he := Option.some.inj he
      subst he
      exact aw_zret C X (by decide) dX6_readsRing_39 (by decide) (by decide)
theorem cX6_readsRing_ (l : Launch) (D : va_G) (dA : Nat → ClassId) (base : Nat) {N : Nat} {h : Hp} {sz : Nat} {l0 : Option Nat} {out : Int32 × Hp} (he : fX6_readsRing N h l0 = some out) : AM l D dA base yX6_readsRing cX6_readsRing 2 (some .boolean) 3 0 0 [.inr l0] h sz (some (.int out.1)) out.2 sz :=
  AM.of (by decide +kernel) (Nat.le_of_ble_eq_true rfl) rfl (fun Γ C X hn => wX6_readsRing C X he)
set_option maxHeartbeats 4000000 in
set_option maxRecDepth 100000 in
theorem wX6_readsWheel {Γ : GG} (C : CX Γ cX6_readsWheel 1 RX6 3 0 0) {N : Nat} {sz : Nat} {out : Int32 × Hp} (X : RX Γ (some .boolean) (some (.int out.1)) out.2 sz 0 0) {h : Hp} {l0 : Option Nat} (he : fX6_readsWheel N h l0 = some out) : AW Γ 1 h sz 0 0 0 [(0, .inr l0)] [] := by
  unfold fX6_readsWheel at he
  refine aw_aload_n C dX6_readsWheel_0 rfl (j := 0) rfl ?_
  refine aw_iconst (v := 3) C dX6_readsWheel_1 (by decide) ?_
  refine aw_bipush (v := 99) C dX6_readsWheel_2 (by decide) ?_
  obtain ⟨hO, he⟩ := ifs he
  obtain ⟨z4, hv, he⟩ := ob he
  refine aw_callV (ci := 6) C mb_X6_91 ⟨q_902, q_39, rfl⟩ hO (cX6_number_ _ _ _ _ hv) dX6_readsWheel_4 rfl (rest := []) rfl (cat_le _ (Nat.le_of_ble_eq_true rfl)) (Nat.le_of_ble_eq_true rfl) (Nat.le_of_ble_eq_true rfl) (Nat.le_of_ble_eq_true rfl) (st2 := [.int z4.1]) rfl ?_
  refine aw_if_ne (tgt := 12) C dX6_readsWheel_7 (by decide) (fun hc => ?_) (fun hc => ?_)
  · have he := ift hc he
    refine aw_iconst (v := 0) C dX6_readsWheel_10 (by decide) ?_
    have he := Option.some.inj he
    subst he
    exact aw_zret C X (by decide) dX6_readsWheel_11 (by decide) (by decide)
  · have he := iff_ hc he
    refine aw_aload_n C dX6_readsWheel_12 rfl (j := 0) rfl ?_
    obtain ⟨v13, hv, he⟩ := ob he
    refine aw_gA C fk_X6_34 dX6_readsWheel_13 hv ?_
    refine aw_aload_n C dX6_readsWheel_16 rfl (j := 0) rfl ?_
    obtain ⟨v17, hv, he⟩ := ob he
    refine aw_gI C fk_X6_102 dX6_readsWheel_17 hv ?_
    refine aw_aload_n C dX6_readsWheel_20 rfl (j := 0) rfl ?_
    obtain ⟨v21, hv, he⟩ := ob he
    refine aw_gI C fk_X6_88 dX6_readsWheel_21 hv ?_
    obtain ⟨h24, hv, he⟩ := ob he
    refine aw_iast C dX6_readsWheel_24 hv ?_
    refine aw_aload_n C dX6_readsWheel_25 rfl (j := 0) rfl ?_
    refine aw_dup C dX6_readsWheel_26 (rf_cat _) ?_
    obtain ⟨v27, hv, he⟩ := ob he
    refine aw_gI C fk_X6_102 dX6_readsWheel_27 hv ?_
    refine aw_iconst (v := 1) C dX6_readsWheel_30 (by decide) ?_
    refine aw_iadd C dX6_readsWheel_31 ?_
    obtain ⟨h32, hv, he⟩ := ob he
    refine aw_put C fk_X6_102 dX6_readsWheel_32 rfl rfl hv ?_
    refine aw_aload_n C dX6_readsWheel_35 rfl (j := 0) rfl ?_
    obtain ⟨hO, he⟩ := ifs he
    obtain ⟨z36, hv, he⟩ := ob he
    refine aw_callV (ci := 6) C mb_X6_98 ⟨q_906, q_40, rfl⟩ hO (cX6_ends_ _ _ _ _ hv) dX6_readsWheel_36 rfl (rest := []) rfl (cat_le _ (Nat.le_of_ble_eq_true rfl)) (Nat.le_of_ble_eq_true rfl) (Nat.le_of_ble_eq_true rfl) (Nat.le_of_ble_eq_true rfl) (st2 := [.int z36.1]) rfl ?_
    obtain ⟨hz, he⟩ := ifs he
    have he := Option.some.inj he
    subst he
    exact aw_zret C X hz dX6_readsWheel_39 (by decide) (by decide)
theorem cX6_readsWheel_ (l : Launch) (D : va_G) (dA : Nat → ClassId) (base : Nat) {N : Nat} {h : Hp} {sz : Nat} {l0 : Option Nat} {out : Int32 × Hp} (he : fX6_readsWheel N h l0 = some out) : AM l D dA base yX6_readsWheel cX6_readsWheel 1 (some .boolean) 3 0 0 [.inr l0] h sz (some (.int out.1)) out.2 sz :=
  AM.of (by decide +kernel) (Nat.le_of_ble_eq_true rfl) rfl (fun Γ C X hn => wX6_readsWheel C X he)
set_option maxHeartbeats 4000000 in
set_option maxRecDepth 100000 in
theorem wX6_readsPen {Γ : GG} (C : CX Γ cX6_readsPen 1 RX6 3 0 0) {N : Nat} {sz : Nat} {out : Int32 × Hp} (X : RX Γ (some .boolean) (some (.int out.1)) out.2 sz 0 0) {h : Hp} {l0 : Option Nat} (he : fX6_readsPen N h l0 = some out) : AW Γ 1 h sz 0 0 0 [(0, .inr l0)] [] := by
  unfold fX6_readsPen at he
  refine aw_aload_n C dX6_readsPen_0 rfl (j := 0) rfl ?_
  refine aw_iconst (v := 0) C dX6_readsPen_1 (by decide) ?_
  refine aw_sipush (v := 999) C dX6_readsPen_2 (by decide) ?_
  obtain ⟨hO, he⟩ := ifs he
  obtain ⟨z5, hv, he⟩ := ob he
  refine aw_callV (ci := 6) C mb_X6_91 ⟨q_902, q_39, rfl⟩ hO (cX6_number_ _ _ _ _ hv) dX6_readsPen_5 rfl (rest := []) rfl (cat_le _ (Nat.le_of_ble_eq_true rfl)) (Nat.le_of_ble_eq_true rfl) (Nat.le_of_ble_eq_true rfl) (Nat.le_of_ble_eq_true rfl) (st2 := [.int z5.1]) rfl ?_
  refine aw_if_ne (tgt := 13) C dX6_readsPen_8 (by decide) (fun hc => ?_) (fun hc => ?_)
  · have he := ift hc he
    refine aw_iconst (v := 0) C dX6_readsPen_11 (by decide) ?_
    have he := Option.some.inj he
    subst he
    exact aw_zret C X (by decide) dX6_readsPen_12 (by decide) (by decide)
  · have he := iff_ hc he
    refine aw_aload_n C dX6_readsPen_13 rfl (j := 0) rfl ?_
    obtain ⟨v14, hv, he⟩ := ob he
    refine aw_gA C fk_X6_37 dX6_readsPen_14 hv ?_
    refine aw_aload_n C dX6_readsPen_17 rfl (j := 0) rfl ?_
    obtain ⟨v18, hv, he⟩ := ob he
    refine aw_gI C fk_X6_105 dX6_readsPen_18 hv ?_
    refine aw_aload_n C dX6_readsPen_21 rfl (j := 0) rfl ?_
    obtain ⟨v22, hv, he⟩ := ob he
    refine aw_gI C fk_X6_88 dX6_readsPen_22 hv ?_
    obtain ⟨h25, hv, he⟩ := ob he
    refine aw_iast C dX6_readsPen_25 hv ?_
    refine aw_aload_n C dX6_readsPen_26 rfl (j := 0) rfl ?_
    refine aw_dup C dX6_readsPen_27 (rf_cat _) ?_
    obtain ⟨v28, hv, he⟩ := ob he
    refine aw_gI C fk_X6_105 dX6_readsPen_28 hv ?_
    refine aw_iconst (v := 1) C dX6_readsPen_31 (by decide) ?_
    refine aw_iadd C dX6_readsPen_32 ?_
    obtain ⟨h33, hv, he⟩ := ob he
    refine aw_put C fk_X6_105 dX6_readsPen_33 rfl rfl hv ?_
    refine aw_aload_n C dX6_readsPen_36 rfl (j := 0) rfl ?_
    obtain ⟨hO, he⟩ := ifs he
    obtain ⟨z37, hv, he⟩ := ob he
    refine aw_callV (ci := 6) C mb_X6_98 ⟨q_906, q_40, rfl⟩ hO (cX6_ends_ _ _ _ _ hv) dX6_readsPen_37 rfl (rest := []) rfl (cat_le _ (Nat.le_of_ble_eq_true rfl)) (Nat.le_of_ble_eq_true rfl) (Nat.le_of_ble_eq_true rfl) (Nat.le_of_ble_eq_true rfl) (st2 := [.int z37.1]) rfl ?_
    obtain ⟨hz, he⟩ := ifs he
    have he := Option.some.inj he
    subst he
    exact aw_zret C X hz dX6_readsPen_40 (by decide) (by decide)
theorem cX6_readsPen_ (l : Launch) (D : va_G) (dA : Nat → ClassId) (base : Nat) {N : Nat} {h : Hp} {sz : Nat} {l0 : Option Nat} {out : Int32 × Hp} (he : fX6_readsPen N h l0 = some out) : AM l D dA base yX6_readsPen cX6_readsPen 1 (some .boolean) 3 0 0 [.inr l0] h sz (some (.int out.1)) out.2 sz :=
  AM.of (by decide +kernel) (Nat.le_of_ble_eq_true rfl) rfl (fun Γ C X hn => wX6_readsPen C X he)
set_option maxHeartbeats 4000000 in
set_option maxRecDepth 100000 in
theorem wX6_readsItem_j109 {Γ : GG} (C : CX Γ cX6_readsItem 4 RX6 4 0 0) {N : Nat} {sz : Nat} {out : Int32 × Hp} (X : RX Γ (some .boolean) (some (.int out.1)) out.2 sz 0 0) {h : Hp} {l0 : Option Nat} {l1 : Int32} {l2 : Int32} {s0 : Int32} (he : fX6_readsItem_j109 N h l0 l1 l2 s0 = some out) : AW Γ 4 h sz 0 0 109 [(0, .inr l0), (1, .inl l1), (2, .inl l2)] [.int s0] := by
  unfold fX6_readsItem_j109 at he
  refine aw_istore_n C dX6_readsItem_109 rfl (by decide) rfl (lv' := [(0, .inr l0), (1, .inl l1), (2, .inl l2), (3, .inl s0)]) rfl ?_
  refine aw_iload_n C dX6_readsItem_110 rfl (j := 2) rfl ?_
  refine aw_if_eq (tgt := 118) C dX6_readsItem_111 (by decide) (fun hc => ?_) (fun hc => ?_)
  · have he := ift hc he
    refine aw_iconst (v := 0) C dX6_readsItem_118 (by decide) ?_
    have he := Option.some.inj he
    subst he
    exact aw_zret C X (by decide) dX6_readsItem_119 (by decide) (by decide)
  · have he := iff_ hc he
    refine aw_iload_n C dX6_readsItem_114 rfl (j := 3) rfl ?_
    refine aw_if_ne (tgt := 120) C dX6_readsItem_115 (by decide) (fun hc => ?_) (fun hc => ?_)
    · have he := ift hc he
      refine aw_iconst (v := 0) C dX6_readsItem_118 (by decide) ?_
      have he := Option.some.inj he
      subst he
      exact aw_zret C X (by decide) dX6_readsItem_119 (by decide) (by decide)
    · have he := iff_ hc he
      refine aw_aload_n C dX6_readsItem_120 rfl (j := 0) rfl ?_
      refine aw_dup C dX6_readsItem_121 (rf_cat _) ?_
      obtain ⟨v122, hv, he⟩ := ob he
      refine aw_gI C fk_X6_78 dX6_readsItem_122 hv ?_
      refine aw_iconst (v := 1) C dX6_readsItem_125 (by decide) ?_
      refine aw_iadd C dX6_readsItem_126 ?_
      obtain ⟨h127, hv, he⟩ := ob he
      refine aw_put C fk_X6_78 dX6_readsItem_127 rfl rfl hv ?_
      refine aw_iload_n C dX6_readsItem_130 rfl (j := 1) rfl ?_
      refine aw_bipush (v := 114) C dX6_readsItem_131 (by decide) ?_
      refine aw_ic_ne (tgt := 143) C dX6_readsItem_133 (by decide) (fun hc => ?_) (fun hc => ?_)
      · have he := ift hc he
        refine aw_aload_n C dX6_readsItem_136 rfl (j := 0) rfl ?_
        obtain ⟨hO, he⟩ := ifs he
        obtain ⟨z137, hv, he⟩ := ob he
        refine aw_callV (ci := 6) C mb_X6_108 ⟨q_898, q_38, rfl⟩ hO (cX6_readsRing_ _ _ _ _ hv) dX6_readsItem_137 rfl (rest := []) rfl (cat_le _ (Nat.le_of_ble_eq_true rfl)) (Nat.le_of_ble_eq_true rfl) (Nat.le_of_ble_eq_true rfl) (Nat.le_of_ble_eq_true rfl) (st2 := [.int z137.1]) rfl ?_
        refine aw_goto (tgt := 160) C dX6_readsItem_140 (by decide) ?_
        obtain ⟨hz, he⟩ := ifs he
        have he := Option.some.inj he
        subst he
        exact aw_zret C X hz dX6_readsItem_160 (by decide) (by decide)
      · have he := iff_ hc he
        refine aw_iload_n C dX6_readsItem_143 rfl (j := 1) rfl ?_
        refine aw_bipush (v := 119) C dX6_readsItem_144 (by decide) ?_
        refine aw_ic_ne (tgt := 156) C dX6_readsItem_146 (by decide) (fun hc => ?_) (fun hc => ?_)
        · have he := ift hc he
          refine aw_aload_n C dX6_readsItem_149 rfl (j := 0) rfl ?_
          obtain ⟨hO, he⟩ := ifs he
          obtain ⟨z150, hv, he⟩ := ob he
          refine aw_callV (ci := 6) C mb_X6_111 ⟨q_910, q_41, rfl⟩ hO (cX6_readsWheel_ _ _ _ _ hv) dX6_readsItem_150 rfl (rest := []) rfl (cat_le _ (Nat.le_of_ble_eq_true rfl)) (Nat.le_of_ble_eq_true rfl) (Nat.le_of_ble_eq_true rfl) (Nat.le_of_ble_eq_true rfl) (st2 := [.int z150.1]) rfl ?_
          refine aw_goto (tgt := 160) C dX6_readsItem_153 (by decide) ?_
          obtain ⟨hz, he⟩ := ifs he
          have he := Option.some.inj he
          subst he
          exact aw_zret C X hz dX6_readsItem_160 (by decide) (by decide)
        · have he := iff_ hc he
          refine aw_aload_n C dX6_readsItem_156 rfl (j := 0) rfl ?_
          obtain ⟨hO, he⟩ := ifs he
          obtain ⟨z157, hv, he⟩ := ob he
          refine aw_callV (ci := 6) C mb_X6_114 ⟨q_914, q_42, rfl⟩ hO (cX6_readsPen_ _ _ _ _ hv) dX6_readsItem_157 rfl (rest := []) rfl (cat_le _ (Nat.le_of_ble_eq_true rfl)) (Nat.le_of_ble_eq_true rfl) (Nat.le_of_ble_eq_true rfl) (Nat.le_of_ble_eq_true rfl) (st2 := [.int z157.1]) rfl ?_
          obtain ⟨hz, he⟩ := ifs he
          have he := Option.some.inj he
          subst he
          exact aw_zret C X hz dX6_readsItem_160 (by decide) (by decide)
set_option maxHeartbeats 4000000 in
set_option maxRecDepth 100000 in
theorem wX6_readsItem_j44 {Γ : GG} (C : CX Γ cX6_readsItem 4 RX6 4 0 0) {N : Nat} {sz : Nat} {out : Int32 × Hp} (X : RX Γ (some .boolean) (some (.int out.1)) out.2 sz 0 0) {h : Hp} {l0 : Option Nat} {l1 : Int32} {s0 : Int32} (he : fX6_readsItem_j44 N h l0 l1 s0 = some out) : AW Γ 4 h sz 0 0 44 [(0, .inr l0), (1, .inl l1)] [.int s0] := by
  unfold fX6_readsItem_j44 at he
  refine aw_istore_n C dX6_readsItem_44 rfl (by decide) rfl (lv' := [(0, .inr l0), (1, .inl l1), (2, .inl s0)]) rfl ?_
  refine aw_iload_n C dX6_readsItem_45 rfl (j := 1) rfl ?_
  refine aw_bipush (v := 114) C dX6_readsItem_46 (by decide) ?_
  refine aw_ic_ne (tgt := 67) C dX6_readsItem_48 (by decide) (fun hc => ?_) (fun hc => ?_)
  · have he := ift hc he
    refine aw_aload_n C dX6_readsItem_51 rfl (j := 0) rfl ?_
    obtain ⟨v52, hv, he⟩ := ob he
    refine aw_gI C fk_X6_95 dX6_readsItem_52 hv ?_
    refine aw_iconst (v := 4) C dX6_readsItem_55 (by decide) ?_
    refine aw_ic_ge (tgt := 63) C dX6_readsItem_56 (by decide) (fun hc => ?_) (fun hc => ?_)
    · have he := ift hc he
      refine aw_iconst (v := 0) C dX6_readsItem_63 (by decide) ?_
      refine aw_goto (tgt := 109) C dX6_readsItem_64 (by decide) ?_
      exact wX6_readsItem_j109 C X he
    · have he := iff_ hc he
      refine aw_iconst (v := 1) C dX6_readsItem_59 (by decide) ?_
      refine aw_goto (tgt := 109) C dX6_readsItem_60 (by decide) ?_
      exact wX6_readsItem_j109 C X he
  · have he := iff_ hc he
    refine aw_iload_n C dX6_readsItem_67 rfl (j := 1) rfl ?_
    refine aw_bipush (v := 119) C dX6_readsItem_68 (by decide) ?_
    refine aw_ic_ne (tgt := 90) C dX6_readsItem_70 (by decide) (fun hc => ?_) (fun hc => ?_)
    · have he := ift hc he
      refine aw_aload_n C dX6_readsItem_73 rfl (j := 0) rfl ?_
      obtain ⟨v74, hv, he⟩ := ob he
      refine aw_gI C fk_X6_102 dX6_readsItem_74 hv ?_
      refine aw_bipush (v := 6) C dX6_readsItem_77 (by decide) ?_
      refine aw_ic_ge (tgt := 86) C dX6_readsItem_79 (by decide) (fun hc => ?_) (fun hc => ?_)
      · have he := ift hc he
        refine aw_iconst (v := 0) C dX6_readsItem_86 (by decide) ?_
        refine aw_goto (tgt := 109) C dX6_readsItem_87 (by decide) ?_
        exact wX6_readsItem_j109 C X he
      · have he := iff_ hc he
        refine aw_iconst (v := 1) C dX6_readsItem_82 (by decide) ?_
        refine aw_goto (tgt := 109) C dX6_readsItem_83 (by decide) ?_
        exact wX6_readsItem_j109 C X he
    · have he := iff_ hc he
      refine aw_iload_n C dX6_readsItem_90 rfl (j := 1) rfl ?_
      refine aw_bipush (v := 112) C dX6_readsItem_91 (by decide) ?_
      refine aw_ic_ne (tgt := 108) C dX6_readsItem_93 (by decide) (fun hc => ?_) (fun hc => ?_)
      · have he := ift hc he
        refine aw_aload_n C dX6_readsItem_96 rfl (j := 0) rfl ?_
        obtain ⟨v97, hv, he⟩ := ob he
        refine aw_gI C fk_X6_105 dX6_readsItem_97 hv ?_
        refine aw_iconst (v := 4) C dX6_readsItem_100 (by decide) ?_
        refine aw_ic_ge (tgt := 108) C dX6_readsItem_101 (by decide) (fun hc => ?_) (fun hc => ?_)
        · have he := ift hc he
          refine aw_iconst (v := 0) C dX6_readsItem_108 (by decide) ?_
          exact wX6_readsItem_j109 C X he
        · have he := iff_ hc he
          refine aw_iconst (v := 1) C dX6_readsItem_104 (by decide) ?_
          refine aw_goto (tgt := 109) C dX6_readsItem_105 (by decide) ?_
          exact wX6_readsItem_j109 C X he
      · have he := iff_ hc he
        refine aw_iconst (v := 0) C dX6_readsItem_108 (by decide) ?_
        exact wX6_readsItem_j109 C X he
set_option maxHeartbeats 4000000 in
set_option maxRecDepth 100000 in
theorem wX6_readsItem {Γ : GG} (C : CX Γ cX6_readsItem 4 RX6 4 0 0) {N : Nat} {sz : Nat} {out : Int32 × Hp} (X : RX Γ (some .boolean) (some (.int out.1)) out.2 sz 0 0) {h : Hp} {l0 : Option Nat} (he : fX6_readsItem N h l0 = some out) : AW Γ 4 h sz 0 0 0 [(0, .inr l0)] [] := by
  unfold fX6_readsItem at he
  refine aw_aload_n C dX6_readsItem_0 rfl (j := 0) rfl ?_
  obtain ⟨hO, he⟩ := ifs he
  obtain ⟨v1, hv, he⟩ := ob he
  refine aw_callV (ci := 6) C mb_X6_81 ⟨q_890, q_36, rfl⟩ hO (cX6_here_ _ _ _ _ hv) dX6_readsItem_1 rfl (rest := []) rfl (cat_le _ (Nat.le_of_ble_eq_true rfl)) (Nat.le_of_ble_eq_true rfl) (Nat.le_of_ble_eq_true rfl) (Nat.le_of_ble_eq_true rfl) (st2 := [.int v1]) rfl ?_
  refine aw_istore_n C dX6_readsItem_4 rfl (by decide) rfl (lv' := [(0, .inr l0), (1, .inl v1)]) rfl ?_
  refine aw_aload_n C dX6_readsItem_5 rfl (j := 0) rfl ?_
  obtain ⟨v6, hv, he⟩ := ob he
  refine aw_gI C fk_X6_78 dX6_readsItem_6 hv ?_
  refine aw_iconst (v := 1) C dX6_readsItem_9 (by decide) ?_
  refine aw_iadd C dX6_readsItem_10 ?_
  refine aw_aload_n C dX6_readsItem_11 rfl (j := 0) rfl ?_
  obtain ⟨v12, hv, he⟩ := ob he
  refine aw_gI C fk_X6_75 dX6_readsItem_12 hv ?_
  refine aw_ic_ge (tgt := 39) C dX6_readsItem_15 (by decide) (fun hc => ?_) (fun hc => ?_)
  · have he := ift hc he
    refine aw_iconst (v := 1) C dX6_readsItem_39 (by decide) ?_
    refine aw_goto (tgt := 44) C dX6_readsItem_40 (by decide) ?_
    exact wX6_readsItem_j44 C X he
  · have he := iff_ hc he
    refine aw_aload_n C dX6_readsItem_18 rfl (j := 0) rfl ?_
    obtain ⟨v19, hv, he⟩ := ob he
    refine aw_gA C fk_X6_28 dX6_readsItem_19 hv ?_
    refine aw_aload_n C dX6_readsItem_22 rfl (j := 0) rfl ?_
    obtain ⟨v23, hv, he⟩ := ob he
    refine aw_gI C fk_X6_78 dX6_readsItem_23 hv ?_
    refine aw_iconst (v := 1) C dX6_readsItem_26 (by decide) ?_
    refine aw_iadd C dX6_readsItem_27 ?_
    obtain ⟨v28, hv, he⟩ := ob he
    refine aw_iald C dX6_readsItem_28 hv ?_
    refine aw_bipush (v := 97) C dX6_readsItem_29 (by decide) ?_
    refine aw_bipush (v := 122) C dX6_readsItem_31 (by decide) ?_
    obtain ⟨v33, hv, he⟩ := ob he
    refine aw_callS C mb_X6_62 q_874 (cX6_in_ _ _ _ _ hv) dX6_readsItem_33 rfl (rest := []) rfl (cat_le _ (Nat.le_of_ble_eq_true rfl)) (Nat.le_of_ble_eq_true rfl) (Nat.le_of_ble_eq_true rfl) (Nat.le_of_ble_eq_true rfl) (st2 := [.int v33]) rfl ?_
    refine aw_if_ne (tgt := 43) C dX6_readsItem_36 (by decide) (fun hc => ?_) (fun hc => ?_)
    · have he := ift hc he
      refine aw_iconst (v := 1) C dX6_readsItem_39 (by decide) ?_
      refine aw_goto (tgt := 44) C dX6_readsItem_40 (by decide) ?_
      exact wX6_readsItem_j44 C X he
    · have he := iff_ hc he
      refine aw_iconst (v := 0) C dX6_readsItem_43 (by decide) ?_
      exact wX6_readsItem_j44 C X he
theorem cX6_readsItem_ (l : Launch) (D : va_G) (dA : Nat → ClassId) (base : Nat) {N : Nat} {h : Hp} {sz : Nat} {l0 : Option Nat} {out : Int32 × Hp} (he : fX6_readsItem N h l0 = some out) : AM l D dA base yX6_readsItem cX6_readsItem 4 (some .boolean) 4 0 0 [.inr l0] h sz (some (.int out.1)) out.2 sz :=
  AM.of (by decide +kernel) (Nat.le_of_ble_eq_true rfl) rfl (fun Γ C X hn => wX6_readsItem C X he)
