set_option maxHeartbeats 4000000 in
set_option maxRecDepth 100000 in
theorem wX6_box_L26 {Γ : GG} (C : CX Γ cX6_box 3 RX6 5 0 0) {N : Nat} {sz : Nat} {α : Type} {out : α} {K44 : Hp → Option Nat → Option α} (k44 : ∀ (h : Hp) (l0 : Option Nat), K44 h l0 = some out → AW Γ 3 h sz 0 0 44 [(0, .inr l0)] []) {K62 : Hp → Option Nat → Int32 → Option α} (k62 : ∀ (h : Hp) (l0 : Option Nat) (l1 : Int32), K62 h l0 l1 = some out → AW Γ 3 h sz 0 0 62 [(0, .inr l0), (1, .inl l1)] []) : ∀ (n : Nat) (h : Hp) (l0 : Option Nat) (l1 : Int32), fX6_box_L26 N K44 K62 n h l0 l1 = some out → AW Γ 3 h sz 0 0 26 [(0, .inr l0), (1, .inl l1)] [] := by
  intro n
  induction n with
  | zero =>
    intro h l0 l1 he
    rw [fX6_box_L26] at he
    cases he
  | succ n ih =>
    intro h l0 l1 he
    rw [fX6_box_L26] at he
    refine aw_aload_n C dX6_box_26 rfl (j := 0) rfl ?_
    obtain ⟨v27, hv, he⟩ := ob he
    refine aw_gI C fk_X6_78 dX6_box_27 hv ?_
    refine aw_aload_n C dX6_box_30 rfl (j := 0) rfl ?_
    obtain ⟨v31, hv, he⟩ := ob he
    refine aw_gI C fk_X6_75 dX6_box_31 hv ?_
    refine aw_ic_ge (tgt := 62) C dX6_box_34 (by decide) (fun hc => ?_) (fun hc => ?_)
    · have he := ift hc he
      exact k62 _ _ _ he
    · have he := iff_ hc he
      refine aw_aload_n C dX6_box_37 rfl (j := 0) rfl ?_
      obtain ⟨hO, he⟩ := ifs he
      obtain ⟨z38, hv, he⟩ := ob he
      refine aw_callV (ci := 6) C mb_X6_117 ⟨q_894, q_37, rfl⟩ hO (cX6_readsItem_ _ _ _ _ hv) dX6_box_38 rfl (rest := []) rfl (cat_le _ (Nat.le_of_ble_eq_true rfl)) (Nat.le_of_ble_eq_true rfl) (Nat.le_of_ble_eq_true rfl) (Nat.le_of_ble_eq_true rfl) (st2 := [.int z38.1]) rfl ?_
      refine aw_if_ne (tgt := 52) C dX6_box_41 (by decide) (fun hc => ?_) (fun hc => ?_)
      · have he := ift hc he
        refine aw_sub [0] (lv' := [(0, .inr l0)]) rfl ?_
        exact k44 _ _ he
      · have he := iff_ hc he
        refine aw_iinc (y := 1) C dX6_box_52 (by decide) (j := 1) rfl (by decide) rfl (lv' := [(0, .inr l0), (1, .inl (l1 + 1))]) rfl ?_
        refine aw_aload_n C dX6_box_55 rfl (j := 0) rfl ?_
        obtain ⟨hO, he⟩ := ifs he
        obtain ⟨z56, hv, he⟩ := ob he
        refine aw_callV (ci := 6) C mb_X6_85 ⟨q_886, q_35, rfl⟩ hO (cX6_skip_ _ _ _ _ hv) dX6_box_56 rfl (rest := []) rfl (cat_le _ (Nat.le_of_ble_eq_true rfl)) (Nat.le_of_ble_eq_true rfl) (Nat.le_of_ble_eq_true rfl) (Nat.le_of_ble_eq_true rfl) (st2 := []) rfl ?_
        refine aw_goto (tgt := 26) C dX6_box_59 (by decide) ?_
        exact ih _ _ _ he
set_option maxHeartbeats 4000000 in
set_option maxRecDepth 100000 in
theorem wX6_box_L93 {Γ : GG} (C : CX Γ cX6_box 3 RX6 5 0 0) {N : Nat} {sz : Nat} {α : Type} {out : α} {K119 : Hp → Option Nat → Int32 → Option α} (k119 : ∀ (h : Hp) (l0 : Option Nat) (l1 : Int32), K119 h l0 l1 = some out → AW Γ 3 h sz 0 0 119 [(0, .inr l0), (1, .inl l1)] []) : ∀ (n : Nat) (h : Hp) (l0 : Option Nat) (l1 : Int32) (l2 : Int32), fX6_box_L93 N K119 n h l0 l1 l2 = some out → AW Γ 3 h sz 0 0 93 [(0, .inr l0), (1, .inl l1), (2, .inl l2)] [] := by
  intro n
  induction n with
  | zero =>
    intro h l0 l1 l2 he
    rw [fX6_box_L93] at he
    cases he
  | succ n ih =>
    intro h l0 l1 l2 he
    rw [fX6_box_L93] at he
    refine aw_iload_n C dX6_box_93 rfl (j := 2) rfl ?_
    refine aw_aload_n C dX6_box_94 rfl (j := 0) rfl ?_
    obtain ⟨v95, hv, he⟩ := ob he
    refine aw_gI C fk_X6_58 dX6_box_95 hv ?_
    refine aw_ic_ge (tgt := 119) C dX6_box_98 (by decide) (fun hc => ?_) (fun hc => ?_)
    · have he := ift hc he
      refine aw_sub [0, 1] (lv' := [(0, .inr l0), (1, .inl l1)]) rfl ?_
      exact k119 _ _ _ he
    · have he := iff_ hc he
      refine aw_aload_n C dX6_box_101 rfl (j := 0) rfl ?_
      obtain ⟨v102, hv, he⟩ := ob he
      refine aw_gA C fk_X6_7 dX6_box_102 hv ?_
      refine aw_iload_n C dX6_box_105 rfl (j := 2) rfl ?_
      refine aw_aload_n C dX6_box_106 rfl (j := 0) rfl ?_
      obtain ⟨v107, hv, he⟩ := ob he
      refine aw_gA C fk_X6_31 dX6_box_107 hv ?_
      refine aw_iload_n C dX6_box_110 rfl (j := 2) rfl ?_
      obtain ⟨v111, hv, he⟩ := ob he
      refine aw_iald C dX6_box_111 hv ?_
      obtain ⟨h112, hv, he⟩ := ob he
      refine aw_iast C dX6_box_112 hv ?_
      refine aw_iinc (y := 1) C dX6_box_113 (by decide) (j := 2) rfl (by decide) rfl (lv' := [(0, .inr l0), (1, .inl l1), (2, .inl (l2 + 1))]) rfl ?_
      refine aw_goto (tgt := 93) C dX6_box_116 (by decide) ?_
      exact ih _ _ _ _ he
set_option maxHeartbeats 4000000 in
set_option maxRecDepth 100000 in
theorem wX6_box_L121 {Γ : GG} (C : CX Γ cX6_box 3 RX6 5 0 0) {N : Nat} {sz : Nat} {α : Type} {out : α} {K147 : Hp → Option Nat → Int32 → Option α} (k147 : ∀ (h : Hp) (l0 : Option Nat) (l1 : Int32), K147 h l0 l1 = some out → AW Γ 3 h sz 0 0 147 [(0, .inr l0), (1, .inl l1)] []) : ∀ (n : Nat) (h : Hp) (l0 : Option Nat) (l1 : Int32) (l2 : Int32), fX6_box_L121 N K147 n h l0 l1 l2 = some out → AW Γ 3 h sz 0 0 121 [(0, .inr l0), (1, .inl l1), (2, .inl l2)] [] := by
  intro n
  induction n with
  | zero =>
    intro h l0 l1 l2 he
    rw [fX6_box_L121] at he
    cases he
  | succ n ih =>
    intro h l0 l1 l2 he
    rw [fX6_box_L121] at he
    refine aw_iload_n C dX6_box_121 rfl (j := 2) rfl ?_
    refine aw_aload_n C dX6_box_122 rfl (j := 0) rfl ?_
    obtain ⟨v123, hv, he⟩ := ob he
    refine aw_gI C fk_X6_66 dX6_box_123 hv ?_
    refine aw_ic_ge (tgt := 147) C dX6_box_126 (by decide) (fun hc => ?_) (fun hc => ?_)
    · have he := ift hc he
      refine aw_sub [0, 1] (lv' := [(0, .inr l0), (1, .inl l1)]) rfl ?_
      exact k147 _ _ _ he
    · have he := iff_ hc he
      refine aw_aload_n C dX6_box_129 rfl (j := 0) rfl ?_
      obtain ⟨v130, hv, he⟩ := ob he
      refine aw_gA C fk_X6_13 dX6_box_130 hv ?_
      refine aw_iload_n C dX6_box_133 rfl (j := 2) rfl ?_
      refine aw_aload_n C dX6_box_134 rfl (j := 0) rfl ?_
      obtain ⟨v135, hv, he⟩ := ob he
      refine aw_gA C fk_X6_34 dX6_box_135 hv ?_
      refine aw_iload_n C dX6_box_138 rfl (j := 2) rfl ?_
      obtain ⟨v139, hv, he⟩ := ob he
      refine aw_iald C dX6_box_139 hv ?_
      obtain ⟨h140, hv, he⟩ := ob he
      refine aw_iast C dX6_box_140 hv ?_
      refine aw_iinc (y := 1) C dX6_box_141 (by decide) (j := 2) rfl (by decide) rfl (lv' := [(0, .inr l0), (1, .inl l1), (2, .inl (l2 + 1))]) rfl ?_
      refine aw_goto (tgt := 121) C dX6_box_144 (by decide) ?_
      exact ih _ _ _ _ he
set_option maxHeartbeats 4000000 in
set_option maxRecDepth 100000 in
theorem wX6_box_L149 {Γ : GG} (C : CX Γ cX6_box 3 RX6 5 0 0) {N : Nat} {sz : Nat} {α : Type} {out : α} {K175 : Hp → Option Nat → Int32 → Option α} (k175 : ∀ (h : Hp) (l0 : Option Nat) (l1 : Int32), K175 h l0 l1 = some out → AW Γ 3 h sz 0 0 175 [(0, .inr l0), (1, .inl l1)] []) : ∀ (n : Nat) (h : Hp) (l0 : Option Nat) (l1 : Int32) (l2 : Int32), fX6_box_L149 N K175 n h l0 l1 l2 = some out → AW Γ 3 h sz 0 0 149 [(0, .inr l0), (1, .inl l1), (2, .inl l2)] [] := by
  intro n
  induction n with
  | zero =>
    intro h l0 l1 l2 he
    rw [fX6_box_L149] at he
    cases he
  | succ n ih =>
    intro h l0 l1 l2 he
    rw [fX6_box_L149] at he
    refine aw_iload_n C dX6_box_149 rfl (j := 2) rfl ?_
    refine aw_aload_n C dX6_box_150 rfl (j := 0) rfl ?_
    obtain ⟨v151, hv, he⟩ := ob he
    refine aw_gI C fk_X6_69 dX6_box_151 hv ?_
    refine aw_ic_ge (tgt := 175) C dX6_box_154 (by decide) (fun hc => ?_) (fun hc => ?_)
    · have he := ift hc he
      refine aw_sub [0, 1] (lv' := [(0, .inr l0), (1, .inl l1)]) rfl ?_
      exact k175 _ _ _ he
    · have he := iff_ hc he
      refine aw_aload_n C dX6_box_157 rfl (j := 0) rfl ?_
      obtain ⟨v158, hv, he⟩ := ob he
      refine aw_gA C fk_X6_16 dX6_box_158 hv ?_
      refine aw_iload_n C dX6_box_161 rfl (j := 2) rfl ?_
      refine aw_aload_n C dX6_box_162 rfl (j := 0) rfl ?_
      obtain ⟨v163, hv, he⟩ := ob he
      refine aw_gA C fk_X6_37 dX6_box_163 hv ?_
      refine aw_iload_n C dX6_box_166 rfl (j := 2) rfl ?_
      obtain ⟨v167, hv, he⟩ := ob he
      refine aw_iald C dX6_box_167 hv ?_
      obtain ⟨h168, hv, he⟩ := ob he
      refine aw_iast C dX6_box_168 hv ?_
      refine aw_iinc (y := 1) C dX6_box_169 (by decide) (j := 2) rfl (by decide) rfl (lv' := [(0, .inr l0), (1, .inl l1), (2, .inl (l2 + 1))]) rfl ?_
      refine aw_goto (tgt := 149) C dX6_box_172 (by decide) ?_
      exact ih _ _ _ _ he
set_option maxHeartbeats 4000000 in
set_option maxRecDepth 100000 in
theorem wX6_box {Γ : GG} (C : CX Γ cX6_box 3 RX6 5 0 0) {N : Nat} {sz : Nat} {out : Int32 × Hp} (X : RX Γ (some .int) (some (.int out.1)) out.2 sz 0 0) {h : Hp} {l0 : Option Nat} (he : fX6_box N h l0 = some out) : AW Γ 3 h sz 0 0 0 [(0, .inr l0)] [] := by
  unfold fX6_box at he
  refine aw_aload_n C dX6_box_0 rfl (j := 0) rfl ?_
  refine aw_iconst (v := 0) C dX6_box_1 (by decide) ?_
  obtain ⟨h2, hv, he⟩ := ob he
  refine aw_put C fk_X6_78 dX6_box_2 rfl rfl hv ?_
  refine aw_aload_n C dX6_box_5 rfl (j := 0) rfl ?_
  refine aw_iconst (v := 0) C dX6_box_6 (by decide) ?_
  obtain ⟨h7, hv, he⟩ := ob he
  refine aw_put C fk_X6_95 dX6_box_7 rfl rfl hv ?_
  refine aw_aload_n C dX6_box_10 rfl (j := 0) rfl ?_
  refine aw_iconst (v := 0) C dX6_box_11 (by decide) ?_
  obtain ⟨h12, hv, he⟩ := ob he
  refine aw_put C fk_X6_102 dX6_box_12 rfl rfl hv ?_
  refine aw_aload_n C dX6_box_15 rfl (j := 0) rfl ?_
  refine aw_iconst (v := 0) C dX6_box_16 (by decide) ?_
  obtain ⟨h17, hv, he⟩ := ob he
  refine aw_put C fk_X6_105 dX6_box_17 rfl rfl hv ?_
  refine aw_iconst (v := 0) C dX6_box_20 (by decide) ?_
  refine aw_istore_n C dX6_box_21 rfl (by decide) rfl (lv' := [(0, .inr l0), (1, .inl (0 : Int32))]) rfl ?_
  refine aw_aload_n C dX6_box_22 rfl (j := 0) rfl ?_
  obtain ⟨hO, he⟩ := ifs he
  obtain ⟨z23, hv, he⟩ := ob he
  refine aw_callV (ci := 6) C mb_X6_85 ⟨q_886, q_35, rfl⟩ hO (cX6_skip_ _ _ _ _ hv) dX6_box_23 rfl (rest := []) rfl (cat_le _ (Nat.le_of_ble_eq_true rfl)) (Nat.le_of_ble_eq_true rfl) (Nat.le_of_ble_eq_true rfl) (Nat.le_of_ble_eq_true rfl) (st2 := []) rfl ?_
  refine wX6_box_L26 C ?_ ?_ N _ _ _ he
  · intro h l0 he
    refine aw_bipush (v := -10) C dX6_box_44 (by decide) ?_
    refine aw_aload_n C dX6_box_46 rfl (j := 0) rfl ?_
    obtain ⟨v47, hv, he⟩ := ob he
    refine aw_gI C fk_X6_78 dX6_box_47 hv ?_
    refine aw_isub C dX6_box_50 ?_
    have he := Option.some.inj he
    subst he
    exact aw_iret C X dX6_box_51 (by decide) (by decide)
  · intro h l0 l1 he
    refine aw_aload_n C dX6_box_62 rfl (j := 0) rfl ?_
    refine aw_iconst (v := 0) C dX6_box_63 (by decide) ?_
    obtain ⟨h64, hv, he⟩ := ob he
    refine aw_put C fk_X6_75 dX6_box_64 rfl rfl hv ?_
    refine aw_aload_n C dX6_box_67 rfl (j := 0) rfl ?_
    refine aw_aload_n C dX6_box_68 rfl (j := 0) rfl ?_
    obtain ⟨v69, hv, he⟩ := ob he
    refine aw_gI C fk_X6_95 dX6_box_69 hv ?_
    obtain ⟨h72, hv, he⟩ := ob he
    refine aw_put C fk_X6_58 dX6_box_72 rfl rfl hv ?_
    refine aw_aload_n C dX6_box_75 rfl (j := 0) rfl ?_
    refine aw_aload_n C dX6_box_76 rfl (j := 0) rfl ?_
    obtain ⟨v77, hv, he⟩ := ob he
    refine aw_gI C fk_X6_102 dX6_box_77 hv ?_
    obtain ⟨h80, hv, he⟩ := ob he
    refine aw_put C fk_X6_66 dX6_box_80 rfl rfl hv ?_
    refine aw_aload_n C dX6_box_83 rfl (j := 0) rfl ?_
    refine aw_aload_n C dX6_box_84 rfl (j := 0) rfl ?_
    obtain ⟨v85, hv, he⟩ := ob he
    refine aw_gI C fk_X6_105 dX6_box_85 hv ?_
    obtain ⟨h88, hv, he⟩ := ob he
    refine aw_put C fk_X6_69 dX6_box_88 rfl rfl hv ?_
    refine aw_iconst (v := 0) C dX6_box_91 (by decide) ?_
    refine aw_istore_n C dX6_box_92 rfl (by decide) rfl (lv' := [(0, .inr l0), (1, .inl l1), (2, .inl (0 : Int32))]) rfl ?_
    refine wX6_box_L93 C ?_ N _ _ _ _ he
    intro h l0 l1 he
    refine aw_iconst (v := 0) C dX6_box_119 (by decide) ?_
    refine aw_istore_n C dX6_box_120 rfl (by decide) rfl (lv' := [(0, .inr l0), (1, .inl l1), (2, .inl (0 : Int32))]) rfl ?_
    refine wX6_box_L121 C ?_ N _ _ _ _ he
    intro h l0 l1 he
    refine aw_iconst (v := 0) C dX6_box_147 (by decide) ?_
    refine aw_istore_n C dX6_box_148 rfl (by decide) rfl (lv' := [(0, .inr l0), (1, .inl l1), (2, .inl (0 : Int32))]) rfl ?_
    refine wX6_box_L149 C ?_ N _ _ _ _ he
    intro h l0 l1 he
    refine aw_aload_n C dX6_box_175 rfl (j := 0) rfl ?_
    refine aw_iconst (v := 0) C dX6_box_176 (by decide) ?_
    obtain ⟨h177, hv, he⟩ := ob he
    refine aw_put C fk_X6_120 dX6_box_177 rfl rfl hv ?_
    refine aw_aload_n C dX6_box_180 rfl (j := 0) rfl ?_
    refine aw_iconst (v := 0) C dX6_box_181 (by decide) ?_
    obtain ⟨h182, hv, he⟩ := ob he
    refine aw_put C fk_X6_72 dX6_box_182 rfl rfl hv ?_
    refine aw_aload_n C dX6_box_185 rfl (j := 0) rfl ?_
    refine aw_iconst (v := 0) C dX6_box_186 (by decide) ?_
    obtain ⟨h187, hv, he⟩ := ob he
    refine aw_put C fk_X6_123 dX6_box_187 rfl rfl hv ?_
    refine aw_aload_n C dX6_box_190 rfl (j := 0) rfl ?_
    refine aw_iconst (v := 0) C dX6_box_191 (by decide) ?_
    obtain ⟨h192, hv, he⟩ := ob he
    refine aw_put C fk_X6_126 dX6_box_192 rfl rfl hv ?_
    refine aw_aload_n C dX6_box_195 rfl (j := 0) rfl ?_
    obtain ⟨v196, hv, he⟩ := ob he
    refine aw_gA C fk_X6_55 dX6_box_196 hv ?_
    refine aw_iconst (v := 0) C dX6_box_199 (by decide) ?_
    refine aw_iconst (v := 0) C dX6_box_200 (by decide) ?_
    obtain ⟨h201, hv, he⟩ := ob he
    refine aw_iast C dX6_box_201 hv ?_
    refine aw_aload_n C dX6_box_202 rfl (j := 0) rfl ?_
    obtain ⟨v203, hv, he⟩ := ob he
    refine aw_gA C fk_X6_55 dX6_box_203 hv ?_
    refine aw_sipush (v := 860) C dX6_box_206 (by decide) ?_
    refine aw_iconst (v := 0) C dX6_box_209 (by decide) ?_
    obtain ⟨h210, hv, he⟩ := ob he
    refine aw_iast C dX6_box_210 hv ?_
    refine aw_iload_n C dX6_box_211 rfl (j := 1) rfl ?_
    have he := Option.some.inj he
    subst he
    exact aw_iret C X dX6_box_212 (by decide) (by decide)
theorem cX6_box_ (l : Launch) (D : va_G) (dA : Nat → ClassId) (base : Nat) {N : Nat} {h : Hp} {sz : Nat} {l0 : Option Nat} {out : Int32 × Hp} (he : fX6_box N h l0 = some out) : AM l D dA base yX6_box cX6_box 3 (some .int) 5 0 0 [.inr l0] h sz (some (.int out.1)) out.2 sz :=
  AM.of (by decide +kernel) (Nat.le_of_ble_eq_true rfl) rfl (fun Γ C X hn => wX6_box C X he)
set_option maxHeartbeats 4000000 in
set_option maxRecDepth 100000 in
theorem wX0_hasRing {Γ : GG} (C : CX Γ cX0_hasRing 2 RX0 0 0 0) {N : Nat} {sz : Nat} {h : Hp} {out : Int32} (X : RX Γ (some .boolean) (some (.int out)) h sz 0 0) {l0 : Option Nat} {l1 : Int32} (he : fX0_hasRing N h l0 l1 = some out) : AW Γ 2 h sz 0 0 0 [(0, .inr l0), (1, .inl l1)] [] := by
  unfold fX0_hasRing at he
  refine aw_iload_n C dX0_hasRing_0 rfl (j := 1) rfl ?_
  refine aw_if_lt (tgt := 16) C dX0_hasRing_1 (by decide) (fun hc => ?_) (fun hc => ?_)
  · have he := ift hc he
    refine aw_iconst (v := 0) C dX0_hasRing_16 (by decide) ?_
    have he := Option.some.inj he
    subst he
    exact aw_zret C X (by decide) dX0_hasRing_17 (by decide) (by decide)
  · have he := iff_ hc he
    refine aw_iload_n C dX0_hasRing_4 rfl (j := 1) rfl ?_
    refine aw_aload_n C dX0_hasRing_5 rfl (j := 0) rfl ?_
    obtain ⟨v6, hv, he⟩ := ob he
    refine aw_gI C fk_X0_21 dX0_hasRing_6 hv ?_
    refine aw_ic_ge (tgt := 16) C dX0_hasRing_9 (by decide) (fun hc => ?_) (fun hc => ?_)
    · have he := ift hc he
      refine aw_iconst (v := 0) C dX0_hasRing_16 (by decide) ?_
      have he := Option.some.inj he
      subst he
      exact aw_zret C X (by decide) dX0_hasRing_17 (by decide) (by decide)
    · have he := iff_ hc he
      refine aw_iconst (v := 1) C dX0_hasRing_12 (by decide) ?_
      refine aw_goto (tgt := 17) C dX0_hasRing_13 (by decide) ?_
      have he := Option.some.inj he
      subst he
      exact aw_zret C X (by decide) dX0_hasRing_17 (by decide) (by decide)
theorem cX0_hasRing_ (l : Launch) (D : va_G) (dA : Nat → ClassId) (base : Nat) {N : Nat} {h : Hp} {sz : Nat} {l0 : Option Nat} {l1 : Int32} {out : Int32} (he : fX0_hasRing N h l0 l1 = some out) : AM l D dA base yX0_hasRing cX0_hasRing 2 (some .boolean) 0 0 0 [.inr l0, .inl l1] h sz (some (.int out)) h sz :=
  AM.of (by decide +kernel) (Nat.le_of_ble_eq_true rfl) rfl (fun Γ C X hn => wX0_hasRing C X he)
set_option maxHeartbeats 4000000 in
set_option maxRecDepth 100000 in
theorem wX0_teethOf {Γ : GG} (C : CX Γ cX0_teethOf 2 RX0 1 0 0) {N : Nat} {sz : Nat} {h : Hp} {out : Int32} (X : RX Γ (some .int) (some (.int out)) h sz 0 0) {l0 : Option Nat} {l1 : Int32} (he : fX0_teethOf N h l0 l1 = some out) : AW Γ 2 h sz 0 0 0 [(0, .inr l0), (1, .inl l1)] [] := by
  unfold fX0_teethOf at he
  refine aw_aload_n C dX0_teethOf_0 rfl (j := 0) rfl ?_
  refine aw_iload_n C dX0_teethOf_1 rfl (j := 1) rfl ?_
  obtain ⟨hO, he⟩ := ifs he
  obtain ⟨v2, hv, he⟩ := ob he
  refine aw_callV (ci := 0) C mb_X0_49 ⟨q_354, q_355, rfl⟩ hO (cX0_hasRing_ _ _ _ _ hv) dX0_teethOf_2 rfl (rest := []) rfl (cat_le _ (Nat.le_of_ble_eq_true rfl)) (Nat.le_of_ble_eq_true rfl) (Nat.le_of_ble_eq_true rfl) (Nat.le_of_ble_eq_true rfl) (st2 := [.int v2]) rfl ?_
  refine aw_if_eq (tgt := 17) C dX0_teethOf_5 (by decide) (fun hc => ?_) (fun hc => ?_)
  · have he := ift hc he
    refine aw_iconst (v := 0) C dX0_teethOf_17 (by decide) ?_
    have he := Option.some.inj he
    subst he
    exact aw_iret C X dX0_teethOf_18 (by decide) (by decide)
  · have he := iff_ hc he
    refine aw_aload_n C dX0_teethOf_8 rfl (j := 0) rfl ?_
    obtain ⟨v9, hv, he⟩ := ob he
    refine aw_gA C fk_X0_9 dX0_teethOf_9 hv ?_
    refine aw_iload_n C dX0_teethOf_12 rfl (j := 1) rfl ?_
    obtain ⟨v13, hv, he⟩ := ob he
    refine aw_iald C dX0_teethOf_13 hv ?_
    refine aw_goto (tgt := 18) C dX0_teethOf_14 (by decide) ?_
    have he := Option.some.inj he
    subst he
    exact aw_iret C X dX0_teethOf_18 (by decide) (by decide)
theorem cX0_teethOf_ (l : Launch) (D : va_G) (dA : Nat → ClassId) (base : Nat) {N : Nat} {h : Hp} {sz : Nat} {l0 : Option Nat} {l1 : Int32} {out : Int32} (he : fX0_teethOf N h l0 l1 = some out) : AM l D dA base yX0_teethOf cX0_teethOf 2 (some .int) 1 0 0 [.inr l0, .inl l1] h sz (some (.int out)) h sz :=
  AM.of (by decide +kernel) (Nat.le_of_ble_eq_true rfl) rfl (fun Γ C X hn => wX0_teethOf C X he)
set_option maxHeartbeats 4000000 in
set_option maxRecDepth 100000 in
theorem wX5_ring {Γ : GG} (C : CX Γ cX5_ring 2 RX5 2 0 0) {N : Nat} {sz : Nat} {h : Hp} {out : Int32} (X : RX Γ (some .int) (some (.int out)) h sz 0 0) {l0 : Option Nat} {l1 : Int32} (he : fX5_ring N h l0 l1 = some out) : AW Γ 2 h sz 0 0 0 [(0, .inr l0), (1, .inl l1)] [] := by
  unfold fX5_ring at he
  refine aw_aload_n C dX5_ring_0 rfl (j := 0) rfl ?_
  obtain ⟨v1, hv, he⟩ := ob he
  refine aw_gA C fk_X5_26 dX5_ring_1 hv ?_
  refine aw_iload_n C dX5_ring_4 rfl (j := 1) rfl ?_
  obtain ⟨hO, he⟩ := ifs he
  obtain ⟨v5, hv, he⟩ := ob he
  refine aw_callV (ci := 0) C mb_X5_99 ⟨q_354, q_355, rfl⟩ hO (cX0_hasRing_ _ _ _ _ hv) dX5_ring_5 rfl (rest := []) rfl (cat_le _ (Nat.le_of_ble_eq_true rfl)) (Nat.le_of_ble_eq_true rfl) (Nat.le_of_ble_eq_true rfl) (Nat.le_of_ble_eq_true rfl) (st2 := [.int v5]) rfl ?_
  refine aw_if_eq (tgt := 22) C dX5_ring_8 (by decide) (fun hc => ?_) (fun hc => ?_)
  · have he := ift hc he
    refine aw_iconst (v := -1) C dX5_ring_22 (by decide) ?_
    have he := Option.some.inj he
    subst he
    exact aw_iret C X dX5_ring_23 (by decide) (by decide)
  · have he := iff_ hc he
    refine aw_aload_n C dX5_ring_11 rfl (j := 0) rfl ?_
    obtain ⟨v12, hv, he⟩ := ob he
    refine aw_gA C fk_X5_26 dX5_ring_12 hv ?_
    refine aw_iload_n C dX5_ring_15 rfl (j := 1) rfl ?_
    obtain ⟨hO, he⟩ := ifs he
    obtain ⟨v16, hv, he⟩ := ob he
    refine aw_callV (ci := 0) C mb_X5_102 ⟨q_358, q_359, rfl⟩ hO (cX0_teethOf_ _ _ _ _ hv) dX5_ring_16 rfl (rest := []) rfl (cat_le _ (Nat.le_of_ble_eq_true rfl)) (Nat.le_of_ble_eq_true rfl) (Nat.le_of_ble_eq_true rfl) (Nat.le_of_ble_eq_true rfl) (st2 := [.int v16]) rfl ?_
    refine aw_goto (tgt := 23) C dX5_ring_19 (by decide) ?_
    have he := Option.some.inj he
    subst he
    exact aw_iret C X dX5_ring_23 (by decide) (by decide)
theorem cX5_ring_ (l : Launch) (D : va_G) (dA : Nat → ClassId) (base : Nat) {N : Nat} {h : Hp} {sz : Nat} {l0 : Option Nat} {l1 : Int32} {out : Int32} (he : fX5_ring N h l0 l1 = some out) : AM l D dA base yX5_ring cX5_ring 2 (some .int) 2 0 0 [.inr l0, .inl l1] h sz (some (.int out)) h sz :=
  AM.of (by decide +kernel) (Nat.le_of_ble_eq_true rfl) rfl (fun Γ C X hn => wX5_ring C X he)
set_option maxHeartbeats 4000000 in
set_option maxRecDepth 100000 in
theorem wX6_isRing {Γ : GG} (C : CX Γ cX6_isRing 2 RX6 1 0 0) {N : Nat} {sz : Nat} {h : Hp} {out : Int32} (X : RX Γ (some .boolean) (some (.int out)) h sz 0 0) {l0 : Option Nat} {l1 : Int32} (he : fX6_isRing N h l0 l1 = some out) : AW Γ 2 h sz 0 0 0 [(0, .inr l0), (1, .inl l1)] [] := by
  unfold fX6_isRing at he
  refine aw_iload_n C dX6_isRing_0 rfl (j := 1) rfl ?_
  refine aw_iconst (v := 0) C dX6_isRing_1 (by decide) ?_
  refine aw_aload_n C dX6_isRing_2 rfl (j := 0) rfl ?_
  obtain ⟨v3, hv, he⟩ := ob he
  refine aw_gI C fk_X6_58 dX6_isRing_3 hv ?_
  refine aw_iconst (v := 1) C dX6_isRing_6 (by decide) ?_
  refine aw_isub C dX6_isRing_7 ?_
  obtain ⟨v8, hv, he⟩ := ob he
  refine aw_callS C mb_X6_62 q_874 (cX6_in_ _ _ _ _ hv) dX6_isRing_8 rfl (rest := []) rfl (cat_le _ (Nat.le_of_ble_eq_true rfl)) (Nat.le_of_ble_eq_true rfl) (Nat.le_of_ble_eq_true rfl) (Nat.le_of_ble_eq_true rfl) (st2 := [.int v8]) rfl ?_
  obtain ⟨hz, he⟩ := ifs he
  have he := Option.some.inj he
  subst he
  exact aw_zret C X hz dX6_isRing_11 (by decide) (by decide)
theorem cX6_isRing_ (l : Launch) (D : va_G) (dA : Nat → ClassId) (base : Nat) {N : Nat} {h : Hp} {sz : Nat} {l0 : Option Nat} {l1 : Int32} {out : Int32} (he : fX6_isRing N h l0 l1 = some out) : AM l D dA base yX6_isRing cX6_isRing 2 (some .boolean) 1 0 0 [.inr l0, .inl l1] h sz (some (.int out)) h sz :=
  AM.of (by decide +kernel) (Nat.le_of_ble_eq_true rfl) rfl (fun Γ C X hn => wX6_isRing C X he)
set_option maxHeartbeats 4000000 in
set_option maxRecDepth 100000 in
theorem wX6_ring {Γ : GG} (C : CX Γ cX6_ring 2 RX6 2 0 0) {N : Nat} {sz : Nat} {h : Hp} {out : Int32} (X : RX Γ (some .int) (some (.int out)) h sz 0 0) {l0 : Option Nat} {l1 : Int32} (he : fX6_ring N h l0 l1 = some out) : AW Γ 2 h sz 0 0 0 [(0, .inr l0), (1, .inl l1)] [] := by
  unfold fX6_ring at he
  refine aw_aload_n C dX6_ring_0 rfl (j := 0) rfl ?_
  refine aw_iload_n C dX6_ring_1 rfl (j := 1) rfl ?_
  obtain ⟨hO, he⟩ := ifs he
  obtain ⟨v2, hv, he⟩ := ob he
  refine aw_callV (ci := 6) C mb_X6_139 ⟨q_922, q_43, rfl⟩ hO (cX6_isRing_ _ _ _ _ hv) dX6_ring_2 rfl (rest := []) rfl (cat_le _ (Nat.le_of_ble_eq_true rfl)) (Nat.le_of_ble_eq_true rfl) (Nat.le_of_ble_eq_true rfl) (Nat.le_of_ble_eq_true rfl) (st2 := [.int v2]) rfl ?_
  refine aw_if_eq (tgt := 17) C dX6_ring_5 (by decide) (fun hc => ?_) (fun hc => ?_)
  · have he := ift hc he
    refine aw_iconst (v := -1) C dX6_ring_17 (by decide) ?_
    have he := Option.some.inj he
    subst he
    exact aw_iret C X dX6_ring_18 (by decide) (by decide)
  · have he := iff_ hc he
    refine aw_aload_n C dX6_ring_8 rfl (j := 0) rfl ?_
    obtain ⟨v9, hv, he⟩ := ob he
    refine aw_gA C fk_X6_7 dX6_ring_9 hv ?_
    refine aw_iload_n C dX6_ring_12 rfl (j := 1) rfl ?_
    obtain ⟨v13, hv, he⟩ := ob he
    refine aw_iald C dX6_ring_13 hv ?_
    refine aw_goto (tgt := 18) C dX6_ring_14 (by decide) ?_
    have he := Option.some.inj he
    subst he
    exact aw_iret C X dX6_ring_18 (by decide) (by decide)
theorem cX6_ring_ (l : Launch) (D : va_G) (dA : Nat → ClassId) (base : Nat) {N : Nat} {h : Hp} {sz : Nat} {l0 : Option Nat} {l1 : Int32} {out : Int32} (he : fX6_ring N h l0 l1 = some out) : AM l D dA base yX6_ring cX6_ring 2 (some .int) 2 0 0 [.inr l0, .inl l1] h sz (some (.int out)) h sz :=
  AM.of (by decide +kernel) (Nat.le_of_ble_eq_true rfl) rfl (fun Γ C X hn => wX6_ring C X he)
set_option maxHeartbeats 4000000 in
set_option maxRecDepth 100000 in
theorem wX0_hasWheel {Γ : GG} (C : CX Γ cX0_hasWheel 2 RX0 0 0 0) {N : Nat} {sz : Nat} {h : Hp} {out : Int32} (X : RX Γ (some .boolean) (some (.int out)) h sz 0 0) {l0 : Option Nat} {l1 : Int32} (he : fX0_hasWheel N h l0 l1 = some out) : AW Γ 2 h sz 0 0 0 [(0, .inr l0), (1, .inl l1)] [] := by
  unfold fX0_hasWheel at he
  refine aw_iload_n C dX0_hasWheel_0 rfl (j := 1) rfl ?_
  refine aw_if_lt (tgt := 16) C dX0_hasWheel_1 (by decide) (fun hc => ?_) (fun hc => ?_)
  · have he := ift hc he
    refine aw_iconst (v := 0) C dX0_hasWheel_16 (by decide) ?_
    have he := Option.some.inj he
    subst he
    exact aw_zret C X (by decide) dX0_hasWheel_17 (by decide) (by decide)
  · have he := iff_ hc he
    refine aw_iload_n C dX0_hasWheel_4 rfl (j := 1) rfl ?_
    refine aw_aload_n C dX0_hasWheel_5 rfl (j := 0) rfl ?_
    obtain ⟨v6, hv, he⟩ := ob he
    refine aw_gI C fk_X0_25 dX0_hasWheel_6 hv ?_
    refine aw_ic_ge (tgt := 16) C dX0_hasWheel_9 (by decide) (fun hc => ?_) (fun hc => ?_)
    · have he := ift hc he
      refine aw_iconst (v := 0) C dX0_hasWheel_16 (by decide) ?_
      have he := Option.some.inj he
      subst he
      exact aw_zret C X (by decide) dX0_hasWheel_17 (by decide) (by decide)
    · have he := iff_ hc he
      refine aw_iconst (v := 1) C dX0_hasWheel_12 (by decide) ?_
      refine aw_goto (tgt := 17) C dX0_hasWheel_13 (by decide) ?_
      have he := Option.some.inj he
      subst he
      exact aw_zret C X (by decide) dX0_hasWheel_17 (by decide) (by decide)
theorem cX0_hasWheel_ (l : Launch) (D : va_G) (dA : Nat → ClassId) (base : Nat) {N : Nat} {h : Hp} {sz : Nat} {l0 : Option Nat} {l1 : Int32} {out : Int32} (he : fX0_hasWheel N h l0 l1 = some out) : AM l D dA base yX0_hasWheel cX0_hasWheel 2 (some .boolean) 0 0 0 [.inr l0, .inl l1] h sz (some (.int out)) h sz :=
  AM.of (by decide +kernel) (Nat.le_of_ble_eq_true rfl) rfl (fun Γ C X hn => wX0_hasWheel C X he)
set_option maxHeartbeats 4000000 in
set_option maxRecDepth 100000 in
theorem wX0_cogsOf {Γ : GG} (C : CX Γ cX0_cogsOf 2 RX0 1 0 0) {N : Nat} {sz : Nat} {h : Hp} {out : Int32} (X : RX Γ (some .int) (some (.int out)) h sz 0 0) {l0 : Option Nat} {l1 : Int32} (he : fX0_cogsOf N h l0 l1 = some out) : AW Γ 2 h sz 0 0 0 [(0, .inr l0), (1, .inl l1)] [] := by
  unfold fX0_cogsOf at he
  refine aw_aload_n C dX0_cogsOf_0 rfl (j := 0) rfl ?_
  refine aw_iload_n C dX0_cogsOf_1 rfl (j := 1) rfl ?_
  obtain ⟨hO, he⟩ := ifs he
  obtain ⟨v2, hv, he⟩ := ob he
  refine aw_callV (ci := 0) C mb_X0_52 ⟨q_367, q_368, rfl⟩ hO (cX0_hasWheel_ _ _ _ _ hv) dX0_cogsOf_2 rfl (rest := []) rfl (cat_le _ (Nat.le_of_ble_eq_true rfl)) (Nat.le_of_ble_eq_true rfl) (Nat.le_of_ble_eq_true rfl) (Nat.le_of_ble_eq_true rfl) (st2 := [.int v2]) rfl ?_
  refine aw_if_eq (tgt := 17) C dX0_cogsOf_5 (by decide) (fun hc => ?_) (fun hc => ?_)
  · have he := ift hc he
    refine aw_iconst (v := 0) C dX0_cogsOf_17 (by decide) ?_
    have he := Option.some.inj he
    subst he
    exact aw_iret C X dX0_cogsOf_18 (by decide) (by decide)
  · have he := iff_ hc he
    refine aw_aload_n C dX0_cogsOf_8 rfl (j := 0) rfl ?_
    obtain ⟨v9, hv, he⟩ := ob he
    refine aw_gA C fk_X0_15 dX0_cogsOf_9 hv ?_
    refine aw_iload_n C dX0_cogsOf_12 rfl (j := 1) rfl ?_
    obtain ⟨v13, hv, he⟩ := ob he
    refine aw_iald C dX0_cogsOf_13 hv ?_
    refine aw_goto (tgt := 18) C dX0_cogsOf_14 (by decide) ?_
    have he := Option.some.inj he
    subst he
    exact aw_iret C X dX0_cogsOf_18 (by decide) (by decide)
theorem cX0_cogsOf_ (l : Launch) (D : va_G) (dA : Nat → ClassId) (base : Nat) {N : Nat} {h : Hp} {sz : Nat} {l0 : Option Nat} {l1 : Int32} {out : Int32} (he : fX0_cogsOf N h l0 l1 = some out) : AM l D dA base yX0_cogsOf cX0_cogsOf 2 (some .int) 1 0 0 [.inr l0, .inl l1] h sz (some (.int out)) h sz :=
  AM.of (by decide +kernel) (Nat.le_of_ble_eq_true rfl) rfl (fun Γ C X hn => wX0_cogsOf C X he)
set_option maxHeartbeats 4000000 in
set_option maxRecDepth 100000 in
theorem wX0_fits {Γ : GG} (C : CX Γ cX0_fits 3 RX0 2 0 0) {N : Nat} {sz : Nat} {h : Hp} {out : Int32} (X : RX Γ (some .boolean) (some (.int out)) h sz 0 0) {l0 : Option Nat} {l1 : Int32} {l2 : Int32} (he : fX0_fits N h l0 l1 l2 = some out) : AW Γ 3 h sz 0 0 0 [(0, .inr l0), (1, .inl l1), (2, .inl l2)] [] := by
  unfold fX0_fits at he
  refine aw_aload_n C dX0_fits_0 rfl (j := 0) rfl ?_
  refine aw_iload_n C dX0_fits_1 rfl (j := 1) rfl ?_
  obtain ⟨hO, he⟩ := ifs he
  obtain ⟨v2, hv, he⟩ := ob he
  refine aw_callV (ci := 0) C mb_X0_49 ⟨q_354, q_355, rfl⟩ hO (cX0_hasRing_ _ _ _ _ hv) dX0_fits_2 rfl (rest := []) rfl (cat_le _ (Nat.le_of_ble_eq_true rfl)) (Nat.le_of_ble_eq_true rfl) (Nat.le_of_ble_eq_true rfl) (Nat.le_of_ble_eq_true rfl) (st2 := [.int v2]) rfl ?_
  refine aw_if_eq (tgt := 33) C dX0_fits_5 (by decide) (fun hc => ?_) (fun hc => ?_)
  · have he := ift hc he
    refine aw_iconst (v := 0) C dX0_fits_33 (by decide) ?_
    have he := Option.some.inj he
    subst he
    exact aw_zret C X (by decide) dX0_fits_34 (by decide) (by decide)
  · have he := iff_ hc he
    refine aw_aload_n C dX0_fits_8 rfl (j := 0) rfl ?_
    refine aw_iload_n C dX0_fits_9 rfl (j := 2) rfl ?_
    obtain ⟨hO, he⟩ := ifs he
    obtain ⟨v10, hv, he⟩ := ob he
    refine aw_callV (ci := 0) C mb_X0_52 ⟨q_367, q_368, rfl⟩ hO (cX0_hasWheel_ _ _ _ _ hv) dX0_fits_10 rfl (rest := []) rfl (cat_le _ (Nat.le_of_ble_eq_true rfl)) (Nat.le_of_ble_eq_true rfl) (Nat.le_of_ble_eq_true rfl) (Nat.le_of_ble_eq_true rfl) (st2 := [.int v10]) rfl ?_
    refine aw_if_eq (tgt := 33) C dX0_fits_13 (by decide) (fun hc => ?_) (fun hc => ?_)
    · have he := ift hc he
      refine aw_iconst (v := 0) C dX0_fits_33 (by decide) ?_
      have he := Option.some.inj he
      subst he
      exact aw_zret C X (by decide) dX0_fits_34 (by decide) (by decide)
    · have he := iff_ hc he
      refine aw_aload_n C dX0_fits_16 rfl (j := 0) rfl ?_
      refine aw_iload_n C dX0_fits_17 rfl (j := 2) rfl ?_
      obtain ⟨hO, he⟩ := ifs he
      obtain ⟨v18, hv, he⟩ := ob he
      refine aw_callV (ci := 0) C mb_X0_61 ⟨q_371, q_372, rfl⟩ hO (cX0_cogsOf_ _ _ _ _ hv) dX0_fits_18 rfl (rest := []) rfl (cat_le _ (Nat.le_of_ble_eq_true rfl)) (Nat.le_of_ble_eq_true rfl) (Nat.le_of_ble_eq_true rfl) (Nat.le_of_ble_eq_true rfl) (st2 := [.int v18]) rfl ?_
      refine aw_aload_n C dX0_fits_21 rfl (j := 0) rfl ?_
      refine aw_iload_n C dX0_fits_22 rfl (j := 1) rfl ?_
      obtain ⟨hO, he⟩ := ifs he
      obtain ⟨v23, hv, he⟩ := ob he
      refine aw_callV (ci := 0) C mb_X0_65 ⟨q_358, q_359, rfl⟩ hO (cX0_teethOf_ _ _ _ _ hv) dX0_fits_23 rfl (rest := [.int v18]) rfl (cat_le _ (Nat.le_of_ble_eq_true rfl)) (Nat.le_of_ble_eq_true rfl) (Nat.le_of_ble_eq_true rfl) (Nat.le_of_ble_eq_true rfl) (st2 := [.int v23, .int v18]) rfl ?_
      refine aw_ic_ge (tgt := 33) C dX0_fits_26 (by decide) (fun hc => ?_) (fun hc => ?_)
      · have he := ift hc he
        refine aw_iconst (v := 0) C dX0_fits_33 (by decide) ?_
        have he := Option.some.inj he
        subst he
        exact aw_zret C X (by decide) dX0_fits_34 (by decide) (by decide)
      · have he := iff_ hc he
        refine aw_iconst (v := 1) C dX0_fits_29 (by decide) ?_
        refine aw_goto (tgt := 34) C dX0_fits_30 (by decide) ?_
        have he := Option.some.inj he
        subst he
        exact aw_zret C X (by decide) dX0_fits_34 (by decide) (by decide)
theorem cX0_fits_ (l : Launch) (D : va_G) (dA : Nat → ClassId) (base : Nat) {N : Nat} {h : Hp} {sz : Nat} {l0 : Option Nat} {l1 : Int32} {l2 : Int32} {out : Int32} (he : fX0_fits N h l0 l1 l2 = some out) : AM l D dA base yX0_fits cX0_fits 3 (some .boolean) 2 0 0 [.inr l0, .inl l1, .inl l2] h sz (some (.int out)) h sz :=
  AM.of (by decide +kernel) (Nat.le_of_ble_eq_true rfl) rfl (fun Γ C X hn => wX0_fits C X he)
set_option maxHeartbeats 4000000 in
set_option maxRecDepth 100000 in
theorem wX5_greatestDivisor_L7 {Γ : GG} (C : CX Γ cX5_greatestDivisor 6 RX5 0 0 0) {N : Nat} {sz : Nat} {h : Hp} {α : Type} {out : α} {K34 : Int32 → Option α} (k34 : ∀ (l2 : Int32), K34 l2 = some out → AW Γ 6 h sz 0 0 34 [(2, .inl l2)] []) : ∀ (n : Nat) (l2 : Int32) (l3 : Int32) (l4 : Int32), fX5_greatestDivisor_L7 N h K34 n l2 l3 l4 = some out → AW Γ 6 h sz 0 0 7 [(2, .inl l2), (3, .inl l3), (4, .inl l4)] [] := by
  intro n
  induction n with
  | zero =>
    intro l2 l3 l4 he
    rw [fX5_greatestDivisor_L7] at he
    cases he
  | succ n ih =>
    intro l2 l3 l4 he
    rw [fX5_greatestDivisor_L7] at he
    refine aw_iload C dX5_greatestDivisor_7 (j := 2) rfl ?_
    refine aw_bipush (v := 64) C dX5_greatestDivisor_9 (by decide) ?_
    refine aw_ic_ge (tgt := 34) C dX5_greatestDivisor_11 (by decide) (fun hc => ?_) (fun hc => ?_)
    · have he := ift hc he
      refine aw_sub [0] (lv' := [(2, .inl l2)]) rfl ?_
      exact k34 _ he
    · have he := iff_ hc he
      refine aw_iload_n C dX5_greatestDivisor_14 rfl (j := 1) rfl ?_
      refine aw_if_eq (tgt := 34) C dX5_greatestDivisor_15 (by decide) (fun hc => ?_) (fun hc => ?_)
      · have he := ift hc he
        refine aw_sub [0] (lv' := [(2, .inl l2)]) rfl ?_
        exact k34 _ he
      · have he := iff_ hc he
        refine aw_iload_n C dX5_greatestDivisor_18 rfl (j := 0) rfl ?_
        refine aw_iload_n C dX5_greatestDivisor_19 rfl (j := 1) rfl ?_
        obtain ⟨hy, he⟩ := ifn he
        refine aw_irem C dX5_greatestDivisor_20 hy ?_
        refine aw_istore C dX5_greatestDivisor_21 (by decide) rfl (lv' := [(2, .inl l2), (3, .inl l3), (4, .inl l4), (5, .inl (jrem l2 l3))]) rfl ?_
        refine aw_iload_n C dX5_greatestDivisor_23 rfl (j := 1) rfl ?_
        refine aw_istore_n C dX5_greatestDivisor_24 rfl (by decide) rfl (lv' := [(2, .inl l3), (3, .inl l3), (4, .inl l4), (5, .inl (jrem l2 l3))]) rfl ?_
        refine aw_iload C dX5_greatestDivisor_25 (j := 3) rfl ?_
        refine aw_istore_n C dX5_greatestDivisor_27 rfl (by decide) rfl (lv' := [(2, .inl l3), (3, .inl (jrem l2 l3)), (4, .inl l4), (5, .inl (jrem l2 l3))]) rfl ?_
        refine aw_iinc (y := 1) C dX5_greatestDivisor_28 (by decide) (j := 2) rfl (by decide) rfl (lv' := [(2, .inl l3), (3, .inl (jrem l2 l3)), (4, .inl (l4 + 1)), (5, .inl (jrem l2 l3))]) rfl ?_
        refine aw_goto (tgt := 7) C dX5_greatestDivisor_31 (by decide) ?_
        refine aw_sub [0, 1, 2] (lv' := [(2, .inl l3), (3, .inl (jrem l2 l3)), (4, .inl (l4 + 1))]) rfl ?_
        exact ih _ _ _ he
set_option maxHeartbeats 4000000 in
set_option maxRecDepth 100000 in
theorem wX5_greatestDivisor {Γ : GG} (C : CX Γ cX5_greatestDivisor 6 RX5 0 0 0) {N : Nat} {sz : Nat} {h : Hp} {out : Int32} (X : RX Γ (some .int) (some (.int out)) h sz 0 0) {l0 : Int32} {l1 : Int32} (he : fX5_greatestDivisor N h l0 l1 = some out) : AW Γ 6 h sz 0 0 0 [(0, .inl l0), (1, .inl l1)] [] := by
  unfold fX5_greatestDivisor at he
  refine aw_iload_n C dX5_greatestDivisor_0 rfl (j := 0) rfl ?_
  refine aw_istore_n C dX5_greatestDivisor_1 rfl (by decide) rfl (lv' := [(0, .inl l0), (1, .inl l1), (2, .inl l0)]) rfl ?_
  refine aw_iload_n C dX5_greatestDivisor_2 rfl (j := 1) rfl ?_
  refine aw_istore_n C dX5_greatestDivisor_3 rfl (by decide) rfl (lv' := [(0, .inl l0), (1, .inl l1), (2, .inl l0), (3, .inl l1)]) rfl ?_
  refine aw_iconst (v := 0) C dX5_greatestDivisor_4 (by decide) ?_
  refine aw_istore C dX5_greatestDivisor_5 (by decide) rfl (lv' := [(0, .inl l0), (1, .inl l1), (2, .inl l0), (3, .inl l1), (4, .inl (0 : Int32))]) rfl ?_
  refine aw_sub [2, 3, 4] (lv' := [(2, .inl l0), (3, .inl l1), (4, .inl (0 : Int32))]) rfl ?_
  refine wX5_greatestDivisor_L7 C ?_ N _ _ _ he
  intro l2 he
  refine aw_iload_n C dX5_greatestDivisor_34 rfl (j := 0) rfl ?_
  have he := Option.some.inj he
  subst he
  exact aw_iret C X dX5_greatestDivisor_35 (by decide) (by decide)
theorem cX5_greatestDivisor_ (l : Launch) (D : va_G) (dA : Nat → ClassId) (base : Nat) {N : Nat} {h : Hp} {sz : Nat} {l0 : Int32} {l1 : Int32} {out : Int32} (he : fX5_greatestDivisor N h l0 l1 = some out) : AM l D dA base yX5_greatestDivisor cX5_greatestDivisor 6 (some .int) 0 0 0 [.inl l0, .inl l1] h sz (some (.int out)) h sz :=
  AM.of (by decide +kernel) (Nat.le_of_ble_eq_true rfl) rfl (fun Γ C X hn => wX5_greatestDivisor C X he)
set_option maxHeartbeats 4000000 in
set_option maxRecDepth 100000 in
theorem wX0_divisorOf {Γ : GG} (C : CX Γ cX0_divisorOf 3 RX0 2 0 0) {N : Nat} {sz : Nat} {h : Hp} {out : Int32} (X : RX Γ (some .int) (some (.int out)) h sz 0 0) {l0 : Option Nat} {l1 : Int32} {l2 : Int32} (he : fX0_divisorOf N h l0 l1 l2 = some out) : AW Γ 3 h sz 0 0 0 [(0, .inr l0), (1, .inl l1), (2, .inl l2)] [] := by
  unfold fX0_divisorOf at he
  refine aw_aload_n C dX0_divisorOf_0 rfl (j := 0) rfl ?_
  refine aw_iload_n C dX0_divisorOf_1 rfl (j := 1) rfl ?_
  obtain ⟨hO, he⟩ := ifs he
  obtain ⟨v2, hv, he⟩ := ob he
  refine aw_callV (ci := 0) C mb_X0_65 ⟨q_358, q_359, rfl⟩ hO (cX0_teethOf_ _ _ _ _ hv) dX0_divisorOf_2 rfl (rest := []) rfl (cat_le _ (Nat.le_of_ble_eq_true rfl)) (Nat.le_of_ble_eq_true rfl) (Nat.le_of_ble_eq_true rfl) (Nat.le_of_ble_eq_true rfl) (st2 := [.int v2]) rfl ?_
  refine aw_aload_n C dX0_divisorOf_5 rfl (j := 0) rfl ?_
  refine aw_iload_n C dX0_divisorOf_6 rfl (j := 2) rfl ?_
  obtain ⟨hO, he⟩ := ifs he
  obtain ⟨v7, hv, he⟩ := ob he
  refine aw_callV (ci := 0) C mb_X0_61 ⟨q_371, q_372, rfl⟩ hO (cX0_cogsOf_ _ _ _ _ hv) dX0_divisorOf_7 rfl (rest := [.int v2]) rfl (cat_le _ (Nat.le_of_ble_eq_true rfl)) (Nat.le_of_ble_eq_true rfl) (Nat.le_of_ble_eq_true rfl) (Nat.le_of_ble_eq_true rfl) (st2 := [.int v7, .int v2]) rfl ?_
  obtain ⟨v10, hv, he⟩ := ob he
  refine aw_callS C mb_X0_68 q_390 (cX5_greatestDivisor_ _ _ _ _ hv) dX0_divisorOf_10 rfl (rest := []) rfl (cat_le _ (Nat.le_of_ble_eq_true rfl)) (Nat.le_of_ble_eq_true rfl) (Nat.le_of_ble_eq_true rfl) (Nat.le_of_ble_eq_true rfl) (st2 := [.int v10]) rfl ?_
  have he := Option.some.inj he
  subst he
  exact aw_iret C X dX0_divisorOf_13 (by decide) (by decide)
theorem cX0_divisorOf_ (l : Launch) (D : va_G) (dA : Nat → ClassId) (base : Nat) {N : Nat} {h : Hp} {sz : Nat} {l0 : Option Nat} {l1 : Int32} {l2 : Int32} {out : Int32} (he : fX0_divisorOf N h l0 l1 l2 = some out) : AM l D dA base yX0_divisorOf cX0_divisorOf 3 (some .int) 2 0 0 [.inr l0, .inl l1, .inl l2] h sz (some (.int out)) h sz :=
  AM.of (by decide +kernel) (Nat.le_of_ble_eq_true rfl) rfl (fun Γ C X hn => wX0_divisorOf C X he)
set_option maxHeartbeats 4000000 in
set_option maxRecDepth 100000 in
theorem wX5_part {Γ : GG} (C : CX Γ cX5_part 2 RX5 0 0 0) {N : Nat} {sz : Nat} {h : Hp} {out : Int32} (X : RX Γ (some .int) (some (.int out)) h sz 0 0) {l0 : Int32} {l1 : Int32} (he : fX5_part N h l0 l1 = some out) : AW Γ 2 h sz 0 0 0 [(0, .inl l0), (1, .inl l1)] [] := by
  unfold fX5_part at he
  refine aw_iload_n C dX5_part_0 rfl (j := 1) rfl ?_
  refine aw_if_ne (tgt := 8) C dX5_part_1 (by decide) (fun hc => ?_) (fun hc => ?_)
  · have he := ift hc he
    refine aw_iconst (v := 0) C dX5_part_4 (by decide) ?_
    refine aw_goto (tgt := 11) C dX5_part_5 (by decide) ?_
    have he := Option.some.inj he
    subst he
    exact aw_iret C X dX5_part_11 (by decide) (by decide)
  · have he := iff_ hc he
    refine aw_iload_n C dX5_part_8 rfl (j := 0) rfl ?_
    refine aw_iload_n C dX5_part_9 rfl (j := 1) rfl ?_
    obtain ⟨hy, he⟩ := ifn he
    refine aw_idiv C dX5_part_10 hy ?_
    have he := Option.some.inj he
    subst he
    exact aw_iret C X dX5_part_11 (by decide) (by decide)
theorem cX5_part_ (l : Launch) (D : va_G) (dA : Nat → ClassId) (base : Nat) {N : Nat} {h : Hp} {sz : Nat} {l0 : Int32} {l1 : Int32} {out : Int32} (he : fX5_part N h l0 l1 = some out) : AM l D dA base yX5_part cX5_part 2 (some .int) 0 0 0 [.inl l0, .inl l1] h sz (some (.int out)) h sz :=
  AM.of (by decide +kernel) (Nat.le_of_ble_eq_true rfl) rfl (fun Γ C X hn => wX5_part C X he)
set_option maxHeartbeats 4000000 in
set_option maxRecDepth 100000 in
theorem wX0_petalsOf {Γ : GG} (C : CX Γ cX0_petalsOf 3 RX0 3 0 0) {N : Nat} {sz : Nat} {h : Hp} {out : Int32} (X : RX Γ (some .int) (some (.int out)) h sz 0 0) {l0 : Option Nat} {l1 : Int32} {l2 : Int32} (he : fX0_petalsOf N h l0 l1 l2 = some out) : AW Γ 3 h sz 0 0 0 [(0, .inr l0), (1, .inl l1), (2, .inl l2)] [] := by
  unfold fX0_petalsOf at he
  refine aw_aload_n C dX0_petalsOf_0 rfl (j := 0) rfl ?_
  refine aw_iload_n C dX0_petalsOf_1 rfl (j := 1) rfl ?_
  obtain ⟨hO, he⟩ := ifs he
  obtain ⟨v2, hv, he⟩ := ob he
  refine aw_callV (ci := 0) C mb_X0_65 ⟨q_358, q_359, rfl⟩ hO (cX0_teethOf_ _ _ _ _ hv) dX0_petalsOf_2 rfl (rest := []) rfl (cat_le _ (Nat.le_of_ble_eq_true rfl)) (Nat.le_of_ble_eq_true rfl) (Nat.le_of_ble_eq_true rfl) (Nat.le_of_ble_eq_true rfl) (st2 := [.int v2]) rfl ?_
  refine aw_aload_n C dX0_petalsOf_5 rfl (j := 0) rfl ?_
  refine aw_iload_n C dX0_petalsOf_6 rfl (j := 1) rfl ?_
  refine aw_iload_n C dX0_petalsOf_7 rfl (j := 2) rfl ?_
  obtain ⟨hO, he⟩ := ifs he
  obtain ⟨v8, hv, he⟩ := ob he
  refine aw_callV (ci := 0) C mb_X0_71 ⟨q_386, q_387, rfl⟩ hO (cX0_divisorOf_ _ _ _ _ hv) dX0_petalsOf_8 rfl (rest := [.int v2]) rfl (cat_le _ (Nat.le_of_ble_eq_true rfl)) (Nat.le_of_ble_eq_true rfl) (Nat.le_of_ble_eq_true rfl) (Nat.le_of_ble_eq_true rfl) (st2 := [.int v8, .int v2]) rfl ?_
  obtain ⟨v11, hv, he⟩ := ob he
  refine aw_callS C mb_X0_74 q_393 (cX5_part_ _ _ _ _ hv) dX0_petalsOf_11 rfl (rest := []) rfl (cat_le _ (Nat.le_of_ble_eq_true rfl)) (Nat.le_of_ble_eq_true rfl) (Nat.le_of_ble_eq_true rfl) (Nat.le_of_ble_eq_true rfl) (st2 := [.int v11]) rfl ?_
  have he := Option.some.inj he
  subst he
  exact aw_iret C X dX0_petalsOf_14 (by decide) (by decide)
theorem cX0_petalsOf_ (l : Launch) (D : va_G) (dA : Nat → ClassId) (base : Nat) {N : Nat} {h : Hp} {sz : Nat} {l0 : Option Nat} {l1 : Int32} {l2 : Int32} {out : Int32} (he : fX0_petalsOf N h l0 l1 l2 = some out) : AM l D dA base yX0_petalsOf cX0_petalsOf 3 (some .int) 3 0 0 [.inr l0, .inl l1, .inl l2] h sz (some (.int out)) h sz :=
  AM.of (by decide +kernel) (Nat.le_of_ble_eq_true rfl) rfl (fun Γ C X hn => wX0_petalsOf C X he)
set_option maxHeartbeats 4000000 in
set_option maxRecDepth 100000 in
theorem wX0_roundsOf {Γ : GG} (C : CX Γ cX0_roundsOf 3 RX0 3 0 0) {N : Nat} {sz : Nat} {h : Hp} {out : Int32} (X : RX Γ (some .int) (some (.int out)) h sz 0 0) {l0 : Option Nat} {l1 : Int32} {l2 : Int32} (he : fX0_roundsOf N h l0 l1 l2 = some out) : AW Γ 3 h sz 0 0 0 [(0, .inr l0), (1, .inl l1), (2, .inl l2)] [] := by
  unfold fX0_roundsOf at he
  refine aw_aload_n C dX0_roundsOf_0 rfl (j := 0) rfl ?_
  refine aw_iload_n C dX0_roundsOf_1 rfl (j := 2) rfl ?_
  obtain ⟨hO, he⟩ := ifs he
  obtain ⟨v2, hv, he⟩ := ob he
  refine aw_callV (ci := 0) C mb_X0_61 ⟨q_371, q_372, rfl⟩ hO (cX0_cogsOf_ _ _ _ _ hv) dX0_roundsOf_2 rfl (rest := []) rfl (cat_le _ (Nat.le_of_ble_eq_true rfl)) (Nat.le_of_ble_eq_true rfl) (Nat.le_of_ble_eq_true rfl) (Nat.le_of_ble_eq_true rfl) (st2 := [.int v2]) rfl ?_
  refine aw_aload_n C dX0_roundsOf_5 rfl (j := 0) rfl ?_
  refine aw_iload_n C dX0_roundsOf_6 rfl (j := 1) rfl ?_
  refine aw_iload_n C dX0_roundsOf_7 rfl (j := 2) rfl ?_
  obtain ⟨hO, he⟩ := ifs he
  obtain ⟨v8, hv, he⟩ := ob he
  refine aw_callV (ci := 0) C mb_X0_71 ⟨q_386, q_387, rfl⟩ hO (cX0_divisorOf_ _ _ _ _ hv) dX0_roundsOf_8 rfl (rest := [.int v2]) rfl (cat_le _ (Nat.le_of_ble_eq_true rfl)) (Nat.le_of_ble_eq_true rfl) (Nat.le_of_ble_eq_true rfl) (Nat.le_of_ble_eq_true rfl) (st2 := [.int v8, .int v2]) rfl ?_
  obtain ⟨v11, hv, he⟩ := ob he
  refine aw_callS C mb_X0_74 q_393 (cX5_part_ _ _ _ _ hv) dX0_roundsOf_11 rfl (rest := []) rfl (cat_le _ (Nat.le_of_ble_eq_true rfl)) (Nat.le_of_ble_eq_true rfl) (Nat.le_of_ble_eq_true rfl) (Nat.le_of_ble_eq_true rfl) (st2 := [.int v11]) rfl ?_
  have he := Option.some.inj he
  subst he
  exact aw_iret C X dX0_roundsOf_14 (by decide) (by decide)
theorem cX0_roundsOf_ (l : Launch) (D : va_G) (dA : Nat → ClassId) (base : Nat) {N : Nat} {h : Hp} {sz : Nat} {l0 : Option Nat} {l1 : Int32} {l2 : Int32} {out : Int32} (he : fX0_roundsOf N h l0 l1 l2 = some out) : AM l D dA base yX0_roundsOf cX0_roundsOf 3 (some .int) 3 0 0 [.inr l0, .inl l1, .inl l2] h sz (some (.int out)) h sz :=
  AM.of (by decide +kernel) (Nat.le_of_ble_eq_true rfl) rfl (fun Γ C X hn => wX0_roundsOf C X he)
set_option maxHeartbeats 4000000 in
set_option maxRecDepth 100000 in
theorem wX0_longOf {Γ : GG} (C : CX Γ cX0_longOf 3 RX0 4 0 0) {N : Nat} {sz : Nat} {h : Hp} {out : Int32} (X : RX Γ (some .int) (some (.int out)) h sz 0 0) {l0 : Option Nat} {l1 : Int32} {l2 : Int32} (he : fX0_longOf N h l0 l1 l2 = some out) : AW Γ 3 h sz 0 0 0 [(0, .inr l0), (1, .inl l1), (2, .inl l2)] [] := by
  unfold fX0_longOf at he
  refine aw_aload_n C dX0_longOf_0 rfl (j := 0) rfl ?_
  refine aw_iload_n C dX0_longOf_1 rfl (j := 1) rfl ?_
  obtain ⟨hO, he⟩ := ifs he
  obtain ⟨v2, hv, he⟩ := ob he
  refine aw_callV (ci := 0) C mb_X0_65 ⟨q_358, q_359, rfl⟩ hO (cX0_teethOf_ _ _ _ _ hv) dX0_longOf_2 rfl (rest := []) rfl (cat_le _ (Nat.le_of_ble_eq_true rfl)) (Nat.le_of_ble_eq_true rfl) (Nat.le_of_ble_eq_true rfl) (Nat.le_of_ble_eq_true rfl) (st2 := [.int v2]) rfl ?_
  refine aw_aload_n C dX0_longOf_5 rfl (j := 0) rfl ?_
  refine aw_iload_n C dX0_longOf_6 rfl (j := 1) rfl ?_
  refine aw_iload_n C dX0_longOf_7 rfl (j := 2) rfl ?_
  obtain ⟨hO, he⟩ := ifs he
  obtain ⟨v8, hv, he⟩ := ob he
  refine aw_callV (ci := 0) C mb_X0_77 ⟨q_396, q_397, rfl⟩ hO (cX0_roundsOf_ _ _ _ _ hv) dX0_longOf_8 rfl (rest := [.int v2]) rfl (cat_le _ (Nat.le_of_ble_eq_true rfl)) (Nat.le_of_ble_eq_true rfl) (Nat.le_of_ble_eq_true rfl) (Nat.le_of_ble_eq_true rfl) (st2 := [.int v8, .int v2]) rfl ?_
  refine aw_imul C dX0_longOf_11 ?_
  have he := Option.some.inj he
  subst he
  exact aw_iret C X dX0_longOf_12 (by decide) (by decide)
theorem cX0_longOf_ (l : Launch) (D : va_G) (dA : Nat → ClassId) (base : Nat) {N : Nat} {h : Hp} {sz : Nat} {l0 : Option Nat} {l1 : Int32} {l2 : Int32} {out : Int32} (he : fX0_longOf N h l0 l1 l2 = some out) : AM l D dA base yX0_longOf cX0_longOf 3 (some .int) 4 0 0 [.inr l0, .inl l1, .inl l2] h sz (some (.int out)) h sz :=
  AM.of (by decide +kernel) (Nat.le_of_ble_eq_true rfl) rfl (fun Γ C X hn => wX0_longOf C X he)
set_option maxHeartbeats 4000000 in
set_option maxRecDepth 100000 in
theorem wX5_wheel {Γ : GG} (C : CX Γ cX5_wheel 4 RX5 5 0 0) {N : Nat} {sz : Nat} {h : Hp} {out : Int32} (X : RX Γ (some .int) (some (.int out)) h sz 0 0) {l0 : Option Nat} {l1 : Int32} {l2 : Int32} {l3 : Int32} (he : fX5_wheel N h l0 l1 l2 l3 = some out) : AW Γ 4 h sz 0 0 0 [(0, .inr l0), (1, .inl l1), (2, .inl l2), (3, .inl l3)] [] := by
  unfold fX5_wheel at he
  refine aw_aload_n C dX5_wheel_0 rfl (j := 0) rfl ?_
  obtain ⟨v1, hv, he⟩ := ob he
  refine aw_gA C fk_X5_26 dX5_wheel_1 hv ?_
  refine aw_iload_n C dX5_wheel_4 rfl (j := 1) rfl ?_
  obtain ⟨hO, he⟩ := ifs he
  obtain ⟨v5, hv, he⟩ := ob he
  refine aw_callV (ci := 0) C mb_X5_99 ⟨q_354, q_355, rfl⟩ hO (cX0_hasRing_ _ _ _ _ hv) dX5_wheel_5 rfl (rest := []) rfl (cat_le _ (Nat.le_of_ble_eq_true rfl)) (Nat.le_of_ble_eq_true rfl) (Nat.le_of_ble_eq_true rfl) (Nat.le_of_ble_eq_true rfl) (st2 := [.int v5]) rfl ?_
  refine aw_if_eq (tgt := 31) C dX5_wheel_8 (by decide) (fun hc => ?_) (fun hc => ?_)
  · have he := ift hc he
    refine aw_iconst (v := -1) C dX5_wheel_31 (by decide) ?_
    have he := Option.some.inj he
    subst he
    exact aw_iret C X dX5_wheel_32 (by decide) (by decide)
  · have he := iff_ hc he
    refine aw_aload_n C dX5_wheel_11 rfl (j := 0) rfl ?_
    obtain ⟨v12, hv, he⟩ := ob he
    refine aw_gA C fk_X5_26 dX5_wheel_12 hv ?_
    refine aw_iload_n C dX5_wheel_15 rfl (j := 2) rfl ?_
    obtain ⟨hO, he⟩ := ifs he
    obtain ⟨v16, hv, he⟩ := ob he
    refine aw_callV (ci := 0) C mb_X5_106 ⟨q_367, q_368, rfl⟩ hO (cX0_hasWheel_ _ _ _ _ hv) dX5_wheel_16 rfl (rest := []) rfl (cat_le _ (Nat.le_of_ble_eq_true rfl)) (Nat.le_of_ble_eq_true rfl) (Nat.le_of_ble_eq_true rfl) (Nat.le_of_ble_eq_true rfl) (st2 := [.int v16]) rfl ?_
    refine aw_if_eq (tgt := 31) C dX5_wheel_19 (by decide) (fun hc => ?_) (fun hc => ?_)
    · have he := ift hc he
      refine aw_iconst (v := -1) C dX5_wheel_31 (by decide) ?_
      have he := Option.some.inj he
      subst he
      exact aw_iret C X dX5_wheel_32 (by decide) (by decide)
    · have he := iff_ hc he
      refine aw_iload_n C dX5_wheel_22 rfl (j := 3) rfl ?_
      refine aw_iconst (v := 0) C dX5_wheel_23 (by decide) ?_
      refine aw_iconst (v := 3) C dX5_wheel_24 (by decide) ?_
      obtain ⟨v25, hv, he⟩ := ob he
      refine aw_callS C mb_X5_72 q_241 (cX5_within_ _ _ _ _ hv) dX5_wheel_25 rfl (rest := []) rfl (cat_le _ (Nat.le_of_ble_eq_true rfl)) (Nat.le_of_ble_eq_true rfl) (Nat.le_of_ble_eq_true rfl) (Nat.le_of_ble_eq_true rfl) (st2 := [.int v25]) rfl ?_
      refine aw_if_ne (tgt := 33) C dX5_wheel_28 (by decide) (fun hc => ?_) (fun hc => ?_)
      · have he := ift hc he
        refine aw_iconst (v := -1) C dX5_wheel_31 (by decide) ?_
        have he := Option.some.inj he
        subst he
        exact aw_iret C X dX5_wheel_32 (by decide) (by decide)
      · have he := iff_ hc he
        refine aw_iload_n C dX5_wheel_33 rfl (j := 3) rfl ?_
        refine aw_if_ne (tgt := 46) C dX5_wheel_34 (by decide) (fun hc => ?_) (fun hc => ?_)
        · have he := ift hc he
          refine aw_aload_n C dX5_wheel_37 rfl (j := 0) rfl ?_
          obtain ⟨v38, hv, he⟩ := ob he
          refine aw_gA C fk_X5_26 dX5_wheel_38 hv ?_
          refine aw_iload_n C dX5_wheel_41 rfl (j := 2) rfl ?_
          obtain ⟨hO, he⟩ := ifs he
          obtain ⟨v42, hv, he⟩ := ob he
          refine aw_callV (ci := 0) C mb_X5_109 ⟨q_371, q_372, rfl⟩ hO (cX0_cogsOf_ _ _ _ _ hv) dX5_wheel_42 rfl (rest := []) rfl (cat_le _ (Nat.le_of_ble_eq_true rfl)) (Nat.le_of_ble_eq_true rfl) (Nat.le_of_ble_eq_true rfl) (Nat.le_of_ble_eq_true rfl) (st2 := [.int v42]) rfl ?_
          have he := Option.some.inj he
          subst he
          exact aw_iret C X dX5_wheel_45 (by decide) (by decide)
        · have he := iff_ hc he
          refine aw_aload_n C dX5_wheel_46 rfl (j := 0) rfl ?_
          obtain ⟨v47, hv, he⟩ := ob he
          refine aw_gA C fk_X5_26 dX5_wheel_47 hv ?_
          refine aw_iload_n C dX5_wheel_50 rfl (j := 1) rfl ?_
          refine aw_iload_n C dX5_wheel_51 rfl (j := 2) rfl ?_
          obtain ⟨hO, he⟩ := ifs he
          obtain ⟨v52, hv, he⟩ := ob he
          refine aw_callV (ci := 0) C mb_X5_112 ⟨q_376, q_377, rfl⟩ hO (cX0_fits_ _ _ _ _ hv) dX5_wheel_52 rfl (rest := []) rfl (cat_le _ (Nat.le_of_ble_eq_true rfl)) (Nat.le_of_ble_eq_true rfl) (Nat.le_of_ble_eq_true rfl) (Nat.le_of_ble_eq_true rfl) (st2 := [.int v52]) rfl ?_
          refine aw_if_ne (tgt := 61) C dX5_wheel_55 (by decide) (fun hc => ?_) (fun hc => ?_)
          · have he := ift hc he
            refine aw_bipush (v := -9) C dX5_wheel_58 (by decide) ?_
            have he := Option.some.inj he
            subst he
            exact aw_iret C X dX5_wheel_60 (by decide) (by decide)
          · have he := iff_ hc he
            refine aw_iload_n C dX5_wheel_61 rfl (j := 3) rfl ?_
            by_cases c0 : l3 = 1
            · have he := ift c0 he
              refine aw_lsw (off := 26) (tgt := 88) C dX5_wheel_62 (by decide) (by rw [c0]; decide) (by decide) ?_
              refine aw_aload_n C dX5_wheel_88 rfl (j := 0) rfl ?_
              obtain ⟨v89, hv, he⟩ := ob he
              refine aw_gA C fk_X5_26 dX5_wheel_89 hv ?_
              refine aw_iload_n C dX5_wheel_92 rfl (j := 1) rfl ?_
              refine aw_iload_n C dX5_wheel_93 rfl (j := 2) rfl ?_
              obtain ⟨hO, he⟩ := ifs he
              obtain ⟨v94, hv, he⟩ := ob he
              refine aw_callV (ci := 0) C mb_X5_116 ⟨q_382, q_383, rfl⟩ hO (cX0_petalsOf_ _ _ _ _ hv) dX5_wheel_94 rfl (rest := []) rfl (cat_le _ (Nat.le_of_ble_eq_true rfl)) (Nat.le_of_ble_eq_true rfl) (Nat.le_of_ble_eq_true rfl) (Nat.le_of_ble_eq_true rfl) (st2 := [.int v94]) rfl ?_
              have he := Option.some.inj he
              subst he
              exact aw_iret C X dX5_wheel_97 (by decide) (by decide)
            have he := iff_ c0 he
            by_cases c1 : l3 = 2
            · have he := ift c1 he
              refine aw_lsw (off := 36) (tgt := 98) C dX5_wheel_62 (by decide) (by rw [c1]; decide) (by decide) ?_
              refine aw_aload_n C dX5_wheel_98 rfl (j := 0) rfl ?_
              obtain ⟨v99, hv, he⟩ := ob he
              refine aw_gA C fk_X5_26 dX5_wheel_99 hv ?_
              refine aw_iload_n C dX5_wheel_102 rfl (j := 1) rfl ?_
              refine aw_iload_n C dX5_wheel_103 rfl (j := 2) rfl ?_
              obtain ⟨hO, he⟩ := ifs he
              obtain ⟨v104, hv, he⟩ := ob he
              refine aw_callV (ci := 0) C mb_X5_120 ⟨q_396, q_397, rfl⟩ hO (cX0_roundsOf_ _ _ _ _ hv) dX5_wheel_104 rfl (rest := []) rfl (cat_le _ (Nat.le_of_ble_eq_true rfl)) (Nat.le_of_ble_eq_true rfl) (Nat.le_of_ble_eq_true rfl) (Nat.le_of_ble_eq_true rfl) (st2 := [.int v104]) rfl ?_
              have he := Option.some.inj he
              subst he
              exact aw_iret C X dX5_wheel_107 (by decide) (by decide)
            have he := iff_ c1 he
            refine aw_lsw (off := 46) (tgt := 108) C dX5_wheel_62 (by decide) ((lv_osw c0 (by decide)).trans ((lv_osw c1 (by decide)).trans rfl)) (by decide) ?_
            refine aw_aload_n C dX5_wheel_108 rfl (j := 0) rfl ?_
            obtain ⟨v109, hv, he⟩ := ob he
            refine aw_gA C fk_X5_26 dX5_wheel_109 hv ?_
            refine aw_iload_n C dX5_wheel_112 rfl (j := 1) rfl ?_
            refine aw_iload_n C dX5_wheel_113 rfl (j := 2) rfl ?_
            obtain ⟨hO, he⟩ := ifs he
            obtain ⟨v114, hv, he⟩ := ob he
            refine aw_callV (ci := 0) C mb_X5_123 ⟨q_400, q_401, rfl⟩ hO (cX0_longOf_ _ _ _ _ hv) dX5_wheel_114 rfl (rest := []) rfl (cat_le _ (Nat.le_of_ble_eq_true rfl)) (Nat.le_of_ble_eq_true rfl) (Nat.le_of_ble_eq_true rfl) (Nat.le_of_ble_eq_true rfl) (st2 := [.int v114]) rfl ?_
            have he := Option.some.inj he
            subst he
            exact aw_iret C X dX5_wheel_117 (by decide) (by decide)
theorem cX5_wheel_ (l : Launch) (D : va_G) (dA : Nat → ClassId) (base : Nat) {N : Nat} {h : Hp} {sz : Nat} {l0 : Option Nat} {l1 : Int32} {l2 : Int32} {l3 : Int32} {out : Int32} (he : fX5_wheel N h l0 l1 l2 l3 = some out) : AM l D dA base yX5_wheel cX5_wheel 4 (some .int) 5 0 0 [.inr l0, .inl l1, .inl l2, .inl l3] h sz (some (.int out)) h sz :=
  AM.of (by decide +kernel) (Nat.le_of_ble_eq_true rfl) rfl (fun Γ C X hn => wX5_wheel C X he)
set_option maxHeartbeats 4000000 in
set_option maxRecDepth 100000 in
theorem wX6_isWheel {Γ : GG} (C : CX Γ cX6_isWheel 2 RX6 1 0 0) {N : Nat} {sz : Nat} {h : Hp} {out : Int32} (X : RX Γ (some .boolean) (some (.int out)) h sz 0 0) {l0 : Option Nat} {l1 : Int32} (he : fX6_isWheel N h l0 l1 = some out) : AW Γ 2 h sz 0 0 0 [(0, .inr l0), (1, .inl l1)] [] := by
  unfold fX6_isWheel at he
  refine aw_iload_n C dX6_isWheel_0 rfl (j := 1) rfl ?_
  refine aw_iconst (v := 0) C dX6_isWheel_1 (by decide) ?_
  refine aw_aload_n C dX6_isWheel_2 rfl (j := 0) rfl ?_
  obtain ⟨v3, hv, he⟩ := ob he
  refine aw_gI C fk_X6_66 dX6_isWheel_3 hv ?_
  refine aw_iconst (v := 1) C dX6_isWheel_6 (by decide) ?_
  refine aw_isub C dX6_isWheel_7 ?_
  obtain ⟨v8, hv, he⟩ := ob he
  refine aw_callS C mb_X6_62 q_874 (cX6_in_ _ _ _ _ hv) dX6_isWheel_8 rfl (rest := []) rfl (cat_le _ (Nat.le_of_ble_eq_true rfl)) (Nat.le_of_ble_eq_true rfl) (Nat.le_of_ble_eq_true rfl) (Nat.le_of_ble_eq_true rfl) (st2 := [.int v8]) rfl ?_
  obtain ⟨hz, he⟩ := ifs he
  have he := Option.some.inj he
  subst he
  exact aw_zret C X hz dX6_isWheel_11 (by decide) (by decide)
theorem cX6_isWheel_ (l : Launch) (D : va_G) (dA : Nat → ClassId) (base : Nat) {N : Nat} {h : Hp} {sz : Nat} {l0 : Option Nat} {l1 : Int32} {out : Int32} (he : fX6_isWheel N h l0 l1 = some out) : AM l D dA base yX6_isWheel cX6_isWheel 2 (some .boolean) 1 0 0 [.inr l0, .inl l1] h sz (some (.int out)) h sz :=
  AM.of (by decide +kernel) (Nat.le_of_ble_eq_true rfl) rfl (fun Γ C X hn => wX6_isWheel C X he)
set_option maxHeartbeats 4000000 in
set_option maxRecDepth 100000 in
theorem wX6_fits {Γ : GG} (C : CX Γ cX6_fits 3 RX6 0 0 0) {N : Nat} {sz : Nat} {h : Hp} {out : Int32} (X : RX Γ (some .boolean) (some (.int out)) h sz 0 0) {l0 : Option Nat} {l1 : Int32} {l2 : Int32} (he : fX6_fits N h l0 l1 l2 = some out) : AW Γ 3 h sz 0 0 0 [(0, .inr l0), (1, .inl l1), (2, .inl l2)] [] := by
  unfold fX6_fits at he
  refine aw_aload_n C dX6_fits_0 rfl (j := 0) rfl ?_
  obtain ⟨v1, hv, he⟩ := ob he
  refine aw_gA C fk_X6_13 dX6_fits_1 hv ?_
  refine aw_iload_n C dX6_fits_4 rfl (j := 2) rfl ?_
  obtain ⟨v5, hv, he⟩ := ob he
  refine aw_iald C dX6_fits_5 hv ?_
  refine aw_aload_n C dX6_fits_6 rfl (j := 0) rfl ?_
  obtain ⟨v7, hv, he⟩ := ob he
  refine aw_gA C fk_X6_7 dX6_fits_7 hv ?_
  refine aw_iload_n C dX6_fits_10 rfl (j := 1) rfl ?_
  obtain ⟨v11, hv, he⟩ := ob he
  refine aw_iald C dX6_fits_11 hv ?_
  refine aw_ic_ge (tgt := 19) C dX6_fits_12 (by decide) (fun hc => ?_) (fun hc => ?_)
  · have he := ift hc he
    refine aw_iconst (v := 0) C dX6_fits_19 (by decide) ?_
    have he := Option.some.inj he
    subst he
    exact aw_zret C X (by decide) dX6_fits_20 (by decide) (by decide)
  · have he := iff_ hc he
    refine aw_iconst (v := 1) C dX6_fits_15 (by decide) ?_
    refine aw_goto (tgt := 20) C dX6_fits_16 (by decide) ?_
    have he := Option.some.inj he
    subst he
    exact aw_zret C X (by decide) dX6_fits_20 (by decide) (by decide)
theorem cX6_fits_ (l : Launch) (D : va_G) (dA : Nat → ClassId) (base : Nat) {N : Nat} {h : Hp} {sz : Nat} {l0 : Option Nat} {l1 : Int32} {l2 : Int32} {out : Int32} (he : fX6_fits N h l0 l1 l2 = some out) : AM l D dA base yX6_fits cX6_fits 3 (some .boolean) 0 0 0 [.inr l0, .inl l1, .inl l2] h sz (some (.int out)) h sz :=
  AM.of (by decide +kernel) (Nat.le_of_ble_eq_true rfl) rfl (fun Γ C X hn => wX6_fits C X he)
set_option maxHeartbeats 4000000 in
set_option maxRecDepth 100000 in
theorem wX6_common_L4 {Γ : GG} (C : CX Γ cX6_common 5 RX6 0 0 0) {N : Nat} {sz : Nat} {h : Hp} {α : Type} {out : α} {K21 : Int32 → Option α} (k21 : ∀ (l2 : Int32), K21 l2 = some out → AW Γ 5 h sz 0 0 21 [(2, .inl l2)] []) : ∀ (n : Nat) (l2 : Int32) (l3 : Int32), fX6_common_L4 N h K21 n l2 l3 = some out → AW Γ 5 h sz 0 0 4 [(2, .inl l2), (3, .inl l3)] [] := by
  intro n
  induction n with
  | zero =>
    intro l2 l3 he
    rw [fX6_common_L4] at he
    cases he
  | succ n ih =>
    intro l2 l3 he
    rw [fX6_common_L4] at he
    refine aw_iload_n C dX6_common_4 rfl (j := 1) rfl ?_
    refine aw_if_eq (tgt := 21) C dX6_common_5 (by decide) (fun hc => ?_) (fun hc => ?_)
    · have he := ift hc he
      refine aw_sub [0] (lv' := [(2, .inl l2)]) rfl ?_
      exact k21 _ he
    · have he := iff_ hc he
      refine aw_iload_n C dX6_common_8 rfl (j := 0) rfl ?_
      refine aw_iload_n C dX6_common_9 rfl (j := 1) rfl ?_
      obtain ⟨hy, he⟩ := ifn he
      refine aw_irem C dX6_common_10 hy ?_
      refine aw_istore C dX6_common_11 (by decide) rfl (lv' := [(2, .inl l2), (3, .inl l3), (4, .inl (jrem l2 l3))]) rfl ?_
      refine aw_iload_n C dX6_common_13 rfl (j := 1) rfl ?_
      refine aw_istore_n C dX6_common_14 rfl (by decide) rfl (lv' := [(2, .inl l3), (3, .inl l3), (4, .inl (jrem l2 l3))]) rfl ?_
      refine aw_iload C dX6_common_15 (j := 2) rfl ?_
      refine aw_istore_n C dX6_common_17 rfl (by decide) rfl (lv' := [(2, .inl l3), (3, .inl (jrem l2 l3)), (4, .inl (jrem l2 l3))]) rfl ?_
      refine aw_goto (tgt := 4) C dX6_common_18 (by decide) ?_
      refine aw_sub [0, 1] (lv' := [(2, .inl l3), (3, .inl (jrem l2 l3))]) rfl ?_
      exact ih _ _ he
set_option maxHeartbeats 4000000 in
set_option maxRecDepth 100000 in
theorem wX6_common {Γ : GG} (C : CX Γ cX6_common 5 RX6 0 0 0) {N : Nat} {sz : Nat} {h : Hp} {out : Int32} (X : RX Γ (some .int) (some (.int out)) h sz 0 0) {l0 : Int32} {l1 : Int32} (he : fX6_common N h l0 l1 = some out) : AW Γ 5 h sz 0 0 0 [(0, .inl l0), (1, .inl l1)] [] := by
  unfold fX6_common at he
  refine aw_iload_n C dX6_common_0 rfl (j := 0) rfl ?_
  refine aw_istore_n C dX6_common_1 rfl (by decide) rfl (lv' := [(0, .inl l0), (1, .inl l1), (2, .inl l0)]) rfl ?_
  refine aw_iload_n C dX6_common_2 rfl (j := 1) rfl ?_
  refine aw_istore_n C dX6_common_3 rfl (by decide) rfl (lv' := [(0, .inl l0), (1, .inl l1), (2, .inl l0), (3, .inl l1)]) rfl ?_
  refine aw_sub [2, 3] (lv' := [(2, .inl l0), (3, .inl l1)]) rfl ?_
  refine wX6_common_L4 C ?_ N _ _ he
  intro l2 he
  refine aw_iload_n C dX6_common_21 rfl (j := 0) rfl ?_
  have he := Option.some.inj he
  subst he
  exact aw_iret C X dX6_common_22 (by decide) (by decide)
theorem cX6_common_ (l : Launch) (D : va_G) (dA : Nat → ClassId) (base : Nat) {N : Nat} {h : Hp} {sz : Nat} {l0 : Int32} {l1 : Int32} {out : Int32} (he : fX6_common N h l0 l1 = some out) : AM l D dA base yX6_common cX6_common 5 (some .int) 0 0 0 [.inl l0, .inl l1] h sz (some (.int out)) h sz :=
  AM.of (by decide +kernel) (Nat.le_of_ble_eq_true rfl) rfl (fun Γ C X hn => wX6_common C X he)
set_option maxHeartbeats 4000000 in
set_option maxRecDepth 100000 in
theorem wX6_commonOf {Γ : GG} (C : CX Γ cX6_commonOf 3 RX6 1 0 0) {N : Nat} {sz : Nat} {h : Hp} {out : Int32} (X : RX Γ (some .int) (some (.int out)) h sz 0 0) {l0 : Option Nat} {l1 : Int32} {l2 : Int32} (he : fX6_commonOf N h l0 l1 l2 = some out) : AW Γ 3 h sz 0 0 0 [(0, .inr l0), (1, .inl l1), (2, .inl l2)] [] := by
  unfold fX6_commonOf at he
  refine aw_aload_n C dX6_commonOf_0 rfl (j := 0) rfl ?_
  obtain ⟨v1, hv, he⟩ := ob he
  refine aw_gA C fk_X6_7 dX6_commonOf_1 hv ?_
  refine aw_iload_n C dX6_commonOf_4 rfl (j := 1) rfl ?_
  obtain ⟨v5, hv, he⟩ := ob he
  refine aw_iald C dX6_commonOf_5 hv ?_
  refine aw_aload_n C dX6_commonOf_6 rfl (j := 0) rfl ?_
  obtain ⟨v7, hv, he⟩ := ob he
  refine aw_gA C fk_X6_13 dX6_commonOf_7 hv ?_
  refine aw_iload_n C dX6_commonOf_10 rfl (j := 2) rfl ?_
  obtain ⟨v11, hv, he⟩ := ob he
  refine aw_iald C dX6_commonOf_11 hv ?_
  obtain ⟨v12, hv, he⟩ := ob he
  refine aw_callS C mb_X6_129 q_945 (cX6_common_ _ _ _ _ hv) dX6_commonOf_12 rfl (rest := []) rfl (cat_le _ (Nat.le_of_ble_eq_true rfl)) (Nat.le_of_ble_eq_true rfl) (Nat.le_of_ble_eq_true rfl) (Nat.le_of_ble_eq_true rfl) (st2 := [.int v12]) rfl ?_
  have he := Option.some.inj he
  subst he
  exact aw_iret C X dX6_commonOf_15 (by decide) (by decide)
theorem cX6_commonOf_ (l : Launch) (D : va_G) (dA : Nat → ClassId) (base : Nat) {N : Nat} {h : Hp} {sz : Nat} {l0 : Option Nat} {l1 : Int32} {l2 : Int32} {out : Int32} (he : fX6_commonOf N h l0 l1 l2 = some out) : AM l D dA base yX6_commonOf cX6_commonOf 3 (some .int) 1 0 0 [.inr l0, .inl l1, .inl l2] h sz (some (.int out)) h sz :=
  AM.of (by decide +kernel) (Nat.le_of_ble_eq_true rfl) rfl (fun Γ C X hn => wX6_commonOf C X he)
set_option maxHeartbeats 4000000 in
set_option maxRecDepth 100000 in
theorem wX6_petalsOf {Γ : GG} (C : CX Γ cX6_petalsOf 3 RX6 2 0 0) {N : Nat} {sz : Nat} {h : Hp} {out : Int32} (X : RX Γ (some .int) (some (.int out)) h sz 0 0) {l0 : Option Nat} {l1 : Int32} {l2 : Int32} (he : fX6_petalsOf N h l0 l1 l2 = some out) : AW Γ 3 h sz 0 0 0 [(0, .inr l0), (1, .inl l1), (2, .inl l2)] [] := by
  unfold fX6_petalsOf at he
  refine aw_aload_n C dX6_petalsOf_0 rfl (j := 0) rfl ?_
  obtain ⟨v1, hv, he⟩ := ob he
  refine aw_gA C fk_X6_7 dX6_petalsOf_1 hv ?_
  refine aw_iload_n C dX6_petalsOf_4 rfl (j := 1) rfl ?_
  obtain ⟨v5, hv, he⟩ := ob he
  refine aw_iald C dX6_petalsOf_5 hv ?_
  refine aw_aload_n C dX6_petalsOf_6 rfl (j := 0) rfl ?_
  refine aw_iload_n C dX6_petalsOf_7 rfl (j := 1) rfl ?_
  refine aw_iload_n C dX6_petalsOf_8 rfl (j := 2) rfl ?_
  obtain ⟨hO, he⟩ := ifs he
  obtain ⟨v9, hv, he⟩ := ob he
  refine aw_callV (ci := 6) C mb_X6_133 ⟨q_942, q_47, rfl⟩ hO (cX6_commonOf_ _ _ _ _ hv) dX6_petalsOf_9 rfl (rest := [.int v5]) rfl (cat_le _ (Nat.le_of_ble_eq_true rfl)) (Nat.le_of_ble_eq_true rfl) (Nat.le_of_ble_eq_true rfl) (Nat.le_of_ble_eq_true rfl) (st2 := [.int v9, .int v5]) rfl ?_
  obtain ⟨hy, he⟩ := ifn he
  refine aw_idiv C dX6_petalsOf_12 hy ?_
  have he := Option.some.inj he
  subst he
  exact aw_iret C X dX6_petalsOf_13 (by decide) (by decide)
theorem cX6_petalsOf_ (l : Launch) (D : va_G) (dA : Nat → ClassId) (base : Nat) {N : Nat} {h : Hp} {sz : Nat} {l0 : Option Nat} {l1 : Int32} {l2 : Int32} {out : Int32} (he : fX6_petalsOf N h l0 l1 l2 = some out) : AM l D dA base yX6_petalsOf cX6_petalsOf 3 (some .int) 2 0 0 [.inr l0, .inl l1, .inl l2] h sz (some (.int out)) h sz :=
  AM.of (by decide +kernel) (Nat.le_of_ble_eq_true rfl) rfl (fun Γ C X hn => wX6_petalsOf C X he)
set_option maxHeartbeats 4000000 in
set_option maxRecDepth 100000 in
theorem wX6_roundsOf {Γ : GG} (C : CX Γ cX6_roundsOf 3 RX6 2 0 0) {N : Nat} {sz : Nat} {h : Hp} {out : Int32} (X : RX Γ (some .int) (some (.int out)) h sz 0 0) {l0 : Option Nat} {l1 : Int32} {l2 : Int32} (he : fX6_roundsOf N h l0 l1 l2 = some out) : AW Γ 3 h sz 0 0 0 [(0, .inr l0), (1, .inl l1), (2, .inl l2)] [] := by
  unfold fX6_roundsOf at he
  refine aw_aload_n C dX6_roundsOf_0 rfl (j := 0) rfl ?_
  obtain ⟨v1, hv, he⟩ := ob he
  refine aw_gA C fk_X6_13 dX6_roundsOf_1 hv ?_
  refine aw_iload_n C dX6_roundsOf_4 rfl (j := 2) rfl ?_
  obtain ⟨v5, hv, he⟩ := ob he
  refine aw_iald C dX6_roundsOf_5 hv ?_
  refine aw_aload_n C dX6_roundsOf_6 rfl (j := 0) rfl ?_
  refine aw_iload_n C dX6_roundsOf_7 rfl (j := 1) rfl ?_
  refine aw_iload_n C dX6_roundsOf_8 rfl (j := 2) rfl ?_
  obtain ⟨hO, he⟩ := ifs he
  obtain ⟨v9, hv, he⟩ := ob he
  refine aw_callV (ci := 6) C mb_X6_133 ⟨q_942, q_47, rfl⟩ hO (cX6_commonOf_ _ _ _ _ hv) dX6_roundsOf_9 rfl (rest := [.int v5]) rfl (cat_le _ (Nat.le_of_ble_eq_true rfl)) (Nat.le_of_ble_eq_true rfl) (Nat.le_of_ble_eq_true rfl) (Nat.le_of_ble_eq_true rfl) (st2 := [.int v9, .int v5]) rfl ?_
  obtain ⟨hy, he⟩ := ifn he
  refine aw_idiv C dX6_roundsOf_12 hy ?_
  have he := Option.some.inj he
  subst he
  exact aw_iret C X dX6_roundsOf_13 (by decide) (by decide)
theorem cX6_roundsOf_ (l : Launch) (D : va_G) (dA : Nat → ClassId) (base : Nat) {N : Nat} {h : Hp} {sz : Nat} {l0 : Option Nat} {l1 : Int32} {l2 : Int32} {out : Int32} (he : fX6_roundsOf N h l0 l1 l2 = some out) : AM l D dA base yX6_roundsOf cX6_roundsOf 3 (some .int) 2 0 0 [.inr l0, .inl l1, .inl l2] h sz (some (.int out)) h sz :=
  AM.of (by decide +kernel) (Nat.le_of_ble_eq_true rfl) rfl (fun Γ C X hn => wX6_roundsOf C X he)
set_option maxHeartbeats 4000000 in
set_option maxRecDepth 100000 in
theorem wX6_longOf {Γ : GG} (C : CX Γ cX6_longOf 3 RX6 3 0 0) {N : Nat} {sz : Nat} {h : Hp} {out : Int32} (X : RX Γ (some .int) (some (.int out)) h sz 0 0) {l0 : Option Nat} {l1 : Int32} {l2 : Int32} (he : fX6_longOf N h l0 l1 l2 = some out) : AW Γ 3 h sz 0 0 0 [(0, .inr l0), (1, .inl l1), (2, .inl l2)] [] := by
  unfold fX6_longOf at he
  refine aw_aload_n C dX6_longOf_0 rfl (j := 0) rfl ?_
  obtain ⟨v1, hv, he⟩ := ob he
  refine aw_gA C fk_X6_7 dX6_longOf_1 hv ?_
  refine aw_iload_n C dX6_longOf_4 rfl (j := 1) rfl ?_
  obtain ⟨v5, hv, he⟩ := ob he
  refine aw_iald C dX6_longOf_5 hv ?_
  refine aw_aload_n C dX6_longOf_6 rfl (j := 0) rfl ?_
  refine aw_iload_n C dX6_longOf_7 rfl (j := 1) rfl ?_
  refine aw_iload_n C dX6_longOf_8 rfl (j := 2) rfl ?_
  obtain ⟨hO, he⟩ := ifs he
  obtain ⟨v9, hv, he⟩ := ob he
  refine aw_callV (ci := 6) C mb_X6_136 ⟨q_949, q_48, rfl⟩ hO (cX6_roundsOf_ _ _ _ _ hv) dX6_longOf_9 rfl (rest := [.int v5]) rfl (cat_le _ (Nat.le_of_ble_eq_true rfl)) (Nat.le_of_ble_eq_true rfl) (Nat.le_of_ble_eq_true rfl) (Nat.le_of_ble_eq_true rfl) (st2 := [.int v9, .int v5]) rfl ?_
  refine aw_imul C dX6_longOf_12 ?_
  have he := Option.some.inj he
  subst he
  exact aw_iret C X dX6_longOf_13 (by decide) (by decide)
theorem cX6_longOf_ (l : Launch) (D : va_G) (dA : Nat → ClassId) (base : Nat) {N : Nat} {h : Hp} {sz : Nat} {l0 : Option Nat} {l1 : Int32} {l2 : Int32} {out : Int32} (he : fX6_longOf N h l0 l1 l2 = some out) : AM l D dA base yX6_longOf cX6_longOf 3 (some .int) 3 0 0 [.inr l0, .inl l1, .inl l2] h sz (some (.int out)) h sz :=
  AM.of (by decide +kernel) (Nat.le_of_ble_eq_true rfl) rfl (fun Γ C X hn => wX6_longOf C X he)
set_option maxHeartbeats 4000000 in
set_option maxRecDepth 100000 in
theorem wX6_wheel {Γ : GG} (C : CX Γ cX6_wheel 4 RX6 4 0 0) {N : Nat} {sz : Nat} {h : Hp} {out : Int32} (X : RX Γ (some .int) (some (.int out)) h sz 0 0) {l0 : Option Nat} {l1 : Int32} {l2 : Int32} {l3 : Int32} (he : fX6_wheel N h l0 l1 l2 l3 = some out) : AW Γ 4 h sz 0 0 0 [(0, .inr l0), (1, .inl l1), (2, .inl l2), (3, .inl l3)] [] := by
  unfold fX6_wheel at he
  refine aw_aload_n C dX6_wheel_0 rfl (j := 0) rfl ?_
  refine aw_iload_n C dX6_wheel_1 rfl (j := 1) rfl ?_
  obtain ⟨hO, he⟩ := ifs he
  obtain ⟨v2, hv, he⟩ := ob he
  refine aw_callV (ci := 6) C mb_X6_139 ⟨q_922, q_43, rfl⟩ hO (cX6_isRing_ _ _ _ _ hv) dX6_wheel_2 rfl (rest := []) rfl (cat_le _ (Nat.le_of_ble_eq_true rfl)) (Nat.le_of_ble_eq_true rfl) (Nat.le_of_ble_eq_true rfl) (Nat.le_of_ble_eq_true rfl) (st2 := [.int v2]) rfl ?_
  refine aw_if_eq (tgt := 25) C dX6_wheel_5 (by decide) (fun hc => ?_) (fun hc => ?_)
  · have he := ift hc he
    refine aw_iconst (v := -1) C dX6_wheel_25 (by decide) ?_
    have he := Option.some.inj he
    subst he
    exact aw_iret C X dX6_wheel_26 (by decide) (by decide)
  · have he := iff_ hc he
    refine aw_aload_n C dX6_wheel_8 rfl (j := 0) rfl ?_
    refine aw_iload_n C dX6_wheel_9 rfl (j := 2) rfl ?_
    obtain ⟨hO, he⟩ := ifs he
    obtain ⟨v10, hv, he⟩ := ob he
    refine aw_callV (ci := 6) C mb_X6_143 ⟨q_930, q_44, rfl⟩ hO (cX6_isWheel_ _ _ _ _ hv) dX6_wheel_10 rfl (rest := []) rfl (cat_le _ (Nat.le_of_ble_eq_true rfl)) (Nat.le_of_ble_eq_true rfl) (Nat.le_of_ble_eq_true rfl) (Nat.le_of_ble_eq_true rfl) (st2 := [.int v10]) rfl ?_
    refine aw_if_eq (tgt := 25) C dX6_wheel_13 (by decide) (fun hc => ?_) (fun hc => ?_)
    · have he := ift hc he
      refine aw_iconst (v := -1) C dX6_wheel_25 (by decide) ?_
      have he := Option.some.inj he
      subst he
      exact aw_iret C X dX6_wheel_26 (by decide) (by decide)
    · have he := iff_ hc he
      refine aw_iload_n C dX6_wheel_16 rfl (j := 3) rfl ?_
      refine aw_iconst (v := 0) C dX6_wheel_17 (by decide) ?_
      refine aw_iconst (v := 3) C dX6_wheel_18 (by decide) ?_
      obtain ⟨v19, hv, he⟩ := ob he
      refine aw_callS C mb_X6_62 q_874 (cX6_in_ _ _ _ _ hv) dX6_wheel_19 rfl (rest := []) rfl (cat_le _ (Nat.le_of_ble_eq_true rfl)) (Nat.le_of_ble_eq_true rfl) (Nat.le_of_ble_eq_true rfl) (Nat.le_of_ble_eq_true rfl) (st2 := [.int v19]) rfl ?_
      refine aw_if_ne (tgt := 27) C dX6_wheel_22 (by decide) (fun hc => ?_) (fun hc => ?_)
      · have he := ift hc he
        refine aw_iconst (v := -1) C dX6_wheel_25 (by decide) ?_
        have he := Option.some.inj he
        subst he
        exact aw_iret C X dX6_wheel_26 (by decide) (by decide)
      · have he := iff_ hc he
        refine aw_iload_n C dX6_wheel_27 rfl (j := 3) rfl ?_
        refine aw_if_ne (tgt := 38) C dX6_wheel_28 (by decide) (fun hc => ?_) (fun hc => ?_)
        · have he := ift hc he
          refine aw_aload_n C dX6_wheel_31 rfl (j := 0) rfl ?_
          obtain ⟨v32, hv, he⟩ := ob he
          refine aw_gA C fk_X6_13 dX6_wheel_32 hv ?_
          refine aw_iload_n C dX6_wheel_35 rfl (j := 2) rfl ?_
          obtain ⟨v36, hv, he⟩ := ob he
          refine aw_iald C dX6_wheel_36 hv ?_
          have he := Option.some.inj he
          subst he
          exact aw_iret C X dX6_wheel_37 (by decide) (by decide)
        · have he := iff_ hc he
          refine aw_aload_n C dX6_wheel_38 rfl (j := 0) rfl ?_
          refine aw_iload_n C dX6_wheel_39 rfl (j := 1) rfl ?_
          refine aw_iload_n C dX6_wheel_40 rfl (j := 2) rfl ?_
          obtain ⟨hO, he⟩ := ifs he
          obtain ⟨v41, hv, he⟩ := ob he
          refine aw_callV (ci := 6) C mb_X6_146 ⟨q_934, q_45, rfl⟩ hO (cX6_fits_ _ _ _ _ hv) dX6_wheel_41 rfl (rest := []) rfl (cat_le _ (Nat.le_of_ble_eq_true rfl)) (Nat.le_of_ble_eq_true rfl) (Nat.le_of_ble_eq_true rfl) (Nat.le_of_ble_eq_true rfl) (st2 := [.int v41]) rfl ?_
          refine aw_if_ne (tgt := 50) C dX6_wheel_44 (by decide) (fun hc => ?_) (fun hc => ?_)
          · have he := ift hc he
            refine aw_bipush (v := -9) C dX6_wheel_47 (by decide) ?_
            have he := Option.some.inj he
            subst he
            exact aw_iret C X dX6_wheel_49 (by decide) (by decide)
          · have he := iff_ hc he
            refine aw_iload_n C dX6_wheel_50 rfl (j := 3) rfl ?_
            refine aw_iconst (v := 1) C dX6_wheel_51 (by decide) ?_
            refine aw_ic_ne (tgt := 64) C dX6_wheel_52 (by decide) (fun hc => ?_) (fun hc => ?_)
            · have he := ift hc he
              refine aw_aload_n C dX6_wheel_55 rfl (j := 0) rfl ?_
              refine aw_iload_n C dX6_wheel_56 rfl (j := 1) rfl ?_
              refine aw_iload_n C dX6_wheel_57 rfl (j := 2) rfl ?_
              obtain ⟨hO, he⟩ := ifs he
              obtain ⟨v58, hv, he⟩ := ob he
              refine aw_callV (ci := 6) C mb_X6_149 ⟨q_938, q_46, rfl⟩ hO (cX6_petalsOf_ _ _ _ _ hv) dX6_wheel_58 rfl (rest := []) rfl (cat_le _ (Nat.le_of_ble_eq_true rfl)) (Nat.le_of_ble_eq_true rfl) (Nat.le_of_ble_eq_true rfl) (Nat.le_of_ble_eq_true rfl) (st2 := [.int v58]) rfl ?_
              refine aw_goto (tgt := 84) C dX6_wheel_61 (by decide) ?_
              have he := Option.some.inj he
              subst he
              exact aw_iret C X dX6_wheel_84 (by decide) (by decide)
            · have he := iff_ hc he
              refine aw_iload_n C dX6_wheel_64 rfl (j := 3) rfl ?_
              refine aw_iconst (v := 2) C dX6_wheel_65 (by decide) ?_
              refine aw_ic_ne (tgt := 78) C dX6_wheel_66 (by decide) (fun hc => ?_) (fun hc => ?_)
              · have he := ift hc he
                refine aw_aload_n C dX6_wheel_69 rfl (j := 0) rfl ?_
                refine aw_iload_n C dX6_wheel_70 rfl (j := 1) rfl ?_
                refine aw_iload_n C dX6_wheel_71 rfl (j := 2) rfl ?_
                obtain ⟨hO, he⟩ := ifs he
                obtain ⟨v72, hv, he⟩ := ob he
                refine aw_callV (ci := 6) C mb_X6_136 ⟨q_949, q_48, rfl⟩ hO (cX6_roundsOf_ _ _ _ _ hv) dX6_wheel_72 rfl (rest := []) rfl (cat_le _ (Nat.le_of_ble_eq_true rfl)) (Nat.le_of_ble_eq_true rfl) (Nat.le_of_ble_eq_true rfl) (Nat.le_of_ble_eq_true rfl) (st2 := [.int v72]) rfl ?_
                refine aw_goto (tgt := 84) C dX6_wheel_75 (by decide) ?_
                have he := Option.some.inj he
                subst he
                exact aw_iret C X dX6_wheel_84 (by decide) (by decide)
              · have he := iff_ hc he
                refine aw_aload_n C dX6_wheel_78 rfl (j := 0) rfl ?_
                refine aw_iload_n C dX6_wheel_79 rfl (j := 1) rfl ?_
                refine aw_iload_n C dX6_wheel_80 rfl (j := 2) rfl ?_
                obtain ⟨hO, he⟩ := ifs he
                obtain ⟨v81, hv, he⟩ := ob he
                refine aw_callV (ci := 6) C mb_X6_152 ⟨q_953, q_49, rfl⟩ hO (cX6_longOf_ _ _ _ _ hv) dX6_wheel_81 rfl (rest := []) rfl (cat_le _ (Nat.le_of_ble_eq_true rfl)) (Nat.le_of_ble_eq_true rfl) (Nat.le_of_ble_eq_true rfl) (Nat.le_of_ble_eq_true rfl) (st2 := [.int v81]) rfl ?_
                have he := Option.some.inj he
                subst he
                exact aw_iret C X dX6_wheel_84 (by decide) (by decide)
theorem cX6_wheel_ (l : Launch) (D : va_G) (dA : Nat → ClassId) (base : Nat) {N : Nat} {h : Hp} {sz : Nat} {l0 : Option Nat} {l1 : Int32} {l2 : Int32} {l3 : Int32} {out : Int32} (he : fX6_wheel N h l0 l1 l2 l3 = some out) : AM l D dA base yX6_wheel cX6_wheel 4 (some .int) 4 0 0 [.inr l0, .inl l1, .inl l2, .inl l3] h sz (some (.int out)) h sz :=
  AM.of (by decide +kernel) (Nat.le_of_ble_eq_true rfl) rfl (fun Γ C X hn => wX6_wheel C X he)
set_option maxHeartbeats 4000000 in
set_option maxRecDepth 100000 in
theorem wX0_hasPen {Γ : GG} (C : CX Γ cX0_hasPen 2 RX0 0 0 0) {N : Nat} {sz : Nat} {h : Hp} {out : Int32} (X : RX Γ (some .boolean) (some (.int out)) h sz 0 0) {l0 : Option Nat} {l1 : Int32} (he : fX0_hasPen N h l0 l1 = some out) : AW Γ 2 h sz 0 0 0 [(0, .inr l0), (1, .inl l1)] [] := by
  unfold fX0_hasPen at he
  refine aw_iload_n C dX0_hasPen_0 rfl (j := 1) rfl ?_
  refine aw_if_lt (tgt := 16) C dX0_hasPen_1 (by decide) (fun hc => ?_) (fun hc => ?_)
  · have he := ift hc he
    refine aw_iconst (v := 0) C dX0_hasPen_16 (by decide) ?_
    have he := Option.some.inj he
    subst he
    exact aw_zret C X (by decide) dX0_hasPen_17 (by decide) (by decide)
  · have he := iff_ hc he
    refine aw_iload_n C dX0_hasPen_4 rfl (j := 1) rfl ?_
    refine aw_aload_n C dX0_hasPen_5 rfl (j := 0) rfl ?_
    obtain ⟨v6, hv, he⟩ := ob he
    refine aw_gI C fk_X0_28 dX0_hasPen_6 hv ?_
    refine aw_ic_ge (tgt := 16) C dX0_hasPen_9 (by decide) (fun hc => ?_) (fun hc => ?_)
    · have he := ift hc he
      refine aw_iconst (v := 0) C dX0_hasPen_16 (by decide) ?_
      have he := Option.some.inj he
      subst he
      exact aw_zret C X (by decide) dX0_hasPen_17 (by decide) (by decide)
    · have he := iff_ hc he
      refine aw_iconst (v := 1) C dX0_hasPen_12 (by decide) ?_
      refine aw_goto (tgt := 17) C dX0_hasPen_13 (by decide) ?_
      have he := Option.some.inj he
      subst he
      exact aw_zret C X (by decide) dX0_hasPen_17 (by decide) (by decide)
theorem cX0_hasPen_ (l : Launch) (D : va_G) (dA : Nat → ClassId) (base : Nat) {N : Nat} {h : Hp} {sz : Nat} {l0 : Option Nat} {l1 : Int32} {out : Int32} (he : fX0_hasPen N h l0 l1 = some out) : AM l D dA base yX0_hasPen cX0_hasPen 2 (some .boolean) 0 0 0 [.inr l0, .inl l1] h sz (some (.int out)) h sz :=
  AM.of (by decide +kernel) (Nat.le_of_ble_eq_true rfl) rfl (fun Γ C X hn => wX0_hasPen C X he)
set_option maxHeartbeats 4000000 in
set_option maxRecDepth 100000 in
theorem wX2_inkOf {Γ : GG} (C : CX Γ cX2_inkOf 2 RX2 0 0 0) {N : Nat} {sz : Nat} {h : Hp} {out : Int32} (X : RX Γ (some .int) (some (.int out)) h sz 0 0) {l0 : Option Nat} {l1 : Int32} (he : fX2_inkOf N h l0 l1 = some out) : AW Γ 2 h sz 0 0 0 [(0, .inr l0), (1, .inl l1)] [] := by
  unfold fX2_inkOf at he
  refine aw_iload_n C dX2_inkOf_0 rfl (j := 1) rfl ?_
  refine aw_if_lt (tgt := 22) C dX2_inkOf_1 (by decide) (fun hc => ?_) (fun hc => ?_)
  · have he := ift hc he
    refine aw_iconst (v := 0) C dX2_inkOf_22 (by decide) ?_
    have he := Option.some.inj he
    subst he
    exact aw_iret C X dX2_inkOf_23 (by decide) (by decide)
  · have he := iff_ hc he
    refine aw_iload_n C dX2_inkOf_4 rfl (j := 1) rfl ?_
    refine aw_aload_n C dX2_inkOf_5 rfl (j := 0) rfl ?_
    obtain ⟨v6, hv, he⟩ := ob he
    refine aw_gA C fk_X2_15 dX2_inkOf_6 hv ?_
    obtain ⟨v9, hv, he⟩ := ob he
    refine aw_alen C dX2_inkOf_9 hv ?_
    refine aw_ic_ge (tgt := 22) C dX2_inkOf_10 (by decide) (fun hc => ?_) (fun hc => ?_)
    · have he := ift hc he
      refine aw_iconst (v := 0) C dX2_inkOf_22 (by decide) ?_
      have he := Option.some.inj he
      subst he
      exact aw_iret C X dX2_inkOf_23 (by decide) (by decide)
    · have he := iff_ hc he
      refine aw_aload_n C dX2_inkOf_13 rfl (j := 0) rfl ?_
      obtain ⟨v14, hv, he⟩ := ob he
      refine aw_gA C fk_X2_15 dX2_inkOf_14 hv ?_
      refine aw_iload_n C dX2_inkOf_17 rfl (j := 1) rfl ?_
      obtain ⟨v18, hv, he⟩ := ob he
      refine aw_iald C dX2_inkOf_18 hv ?_
      refine aw_goto (tgt := 23) C dX2_inkOf_19 (by decide) ?_
      have he := Option.some.inj he
      subst he
      exact aw_iret C X dX2_inkOf_23 (by decide) (by decide)
theorem cX2_inkOf_ (l : Launch) (D : va_G) (dA : Nat → ClassId) (base : Nat) {N : Nat} {h : Hp} {sz : Nat} {l0 : Option Nat} {l1 : Int32} {out : Int32} (he : fX2_inkOf N h l0 l1 = some out) : AM l D dA base yX2_inkOf cX2_inkOf 2 (some .int) 0 0 0 [.inr l0, .inl l1] h sz (some (.int out)) h sz :=
  AM.of (by decide +kernel) (Nat.le_of_ble_eq_true rfl) rfl (fun Γ C X hn => wX2_inkOf C X he)
set_option maxHeartbeats 4000000 in
set_option maxRecDepth 100000 in
theorem wX2_curveAt {Γ : GG} (C : CX Γ cX2_curveAt 2 RX2 0 0 0) {N : Nat} {sz : Nat} {h : Hp} {out : Option Nat} (X : RX Γ (some (.object "PetalWheels$Curve")) (some (va_rf out)) h sz 0 0) {l0 : Option Nat} {l1 : Int32} (he : fX2_curveAt N h l0 l1 = some out) : AW Γ 2 h sz 0 0 0 [(0, .inr l0), (1, .inl l1)] [] := by
  unfold fX2_curveAt at he
  refine aw_iload_n C dX2_curveAt_0 rfl (j := 1) rfl ?_
  refine aw_if_lt (tgt := 22) C dX2_curveAt_1 (by decide) (fun hc => ?_) (fun hc => ?_)
  · have he := ift hc he
    refine aw_null C dX2_curveAt_22 ?_
    have he := Option.some.inj he
    subst he
    exact aw_aret C X (Or.inl ⟨_, rfl⟩) dX2_curveAt_23 (by decide) (by decide)
  · have he := iff_ hc he
    refine aw_iload_n C dX2_curveAt_4 rfl (j := 1) rfl ?_
    refine aw_aload_n C dX2_curveAt_5 rfl (j := 0) rfl ?_
    obtain ⟨v6, hv, he⟩ := ob he
    refine aw_gA C fk_X2_19 dX2_curveAt_6 hv ?_
    obtain ⟨v9, hv, he⟩ := ob he
    refine aw_alen C dX2_curveAt_9 hv ?_
    refine aw_ic_ge (tgt := 22) C dX2_curveAt_10 (by decide) (fun hc => ?_) (fun hc => ?_)
    · have he := ift hc he
      refine aw_null C dX2_curveAt_22 ?_
      have he := Option.some.inj he
      subst he
      exact aw_aret C X (Or.inl ⟨_, rfl⟩) dX2_curveAt_23 (by decide) (by decide)
    · have he := iff_ hc he
      refine aw_aload_n C dX2_curveAt_13 rfl (j := 0) rfl ?_
      obtain ⟨v14, hv, he⟩ := ob he
      refine aw_gA C fk_X2_19 dX2_curveAt_14 hv ?_
      refine aw_iload_n C dX2_curveAt_17 rfl (j := 1) rfl ?_
      obtain ⟨v18, hv, he⟩ := ob he
      refine aw_aald C (by decide) dX2_curveAt_18 hv ?_
      refine aw_goto (tgt := 23) C dX2_curveAt_19 (by decide) ?_
      have he := Option.some.inj he
      subst he
      exact aw_aret C X (Or.inl ⟨_, rfl⟩) dX2_curveAt_23 (by decide) (by decide)
theorem cX2_curveAt_ (l : Launch) (D : va_G) (dA : Nat → ClassId) (base : Nat) {N : Nat} {h : Hp} {sz : Nat} {l0 : Option Nat} {l1 : Int32} {out : Option Nat} (he : fX2_curveAt N h l0 l1 = some out) : AM l D dA base yX2_curveAt cX2_curveAt 2 (some (.object "PetalWheels$Curve")) 0 0 0 [.inr l0, .inl l1] h sz (some (va_rf out)) h sz :=
  AM.of (by decide +kernel) (Nat.le_of_ble_eq_true rfl) rfl (fun Γ C X hn => wX2_curveAt C X he)
set_option maxHeartbeats 4000000 in
set_option maxRecDepth 100000 in
theorem wX2_hasCurveIn_L2 {Γ : GG} (C : CX Γ cX2_hasCurveIn 4 RX2 1 0 0) {N : Nat} {sz : Nat} {h : Hp} {α : Type} {out : α} {K29 : Option α} (k29 : K29  = some out → AW Γ 4 h sz 0 0 29 [] []) {K37 : Option α} (k37 : K37  = some out → AW Γ 4 h sz 0 0 37 [] []) : ∀ (n : Nat) (l0 : Option Nat) (l1 : Int32) (l2 : Int32), fX2_hasCurveIn_L2 N h K29 K37 n l0 l1 l2 = some out → AW Γ 4 h sz 0 0 2 [(0, .inr l0), (1, .inl l1), (2, .inl l2)] [] := by
  intro n
  induction n with
  | zero =>
    intro l0 l1 l2 he
    rw [fX2_hasCurveIn_L2] at he
    cases he
  | succ n ih =>
    intro l0 l1 l2 he
    rw [fX2_hasCurveIn_L2] at he
    refine aw_iload_n C dX2_hasCurveIn_2 rfl (j := 2) rfl ?_
    refine aw_aload_n C dX2_hasCurveIn_3 rfl (j := 0) rfl ?_
    obtain ⟨v4, hv, he⟩ := ob he
    refine aw_gA C fk_X2_19 dX2_hasCurveIn_4 hv ?_
    obtain ⟨v7, hv, he⟩ := ob he
    refine aw_alen C dX2_hasCurveIn_7 hv ?_
    refine aw_ic_ge (tgt := 37) C dX2_hasCurveIn_8 (by decide) (fun hc => ?_) (fun hc => ?_)
    · have he := ift hc he
      refine aw_sub [] (lv' := []) rfl ?_
      exact k37  he
    · have he := iff_ hc he
      refine aw_aload_n C dX2_hasCurveIn_11 rfl (j := 0) rfl ?_
      refine aw_iload_n C dX2_hasCurveIn_12 rfl (j := 2) rfl ?_
      obtain ⟨hO, he⟩ := ifs he
      obtain ⟨v13, hv, he⟩ := ob he
      refine aw_callV (ci := 2) C mb_X2_23 ⟨q_425, q_426, rfl⟩ hO (cX2_curveAt_ _ _ _ _ hv) dX2_hasCurveIn_13 rfl (rest := []) rfl (cat_le _ (Nat.le_of_ble_eq_true rfl)) (Nat.le_of_ble_eq_true rfl) (Nat.le_of_ble_eq_true rfl) (Nat.le_of_ble_eq_true rfl) (st2 := [va_rf v13]) rfl ?_
      refine aw_astore_n C dX2_hasCurveIn_16 rfl (by decide) rfl (lv' := [(0, .inr l0), (1, .inl l1), (2, .inl l2), (3, .inr v13)]) rfl ?_
      refine aw_aload_n C dX2_hasCurveIn_17 rfl (j := 3) rfl ?_
      refine aw_ifnull (tgt := 31) C dX2_hasCurveIn_18 (by decide) (fun hc => ?_) (fun hc => ?_)
      · have he := ift hc he
        refine aw_iinc (y := 1) C dX2_hasCurveIn_31 (by decide) (j := 2) rfl (by decide) rfl (lv' := [(0, .inr l0), (1, .inl l1), (2, .inl (l2 + 1)), (3, .inr v13)]) rfl ?_
        refine aw_goto (tgt := 2) C dX2_hasCurveIn_34 (by decide) ?_
        refine aw_sub [0, 1, 2] (lv' := [(0, .inr l0), (1, .inl l1), (2, .inl (l2 + 1))]) rfl ?_
        exact ih _ _ _ he
      · have he := iff_ hc he
        refine aw_aload_n C dX2_hasCurveIn_21 rfl (j := 3) rfl ?_
        obtain ⟨v22, hv, he⟩ := ob he
        refine aw_gI C fk_X2_27 dX2_hasCurveIn_22 hv ?_
        refine aw_iload_n C dX2_hasCurveIn_25 rfl (j := 1) rfl ?_
        refine aw_ic_ne (tgt := 31) C dX2_hasCurveIn_26 (by decide) (fun hc => ?_) (fun hc => ?_)
        · have he := ift hc he
          refine aw_sub [] (lv' := []) rfl ?_
          exact k29  he
        · have he := iff_ hc he
          refine aw_iinc (y := 1) C dX2_hasCurveIn_31 (by decide) (j := 2) rfl (by decide) rfl (lv' := [(0, .inr l0), (1, .inl l1), (2, .inl (l2 + 1)), (3, .inr v13)]) rfl ?_
          refine aw_goto (tgt := 2) C dX2_hasCurveIn_34 (by decide) ?_
          refine aw_sub [0, 1, 2] (lv' := [(0, .inr l0), (1, .inl l1), (2, .inl (l2 + 1))]) rfl ?_
          exact ih _ _ _ he
set_option maxHeartbeats 4000000 in
set_option maxRecDepth 100000 in
theorem wX2_hasCurveIn {Γ : GG} (C : CX Γ cX2_hasCurveIn 4 RX2 1 0 0) {N : Nat} {sz : Nat} {h : Hp} {out : Int32} (X : RX Γ (some .boolean) (some (.int out)) h sz 0 0) {l0 : Option Nat} {l1 : Int32} (he : fX2_hasCurveIn N h l0 l1 = some out) : AW Γ 4 h sz 0 0 0 [(0, .inr l0), (1, .inl l1)] [] := by
  unfold fX2_hasCurveIn at he
  refine aw_iconst (v := 0) C dX2_hasCurveIn_0 (by decide) ?_
  refine aw_istore_n C dX2_hasCurveIn_1 rfl (by decide) rfl (lv' := [(0, .inr l0), (1, .inl l1), (2, .inl (0 : Int32))]) rfl ?_
  refine wX2_hasCurveIn_L2 C ?_ ?_ N _ _ _ he
  · intro he
    refine aw_iconst (v := 1) C dX2_hasCurveIn_29 (by decide) ?_
    have he := Option.some.inj he
    subst he
    exact aw_zret C X (by decide) dX2_hasCurveIn_30 (by decide) (by decide)
  · intro he
    refine aw_iconst (v := 0) C dX2_hasCurveIn_37 (by decide) ?_
    have he := Option.some.inj he
    subst he
    exact aw_zret C X (by decide) dX2_hasCurveIn_38 (by decide) (by decide)
theorem cX2_hasCurveIn_ (l : Launch) (D : va_G) (dA : Nat → ClassId) (base : Nat) {N : Nat} {h : Hp} {sz : Nat} {l0 : Option Nat} {l1 : Int32} {out : Int32} (he : fX2_hasCurveIn N h l0 l1 = some out) : AM l D dA base yX2_hasCurveIn cX2_hasCurveIn 4 (some .boolean) 1 0 0 [.inr l0, .inl l1] h sz (some (.int out)) h sz :=
  AM.of (by decide +kernel) (Nat.le_of_ble_eq_true rfl) rfl (fun Γ C X hn => wX2_hasCurveIn C X he)
set_option maxHeartbeats 4000000 in
set_option maxRecDepth 100000 in
theorem wJ7_fill_53178_L5 {Γ : GG} (C : CX Γ cJ7_fill_53178 4 RJ7 0 0 0) {N : Nat} {sz : Nat} {α : Type} {out : α} {K20 : Hp → Option α} (k20 : ∀ (h : Hp), K20 h = some out → AW Γ 4 h sz 0 0 20 [] []) : ∀ (n : Nat) (h : Hp) (l0 : Option Nat) (l1 : Int32) (l2 : Int32) (l3 : Int32), fJ7_fill_53178_L5 N K20 n h l0 l1 l2 l3 = some out → AW Γ 4 h sz 0 0 5 [(0, .inr l0), (1, .inl l1), (2, .inl l2), (3, .inl l3)] [] := by
  intro n
  induction n with
  | zero =>
    intro h l0 l1 l2 l3 he
    rw [fJ7_fill_53178_L5] at he
    cases he
  | succ n ih =>
    intro h l0 l1 l2 l3 he
    rw [fJ7_fill_53178_L5] at he
    refine aw_iload_n C dJ7_fill_53178_5 rfl (j := 2) rfl ?_
    refine aw_iload_n C dJ7_fill_53178_6 rfl (j := 3) rfl ?_
    refine aw_ic_ge (tgt := 20) C dJ7_fill_53178_7 (by decide) (fun hc => ?_) (fun hc => ?_)
    · have he := ift hc he
      refine aw_sub [] (lv' := []) rfl ?_
      exact k20 _ he
    · have he := iff_ hc he
      refine aw_aload_n C dJ7_fill_53178_10 rfl (j := 0) rfl ?_
      refine aw_iload_n C dJ7_fill_53178_11 rfl (j := 2) rfl ?_
      refine aw_iload_n C dJ7_fill_53178_12 rfl (j := 1) rfl ?_
      obtain ⟨h13, hv, he⟩ := ob he
      refine aw_iast C dJ7_fill_53178_13 hv ?_
      refine aw_iinc (y := 1) C dJ7_fill_53178_14 (by decide) (j := 2) rfl (by decide) rfl (lv' := [(0, .inr l0), (1, .inl l1), (2, .inl (l2 + 1)), (3, .inl l3)]) rfl ?_
      refine aw_goto (tgt := 5) C dJ7_fill_53178_17 (by decide) ?_
      exact ih _ _ _ _ _ he
set_option maxHeartbeats 4000000 in
set_option maxRecDepth 100000 in
theorem wJ7_fill_53178 {Γ : GG} (C : CX Γ cJ7_fill_53178 4 RJ7 0 0 0) {N : Nat} {sz : Nat} {out : Hp} (X : RX Γ none none out sz 0 0) {h : Hp} {l0 : Option Nat} {l1 : Int32} (he : fJ7_fill_53178 N h l0 l1 = some out) : AW Γ 4 h sz 0 0 0 [(0, .inr l0), (1, .inl l1)] [] := by
  unfold fJ7_fill_53178 at he
  refine aw_iconst (v := 0) C dJ7_fill_53178_0 (by decide) ?_
  refine aw_istore_n C dJ7_fill_53178_1 rfl (by decide) rfl (lv' := [(0, .inr l0), (1, .inl l1), (2, .inl (0 : Int32))]) rfl ?_
  refine aw_aload_n C dJ7_fill_53178_2 rfl (j := 0) rfl ?_
  obtain ⟨v3, hv, he⟩ := ob he
  refine aw_alen C dJ7_fill_53178_3 hv ?_
  refine aw_istore_n C dJ7_fill_53178_4 rfl (by decide) rfl (lv' := [(0, .inr l0), (1, .inl l1), (2, .inl (0 : Int32)), (3, .inl v3)]) rfl ?_
  refine wJ7_fill_53178_L5 C ?_ N _ _ _ _ _ he
  intro h he
  have he := Option.some.inj he
  subst he
  exact aw_vret C X dJ7_fill_53178_20 (by decide) (by decide)
theorem cJ7_fill_53178_ (l : Launch) (D : va_G) (dA : Nat → ClassId) (base : Nat) {N : Nat} {h : Hp} {sz : Nat} {l0 : Option Nat} {l1 : Int32} {out : Hp} (he : fJ7_fill_53178 N h l0 l1 = some out) : AM l D dA base yJ7_fill_53178 cJ7_fill_53178 4 none 0 0 0 [.inr l0, .inl l1] h sz none out sz :=
  AM.ofF (by decide +kernel) (Nat.le_of_ble_eq_true rfl) rfl (fun Γ C X hn => wJ7_fill_53178 C X he)
set_option maxHeartbeats 4000000 in
set_option maxRecDepth 100000 in
theorem wX1_pointOf {Γ : GG} (C : CX Γ cX1_pointOf 2 RX1 2 0 0) {N : Nat} {sz : Nat} {h : Hp} {out : Int32} (X : RX Γ (some .int) (some (.int out)) h sz 0 0) {l0 : Option Nat} {l1 : Int32} (he : fX1_pointOf N h l0 l1 = some out) : AW Γ 2 h sz 0 0 0 [(0, .inr l0), (1, .inl l1)] [] := by
  unfold fX1_pointOf at he
  refine aw_aload_n C dX1_pointOf_0 rfl (j := 0) rfl ?_
  obtain ⟨v1, hv, he⟩ := ob he
  refine aw_gI C fk_X1_55 dX1_pointOf_1 hv ?_
  refine aw_aload_n C dX1_pointOf_4 rfl (j := 0) rfl ?_
  obtain ⟨v5, hv, he⟩ := ob he
  refine aw_gI C fk_X1_48 dX1_pointOf_5 hv ?_
  refine aw_iload_n C dX1_pointOf_8 rfl (j := 1) rfl ?_
  refine aw_imul C dX1_pointOf_9 ?_
  refine aw_iadd C dX1_pointOf_10 ?_
  refine aw_sipush (v := 360) C dX1_pointOf_11 (by decide) ?_
  obtain ⟨v14, hv, he⟩ := ob he
  refine aw_callS C mb_X1_58 q_302 (cX5_rest_ _ _ _ _ hv) dX1_pointOf_14 rfl (rest := []) rfl (cat_le _ (Nat.le_of_ble_eq_true rfl)) (Nat.le_of_ble_eq_true rfl) (Nat.le_of_ble_eq_true rfl) (Nat.le_of_ble_eq_true rfl) (st2 := [.int v14]) rfl ?_
  have he := Option.some.inj he
  subst he
  exact aw_iret C X dX1_pointOf_17 (by decide) (by decide)
theorem cX1_pointOf_ (l : Launch) (D : va_G) (dA : Nat → ClassId) (base : Nat) {N : Nat} {h : Hp} {sz : Nat} {l0 : Option Nat} {l1 : Int32} {out : Int32} (he : fX1_pointOf N h l0 l1 = some out) : AM l D dA base yX1_pointOf cX1_pointOf 2 (some .int) 2 0 0 [.inr l0, .inl l1] h sz (some (.int out)) h sz :=
  AM.of (by decide +kernel) (Nat.le_of_ble_eq_true rfl) rfl (fun Γ C X hn => wX1_pointOf C X he)
set_option maxHeartbeats 4000000 in
set_option maxRecDepth 100000 in
theorem wX5_noteShown_L47 {Γ : GG} (C : CX Γ cX5_noteShown 5 RX5 3 0 0) {N : Nat} {sz : Nat} {α : Type} {out : α} {K74 : Hp → Option Nat → Int32 → Int32 → Option α} (k74 : ∀ (h : Hp) (l0 : Option Nat) (l1 : Int32) (l2 : Int32), K74 h l0 l1 l2 = some out → AW Γ 5 h sz 0 0 74 [(0, .inr l0), (1, .inl l1), (2, .inl l2)] []) : ∀ (n : Nat) (h : Hp) (l0 : Option Nat) (l1 : Int32) (l2 : Int32) (l3 : Option Nat) (l4 : Int32), fX5_noteShown_L47 N K74 n h l0 l1 l2 l3 l4 = some out → AW Γ 5 h sz 0 0 47 [(0, .inr l0), (1, .inl l1), (2, .inl l2), (3, .inr l3), (4, .inl l4)] [] := by
  intro n
  induction n with
  | zero =>
    intro h l0 l1 l2 l3 l4 he
    rw [fX5_noteShown_L47] at he
    cases he
  | succ n ih =>
    intro h l0 l1 l2 l3 l4 he
    rw [fX5_noteShown_L47] at he
    refine aw_iload C dX5_noteShown_47 (j := 4) rfl ?_
    refine aw_aload_n C dX5_noteShown_49 rfl (j := 3) rfl ?_
    obtain ⟨v50, hv, he⟩ := ob he
    refine aw_gI C fk_X5_228 dX5_noteShown_50 hv ?_
    refine aw_ic_ge (tgt := 74) C dX5_noteShown_53 (by decide) (fun hc => ?_) (fun hc => ?_)
    · have he := ift hc he
      refine aw_sub [0, 1, 2] (lv' := [(0, .inr l0), (1, .inl l1), (2, .inl l2)]) rfl ?_
      exact k74 _ _ _ _ he
    · have he := iff_ hc he
      refine aw_aload_n C dX5_noteShown_56 rfl (j := 0) rfl ?_
      obtain ⟨v57, hv, he⟩ := ob he
      refine aw_gA C fk_X5_58 dX5_noteShown_57 hv ?_
      refine aw_aload_n C dX5_noteShown_60 rfl (j := 3) rfl ?_
      refine aw_iload C dX5_noteShown_61 (j := 4) rfl ?_
      obtain ⟨hO, he⟩ := ifs he
      obtain ⟨v63, hv, he⟩ := ob he
      refine aw_callV (ci := 1) C mb_X5_231 ⟨q_441, q_442, rfl⟩ hO (cX1_pointOf_ _ _ _ _ hv) dX5_noteShown_63 rfl (rest := [va_rf v57]) rfl (cat_le _ (Nat.le_of_ble_eq_true rfl)) (Nat.le_of_ble_eq_true rfl) (Nat.le_of_ble_eq_true rfl) (Nat.le_of_ble_eq_true rfl) (st2 := [.int v63, va_rf v57]) rfl ?_
      refine aw_iload_n C dX5_noteShown_66 rfl (j := 2) rfl ?_
      obtain ⟨h67, hv, he⟩ := ob he
      refine aw_iast C dX5_noteShown_67 hv ?_
      refine aw_iinc (y := 1) C dX5_noteShown_68 (by decide) (j := 4) rfl (by decide) rfl (lv' := [(0, .inr l0), (1, .inl l1), (2, .inl l2), (3, .inr l3), (4, .inl (l4 + 1))]) rfl ?_
      refine aw_goto (tgt := 47) C dX5_noteShown_71 (by decide) ?_
      exact ih _ _ _ _ _ _ he
set_option maxHeartbeats 4000000 in
set_option maxRecDepth 100000 in
theorem wX5_noteShown_L11 {Γ : GG} (C : CX Γ cX5_noteShown 5 RX5 3 0 0) {N : Nat} {sz : Nat} {α : Type} {out : α} {K80 : Hp → Option α} (k80 : ∀ (h : Hp), K80 h = some out → AW Γ 5 h sz 0 0 80 [] []) : ∀ (n : Nat) (h : Hp) (l0 : Option Nat) (l1 : Int32) (l2 : Int32), fX5_noteShown_L11 N K80 n h l0 l1 l2 = some out → AW Γ 5 h sz 0 0 11 [(0, .inr l0), (1, .inl l1), (2, .inl l2)] [] := by
  intro n
  induction n with
  | zero =>
    intro h l0 l1 l2 he
    rw [fX5_noteShown_L11] at he
    cases he
  | succ n ih =>
    intro h l0 l1 l2 he
    rw [fX5_noteShown_L11] at he
    refine aw_iload_n C dX5_noteShown_11 rfl (j := 2) rfl ?_
    refine aw_aload_n C dX5_noteShown_12 rfl (j := 0) rfl ?_
    obtain ⟨v13, hv, he⟩ := ob he
    refine aw_gA C fk_X5_37 dX5_noteShown_13 hv ?_
    obtain ⟨v16, hv, he⟩ := ob he
    refine aw_gA C fk_X5_160 dX5_noteShown_16 hv ?_
    obtain ⟨v19, hv, he⟩ := ob he
    refine aw_alen C dX5_noteShown_19 hv ?_
    refine aw_ic_ge (tgt := 80) C dX5_noteShown_20 (by decide) (fun hc => ?_) (fun hc => ?_)
    · have he := ift hc he
      refine aw_sub [] (lv' := []) rfl ?_
      exact k80 _ he
    · have he := iff_ hc he
      refine aw_aload_n C dX5_noteShown_23 rfl (j := 0) rfl ?_
      obtain ⟨v24, hv, he⟩ := ob he
      refine aw_gA C fk_X5_37 dX5_noteShown_24 hv ?_
      refine aw_iload_n C dX5_noteShown_27 rfl (j := 2) rfl ?_
      obtain ⟨hO, he⟩ := ifs he
      obtain ⟨v28, hv, he⟩ := ob he
      refine aw_callV (ci := 2) C mb_X5_135 ⟨q_425, q_426, rfl⟩ hO (cX2_curveAt_ _ _ _ _ hv) dX5_noteShown_28 rfl (rest := []) rfl (cat_le _ (Nat.le_of_ble_eq_true rfl)) (Nat.le_of_ble_eq_true rfl) (Nat.le_of_ble_eq_true rfl) (Nat.le_of_ble_eq_true rfl) (st2 := [va_rf v28]) rfl ?_
      refine aw_astore_n C dX5_noteShown_31 rfl (by decide) rfl (lv' := [(0, .inr l0), (1, .inl l1), (2, .inl l2), (3, .inr v28)]) rfl ?_
      refine aw_aload_n C dX5_noteShown_32 rfl (j := 3) rfl ?_
      refine aw_ifnull (tgt := 74) C dX5_noteShown_33 (by decide) (fun hc => ?_) (fun hc => ?_)
      · have he := ift hc he
        refine aw_iinc (y := 1) C dX5_noteShown_74 (by decide) (j := 2) rfl (by decide) rfl (lv' := [(0, .inr l0), (1, .inl l1), (2, .inl (l2 + 1)), (3, .inr v28)]) rfl ?_
        refine aw_goto (tgt := 11) C dX5_noteShown_77 (by decide) ?_
        refine aw_sub [0, 1, 2] (lv' := [(0, .inr l0), (1, .inl l1), (2, .inl (l2 + 1))]) rfl ?_
        exact ih _ _ _ _ he
      · have he := iff_ hc he
        refine aw_aload_n C dX5_noteShown_36 rfl (j := 3) rfl ?_
        obtain ⟨v37, hv, he⟩ := ob he
        refine aw_gI C fk_X5_145 dX5_noteShown_37 hv ?_
        refine aw_iload_n C dX5_noteShown_40 rfl (j := 1) rfl ?_
        refine aw_ic_ne (tgt := 74) C dX5_noteShown_41 (by decide) (fun hc => ?_) (fun hc => ?_)
        · have he := ift hc he
          refine aw_iconst (v := 0) C dX5_noteShown_44 (by decide) ?_
          refine aw_istore C dX5_noteShown_45 (by decide) rfl (lv' := [(0, .inr l0), (1, .inl l1), (2, .inl l2), (3, .inr v28), (4, .inl (0 : Int32))]) rfl ?_
          refine wX5_noteShown_L47 C ?_ N _ _ _ _ _ _ he
          intro h l0 l1 l2 he
          refine aw_iinc (y := 1) C dX5_noteShown_74 (by decide) (j := 2) rfl (by decide) rfl (lv' := [(0, .inr l0), (1, .inl l1), (2, .inl (l2 + 1))]) rfl ?_
          refine aw_goto (tgt := 11) C dX5_noteShown_77 (by decide) ?_
          exact ih _ _ _ _ he
        · have he := iff_ hc he
          refine aw_iinc (y := 1) C dX5_noteShown_74 (by decide) (j := 2) rfl (by decide) rfl (lv' := [(0, .inr l0), (1, .inl l1), (2, .inl (l2 + 1)), (3, .inr v28)]) rfl ?_
          refine aw_goto (tgt := 11) C dX5_noteShown_77 (by decide) ?_
          refine aw_sub [0, 1, 2] (lv' := [(0, .inr l0), (1, .inl l1), (2, .inl (l2 + 1))]) rfl ?_
          exact ih _ _ _ _ he
set_option maxHeartbeats 4000000 in
set_option maxRecDepth 100000 in
theorem wX5_noteShown {Γ : GG} (C : CX Γ cX5_noteShown 5 RX5 3 0 0) {N : Nat} {sz : Nat} {out : Hp} (X : RX Γ none none out sz 0 0) {h : Hp} {l0 : Option Nat} {l1 : Int32} (he : fX5_noteShown N h l0 l1 = some out) : AW Γ 5 h sz 0 0 0 [(0, .inr l0), (1, .inl l1)] [] := by
  unfold fX5_noteShown at he
  refine aw_aload_n C dX5_noteShown_0 rfl (j := 0) rfl ?_
  obtain ⟨v1, hv, he⟩ := ob he
  refine aw_gA C fk_X5_58 dX5_noteShown_1 hv ?_
  refine aw_bipush (v := -9) C dX5_noteShown_4 (by decide) ?_
  obtain ⟨z6, hv, he⟩ := ob he
  refine aw_callS C mb_X5_304 q_437 (cJ7_fill_53178_ _ _ _ _ hv) dX5_noteShown_6 rfl (rest := []) rfl (cat_le _ (Nat.le_of_ble_eq_true rfl)) (Nat.le_of_ble_eq_true rfl) (Nat.le_of_ble_eq_true rfl) (Nat.le_of_ble_eq_true rfl) (st2 := []) rfl ?_
  refine aw_iconst (v := 0) C dX5_noteShown_9 (by decide) ?_
  refine aw_istore_n C dX5_noteShown_10 rfl (by decide) rfl (lv' := [(0, .inr l0), (1, .inl l1), (2, .inl (0 : Int32))]) rfl ?_
  refine wX5_noteShown_L11 C ?_ N _ _ _ _ he
  intro h he
  have he := Option.some.inj he
  subst he
  exact aw_vret C X dX5_noteShown_80 (by decide) (by decide)
theorem cX5_noteShown_ (l : Launch) (D : va_G) (dA : Nat → ClassId) (base : Nat) {N : Nat} {h : Hp} {sz : Nat} {l0 : Option Nat} {l1 : Int32} {out : Hp} (he : fX5_noteShown N h l0 l1 = some out) : AM l D dA base yX5_noteShown cX5_noteShown 5 none 3 0 0 [.inr l0, .inl l1] h sz none out sz :=
  AM.of (by decide +kernel) (Nat.le_of_ble_eq_true rfl) rfl (fun Γ C X hn => wX5_noteShown C X he)
set_option maxHeartbeats 4000000 in
set_option maxRecDepth 100000 in
theorem wX5_notePens_L7 {Γ : GG} (C : CX Γ cX5_notePens 4 RX5 4 0 0) {N : Nat} {sz : Nat} {α : Type} {out : α} {K53 : Hp → Option α} (k53 : ∀ (h : Hp), K53 h = some out → AW Γ 4 h sz 0 0 53 [] []) : ∀ (n : Nat) (h : Hp) (l0 : Option Nat) (l2 : Int32), fX5_notePens_L7 N K53 n h l0 l2 = some out → AW Γ 4 h sz 0 0 7 [(0, .inr l0), (2, .inl l2)] [] := by
  intro n
  induction n with
  | zero =>
    intro h l0 l2 he
    rw [fX5_notePens_L7] at he
    cases he
  | succ n ih =>
    intro h l0 l2 he
    rw [fX5_notePens_L7] at he
    refine aw_iload_n C dX5_notePens_7 rfl (j := 1) rfl ?_
    refine aw_sipush (v := 360) C dX5_notePens_8 (by decide) ?_
    refine aw_ic_ge (tgt := 53) C dX5_notePens_11 (by decide) (fun hc => ?_) (fun hc => ?_)
    · have he := ift hc he
      refine aw_sub [] (lv' := []) rfl ?_
      exact k53 _ he
    · have he := iff_ hc he
      refine aw_aload_n C dX5_notePens_14 rfl (j := 0) rfl ?_
      obtain ⟨v15, hv, he⟩ := ob he
      refine aw_gA C fk_X5_37 dX5_notePens_15 hv ?_
      refine aw_aload_n C dX5_notePens_18 rfl (j := 0) rfl ?_
      obtain ⟨v19, hv, he⟩ := ob he
      refine aw_gA C fk_X5_58 dX5_notePens_19 hv ?_
      refine aw_iload_n C dX5_notePens_22 rfl (j := 1) rfl ?_
      obtain ⟨v23, hv, he⟩ := ob he
      refine aw_iald C dX5_notePens_23 hv ?_
      obtain ⟨hO, he⟩ := ifs he
      obtain ⟨v24, hv, he⟩ := ob he
      refine aw_callV (ci := 2) C mb_X5_135 ⟨q_425, q_426, rfl⟩ hO (cX2_curveAt_ _ _ _ _ hv) dX5_notePens_24 rfl (rest := []) rfl (cat_le _ (Nat.le_of_ble_eq_true rfl)) (Nat.le_of_ble_eq_true rfl) (Nat.le_of_ble_eq_true rfl) (Nat.le_of_ble_eq_true rfl) (st2 := [va_rf v24]) rfl ?_
      refine aw_astore_n C dX5_notePens_27 rfl (by decide) rfl (lv' := [(0, .inr l0), (2, .inl l2), (3, .inr v24)]) rfl ?_
      refine aw_aload_n C dX5_notePens_28 rfl (j := 0) rfl ?_
      obtain ⟨v29, hv, he⟩ := ob he
      refine aw_gA C fk_X5_58 dX5_notePens_29 hv ?_
      refine aw_iload_n C dX5_notePens_32 rfl (j := 1) rfl ?_
      refine aw_aload_n C dX5_notePens_33 rfl (j := 2) rfl ?_
      refine aw_ifnonnull (tgt := 42) C dX5_notePens_34 (by decide) (fun hc => ?_) (fun hc => ?_)
      · have he := ift hc he
        refine aw_bipush (v := -9) C dX5_notePens_37 (by decide) ?_
        refine aw_goto (tgt := 46) C dX5_notePens_39 (by decide) ?_
        obtain ⟨h46, hv, he⟩ := ob he
        refine aw_iast C dX5_notePens_46 hv ?_
        refine aw_iinc (y := 1) C dX5_notePens_47 (by decide) (j := 1) rfl (by decide) rfl (lv' := [(0, .inr l0), (2, .inl (l2 + 1)), (3, .inr v24)]) rfl ?_
        refine aw_goto (tgt := 7) C dX5_notePens_50 (by decide) ?_
        refine aw_sub [0, 1] (lv' := [(0, .inr l0), (2, .inl (l2 + 1))]) rfl ?_
        exact ih _ _ _ he
      · have he := iff_ hc he
        refine aw_aload_n C dX5_notePens_42 rfl (j := 2) rfl ?_
        obtain ⟨v43, hv, he⟩ := ob he
        refine aw_gI C fk_X5_151 dX5_notePens_43 hv ?_
        obtain ⟨h46, hv, he⟩ := ob he
        refine aw_iast C dX5_notePens_46 hv ?_
        refine aw_iinc (y := 1) C dX5_notePens_47 (by decide) (j := 1) rfl (by decide) rfl (lv' := [(0, .inr l0), (2, .inl (l2 + 1)), (3, .inr v24)]) rfl ?_
        refine aw_goto (tgt := 7) C dX5_notePens_50 (by decide) ?_
        refine aw_sub [0, 1] (lv' := [(0, .inr l0), (2, .inl (l2 + 1))]) rfl ?_
        exact ih _ _ _ he
set_option maxHeartbeats 4000000 in
set_option maxRecDepth 100000 in
theorem wX5_notePens {Γ : GG} (C : CX Γ cX5_notePens 4 RX5 4 0 0) {N : Nat} {sz : Nat} {out : Hp} (X : RX Γ none none out sz 0 0) {h : Hp} {l0 : Option Nat} {l1 : Int32} (he : fX5_notePens N h l0 l1 = some out) : AW Γ 4 h sz 0 0 0 [(0, .inr l0), (1, .inl l1)] [] := by
  unfold fX5_notePens at he
  refine aw_aload_n C dX5_notePens_0 rfl (j := 0) rfl ?_
  refine aw_iload_n C dX5_notePens_1 rfl (j := 1) rfl ?_
  obtain ⟨hO, he⟩ := ifs he
  obtain ⟨z2, hv, he⟩ := ob he
  refine aw_callV (ci := 5) C mb_X5_310 ⟨q_434, q_10, rfl⟩ hO (cX5_noteShown_ _ _ _ _ hv) dX5_notePens_2 rfl (rest := []) rfl (cat_le _ (Nat.le_of_ble_eq_true rfl)) (Nat.le_of_ble_eq_true rfl) (Nat.le_of_ble_eq_true rfl) (Nat.le_of_ble_eq_true rfl) (st2 := []) rfl ?_
  refine aw_iconst (v := 0) C dX5_notePens_5 (by decide) ?_
  refine aw_istore_n C dX5_notePens_6 rfl (by decide) rfl (lv' := [(0, .inr l0), (1, .inl l1), (2, .inl (0 : Int32))]) rfl ?_
  refine aw_sub [0, 2] (lv' := [(0, .inr l0), (2, .inl (0 : Int32))]) rfl ?_
  refine wX5_notePens_L7 C ?_ N _ _ _ he
  intro h he
  have he := Option.some.inj he
  subst he
  exact aw_vret C X dX5_notePens_53 (by decide) (by decide)
theorem cX5_notePens_ (l : Launch) (D : va_G) (dA : Nat → ClassId) (base : Nat) {N : Nat} {h : Hp} {sz : Nat} {l0 : Option Nat} {l1 : Int32} {out : Hp} (he : fX5_notePens N h l0 l1 = some out) : AM l D dA base yX5_notePens cX5_notePens 4 none 4 0 0 [.inr l0, .inl l1] h sz none out sz :=
  AM.of (by decide +kernel) (Nat.le_of_ble_eq_true rfl) rfl (fun Γ C X hn => wX5_notePens C X he)
set_option maxHeartbeats 4000000 in
set_option maxRecDepth 100000 in
theorem wX5_pointsNoted_L4 {Γ : GG} (C : CX Γ cX5_pointsNoted 4 RX5 0 0 0) {N : Nat} {sz : Nat} {h : Hp} {α : Type} {out : α} {K30 : Int32 → Option α} (k30 : ∀ (l2 : Int32), K30 l2 = some out → AW Γ 4 h sz 0 0 30 [(2, .inl l2)] []) : ∀ (n : Nat) (l0 : Option Nat) (l1 : Int32) (l2 : Int32) (l3 : Int32), fX5_pointsNoted_L4 N h K30 n l0 l1 l2 l3 = some out → AW Γ 4 h sz 0 0 4 [(0, .inr l0), (1, .inl l1), (2, .inl l2), (3, .inl l3)] [] := by
  intro n
  induction n with
  | zero =>
    intro l0 l1 l2 l3 he
    rw [fX5_pointsNoted_L4] at he
    cases he
  | succ n ih =>
    intro l0 l1 l2 l3 he
    rw [fX5_pointsNoted_L4] at he
    refine aw_iload_n C dX5_pointsNoted_4 rfl (j := 3) rfl ?_
    refine aw_sipush (v := 360) C dX5_pointsNoted_5 (by decide) ?_
    refine aw_ic_ge (tgt := 30) C dX5_pointsNoted_8 (by decide) (fun hc => ?_) (fun hc => ?_)
    · have he := ift hc he
      refine aw_sub [2] (lv' := [(2, .inl l2)]) rfl ?_
      exact k30 _ he
    · have he := iff_ hc he
      refine aw_aload_n C dX5_pointsNoted_11 rfl (j := 0) rfl ?_
      obtain ⟨v12, hv, he⟩ := ob he
      refine aw_gA C fk_X5_58 dX5_pointsNoted_12 hv ?_
      refine aw_iload_n C dX5_pointsNoted_15 rfl (j := 3) rfl ?_
      obtain ⟨v16, hv, he⟩ := ob he
      refine aw_iald C dX5_pointsNoted_16 hv ?_
      refine aw_iload_n C dX5_pointsNoted_17 rfl (j := 1) rfl ?_
      refine aw_ic_ne (tgt := 24) C dX5_pointsNoted_18 (by decide) (fun hc => ?_) (fun hc => ?_)
      · have he := ift hc he
        refine aw_iinc (y := 1) C dX5_pointsNoted_21 (by decide) (j := 2) rfl (by decide) rfl (lv' := [(0, .inr l0), (1, .inl l1), (2, .inl (l2 + 1)), (3, .inl l3)]) rfl ?_
        refine aw_iinc (y := 1) C dX5_pointsNoted_24 (by decide) (j := 3) rfl (by decide) rfl (lv' := [(0, .inr l0), (1, .inl l1), (2, .inl (l2 + 1)), (3, .inl (l3 + 1))]) rfl ?_
        refine aw_goto (tgt := 4) C dX5_pointsNoted_27 (by decide) ?_
        exact ih _ _ _ _ he
      · have he := iff_ hc he
        refine aw_iinc (y := 1) C dX5_pointsNoted_24 (by decide) (j := 3) rfl (by decide) rfl (lv' := [(0, .inr l0), (1, .inl l1), (2, .inl l2), (3, .inl (l3 + 1))]) rfl ?_
        refine aw_goto (tgt := 4) C dX5_pointsNoted_27 (by decide) ?_
        exact ih _ _ _ _ he
set_option maxHeartbeats 4000000 in
set_option maxRecDepth 100000 in
theorem wX5_pointsNoted {Γ : GG} (C : CX Γ cX5_pointsNoted 4 RX5 0 0 0) {N : Nat} {sz : Nat} {h : Hp} {out : Int32} (X : RX Γ (some .int) (some (.int out)) h sz 0 0) {l0 : Option Nat} {l1 : Int32} (he : fX5_pointsNoted N h l0 l1 = some out) : AW Γ 4 h sz 0 0 0 [(0, .inr l0), (1, .inl l1)] [] := by
  unfold fX5_pointsNoted at he
  refine aw_iconst (v := 0) C dX5_pointsNoted_0 (by decide) ?_
  refine aw_istore_n C dX5_pointsNoted_1 rfl (by decide) rfl (lv' := [(0, .inr l0), (1, .inl l1), (2, .inl (0 : Int32))]) rfl ?_
  refine aw_iconst (v := 0) C dX5_pointsNoted_2 (by decide) ?_
  refine aw_istore_n C dX5_pointsNoted_3 rfl (by decide) rfl (lv' := [(0, .inr l0), (1, .inl l1), (2, .inl (0 : Int32)), (3, .inl (0 : Int32))]) rfl ?_
  refine wX5_pointsNoted_L4 C ?_ N _ _ _ _ he
  intro l2 he
  refine aw_iload_n C dX5_pointsNoted_30 rfl (j := 0) rfl ?_
  have he := Option.some.inj he
  subst he
  exact aw_iret C X dX5_pointsNoted_31 (by decide) (by decide)
theorem cX5_pointsNoted_ (l : Launch) (D : va_G) (dA : Nat → ClassId) (base : Nat) {N : Nat} {h : Hp} {sz : Nat} {l0 : Option Nat} {l1 : Int32} {out : Int32} (he : fX5_pointsNoted N h l0 l1 = some out) : AM l D dA base yX5_pointsNoted cX5_pointsNoted 4 (some .int) 0 0 0 [.inr l0, .inl l1] h sz (some (.int out)) h sz :=
  AM.of (by decide +kernel) (Nat.le_of_ble_eq_true rfl) rfl (fun Γ C X hn => wX5_pointsNoted C X he)
set_option maxHeartbeats 4000000 in
set_option maxRecDepth 100000 in
theorem wX5_pointsOfPen_L4 {Γ : GG} (C : CX Γ cX5_pointsOfPen 4 RX5 5 0 0) {N : Nat} {sz : Nat} {α : Type} {out : α} {K40 : Hp → Int32 → Option α} (k40 : ∀ (h : Hp) (l2 : Int32), K40 h l2 = some out → AW Γ 4 h sz 0 0 40 [(2, .inl l2)] []) : ∀ (n : Nat) (h : Hp) (l0 : Option Nat) (l1 : Int32) (l2 : Int32) (l3 : Int32), fX5_pointsOfPen_L4 N K40 n h l0 l1 l2 l3 = some out → AW Γ 4 h sz 0 0 4 [(0, .inr l0), (1, .inl l1), (2, .inl l2), (3, .inl l3)] [] := by
  intro n
  induction n with
  | zero =>
    intro h l0 l1 l2 l3 he
    rw [fX5_pointsOfPen_L4] at he
    cases he
  | succ n ih =>
    intro h l0 l1 l2 l3 he
    rw [fX5_pointsOfPen_L4] at he
    refine aw_iload_n C dX5_pointsOfPen_4 rfl (j := 3) rfl ?_
    refine aw_bipush (v := 9) C dX5_pointsOfPen_5 (by decide) ?_
    refine aw_ic_gt (tgt := 40) C dX5_pointsOfPen_7 (by decide) (fun hc => ?_) (fun hc => ?_)
    · have he := ift hc he
      refine aw_sub [2] (lv' := [(2, .inl l2)]) rfl ?_
      exact k40 _ _ he
    · have he := iff_ hc he
      refine aw_aload_n C dX5_pointsOfPen_10 rfl (j := 0) rfl ?_
      obtain ⟨v11, hv, he⟩ := ob he
      refine aw_gA C fk_X5_37 dX5_pointsOfPen_11 hv ?_
      refine aw_iload_n C dX5_pointsOfPen_14 rfl (j := 3) rfl ?_
      obtain ⟨hO, he⟩ := ifs he
      obtain ⟨v15, hv, he⟩ := ob he
      refine aw_callV (ci := 2) C mb_X5_316 ⟨q_421, q_422, rfl⟩ hO (cX2_hasCurveIn_ _ _ _ _ hv) dX5_pointsOfPen_15 rfl (rest := []) rfl (cat_le _ (Nat.le_of_ble_eq_true rfl)) (Nat.le_of_ble_eq_true rfl) (Nat.le_of_ble_eq_true rfl) (Nat.le_of_ble_eq_true rfl) (st2 := [.int v15]) rfl ?_
      refine aw_if_eq (tgt := 34) C dX5_pointsOfPen_18 (by decide) (fun hc => ?_) (fun hc => ?_)
      · have he := ift hc he
        refine aw_iinc (y := 1) C dX5_pointsOfPen_34 (by decide) (j := 3) rfl (by decide) rfl (lv' := [(0, .inr l0), (1, .inl l1), (2, .inl l2), (3, .inl (l3 + 1))]) rfl ?_
        refine aw_goto (tgt := 4) C dX5_pointsOfPen_37 (by decide) ?_
        exact ih _ _ _ _ _ he
      · have he := iff_ hc he
        refine aw_aload_n C dX5_pointsOfPen_21 rfl (j := 0) rfl ?_
        refine aw_iload_n C dX5_pointsOfPen_22 rfl (j := 3) rfl ?_
        obtain ⟨hO, he⟩ := ifs he
        obtain ⟨z23, hv, he⟩ := ob he
        refine aw_callV (ci := 5) C mb_X5_319 ⟨q_430, q_9, rfl⟩ hO (cX5_notePens_ _ _ _ _ hv) dX5_pointsOfPen_23 rfl (rest := []) rfl (cat_le _ (Nat.le_of_ble_eq_true rfl)) (Nat.le_of_ble_eq_true rfl) (Nat.le_of_ble_eq_true rfl) (Nat.le_of_ble_eq_true rfl) (st2 := []) rfl ?_
        refine aw_iload_n C dX5_pointsOfPen_26 rfl (j := 2) rfl ?_
        refine aw_aload_n C dX5_pointsOfPen_27 rfl (j := 0) rfl ?_
        refine aw_iload_n C dX5_pointsOfPen_28 rfl (j := 1) rfl ?_
        obtain ⟨hO, he⟩ := ifs he
        obtain ⟨v29, hv, he⟩ := ob he
        refine aw_callV (ci := 5) C mb_X5_313 ⟨q_447, q_11, rfl⟩ hO (cX5_pointsNoted_ _ _ _ _ hv) dX5_pointsOfPen_29 rfl (rest := [.int l2]) rfl (cat_le _ (Nat.le_of_ble_eq_true rfl)) (Nat.le_of_ble_eq_true rfl) (Nat.le_of_ble_eq_true rfl) (Nat.le_of_ble_eq_true rfl) (st2 := [.int v29, .int l2]) rfl ?_
        refine aw_iadd C dX5_pointsOfPen_32 ?_
        refine aw_istore_n C dX5_pointsOfPen_33 rfl (by decide) rfl (lv' := [(0, .inr l0), (1, .inl l1), (2, .inl (l2 + v29)), (3, .inl l3)]) rfl ?_
        refine aw_iinc (y := 1) C dX5_pointsOfPen_34 (by decide) (j := 3) rfl (by decide) rfl (lv' := [(0, .inr l0), (1, .inl l1), (2, .inl (l2 + v29)), (3, .inl (l3 + 1))]) rfl ?_
        refine aw_goto (tgt := 4) C dX5_pointsOfPen_37 (by decide) ?_
        exact ih _ _ _ _ _ he
set_option maxHeartbeats 4000000 in
set_option maxRecDepth 100000 in
theorem wX5_pointsOfPen {Γ : GG} (C : CX Γ cX5_pointsOfPen 4 RX5 5 0 0) {N : Nat} {sz : Nat} {out : Int32 × Hp} (X : RX Γ (some .int) (some (.int out.1)) out.2 sz 0 0) {h : Hp} {l0 : Option Nat} {l1 : Int32} (he : fX5_pointsOfPen N h l0 l1 = some out) : AW Γ 4 h sz 0 0 0 [(0, .inr l0), (1, .inl l1)] [] := by
  unfold fX5_pointsOfPen at he
  refine aw_iconst (v := 0) C dX5_pointsOfPen_0 (by decide) ?_
  refine aw_istore_n C dX5_pointsOfPen_1 rfl (by decide) rfl (lv' := [(0, .inr l0), (1, .inl l1), (2, .inl (0 : Int32))]) rfl ?_
  refine aw_iconst (v := 1) C dX5_pointsOfPen_2 (by decide) ?_
  refine aw_istore_n C dX5_pointsOfPen_3 rfl (by decide) rfl (lv' := [(0, .inr l0), (1, .inl l1), (2, .inl (0 : Int32)), (3, .inl (1 : Int32))]) rfl ?_
  refine wX5_pointsOfPen_L4 C ?_ N _ _ _ _ _ he
  intro h l2 he
  refine aw_iload_n C dX5_pointsOfPen_40 rfl (j := 0) rfl ?_
  have he := Option.some.inj he
  subst he
  exact aw_iret C X dX5_pointsOfPen_41 (by decide) (by decide)
theorem cX5_pointsOfPen_ (l : Launch) (D : va_G) (dA : Nat → ClassId) (base : Nat) {N : Nat} {h : Hp} {sz : Nat} {l0 : Option Nat} {l1 : Int32} {out : Int32 × Hp} (he : fX5_pointsOfPen N h l0 l1 = some out) : AM l D dA base yX5_pointsOfPen cX5_pointsOfPen 4 (some .int) 5 0 0 [.inr l0, .inl l1] h sz (some (.int out.1)) out.2 sz :=
  AM.of (by decide +kernel) (Nat.le_of_ble_eq_true rfl) rfl (fun Γ C X hn => wX5_pointsOfPen C X he)
set_option maxHeartbeats 4000000 in
set_option maxRecDepth 100000 in
theorem wX5_pen {Γ : GG} (C : CX Γ cX5_pen 3 RX5 6 0 0) {N : Nat} {sz : Nat} {out : Int32 × Hp} (X : RX Γ (some .int) (some (.int out.1)) out.2 sz 0 0) {h : Hp} {l0 : Option Nat} {l1 : Int32} {l2 : Int32} (he : fX5_pen N h l0 l1 l2 = some out) : AW Γ 3 h sz 0 0 0 [(0, .inr l0), (1, .inl l1), (2, .inl l2)] [] := by
  unfold fX5_pen at he
  refine aw_aload_n C dX5_pen_0 rfl (j := 0) rfl ?_
  obtain ⟨v1, hv, he⟩ := ob he
  refine aw_gA C fk_X5_26 dX5_pen_1 hv ?_
  refine aw_iload_n C dX5_pen_4 rfl (j := 1) rfl ?_
  obtain ⟨hO, he⟩ := ifs he
  obtain ⟨v5, hv, he⟩ := ob he
  refine aw_callV (ci := 0) C mb_X5_126 ⟨q_409, q_410, rfl⟩ hO (cX0_hasPen_ _ _ _ _ hv) dX5_pen_5 rfl (rest := []) rfl (cat_le _ (Nat.le_of_ble_eq_true rfl)) (Nat.le_of_ble_eq_true rfl) (Nat.le_of_ble_eq_true rfl) (Nat.le_of_ble_eq_true rfl) (st2 := [.int v5]) rfl ?_
  refine aw_if_eq (tgt := 20) C dX5_pen_8 (by decide) (fun hc => ?_) (fun hc => ?_)
  · have he := ift hc he
    refine aw_iconst (v := -1) C dX5_pen_20 (by decide) ?_
    have he := Option.some.inj he
    subst he
    exact aw_iret C X dX5_pen_21 (by decide) (by decide)
  · have he := iff_ hc he
    refine aw_iload_n C dX5_pen_11 rfl (j := 2) rfl ?_
    refine aw_iconst (v := 0) C dX5_pen_12 (by decide) ?_
    refine aw_iconst (v := 1) C dX5_pen_13 (by decide) ?_
    obtain ⟨v14, hv, he⟩ := ob he
    refine aw_callS C mb_X5_72 q_241 (cX5_within_ _ _ _ _ hv) dX5_pen_14 rfl (rest := []) rfl (cat_le _ (Nat.le_of_ble_eq_true rfl)) (Nat.le_of_ble_eq_true rfl) (Nat.le_of_ble_eq_true rfl) (Nat.le_of_ble_eq_true rfl) (st2 := [.int v14]) rfl ?_
    refine aw_if_ne (tgt := 22) C dX5_pen_17 (by decide) (fun hc => ?_) (fun hc => ?_)
    · have he := ift hc he
      refine aw_iconst (v := -1) C dX5_pen_20 (by decide) ?_
      have he := Option.some.inj he
      subst he
      exact aw_iret C X dX5_pen_21 (by decide) (by decide)
    · have he := iff_ hc he
      refine aw_iload_n C dX5_pen_22 rfl (j := 2) rfl ?_
      refine aw_if_ne (tgt := 37) C dX5_pen_23 (by decide) (fun hc => ?_) (fun hc => ?_)
      · have he := ift hc he
        refine aw_aload_n C dX5_pen_26 rfl (j := 0) rfl ?_
        obtain ⟨v27, hv, he⟩ := ob he
        refine aw_gA C fk_X5_37 dX5_pen_27 hv ?_
        refine aw_iload_n C dX5_pen_30 rfl (j := 1) rfl ?_
        obtain ⟨hO, he⟩ := ifs he
        obtain ⟨v31, hv, he⟩ := ob he
        refine aw_callV (ci := 2) C mb_X5_129 ⟨q_413, q_414, rfl⟩ hO (cX2_inkOf_ _ _ _ _ hv) dX5_pen_31 rfl (rest := []) rfl (cat_le _ (Nat.le_of_ble_eq_true rfl)) (Nat.le_of_ble_eq_true rfl) (Nat.le_of_ble_eq_true rfl) (Nat.le_of_ble_eq_true rfl) (st2 := [.int v31]) rfl ?_
        refine aw_goto (tgt := 42) C dX5_pen_34 (by decide) ?_
        have he := Option.some.inj he
        subst he
        exact aw_iret C X dX5_pen_42 (by decide) (by decide)
      · have he := iff_ hc he
        refine aw_aload_n C dX5_pen_37 rfl (j := 0) rfl ?_
        refine aw_iload_n C dX5_pen_38 rfl (j := 1) rfl ?_
        obtain ⟨hO, he⟩ := ifs he
        obtain ⟨z39, hv, he⟩ := ob he
        refine aw_callV (ci := 5) C mb_X5_132 ⟨q_418, q_8, rfl⟩ hO (cX5_pointsOfPen_ _ _ _ _ hv) dX5_pen_39 rfl (rest := []) rfl (cat_le _ (Nat.le_of_ble_eq_true rfl)) (Nat.le_of_ble_eq_true rfl) (Nat.le_of_ble_eq_true rfl) (Nat.le_of_ble_eq_true rfl) (st2 := [.int z39.1]) rfl ?_
        have he := Option.some.inj he
        subst he
        exact aw_iret C X dX5_pen_42 (by decide) (by decide)
theorem cX5_pen_ (l : Launch) (D : va_G) (dA : Nat → ClassId) (base : Nat) {N : Nat} {h : Hp} {sz : Nat} {l0 : Option Nat} {l1 : Int32} {l2 : Int32} {out : Int32 × Hp} (he : fX5_pen N h l0 l1 l2 = some out) : AM l D dA base yX5_pen cX5_pen 3 (some .int) 6 0 0 [.inr l0, .inl l1, .inl l2] h sz (some (.int out.1)) out.2 sz :=
  AM.of (by decide +kernel) (Nat.le_of_ble_eq_true rfl) rfl (fun Γ C X hn => wX5_pen C X he)
set_option maxHeartbeats 4000000 in
set_option maxRecDepth 100000 in
theorem wX6_isPen {Γ : GG} (C : CX Γ cX6_isPen 2 RX6 1 0 0) {N : Nat} {sz : Nat} {h : Hp} {out : Int32} (X : RX Γ (some .boolean) (some (.int out)) h sz 0 0) {l0 : Option Nat} {l1 : Int32} (he : fX6_isPen N h l0 l1 = some out) : AW Γ 2 h sz 0 0 0 [(0, .inr l0), (1, .inl l1)] [] := by
  unfold fX6_isPen at he
  refine aw_iload_n C dX6_isPen_0 rfl (j := 1) rfl ?_
  refine aw_iconst (v := 0) C dX6_isPen_1 (by decide) ?_
  refine aw_aload_n C dX6_isPen_2 rfl (j := 0) rfl ?_
  obtain ⟨v3, hv, he⟩ := ob he
  refine aw_gI C fk_X6_69 dX6_isPen_3 hv ?_
  refine aw_iconst (v := 1) C dX6_isPen_6 (by decide) ?_
  refine aw_isub C dX6_isPen_7 ?_
  obtain ⟨v8, hv, he⟩ := ob he
  refine aw_callS C mb_X6_62 q_874 (cX6_in_ _ _ _ _ hv) dX6_isPen_8 rfl (rest := []) rfl (cat_le _ (Nat.le_of_ble_eq_true rfl)) (Nat.le_of_ble_eq_true rfl) (Nat.le_of_ble_eq_true rfl) (Nat.le_of_ble_eq_true rfl) (st2 := [.int v8]) rfl ?_
  obtain ⟨hz, he⟩ := ifs he
  have he := Option.some.inj he
  subst he
  exact aw_zret C X hz dX6_isPen_11 (by decide) (by decide)
theorem cX6_isPen_ (l : Launch) (D : va_G) (dA : Nat → ClassId) (base : Nat) {N : Nat} {h : Hp} {sz : Nat} {l0 : Option Nat} {l1 : Int32} {out : Int32} (he : fX6_isPen N h l0 l1 = some out) : AM l D dA base yX6_isPen cX6_isPen 2 (some .boolean) 1 0 0 [.inr l0, .inl l1] h sz (some (.int out)) h sz :=
  AM.of (by decide +kernel) (Nat.le_of_ble_eq_true rfl) rfl (fun Γ C X hn => wX6_isPen C X he)
set_option maxHeartbeats 4000000 in
set_option maxRecDepth 100000 in
theorem wX6_toothAt {Γ : GG} (C : CX Γ cX6_toothAt 6 RX6 0 0 0) {N : Nat} {sz : Nat} {h : Hp} {out : Int32} (X : RX Γ (some .int) (some (.int out)) h sz 0 0) {l0 : Option Nat} {l1 : Int32} {l2 : Int32} {l3 : Int32} (he : fX6_toothAt N h l0 l1 l2 l3 = some out) : AW Γ 6 h sz 0 0 0 [(0, .inr l0), (1, .inl l1), (2, .inl l2), (3, .inl l3)] [] := by
  unfold fX6_toothAt at he
  refine aw_iload_n C dX6_toothAt_0 rfl (j := 3) rfl ?_
  refine aw_iload_n C dX6_toothAt_1 rfl (j := 2) rfl ?_
  refine aw_isub C dX6_toothAt_2 ?_
  refine aw_sipush (v := 360) C dX6_toothAt_3 (by decide) ?_
  refine aw_iadd C dX6_toothAt_6 ?_
  refine aw_sipush (v := 360) C dX6_toothAt_7 (by decide) ?_
  refine aw_irem C dX6_toothAt_10 (by decide) ?_
  refine aw_istore C dX6_toothAt_11 (by decide) rfl (lv' := [(0, .inr l0), (1, .inl l1), (2, .inl l2), (3, .inl l3), (4, .inl (jrem ((l3 - l2) + (360 : Int32)) (360 : Int32)))]) rfl ?_
  refine aw_sipush (v := 360) C dX6_toothAt_13 (by decide) ?_
  refine aw_aload_n C dX6_toothAt_16 rfl (j := 0) rfl ?_
  obtain ⟨v17, hv, he⟩ := ob he
  refine aw_gA C fk_X6_7 dX6_toothAt_17 hv ?_
  refine aw_iload_n C dX6_toothAt_20 rfl (j := 1) rfl ?_
  obtain ⟨v21, hv, he⟩ := ob he
  refine aw_iald C dX6_toothAt_21 hv ?_
  obtain ⟨hy, he⟩ := ifn he
  refine aw_idiv C dX6_toothAt_22 hy ?_
  refine aw_istore C dX6_toothAt_23 (by decide) rfl (lv' := [(0, .inr l0), (1, .inl l1), (2, .inl l2), (3, .inl l3), (4, .inl (jrem ((l3 - l2) + (360 : Int32)) (360 : Int32))), (5, .inl ((360 : Int32) / v21))]) rfl ?_
  refine aw_iload C dX6_toothAt_25 (j := 4) rfl ?_
  refine aw_iload C dX6_toothAt_27 (j := 5) rfl ?_
  obtain ⟨hy, he⟩ := ifn he
  refine aw_irem C dX6_toothAt_29 hy ?_
  refine aw_if_ne (tgt := 41) C dX6_toothAt_30 (by decide) (fun hc => ?_) (fun hc => ?_)
  · have he := ift hc he
    refine aw_iload C dX6_toothAt_33 (j := 4) rfl ?_
    refine aw_iload C dX6_toothAt_35 (j := 5) rfl ?_
    obtain ⟨hy, he⟩ := ifn he
    refine aw_idiv C dX6_toothAt_37 hy ?_
    refine aw_goto (tgt := 43) C dX6_toothAt_38 (by decide) ?_
    have he := Option.some.inj he
    subst he
    exact aw_iret C X dX6_toothAt_43 (by decide) (by decide)
  · have he := iff_ hc he
    refine aw_bipush (v := -9) C dX6_toothAt_41 (by decide) ?_
    have he := Option.some.inj he
    subst he
    exact aw_iret C X dX6_toothAt_43 (by decide) (by decide)
theorem cX6_toothAt_ (l : Launch) (D : va_G) (dA : Nat → ClassId) (base : Nat) {N : Nat} {h : Hp} {sz : Nat} {l0 : Option Nat} {l1 : Int32} {l2 : Int32} {l3 : Int32} {out : Int32} (he : fX6_toothAt N h l0 l1 l2 l3 = some out) : AM l D dA base yX6_toothAt cX6_toothAt 6 (some .int) 0 0 0 [.inr l0, .inl l1, .inl l2, .inl l3] h sz (some (.int out)) h sz :=
  AM.of (by decide +kernel) (Nat.le_of_ble_eq_true rfl) rfl (fun Γ C X hn => wX6_toothAt C X he)
set_option maxHeartbeats 4000000 in
set_option maxRecDepth 100000 in
theorem wX6_isTip {Γ : GG} (C : CX Γ cX6_isTip 3 RX6 0 0 0) {N : Nat} {sz : Nat} {h : Hp} {out : Int32} (X : RX Γ (some .boolean) (some (.int out)) h sz 0 0) {l0 : Int32} {l1 : Int32} {l2 : Int32} (he : fX6_isTip N h l0 l1 l2 = some out) : AW Γ 3 h sz 0 0 0 [(0, .inl l0), (1, .inl l1), (2, .inl l2)] [] := by
  unfold fX6_isTip at he
  refine aw_iload_n C dX6_isTip_0 rfl (j := 1) rfl ?_
  refine aw_iload_n C dX6_isTip_1 rfl (j := 2) rfl ?_
  refine aw_isub C dX6_isTip_2 ?_
  refine aw_iload_n C dX6_isTip_3 rfl (j := 0) rfl ?_
  obtain ⟨hy, he⟩ := ifn he
  refine aw_irem C dX6_isTip_4 hy ?_
  refine aw_if_ne (tgt := 12) C dX6_isTip_5 (by decide) (fun hc => ?_) (fun hc => ?_)
  · have he := ift hc he
    refine aw_iconst (v := 1) C dX6_isTip_8 (by decide) ?_
    refine aw_goto (tgt := 13) C dX6_isTip_9 (by decide) ?_
    have he := Option.some.inj he
    subst he
    exact aw_zret C X (by decide) dX6_isTip_13 (by decide) (by decide)
  · have he := iff_ hc he
    refine aw_iconst (v := 0) C dX6_isTip_12 (by decide) ?_
    have he := Option.some.inj he
    subst he
    exact aw_zret C X (by decide) dX6_isTip_13 (by decide) (by decide)
theorem cX6_isTip_ (l : Launch) (D : va_G) (dA : Nat → ClassId) (base : Nat) {N : Nat} {h : Hp} {sz : Nat} {l0 : Int32} {l1 : Int32} {l2 : Int32} {out : Int32} (he : fX6_isTip N h l0 l1 l2 = some out) : AM l D dA base yX6_isTip cX6_isTip 3 (some .boolean) 0 0 0 [.inl l0, .inl l1, .inl l2] h sz (some (.int out)) h sz :=
  AM.of (by decide +kernel) (Nat.le_of_ble_eq_true rfl) rfl (fun Γ C X hn => wX6_isTip C X he)
set_option maxHeartbeats 4000000 in
set_option maxRecDepth 100000 in
theorem wX6_hasTip {Γ : GG} (C : CX Γ cX6_hasTip 7 RX6 2 0 0) {N : Nat} {sz : Nat} {h : Hp} {out : Int32} (X : RX Γ (some .boolean) (some (.int out)) h sz 0 0) {l0 : Option Nat} {l1 : Int32} {l2 : Int32} {l3 : Int32} (he : fX6_hasTip N h l0 l1 l2 l3 = some out) : AW Γ 7 h sz 0 0 0 [(0, .inr l0), (1, .inl l1), (2, .inl l2), (3, .inl l3)] [] := by
  unfold fX6_hasTip at he
  refine aw_bipush (v := 6) C dX6_hasTip_0 (by decide) ?_
  refine aw_iload_n C dX6_hasTip_2 rfl (j := 1) rfl ?_
  refine aw_imul C dX6_hasTip_3 ?_
  refine aw_istore C dX6_hasTip_4 (by decide) rfl (lv' := [(0, .inr l0), (1, .inl l1), (2, .inl l2), (3, .inl l3), (4, .inl ((6 : Int32) * l1))]) rfl ?_
  refine aw_aload_n C dX6_hasTip_6 rfl (j := 0) rfl ?_
  obtain ⟨v7, hv, he⟩ := ob he
  refine aw_gA C fk_X6_19 dX6_hasTip_7 hv ?_
  refine aw_iload C dX6_hasTip_10 (j := 4) rfl ?_
  obtain ⟨v12, hv, he⟩ := ob he
  refine aw_iald C dX6_hasTip_12 hv ?_
  refine aw_istore C dX6_hasTip_13 (by decide) rfl (lv' := [(0, .inr l0), (1, .inl l1), (2, .inl l2), (3, .inl l3), (4, .inl ((6 : Int32) * l1)), (5, .inl v12)]) rfl ?_
  refine aw_aload_n C dX6_hasTip_15 rfl (j := 0) rfl ?_
  obtain ⟨v16, hv, he⟩ := ob he
  refine aw_gA C fk_X6_19 dX6_hasTip_16 hv ?_
  refine aw_iload C dX6_hasTip_19 (j := 4) rfl ?_
  refine aw_iconst (v := 2) C dX6_hasTip_21 (by decide) ?_
  refine aw_iadd C dX6_hasTip_22 ?_
  obtain ⟨v23, hv, he⟩ := ob he
  refine aw_iald C dX6_hasTip_23 hv ?_
  refine aw_iload_n C dX6_hasTip_24 rfl (j := 3) rfl ?_
  refine aw_ic_eq (tgt := 30) C dX6_hasTip_25 (by decide) (fun hc => ?_) (fun hc => ?_)
  · have he := ift hc he
    refine aw_aload_n C dX6_hasTip_30 rfl (j := 0) rfl ?_
    refine aw_iload C dX6_hasTip_31 (j := 5) rfl ?_
    refine aw_aload_n C dX6_hasTip_33 rfl (j := 0) rfl ?_
    obtain ⟨v34, hv, he⟩ := ob he
    refine aw_gA C fk_X6_19 dX6_hasTip_34 hv ?_
    refine aw_iload C dX6_hasTip_37 (j := 4) rfl ?_
    refine aw_iconst (v := 5) C dX6_hasTip_39 (by decide) ?_
    refine aw_iadd C dX6_hasTip_40 ?_
    obtain ⟨v41, hv, he⟩ := ob he
    refine aw_iald C dX6_hasTip_41 hv ?_
    refine aw_iload_n C dX6_hasTip_42 rfl (j := 2) rfl ?_
    obtain ⟨hO, he⟩ := ifs he
    obtain ⟨v43, hv, he⟩ := ob he
    refine aw_callV (ci := 6) C mb_X6_155 ⟨q_981, q_55, rfl⟩ hO (cX6_toothAt_ _ _ _ _ hv) dX6_hasTip_43 rfl (rest := []) rfl (cat_le _ (Nat.le_of_ble_eq_true rfl)) (Nat.le_of_ble_eq_true rfl) (Nat.le_of_ble_eq_true rfl) (Nat.le_of_ble_eq_true rfl) (st2 := [.int v43]) rfl ?_
    refine aw_istore C dX6_hasTip_46 (by decide) rfl (lv' := [(0, .inr l0), (1, .inl l1), (2, .inl l2), (3, .inl l3), (4, .inl ((6 : Int32) * l1)), (5, .inl v12), (6, .inl v43)]) rfl ?_
    refine aw_iload C dX6_hasTip_48 (j := 6) rfl ?_
    refine aw_bipush (v := -9) C dX6_hasTip_50 (by decide) ?_
    refine aw_ic_eq (tgt := 91) C dX6_hasTip_52 (by decide) (fun hc => ?_) (fun hc => ?_)
    · have he := ift hc he
      refine aw_iconst (v := 0) C dX6_hasTip_91 (by decide) ?_
      have he := Option.some.inj he
      subst he
      exact aw_zret C X (by decide) dX6_hasTip_92 (by decide) (by decide)
    · have he := iff_ hc he
      refine aw_aload_n C dX6_hasTip_55 rfl (j := 0) rfl ?_
      refine aw_iload C dX6_hasTip_56 (j := 5) rfl ?_
      refine aw_aload_n C dX6_hasTip_58 rfl (j := 0) rfl ?_
      obtain ⟨v59, hv, he⟩ := ob he
      refine aw_gA C fk_X6_19 dX6_hasTip_59 hv ?_
      refine aw_iload C dX6_hasTip_62 (j := 4) rfl ?_
      refine aw_iconst (v := 1) C dX6_hasTip_64 (by decide) ?_
      refine aw_iadd C dX6_hasTip_65 ?_
      obtain ⟨v66, hv, he⟩ := ob he
      refine aw_iald C dX6_hasTip_66 hv ?_
      obtain ⟨hO, he⟩ := ifs he
      obtain ⟨v67, hv, he⟩ := ob he
      refine aw_callV (ci := 6) C mb_X6_133 ⟨q_942, q_47, rfl⟩ hO (cX6_commonOf_ _ _ _ _ hv) dX6_hasTip_67 rfl (rest := []) rfl (cat_le _ (Nat.le_of_ble_eq_true rfl)) (Nat.le_of_ble_eq_true rfl) (Nat.le_of_ble_eq_true rfl) (Nat.le_of_ble_eq_true rfl) (st2 := [.int v67]) rfl ?_
      refine aw_iload C dX6_hasTip_70 (j := 6) rfl ?_
      refine aw_aload_n C dX6_hasTip_72 rfl (j := 0) rfl ?_
      obtain ⟨v73, hv, he⟩ := ob he
      refine aw_gA C fk_X6_19 dX6_hasTip_73 hv ?_
      refine aw_iload C dX6_hasTip_76 (j := 4) rfl ?_
      refine aw_iconst (v := 3) C dX6_hasTip_78 (by decide) ?_
      refine aw_iadd C dX6_hasTip_79 ?_
      obtain ⟨v80, hv, he⟩ := ob he
      refine aw_iald C dX6_hasTip_80 hv ?_
      obtain ⟨v81, hv, he⟩ := ob he
      refine aw_callS C mb_X6_159 q_984 (cX6_isTip_ _ _ _ _ hv) dX6_hasTip_81 rfl (rest := []) rfl (cat_le _ (Nat.le_of_ble_eq_true rfl)) (Nat.le_of_ble_eq_true rfl) (Nat.le_of_ble_eq_true rfl) (Nat.le_of_ble_eq_true rfl) (st2 := [.int v81]) rfl ?_
      refine aw_if_eq (tgt := 91) C dX6_hasTip_84 (by decide) (fun hc => ?_) (fun hc => ?_)
      · have he := ift hc he
        refine aw_iconst (v := 0) C dX6_hasTip_91 (by decide) ?_
        have he := Option.some.inj he
        subst he
        exact aw_zret C X (by decide) dX6_hasTip_92 (by decide) (by decide)
      · have he := iff_ hc he
        refine aw_iconst (v := 1) C dX6_hasTip_87 (by decide) ?_
        refine aw_goto (tgt := 92) C dX6_hasTip_88 (by decide) ?_
        have he := Option.some.inj he
        subst he
        exact aw_zret C X (by decide) dX6_hasTip_92 (by decide) (by decide)
  · have he := iff_ hc he
    refine aw_iconst (v := 0) C dX6_hasTip_28 (by decide) ?_
    have he := Option.some.inj he
    subst he
    exact aw_zret C X (by decide) dX6_hasTip_29 (by decide) (by decide)
theorem cX6_hasTip_ (l : Launch) (D : va_G) (dA : Nat → ClassId) (base : Nat) {N : Nat} {h : Hp} {sz : Nat} {l0 : Option Nat} {l1 : Int32} {l2 : Int32} {l3 : Int32} {out : Int32} (he : fX6_hasTip N h l0 l1 l2 l3 = some out) : AM l D dA base yX6_hasTip cX6_hasTip 7 (some .boolean) 2 0 0 [.inr l0, .inl l1, .inl l2, .inl l3] h sz (some (.int out)) h sz :=
  AM.of (by decide +kernel) (Nat.le_of_ble_eq_true rfl) rfl (fun Γ C X hn => wX6_hasTip C X he)
set_option maxHeartbeats 4000000 in
set_option maxRecDepth 100000 in
theorem wX6_shownAt_L7 {Γ : GG} (C : CX Γ cX6_shownAt 4 RX6 3 0 0) {N : Nat} {sz : Nat} {h : Hp} {α : Type} {out : α} {K27 : Int32 → Option α} (k27 : ∀ (l3 : Int32), K27 l3 = some out → AW Γ 4 h sz 0 0 27 [(3, .inl l3)] []) : ∀ (n : Nat) (l0 : Option Nat) (l1 : Int32) (l2 : Int32) (l3 : Int32), fX6_shownAt_L7 N h K27 n l0 l1 l2 l3 = some out → AW Γ 4 h sz 0 0 7 [(0, .inr l0), (1, .inl l1), (2, .inl l2), (3, .inl l3)] [] := by
  intro n
  induction n with
  | zero =>
    intro l0 l1 l2 l3 he
    rw [fX6_shownAt_L7] at he
    cases he
  | succ n ih =>
    intro l0 l1 l2 l3 he
    rw [fX6_shownAt_L7] at he
    refine aw_iload_n C dX6_shownAt_7 rfl (j := 3) rfl ?_
    refine aw_if_lt (tgt := 27) C dX6_shownAt_8 (by decide) (fun hc => ?_) (fun hc => ?_)
    · have he := ift hc he
      refine aw_sub [3] (lv' := [(3, .inl l3)]) rfl ?_
      exact k27 _ he
    · have he := iff_ hc he
      refine aw_aload_n C dX6_shownAt_11 rfl (j := 0) rfl ?_
      refine aw_iload_n C dX6_shownAt_12 rfl (j := 3) rfl ?_
      refine aw_iload_n C dX6_shownAt_13 rfl (j := 1) rfl ?_
      refine aw_iload_n C dX6_shownAt_14 rfl (j := 2) rfl ?_
      obtain ⟨hO, he⟩ := ifs he
      obtain ⟨v15, hv, he⟩ := ob he
      refine aw_callV (ci := 6) C mb_X6_162 ⟨q_977, q_54, rfl⟩ hO (cX6_hasTip_ _ _ _ _ hv) dX6_shownAt_15 rfl (rest := []) rfl (cat_le _ (Nat.le_of_ble_eq_true rfl)) (Nat.le_of_ble_eq_true rfl) (Nat.le_of_ble_eq_true rfl) (Nat.le_of_ble_eq_true rfl) (st2 := [.int v15]) rfl ?_
      refine aw_if_ne (tgt := 27) C dX6_shownAt_18 (by decide) (fun hc => ?_) (fun hc => ?_)
      · have he := ift hc he
        refine aw_iinc (y := -1) C dX6_shownAt_21 (by decide) (j := 3) rfl (by decide) rfl (lv' := [(0, .inr l0), (1, .inl l1), (2, .inl l2), (3, .inl (l3 + (-1)))]) rfl ?_
        refine aw_goto (tgt := 7) C dX6_shownAt_24 (by decide) ?_
        exact ih _ _ _ _ he
      · have he := iff_ hc he
        refine aw_sub [3] (lv' := [(3, .inl l3)]) rfl ?_
        exact k27 _ he
set_option maxHeartbeats 4000000 in
set_option maxRecDepth 100000 in
theorem wX6_shownAt_j27 {Γ : GG} (C : CX Γ cX6_shownAt 4 RX6 3 0 0) {N : Nat} {sz : Nat} {h : Hp} {out : Int32} (X : RX Γ (some .int) (some (.int out)) h sz 0 0) {l3 : Int32} (he : fX6_shownAt_j27 N h l3 = some out) : AW Γ 4 h sz 0 0 27 [(3, .inl l3)] [] := by
  unfold fX6_shownAt_j27 at he
  refine aw_iload_n C dX6_shownAt_27 rfl (j := 0) rfl ?_
  refine aw_if_ge (tgt := 36) C dX6_shownAt_28 (by decide) (fun hc => ?_) (fun hc => ?_)
  · have he := ift hc he
    refine aw_iload_n C dX6_shownAt_36 rfl (j := 0) rfl ?_
    have he := Option.some.inj he
    subst he
    exact aw_iret C X dX6_shownAt_37 (by decide) (by decide)
  · have he := iff_ hc he
    refine aw_bipush (v := -9) C dX6_shownAt_31 (by decide) ?_
    refine aw_goto (tgt := 37) C dX6_shownAt_33 (by decide) ?_
    have he := Option.some.inj he
    subst he
    exact aw_iret C X dX6_shownAt_37 (by decide) (by decide)
set_option maxHeartbeats 4000000 in
set_option maxRecDepth 100000 in
theorem wX6_shownAt {Γ : GG} (C : CX Γ cX6_shownAt 4 RX6 3 0 0) {N : Nat} {sz : Nat} {h : Hp} {out : Int32} (X : RX Γ (some .int) (some (.int out)) h sz 0 0) {l0 : Option Nat} {l1 : Int32} {l2 : Int32} (he : fX6_shownAt N h l0 l1 l2 = some out) : AW Γ 4 h sz 0 0 0 [(0, .inr l0), (1, .inl l1), (2, .inl l2)] [] := by
  unfold fX6_shownAt at he
  refine aw_aload_n C dX6_shownAt_0 rfl (j := 0) rfl ?_
  obtain ⟨v1, hv, he⟩ := ob he
  refine aw_gI C fk_X6_72 dX6_shownAt_1 hv ?_
  refine aw_iconst (v := 1) C dX6_shownAt_4 (by decide) ?_
  refine aw_isub C dX6_shownAt_5 ?_
  refine aw_istore_n C dX6_shownAt_6 rfl (by decide) rfl (lv' := [(0, .inr l0), (1, .inl l1), (2, .inl l2), (3, .inl (v1 - (1 : Int32)))]) rfl ?_
  refine wX6_shownAt_L7 C ?_ N _ _ _ _ he
  intro l3 he
  exact wX6_shownAt_j27 C X he
theorem cX6_shownAt_ (l : Launch) (D : va_G) (dA : Nat → ClassId) (base : Nat) {N : Nat} {h : Hp} {sz : Nat} {l0 : Option Nat} {l1 : Int32} {l2 : Int32} {out : Int32} (he : fX6_shownAt N h l0 l1 l2 = some out) : AM l D dA base yX6_shownAt cX6_shownAt 4 (some .int) 3 0 0 [.inr l0, .inl l1, .inl l2] h sz (some (.int out)) h sz :=
  AM.of (by decide +kernel) (Nat.le_of_ble_eq_true rfl) rfl (fun Γ C X hn => wX6_shownAt C X he)
set_option maxHeartbeats 4000000 in
set_option maxRecDepth 100000 in
theorem wX6_penAt {Γ : GG} (C : CX Γ cX6_penAt 4 RX6 4 0 0) {N : Nat} {sz : Nat} {h : Hp} {out : Int32} (X : RX Γ (some .int) (some (.int out)) h sz 0 0) {l0 : Option Nat} {l1 : Int32} {l2 : Int32} (he : fX6_penAt N h l0 l1 l2 = some out) : AW Γ 4 h sz 0 0 0 [(0, .inr l0), (1, .inl l1), (2, .inl l2)] [] := by
  unfold fX6_penAt at he
  refine aw_aload_n C dX6_penAt_0 rfl (j := 0) rfl ?_
  refine aw_iload_n C dX6_penAt_1 rfl (j := 1) rfl ?_
  refine aw_iload_n C dX6_penAt_2 rfl (j := 2) rfl ?_
  obtain ⟨hO, he⟩ := ifs he
  obtain ⟨v3, hv, he⟩ := ob he
  refine aw_callV (ci := 6) C mb_X6_165 ⟨q_973, q_53, rfl⟩ hO (cX6_shownAt_ _ _ _ _ hv) dX6_penAt_3 rfl (rest := []) rfl (cat_le _ (Nat.le_of_ble_eq_true rfl)) (Nat.le_of_ble_eq_true rfl) (Nat.le_of_ble_eq_true rfl) (Nat.le_of_ble_eq_true rfl) (st2 := [.int v3]) rfl ?_
  refine aw_istore_n C dX6_penAt_6 rfl (by decide) rfl (lv' := [(0, .inr l0), (1, .inl l1), (2, .inl l2), (3, .inl v3)]) rfl ?_
  refine aw_iload_n C dX6_penAt_7 rfl (j := 3) rfl ?_
  refine aw_bipush (v := -9) C dX6_penAt_8 (by decide) ?_
  refine aw_ic_ne (tgt := 18) C dX6_penAt_10 (by decide) (fun hc => ?_) (fun hc => ?_)
  · have he := ift hc he
    refine aw_bipush (v := -9) C dX6_penAt_13 (by decide) ?_
    refine aw_goto (tgt := 29) C dX6_penAt_15 (by decide) ?_
    have he := Option.some.inj he
    subst he
    exact aw_iret C X dX6_penAt_29 (by decide) (by decide)
  · have he := iff_ hc he
    refine aw_aload_n C dX6_penAt_18 rfl (j := 0) rfl ?_
    obtain ⟨v19, hv, he⟩ := ob he
    refine aw_gA C fk_X6_19 dX6_penAt_19 hv ?_
    refine aw_bipush (v := 6) C dX6_penAt_22 (by decide) ?_
    refine aw_iload_n C dX6_penAt_24 rfl (j := 3) rfl ?_
    refine aw_imul C dX6_penAt_25 ?_
    refine aw_iconst (v := 4) C dX6_penAt_26 (by decide) ?_
    refine aw_iadd C dX6_penAt_27 ?_
    obtain ⟨v28, hv, he⟩ := ob he
    refine aw_iald C dX6_penAt_28 hv ?_
    have he := Option.some.inj he
    subst he
    exact aw_iret C X dX6_penAt_29 (by decide) (by decide)
theorem cX6_penAt_ (l : Launch) (D : va_G) (dA : Nat → ClassId) (base : Nat) {N : Nat} {h : Hp} {sz : Nat} {l0 : Option Nat} {l1 : Int32} {l2 : Int32} {out : Int32} (he : fX6_penAt N h l0 l1 l2 = some out) : AM l D dA base yX6_penAt cX6_penAt 4 (some .int) 4 0 0 [.inr l0, .inl l1, .inl l2] h sz (some (.int out)) h sz :=
  AM.of (by decide +kernel) (Nat.le_of_ble_eq_true rfl) rfl (fun Γ C X hn => wX6_penAt C X he)
set_option maxHeartbeats 4000000 in
set_option maxRecDepth 100000 in
theorem wX6_penShown_L14 {Γ : GG} (C : CX Γ cX6_penShown 5 RX6 5 0 0) {N : Nat} {sz : Nat} {h : Hp} {α : Type} {out : α} {K46 : Option Nat → Int32 → Int32 → Int32 → Option α} (k46 : ∀ (l0 : Option Nat) (l1 : Int32) (l2 : Int32) (l3 : Int32), K46 l0 l1 l2 l3 = some out → AW Γ 5 h sz 0 0 46 [(0, .inr l0), (1, .inl l1), (2, .inl l2), (3, .inl l3)] []) : ∀ (n : Nat) (l0 : Option Nat) (l1 : Int32) (l2 : Int32) (l3 : Int32) (l4 : Int32), fX6_penShown_L14 N h K46 n l0 l1 l2 l3 l4 = some out → AW Γ 5 h sz 0 0 14 [(0, .inr l0), (1, .inl l1), (2, .inl l2), (3, .inl l3), (4, .inl l4)] [] := by
  intro n
  induction n with
  | zero =>
    intro l0 l1 l2 l3 l4 he
    rw [fX6_penShown_L14] at he
    cases he
  | succ n ih =>
    intro l0 l1 l2 l3 l4 he
    rw [fX6_penShown_L14] at he
    refine aw_iload C dX6_penShown_14 (j := 4) rfl ?_
    refine aw_bipush (v := 9) C dX6_penShown_16 (by decide) ?_
    refine aw_ic_gt (tgt := 46) C dX6_penShown_18 (by decide) (fun hc => ?_) (fun hc => ?_)
    · have he := ift hc he
      refine aw_sub [0, 1, 2, 3] (lv' := [(0, .inr l0), (1, .inl l1), (2, .inl l2), (3, .inl l3)]) rfl ?_
      exact k46 _ _ _ _ he
    · have he := iff_ hc he
      refine aw_iload_n C dX6_penShown_21 rfl (j := 2) rfl ?_
      refine aw_aload_n C dX6_penShown_22 rfl (j := 0) rfl ?_
      refine aw_iload_n C dX6_penShown_23 rfl (j := 3) rfl ?_
      refine aw_iload C dX6_penShown_24 (j := 4) rfl ?_
      obtain ⟨hO, he⟩ := ifs he
      obtain ⟨v26, hv, he⟩ := ob he
      refine aw_callV (ci := 6) C mb_X6_168 ⟨q_969, q_52, rfl⟩ hO (cX6_penAt_ _ _ _ _ hv) dX6_penShown_26 rfl (rest := [.int l2]) rfl (cat_le _ (Nat.le_of_ble_eq_true rfl)) (Nat.le_of_ble_eq_true rfl) (Nat.le_of_ble_eq_true rfl) (Nat.le_of_ble_eq_true rfl) (st2 := [.int v26, .int l2]) rfl ?_
      refine aw_iload_n C dX6_penShown_29 rfl (j := 1) rfl ?_
      refine aw_ic_ne (tgt := 37) C dX6_penShown_30 (by decide) (fun hc => ?_) (fun hc => ?_)
      · have he := ift hc he
        refine aw_iconst (v := 1) C dX6_penShown_33 (by decide) ?_
        refine aw_goto (tgt := 38) C dX6_penShown_34 (by decide) ?_
        refine aw_iadd C dX6_penShown_38 ?_
        refine aw_istore_n C dX6_penShown_39 rfl (by decide) rfl (lv' := [(0, .inr l0), (1, .inl l1), (2, .inl (l2 + (1 : Int32))), (3, .inl l3), (4, .inl l4)]) rfl ?_
        refine aw_iinc (y := 1) C dX6_penShown_40 (by decide) (j := 4) rfl (by decide) rfl (lv' := [(0, .inr l0), (1, .inl l1), (2, .inl (l2 + (1 : Int32))), (3, .inl l3), (4, .inl (l4 + 1))]) rfl ?_
        refine aw_goto (tgt := 14) C dX6_penShown_43 (by decide) ?_
        exact ih _ _ _ _ _ he
      · have he := iff_ hc he
        refine aw_iconst (v := 0) C dX6_penShown_37 (by decide) ?_
        refine aw_iadd C dX6_penShown_38 ?_
        refine aw_istore_n C dX6_penShown_39 rfl (by decide) rfl (lv' := [(0, .inr l0), (1, .inl l1), (2, .inl (l2 + (0 : Int32))), (3, .inl l3), (4, .inl l4)]) rfl ?_
        refine aw_iinc (y := 1) C dX6_penShown_40 (by decide) (j := 4) rfl (by decide) rfl (lv' := [(0, .inr l0), (1, .inl l1), (2, .inl (l2 + (0 : Int32))), (3, .inl l3), (4, .inl (l4 + 1))]) rfl ?_
        refine aw_goto (tgt := 14) C dX6_penShown_43 (by decide) ?_
        exact ih _ _ _ _ _ he
set_option maxHeartbeats 4000000 in
set_option maxRecDepth 100000 in
theorem wX6_penShown_L4 {Γ : GG} (C : CX Γ cX6_penShown 5 RX6 5 0 0) {N : Nat} {sz : Nat} {h : Hp} {α : Type} {out : α} {K52 : Int32 → Option α} (k52 : ∀ (l2 : Int32), K52 l2 = some out → AW Γ 5 h sz 0 0 52 [(2, .inl l2)] []) : ∀ (n : Nat) (l0 : Option Nat) (l1 : Int32) (l2 : Int32) (l3 : Int32), fX6_penShown_L4 N h K52 n l0 l1 l2 l3 = some out → AW Γ 5 h sz 0 0 4 [(0, .inr l0), (1, .inl l1), (2, .inl l2), (3, .inl l3)] [] := by
  intro n
  induction n with
  | zero =>
    intro l0 l1 l2 l3 he
    rw [fX6_penShown_L4] at he
    cases he
  | succ n ih =>
    intro l0 l1 l2 l3 he
    rw [fX6_penShown_L4] at he
    refine aw_iload_n C dX6_penShown_4 rfl (j := 3) rfl ?_
    refine aw_sipush (v := 360) C dX6_penShown_5 (by decide) ?_
    refine aw_ic_ge (tgt := 52) C dX6_penShown_8 (by decide) (fun hc => ?_) (fun hc => ?_)
    · have he := ift hc he
      refine aw_sub [2] (lv' := [(2, .inl l2)]) rfl ?_
      exact k52 _ he
    · have he := iff_ hc he
      refine aw_iconst (v := 1) C dX6_penShown_11 (by decide) ?_
      refine aw_istore C dX6_penShown_12 (by decide) rfl (lv' := [(0, .inr l0), (1, .inl l1), (2, .inl l2), (3, .inl l3), (4, .inl (1 : Int32))]) rfl ?_
      refine wX6_penShown_L14 C ?_ N _ _ _ _ _ he
      intro l0 l1 l2 l3 he
      refine aw_iinc (y := 1) C dX6_penShown_46 (by decide) (j := 3) rfl (by decide) rfl (lv' := [(0, .inr l0), (1, .inl l1), (2, .inl l2), (3, .inl (l3 + 1))]) rfl ?_
      refine aw_goto (tgt := 4) C dX6_penShown_49 (by decide) ?_
      exact ih _ _ _ _ he
set_option maxHeartbeats 4000000 in
set_option maxRecDepth 100000 in
theorem wX6_penShown {Γ : GG} (C : CX Γ cX6_penShown 5 RX6 5 0 0) {N : Nat} {sz : Nat} {h : Hp} {out : Int32} (X : RX Γ (some .int) (some (.int out)) h sz 0 0) {l0 : Option Nat} {l1 : Int32} (he : fX6_penShown N h l0 l1 = some out) : AW Γ 5 h sz 0 0 0 [(0, .inr l0), (1, .inl l1)] [] := by
  unfold fX6_penShown at he
  refine aw_iconst (v := 0) C dX6_penShown_0 (by decide) ?_
  refine aw_istore_n C dX6_penShown_1 rfl (by decide) rfl (lv' := [(0, .inr l0), (1, .inl l1), (2, .inl (0 : Int32))]) rfl ?_
  refine aw_iconst (v := 0) C dX6_penShown_2 (by decide) ?_
  refine aw_istore_n C dX6_penShown_3 rfl (by decide) rfl (lv' := [(0, .inr l0), (1, .inl l1), (2, .inl (0 : Int32)), (3, .inl (0 : Int32))]) rfl ?_
  refine wX6_penShown_L4 C ?_ N _ _ _ _ he
  intro l2 he
  refine aw_iload_n C dX6_penShown_52 rfl (j := 0) rfl ?_
  have he := Option.some.inj he
  subst he
  exact aw_iret C X dX6_penShown_53 (by decide) (by decide)
theorem cX6_penShown_ (l : Launch) (D : va_G) (dA : Nat → ClassId) (base : Nat) {N : Nat} {h : Hp} {sz : Nat} {l0 : Option Nat} {l1 : Int32} {out : Int32} (he : fX6_penShown N h l0 l1 = some out) : AM l D dA base yX6_penShown cX6_penShown 5 (some .int) 5 0 0 [.inr l0, .inl l1] h sz (some (.int out)) h sz :=
  AM.of (by decide +kernel) (Nat.le_of_ble_eq_true rfl) rfl (fun Γ C X hn => wX6_penShown C X he)
set_option maxHeartbeats 4000000 in
set_option maxRecDepth 100000 in
theorem wX6_pen {Γ : GG} (C : CX Γ cX6_pen 3 RX6 6 0 0) {N : Nat} {sz : Nat} {h : Hp} {out : Int32} (X : RX Γ (some .int) (some (.int out)) h sz 0 0) {l0 : Option Nat} {l1 : Int32} {l2 : Int32} (he : fX6_pen N h l0 l1 l2 = some out) : AW Γ 3 h sz 0 0 0 [(0, .inr l0), (1, .inl l1), (2, .inl l2)] [] := by
  unfold fX6_pen at he
  refine aw_aload_n C dX6_pen_0 rfl (j := 0) rfl ?_
  refine aw_iload_n C dX6_pen_1 rfl (j := 1) rfl ?_
  obtain ⟨hO, he⟩ := ifs he
  obtain ⟨v2, hv, he⟩ := ob he
  refine aw_callV (ci := 6) C mb_X6_171 ⟨q_961, q_50, rfl⟩ hO (cX6_isPen_ _ _ _ _ hv) dX6_pen_2 rfl (rest := []) rfl (cat_le _ (Nat.le_of_ble_eq_true rfl)) (Nat.le_of_ble_eq_true rfl) (Nat.le_of_ble_eq_true rfl) (Nat.le_of_ble_eq_true rfl) (st2 := [.int v2]) rfl ?_
  refine aw_if_eq (tgt := 17) C dX6_pen_5 (by decide) (fun hc => ?_) (fun hc => ?_)
  · have he := ift hc he
    refine aw_iconst (v := -1) C dX6_pen_17 (by decide) ?_
    have he := Option.some.inj he
    subst he
    exact aw_iret C X dX6_pen_18 (by decide) (by decide)
  · have he := iff_ hc he
    refine aw_iload_n C dX6_pen_8 rfl (j := 2) rfl ?_
    refine aw_iconst (v := 0) C dX6_pen_9 (by decide) ?_
    refine aw_iconst (v := 1) C dX6_pen_10 (by decide) ?_
    obtain ⟨v11, hv, he⟩ := ob he
    refine aw_callS C mb_X6_62 q_874 (cX6_in_ _ _ _ _ hv) dX6_pen_11 rfl (rest := []) rfl (cat_le _ (Nat.le_of_ble_eq_true rfl)) (Nat.le_of_ble_eq_true rfl) (Nat.le_of_ble_eq_true rfl) (Nat.le_of_ble_eq_true rfl) (st2 := [.int v11]) rfl ?_
    refine aw_if_ne (tgt := 19) C dX6_pen_14 (by decide) (fun hc => ?_) (fun hc => ?_)
    · have he := ift hc he
      refine aw_iconst (v := -1) C dX6_pen_17 (by decide) ?_
      have he := Option.some.inj he
      subst he
      exact aw_iret C X dX6_pen_18 (by decide) (by decide)
    · have he := iff_ hc he
      refine aw_iload_n C dX6_pen_19 rfl (j := 2) rfl ?_
      refine aw_if_ne (tgt := 32) C dX6_pen_20 (by decide) (fun hc => ?_) (fun hc => ?_)
      · have he := ift hc he
        refine aw_aload_n C dX6_pen_23 rfl (j := 0) rfl ?_
        obtain ⟨v24, hv, he⟩ := ob he
        refine aw_gA C fk_X6_16 dX6_pen_24 hv ?_
        refine aw_iload_n C dX6_pen_27 rfl (j := 1) rfl ?_
        obtain ⟨v28, hv, he⟩ := ob he
        refine aw_iald C dX6_pen_28 hv ?_
        refine aw_goto (tgt := 37) C dX6_pen_29 (by decide) ?_
        have he := Option.some.inj he
        subst he
        exact aw_iret C X dX6_pen_37 (by decide) (by decide)
      · have he := iff_ hc he
        refine aw_aload_n C dX6_pen_32 rfl (j := 0) rfl ?_
        refine aw_iload_n C dX6_pen_33 rfl (j := 1) rfl ?_
        obtain ⟨hO, he⟩ := ifs he
        obtain ⟨v34, hv, he⟩ := ob he
        refine aw_callV (ci := 6) C mb_X6_174 ⟨q_965, q_51, rfl⟩ hO (cX6_penShown_ _ _ _ _ hv) dX6_pen_34 rfl (rest := []) rfl (cat_le _ (Nat.le_of_ble_eq_true rfl)) (Nat.le_of_ble_eq_true rfl) (Nat.le_of_ble_eq_true rfl) (Nat.le_of_ble_eq_true rfl) (st2 := [.int v34]) rfl ?_
        have he := Option.some.inj he
        subst he
        exact aw_iret C X dX6_pen_37 (by decide) (by decide)
theorem cX6_pen_ (l : Launch) (D : va_G) (dA : Nat → ClassId) (base : Nat) {N : Nat} {h : Hp} {sz : Nat} {l0 : Option Nat} {l1 : Int32} {l2 : Int32} {out : Int32} (he : fX6_pen N h l0 l1 l2 = some out) : AM l D dA base yX6_pen cX6_pen 3 (some .int) 6 0 0 [.inr l0, .inl l1, .inl l2] h sz (some (.int out)) h sz :=
  AM.of (by decide +kernel) (Nat.le_of_ble_eq_true rfl) rfl (fun Γ C X hn => wX6_pen C X he)
set_option maxHeartbeats 4000000 in
set_option maxRecDepth 100000 in
theorem wX5_tipsShown {Γ : GG} (C : CX Γ cX5_tipsShown 3 RX5 4 0 0) {N : Nat} {sz : Nat} {out : Int32 × Hp} (X : RX Γ (some .int) (some (.int out.1)) out.2 sz 0 0) {h : Hp} {l0 : Option Nat} {l1 : Int32} {l2 : Int32} (he : fX5_tipsShown N h l0 l1 l2 = some out) : AW Γ 3 h sz 0 0 0 [(0, .inr l0), (1, .inl l1), (2, .inl l2)] [] := by
  unfold fX5_tipsShown at he
  refine aw_aload_n C dX5_tipsShown_0 rfl (j := 0) rfl ?_
  refine aw_iload_n C dX5_tipsShown_1 rfl (j := 2) rfl ?_
  obtain ⟨hO, he⟩ := ifs he
  obtain ⟨z2, hv, he⟩ := ob he
  refine aw_callV (ci := 5) C mb_X5_310 ⟨q_434, q_10, rfl⟩ hO (cX5_noteShown_ _ _ _ _ hv) dX5_tipsShown_2 rfl (rest := []) rfl (cat_le _ (Nat.le_of_ble_eq_true rfl)) (Nat.le_of_ble_eq_true rfl) (Nat.le_of_ble_eq_true rfl) (Nat.le_of_ble_eq_true rfl) (st2 := []) rfl ?_
  refine aw_aload_n C dX5_tipsShown_5 rfl (j := 0) rfl ?_
  refine aw_iload_n C dX5_tipsShown_6 rfl (j := 1) rfl ?_
  obtain ⟨hO, he⟩ := ifs he
  obtain ⟨v7, hv, he⟩ := ob he
  refine aw_callV (ci := 5) C mb_X5_313 ⟨q_447, q_11, rfl⟩ hO (cX5_pointsNoted_ _ _ _ _ hv) dX5_tipsShown_7 rfl (rest := []) rfl (cat_le _ (Nat.le_of_ble_eq_true rfl)) (Nat.le_of_ble_eq_true rfl) (Nat.le_of_ble_eq_true rfl) (Nat.le_of_ble_eq_true rfl) (st2 := [.int v7]) rfl ?_
  have he := Option.some.inj he
  subst he
  exact aw_iret C X dX5_tipsShown_10 (by decide) (by decide)
theorem cX5_tipsShown_ (l : Launch) (D : va_G) (dA : Nat → ClassId) (base : Nat) {N : Nat} {h : Hp} {sz : Nat} {l0 : Option Nat} {l1 : Int32} {l2 : Int32} {out : Int32 × Hp} (he : fX5_tipsShown N h l0 l1 l2 = some out) : AM l D dA base yX5_tipsShown cX5_tipsShown 3 (some .int) 4 0 0 [.inr l0, .inl l1, .inl l2] h sz (some (.int out.1)) out.2 sz :=
  AM.of (by decide +kernel) (Nat.le_of_ble_eq_true rfl) rfl (fun Γ C X hn => wX5_tipsShown C X he)
set_option maxHeartbeats 4000000 in
set_option maxRecDepth 100000 in
theorem wX5_curve {Γ : GG} (C : CX Γ cX5_curve 4 RX5 5 0 0) {N : Nat} {sz : Nat} {out : Int32 × Hp} (X : RX Γ (some .int) (some (.int out.1)) out.2 sz 0 0) {h : Hp} {l0 : Option Nat} {l1 : Int32} {l2 : Int32} (he : fX5_curve N h l0 l1 l2 = some out) : AW Γ 4 h sz 0 0 0 [(0, .inr l0), (1, .inl l1), (2, .inl l2)] [] := by
  unfold fX5_curve at he
  refine aw_aload_n C dX5_curve_0 rfl (j := 0) rfl ?_
  obtain ⟨v1, hv, he⟩ := ob he
  refine aw_gA C fk_X5_37 dX5_curve_1 hv ?_
  refine aw_iload_n C dX5_curve_4 rfl (j := 1) rfl ?_
  obtain ⟨hO, he⟩ := ifs he
  obtain ⟨v5, hv, he⟩ := ob he
  refine aw_callV (ci := 2) C mb_X5_135 ⟨q_425, q_426, rfl⟩ hO (cX2_curveAt_ _ _ _ _ hv) dX5_curve_5 rfl (rest := []) rfl (cat_le _ (Nat.le_of_ble_eq_true rfl)) (Nat.le_of_ble_eq_true rfl) (Nat.le_of_ble_eq_true rfl) (Nat.le_of_ble_eq_true rfl) (st2 := [va_rf v5]) rfl ?_
  refine aw_astore_n C dX5_curve_8 rfl (by decide) rfl (lv' := [(0, .inr l0), (1, .inl l1), (2, .inl l2), (3, .inr v5)]) rfl ?_
  refine aw_aload_n C dX5_curve_9 rfl (j := 3) rfl ?_
  refine aw_ifnonnull (tgt := 15) C dX5_curve_10 (by decide) (fun hc => ?_) (fun hc => ?_)
  · have he := ift hc he
    refine aw_iconst (v := -1) C dX5_curve_13 (by decide) ?_
    have he := Option.some.inj he
    subst he
    exact aw_iret C X dX5_curve_14 (by decide) (by decide)
  · have he := iff_ hc he
    refine aw_iload_n C dX5_curve_15 rfl (j := 2) rfl ?_
    by_cases c0 : l2 = 0
    · have he := ift c0 he
      refine aw_tsIn (v := 0) (off := 44) (tgt := 60) C dX5_curve_16 c0 (by decide) (by decide) (by decide) (by decide) ?_
      refine aw_aload_n C dX5_curve_60 rfl (j := 3) rfl ?_
      obtain ⟨v61, hv, he⟩ := ob he
      refine aw_gI C fk_X5_139 dX5_curve_61 hv ?_
      have he := Option.some.inj he
      subst he
      exact aw_iret C X dX5_curve_64 (by decide) (by decide)
    have he := iff_ c0 he
    by_cases c1 : l2 = 1
    · have he := ift c1 he
      refine aw_tsIn (v := 1) (off := 49) (tgt := 65) C dX5_curve_16 c1 (by decide) (by decide) (by decide) (by decide) ?_
      refine aw_aload_n C dX5_curve_65 rfl (j := 3) rfl ?_
      obtain ⟨v66, hv, he⟩ := ob he
      refine aw_gI C fk_X5_142 dX5_curve_66 hv ?_
      have he := Option.some.inj he
      subst he
      exact aw_iret C X dX5_curve_69 (by decide) (by decide)
    have he := iff_ c1 he
    by_cases c2 : l2 = 2
    · have he := ift c2 he
      refine aw_tsIn (v := 2) (off := 54) (tgt := 70) C dX5_curve_16 c2 (by decide) (by decide) (by decide) (by decide) ?_
      refine aw_aload_n C dX5_curve_70 rfl (j := 3) rfl ?_
      obtain ⟨v71, hv, he⟩ := ob he
      refine aw_gI C fk_X5_145 dX5_curve_71 hv ?_
      have he := Option.some.inj he
      subst he
      exact aw_iret C X dX5_curve_74 (by decide) (by decide)
    have he := iff_ c2 he
    by_cases c3 : l2 = 3
    · have he := ift c3 he
      refine aw_tsIn (v := 3) (off := 59) (tgt := 75) C dX5_curve_16 c3 (by decide) (by decide) (by decide) (by decide) ?_
      refine aw_aload_n C dX5_curve_75 rfl (j := 3) rfl ?_
      obtain ⟨v76, hv, he⟩ := ob he
      refine aw_gI C fk_X5_148 dX5_curve_76 hv ?_
      have he := Option.some.inj he
      subst he
      exact aw_iret C X dX5_curve_79 (by decide) (by decide)
    have he := iff_ c3 he
    by_cases c4 : l2 = 4
    · have he := ift c4 he
      refine aw_tsIn (v := 4) (off := 64) (tgt := 80) C dX5_curve_16 c4 (by decide) (by decide) (by decide) (by decide) ?_
      refine aw_aload_n C dX5_curve_80 rfl (j := 3) rfl ?_
      obtain ⟨v81, hv, he⟩ := ob he
      refine aw_gI C fk_X5_151 dX5_curve_81 hv ?_
      have he := Option.some.inj he
      subst he
      exact aw_iret C X dX5_curve_84 (by decide) (by decide)
    have he := iff_ c4 he
    by_cases c5 : l2 = 5
    · have he := ift c5 he
      refine aw_tsIn (v := 5) (off := 69) (tgt := 85) C dX5_curve_16 c5 (by decide) (by decide) (by decide) (by decide) ?_
      refine aw_aload_n C dX5_curve_85 rfl (j := 3) rfl ?_
      obtain ⟨v86, hv, he⟩ := ob he
      refine aw_gI C fk_X5_154 dX5_curve_86 hv ?_
      have he := Option.some.inj he
      subst he
      exact aw_iret C X dX5_curve_89 (by decide) (by decide)
    have he := iff_ c5 he
    by_cases c6 : l2 = 6
    · have he := ift c6 he
      refine aw_tsIn (v := 6) (off := 74) (tgt := 90) C dX5_curve_16 c6 (by decide) (by decide) (by decide) (by decide) ?_
      refine aw_aload_n C dX5_curve_90 rfl (j := 0) rfl ?_
      refine aw_iload_n C dX5_curve_91 rfl (j := 1) rfl ?_
      refine aw_aload_n C dX5_curve_92 rfl (j := 3) rfl ?_
      obtain ⟨v93, hv, he⟩ := ob he
      refine aw_gI C fk_X5_145 dX5_curve_93 hv ?_
      obtain ⟨hO, he⟩ := ifs he
      obtain ⟨z96, hv, he⟩ := ob he
      refine aw_callV (ci := 5) C mb_X5_157 ⟨q_455, q_12, rfl⟩ hO (cX5_tipsShown_ _ _ _ _ hv) dX5_curve_96 rfl (rest := []) rfl (cat_le _ (Nat.le_of_ble_eq_true rfl)) (Nat.le_of_ble_eq_true rfl) (Nat.le_of_ble_eq_true rfl) (Nat.le_of_ble_eq_true rfl) (st2 := [.int z96.1]) rfl ?_
      have he := Option.some.inj he
      subst he
      exact aw_iret C X dX5_curve_99 (by decide) (by decide)
    have he := iff_ c6 he
    refine aw_tsOut (tgt := 100) C dX5_curve_16 (by have e0 := lv_neT c0 (by decide : (0 : Int32).toInt = 0); have e1 := lv_neT c1 (by decide : (1 : Int32).toInt = 1); have e2 := lv_neT c2 (by decide : (2 : Int32).toInt = 2); have e3 := lv_neT c3 (by decide : (3 : Int32).toInt = 3); have e4 := lv_neT c4 (by decide : (4 : Int32).toInt = 4); have e5 := lv_neT c5 (by decide : (5 : Int32).toInt = 5); have e6 := lv_neT c6 (by decide : (6 : Int32).toInt = 6);  omega) (by decide) ?_
    refine aw_iconst (v := -1) C dX5_curve_100 (by decide) ?_
    have he := Option.some.inj he
    subst he
    exact aw_iret C X dX5_curve_101 (by decide) (by decide)
theorem cX5_curve_ (l : Launch) (D : va_G) (dA : Nat → ClassId) (base : Nat) {N : Nat} {h : Hp} {sz : Nat} {l0 : Option Nat} {l1 : Int32} {l2 : Int32} {out : Int32 × Hp} (he : fX5_curve N h l0 l1 l2 = some out) : AM l D dA base yX5_curve cX5_curve 4 (some .int) 5 0 0 [.inr l0, .inl l1, .inl l2] h sz (some (.int out.1)) out.2 sz :=
  AM.of (by decide +kernel) (Nat.le_of_ble_eq_true rfl) rfl (fun Γ C X hn => wX5_curve C X he)
