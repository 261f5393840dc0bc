section
-- ===== PART A: goes FIRST, ahead of the names: the tables' words, and 'selects' of the private methods out of them =====
/-- a private method of a class that the tables say can be made, by its rows of tables_1 -/
def lw_okq (q : MethodName × Nat) : Prop := (q.1.cls ≠ "java/lang/invoke/MethodHandle" ∧ q.1.cls ≠ "java/lang/invoke/VarHandle") ∧ Cond.instantiable q.1.cls q.2 ∈ tables_1 ∧ Cond.privateMethod q.1 ∈ tables_1 ∧ Cond.instanceMethod q.1 ∈ tables_1
theorem lw_p0 : lw_okq (⟨"PetalWheels$Text", "readToken", "()V"⟩, 6) := ⟨⟨by decide +kernel, by decide +kernel⟩, List.mem_of_getElem? (i := 20) (by decide +kernel), List.mem_of_getElem? (i := 182) (by decide +kernel), List.mem_of_getElem? (i := 183) (by decide +kernel)⟩
theorem lw_p1 : lw_okq (⟨"PetalWheels$Text", "byteAt", "(I)I"⟩, 6) := ⟨⟨by decide +kernel, by decide +kernel⟩, List.mem_of_getElem? (i := 20) (by decide +kernel), List.mem_of_getElem? (i := 186) (by decide +kernel), List.mem_of_getElem? (i := 187) (by decide +kernel)⟩
theorem lw_p2 : lw_okq (⟨"PetalWheels$Text", "readLetters", "()V"⟩, 6) := ⟨⟨by decide +kernel, by decide +kernel⟩, List.mem_of_getElem? (i := 20) (by decide +kernel), List.mem_of_getElem? (i := 193) (by decide +kernel), List.mem_of_getElem? (i := 194) (by decide +kernel)⟩
theorem lw_p3 : lw_okq (⟨"PetalWheels$Text", "readNumber", "()V"⟩, 6) := ⟨⟨by decide +kernel, by decide +kernel⟩, List.mem_of_getElem? (i := 20) (by decide +kernel), List.mem_of_getElem? (i := 200) (by decide +kernel), List.mem_of_getElem? (i := 201) (by decide +kernel)⟩
theorem lw_p4 : lw_okq (⟨"PetalWheels$Box", "addsRing", "(I)Z"⟩, 6) := ⟨⟨by decide +kernel, by decide +kernel⟩, List.mem_of_getElem? (i := 65) (by decide +kernel), List.mem_of_getElem? (i := 215) (by decide +kernel), List.mem_of_getElem? (i := 216) (by decide +kernel)⟩
theorem lw_p5 : lw_okq (⟨"PetalWheels$Box", "addsWheel", "(I)Z"⟩, 6) := ⟨⟨by decide +kernel, by decide +kernel⟩, List.mem_of_getElem? (i := 65) (by decide +kernel), List.mem_of_getElem? (i := 226) (by decide +kernel), List.mem_of_getElem? (i := 227) (by decide +kernel)⟩
theorem lw_p6 : lw_okq (⟨"PetalWheels$Box", "addsPen", "(I)Z"⟩, 6) := ⟨⟨by decide +kernel, by decide +kernel⟩, List.mem_of_getElem? (i := 65) (by decide +kernel), List.mem_of_getElem? (i := 230) (by decide +kernel), List.mem_of_getElem? (i := 231) (by decide +kernel)⟩
theorem lw_p7 : lw_okq (⟨"PetalWheels", "startAnew", "(LPetalWheels$Box;)V"⟩, 12) := ⟨⟨by decide +kernel, by decide +kernel⟩, List.mem_of_getElem? (i := 12) (by decide +kernel), List.mem_of_getElem? (i := 234) (by decide +kernel), List.mem_of_getElem? (i := 235) (by decide +kernel)⟩
theorem lw_p8 : lw_okq (⟨"PetalWheels", "pointsOfPen", "(I)I"⟩, 12) := ⟨⟨by decide +kernel, by decide +kernel⟩, List.mem_of_getElem? (i := 12) (by decide +kernel), List.mem_of_getElem? (i := 331) (by decide +kernel), List.mem_of_getElem? (i := 332) (by decide +kernel)⟩
theorem lw_p9 : lw_okq (⟨"PetalWheels", "notePens", "(I)V"⟩, 12) := ⟨⟨by decide +kernel, by decide +kernel⟩, List.mem_of_getElem? (i := 12) (by decide +kernel), List.mem_of_getElem? (i := 339) (by decide +kernel), List.mem_of_getElem? (i := 340) (by decide +kernel)⟩
theorem lw_p10 : lw_okq (⟨"PetalWheels", "noteShown", "(I)V"⟩, 12) := ⟨⟨by decide +kernel, by decide +kernel⟩, List.mem_of_getElem? (i := 12) (by decide +kernel), List.mem_of_getElem? (i := 343) (by decide +kernel), List.mem_of_getElem? (i := 344) (by decide +kernel)⟩
theorem lw_p11 : lw_okq (⟨"PetalWheels", "pointsNoted", "(I)I"⟩, 12) := ⟨⟨by decide +kernel, by decide +kernel⟩, List.mem_of_getElem? (i := 12) (by decide +kernel), List.mem_of_getElem? (i := 359) (by decide +kernel), List.mem_of_getElem? (i := 360) (by decide +kernel)⟩
theorem lw_p12 : lw_okq (⟨"PetalWheels", "tipsShown", "(II)I"⟩, 12) := ⟨⟨by decide +kernel, by decide +kernel⟩, List.mem_of_getElem? (i := 12) (by decide +kernel), List.mem_of_getElem? (i := 367) (by decide +kernel), List.mem_of_getElem? (i := 368) (by decide +kernel)⟩
theorem lw_p13 : lw_okq (⟨"PetalWheels$Paper", "inkWith", "(II)[I"⟩, 4) := ⟨⟨by decide +kernel, by decide +kernel⟩, List.mem_of_getElem? (i := 93) (by decide +kernel), List.mem_of_getElem? (i := 435) (by decide +kernel), List.mem_of_getElem? (i := 436) (by decide +kernel)⟩
theorem lw_p14 : lw_okq (⟨"PetalWheels", "changeTo", "(LPetalWheels$Paper;)V"⟩, 12) := ⟨⟨by decide +kernel, by decide +kernel⟩, List.mem_of_getElem? (i := 12) (by decide +kernel), List.mem_of_getElem? (i := 442) (by decide +kernel), List.mem_of_getElem? (i := 443) (by decide +kernel)⟩
theorem lw_p15 : lw_okq (⟨"PetalWheels", "pointsShown", "()I"⟩, 12) := ⟨⟨by decide +kernel, by decide +kernel⟩, List.mem_of_getElem? (i := 12) (by decide +kernel), List.mem_of_getElem? (i := 484) (by decide +kernel), List.mem_of_getElem? (i := 485) (by decide +kernel)⟩
def lw_privs_1 : List (MethodName × Nat) := [(⟨"PetalWheels$Text", "readToken", "()V"⟩, 6), (⟨"PetalWheels$Text", "byteAt", "(I)I"⟩, 6), (⟨"PetalWheels$Text", "readLetters", "()V"⟩, 6), (⟨"PetalWheels$Text", "readNumber", "()V"⟩, 6), (⟨"PetalWheels$Box", "addsRing", "(I)Z"⟩, 6), (⟨"PetalWheels$Box", "addsWheel", "(I)Z"⟩, 6), (⟨"PetalWheels$Box", "addsPen", "(I)Z"⟩, 6), (⟨"PetalWheels", "startAnew", "(LPetalWheels$Box;)V"⟩, 12), (⟨"PetalWheels", "pointsOfPen", "(I)I"⟩, 12), (⟨"PetalWheels", "notePens", "(I)V"⟩, 12), (⟨"PetalWheels", "noteShown", "(I)V"⟩, 12), (⟨"PetalWheels", "pointsNoted", "(I)I"⟩, 12), (⟨"PetalWheels", "tipsShown", "(II)I"⟩, 12), (⟨"PetalWheels$Paper", "inkWith", "(II)[I"⟩, 4), (⟨"PetalWheels", "changeTo", "(LPetalWheels$Paper;)V"⟩, 12), (⟨"PetalWheels", "pointsShown", "()I"⟩, 12)]
theorem lw_r1 : ∀ q ∈ lw_privs_1, lw_okq q := List.forall_mem_cons.mpr ⟨lw_p0, List.forall_mem_cons.mpr ⟨lw_p1, List.forall_mem_cons.mpr ⟨lw_p2, List.forall_mem_cons.mpr ⟨lw_p3, List.forall_mem_cons.mpr ⟨lw_p4, List.forall_mem_cons.mpr ⟨lw_p5, List.forall_mem_cons.mpr ⟨lw_p6, List.forall_mem_cons.mpr ⟨lw_p7, List.forall_mem_cons.mpr ⟨lw_p8, List.forall_mem_cons.mpr ⟨lw_p9, List.forall_mem_cons.mpr ⟨lw_p10, List.forall_mem_cons.mpr ⟨lw_p11, List.forall_mem_cons.mpr ⟨lw_p12, List.forall_mem_cons.mpr ⟨lw_p13, List.forall_mem_cons.mpr ⟨lw_p14, List.forall_mem_cons.mpr ⟨lw_p15, fun _ h => absurd h List.not_mem_nil⟩⟩⟩⟩⟩⟩⟩⟩⟩⟩⟩⟩⟩⟩⟩⟩
theorem lw_p16 : lw_okq (⟨"PetalWheels", "like", "()I"⟩, 12) := ⟨⟨by decide +kernel, by decide +kernel⟩, List.mem_of_getElem? (i := 12) (by decide +kernel), List.mem_of_getElem? (i := 488) (by decide +kernel), List.mem_of_getElem? (i := 489) (by decide +kernel)⟩
theorem lw_p17 : lw_okq (⟨"PetalWheels", "likeOfRow", "()I"⟩, 12) := ⟨⟨by decide +kernel, by decide +kernel⟩, List.mem_of_getElem? (i := 12) (by decide +kernel), List.mem_of_getElem? (i := 492) (by decide +kernel), List.mem_of_getElem? (i := 493) (by decide +kernel)⟩
theorem lw_p18 : lw_okq (⟨"PetalWheels", "isSameTurned", "(I)Z"⟩, 12) := ⟨⟨by decide +kernel, by decide +kernel⟩, List.mem_of_getElem? (i := 12) (by decide +kernel), List.mem_of_getElem? (i := 496) (by decide +kernel), List.mem_of_getElem? (i := 497) (by decide +kernel)⟩
theorem lw_p19 : lw_okq (⟨"PetalWheels", "noteBareTeeth", "(II)I"⟩, 12) := ⟨⟨by decide +kernel, by decide +kernel⟩, List.mem_of_getElem? (i := 12) (by decide +kernel), List.mem_of_getElem? (i := 518) (by decide +kernel), List.mem_of_getElem? (i := 519) (by decide +kernel)⟩
theorem lw_p20 : lw_okq (⟨"PetalWheels", "curvesNeeded", "(II)I"⟩, 12) := ⟨⟨by decide +kernel, by decide +kernel⟩, List.mem_of_getElem? (i := 12) (by decide +kernel), List.mem_of_getElem? (i := 524) (by decide +kernel), List.mem_of_getElem? (i := 525) (by decide +kernel)⟩
theorem lw_p21 : lw_okq (⟨"PetalWheels", "isClassBare", "(III)Z"⟩, 12) := ⟨⟨by decide +kernel, by decide +kernel⟩, List.mem_of_getElem? (i := 12) (by decide +kernel), List.mem_of_getElem? (i := 528) (by decide +kernel), List.mem_of_getElem? (i := 529) (by decide +kernel)⟩
theorem lw_p22 : lw_okq (⟨"PetalWheels", "noteMostPetals", "()V"⟩, 12) := ⟨⟨by decide +kernel, by decide +kernel⟩, List.mem_of_getElem? (i := 12) (by decide +kernel), List.mem_of_getElem? (i := 537) (by decide +kernel), List.mem_of_getElem? (i := 538) (by decide +kernel)⟩
theorem lw_p23 : lw_okq (⟨"PetalWheels", "addTwo", "(II)V"⟩, 12) := ⟨⟨by decide +kernel, by decide +kernel⟩, List.mem_of_getElem? (i := 12) (by decide +kernel), List.mem_of_getElem? (i := 541) (by decide +kernel), List.mem_of_getElem? (i := 542) (by decide +kernel)⟩
theorem lw_p24 : lw_okq (⟨"PetalWheels", "guesses", "(I)I"⟩, 12) := ⟨⟨by decide +kernel, by decide +kernel⟩, List.mem_of_getElem? (i := 12) (by decide +kernel), List.mem_of_getElem? (i := 569) (by decide +kernel), List.mem_of_getElem? (i := 570) (by decide +kernel)⟩
theorem lw_p25 : lw_okq (⟨"PetalWheels", "firstGuess", "(I)I"⟩, 12) := ⟨⟨by decide +kernel, by decide +kernel⟩, List.mem_of_getElem? (i := 12) (by decide +kernel), List.mem_of_getElem? (i := 582) (by decide +kernel), List.mem_of_getElem? (i := 583) (by decide +kernel)⟩
theorem lw_p26 : lw_okq (⟨"PetalWheels", "noteGuessesByTooth", "(I)V"⟩, 12) := ⟨⟨by decide +kernel, by decide +kernel⟩, List.mem_of_getElem? (i := 12) (by decide +kernel), List.mem_of_getElem? (i := 594) (by decide +kernel), List.mem_of_getElem? (i := 595) (by decide +kernel)⟩
theorem lw_p27 : lw_okq (⟨"PetalWheels", "addGuesses", "(III)V"⟩, 12) := ⟨⟨by decide +kernel, by decide +kernel⟩, List.mem_of_getElem? (i := 12) (by decide +kernel), List.mem_of_getElem? (i := 598) (by decide +kernel), List.mem_of_getElem? (i := 599) (by decide +kernel)⟩
theorem lw_p28 : lw_okq (⟨"PetalWheels", "markOfCurve", "(LPetalWheels$Curve;)I"⟩, 12) := ⟨⟨by decide +kernel, by decide +kernel⟩, List.mem_of_getElem? (i := 12) (by decide +kernel), List.mem_of_getElem? (i := 608) (by decide +kernel), List.mem_of_getElem? (i := 609) (by decide +kernel)⟩
theorem lw_p29 : lw_okq (⟨"PetalWheels", "markOfRose", "(LPetalWheels$Curve;)I"⟩, 12) := ⟨⟨by decide +kernel, by decide +kernel⟩, List.mem_of_getElem? (i := 12) (by decide +kernel), List.mem_of_getElem? (i := 612) (by decide +kernel), List.mem_of_getElem? (i := 613) (by decide +kernel)⟩
theorem lw_p30 : lw_okq (⟨"PetalWheels", "markOfWeb", "(LPetalWheels$Curve;)I"⟩, 12) := ⟨⟨by decide +kernel, by decide +kernel⟩, List.mem_of_getElem? (i := 12) (by decide +kernel), List.mem_of_getElem? (i := 617) (by decide +kernel), List.mem_of_getElem? (i := 618) (by decide +kernel)⟩
theorem lw_p31 : lw_okq (⟨"PetalWheels", "markOfBouquet", "(LPetalWheels$Curve;)I"⟩, 12) := ⟨⟨by decide +kernel, by decide +kernel⟩, List.mem_of_getElem? (i := 12) (by decide +kernel), List.mem_of_getElem? (i := 622) (by decide +kernel), List.mem_of_getElem? (i := 623) (by decide +kernel)⟩
def lw_privs_2 : List (MethodName × Nat) := [(⟨"PetalWheels", "like", "()I"⟩, 12), (⟨"PetalWheels", "likeOfRow", "()I"⟩, 12), (⟨"PetalWheels", "isSameTurned", "(I)Z"⟩, 12), (⟨"PetalWheels", "noteBareTeeth", "(II)I"⟩, 12), (⟨"PetalWheels", "curvesNeeded", "(II)I"⟩, 12), (⟨"PetalWheels", "isClassBare", "(III)Z"⟩, 12), (⟨"PetalWheels", "noteMostPetals", "()V"⟩, 12), (⟨"PetalWheels", "addTwo", "(II)V"⟩, 12), (⟨"PetalWheels", "guesses", "(I)I"⟩, 12), (⟨"PetalWheels", "firstGuess", "(I)I"⟩, 12), (⟨"PetalWheels", "noteGuessesByTooth", "(I)V"⟩, 12), (⟨"PetalWheels", "addGuesses", "(III)V"⟩, 12), (⟨"PetalWheels", "markOfCurve", "(LPetalWheels$Curve;)I"⟩, 12), (⟨"PetalWheels", "markOfRose", "(LPetalWheels$Curve;)I"⟩, 12), (⟨"PetalWheels", "markOfWeb", "(LPetalWheels$Curve;)I"⟩, 12), (⟨"PetalWheels", "markOfBouquet", "(LPetalWheels$Curve;)I"⟩, 12)]
theorem lw_r2 : ∀ q ∈ lw_privs_2, lw_okq q := List.forall_mem_cons.mpr ⟨lw_p16, List.forall_mem_cons.mpr ⟨lw_p17, List.forall_mem_cons.mpr ⟨lw_p18, List.forall_mem_cons.mpr ⟨lw_p19, List.forall_mem_cons.mpr ⟨lw_p20, List.forall_mem_cons.mpr ⟨lw_p21, List.forall_mem_cons.mpr ⟨lw_p22, List.forall_mem_cons.mpr ⟨lw_p23, List.forall_mem_cons.mpr ⟨lw_p24, List.forall_mem_cons.mpr ⟨lw_p25, List.forall_mem_cons.mpr ⟨lw_p26, List.forall_mem_cons.mpr ⟨lw_p27, List.forall_mem_cons.mpr ⟨lw_p28, List.forall_mem_cons.mpr ⟨lw_p29, List.forall_mem_cons.mpr ⟨lw_p30, List.forall_mem_cons.mpr ⟨lw_p31, fun _ h => absurd h List.not_mem_nil⟩⟩⟩⟩⟩⟩⟩⟩⟩⟩⟩⟩⟩⟩⟩⟩
theorem lw_p32 : lw_okq (⟨"PetalWheels", "markOfLace", "(LPetalWheels$Curve;I)I"⟩, 12) := ⟨⟨by decide +kernel, by decide +kernel⟩, List.mem_of_getElem? (i := 12) (by decide +kernel), List.mem_of_getElem? (i := 627) (by decide +kernel), List.mem_of_getElem? (i := 628) (by decide +kernel)⟩
theorem lw_p33 : lw_okq (⟨"PetalWheels", "markOfStar", "(LPetalWheels$Curve;)I"⟩, 12) := ⟨⟨by decide +kernel, by decide +kernel⟩, List.mem_of_getElem? (i := 12) (by decide +kernel), List.mem_of_getElem? (i := 632) (by decide +kernel), List.mem_of_getElem? (i := 633) (by decide +kernel)⟩
theorem lw_p34 : lw_okq (⟨"PetalWheelsModel", "skip", "()V"⟩, 30) := ⟨⟨by decide +kernel, by decide +kernel⟩, List.mem_of_getElem? (i := 653) (by decide +kernel), List.mem_of_getElem? (i := 765) (by decide +kernel), List.mem_of_getElem? (i := 766) (by decide +kernel)⟩
theorem lw_p35 : lw_okq (⟨"PetalWheelsModel", "here", "()I"⟩, 30) := ⟨⟨by decide +kernel, by decide +kernel⟩, List.mem_of_getElem? (i := 653) (by decide +kernel), List.mem_of_getElem? (i := 769) (by decide +kernel), List.mem_of_getElem? (i := 770) (by decide +kernel)⟩
theorem lw_p36 : lw_okq (⟨"PetalWheelsModel", "readsItem", "()Z"⟩, 30) := ⟨⟨by decide +kernel, by decide +kernel⟩, List.mem_of_getElem? (i := 653) (by decide +kernel), List.mem_of_getElem? (i := 773) (by decide +kernel), List.mem_of_getElem? (i := 774) (by decide +kernel)⟩
theorem lw_p37 : lw_okq (⟨"PetalWheelsModel", "readsRing", "()Z"⟩, 30) := ⟨⟨by decide +kernel, by decide +kernel⟩, List.mem_of_getElem? (i := 653) (by decide +kernel), List.mem_of_getElem? (i := 777) (by decide +kernel), List.mem_of_getElem? (i := 778) (by decide +kernel)⟩
theorem lw_p38 : lw_okq (⟨"PetalWheelsModel", "number", "(II)Z"⟩, 30) := ⟨⟨by decide +kernel, by decide +kernel⟩, List.mem_of_getElem? (i := 653) (by decide +kernel), List.mem_of_getElem? (i := 781) (by decide +kernel), List.mem_of_getElem? (i := 782) (by decide +kernel)⟩
theorem lw_p39 : lw_okq (⟨"PetalWheelsModel", "ends", "()Z"⟩, 30) := ⟨⟨by decide +kernel, by decide +kernel⟩, List.mem_of_getElem? (i := 653) (by decide +kernel), List.mem_of_getElem? (i := 785) (by decide +kernel), List.mem_of_getElem? (i := 786) (by decide +kernel)⟩
theorem lw_p40 : lw_okq (⟨"PetalWheelsModel", "readsWheel", "()Z"⟩, 30) := ⟨⟨by decide +kernel, by decide +kernel⟩, List.mem_of_getElem? (i := 653) (by decide +kernel), List.mem_of_getElem? (i := 789) (by decide +kernel), List.mem_of_getElem? (i := 790) (by decide +kernel)⟩
theorem lw_p41 : lw_okq (⟨"PetalWheelsModel", "readsPen", "()Z"⟩, 30) := ⟨⟨by decide +kernel, by decide +kernel⟩, List.mem_of_getElem? (i := 653) (by decide +kernel), List.mem_of_getElem? (i := 793) (by decide +kernel), List.mem_of_getElem? (i := 794) (by decide +kernel)⟩
theorem lw_p42 : lw_okq (⟨"PetalWheelsModel", "isRing", "(I)Z"⟩, 30) := ⟨⟨by decide +kernel, by decide +kernel⟩, List.mem_of_getElem? (i := 653) (by decide +kernel), List.mem_of_getElem? (i := 801) (by decide +kernel), List.mem_of_getElem? (i := 802) (by decide +kernel)⟩
theorem lw_p43 : lw_okq (⟨"PetalWheelsModel", "isWheel", "(I)Z"⟩, 30) := ⟨⟨by decide +kernel, by decide +kernel⟩, List.mem_of_getElem? (i := 653) (by decide +kernel), List.mem_of_getElem? (i := 809) (by decide +kernel), List.mem_of_getElem? (i := 810) (by decide +kernel)⟩
theorem lw_p44 : lw_okq (⟨"PetalWheelsModel", "fits", "(II)Z"⟩, 30) := ⟨⟨by decide +kernel, by decide +kernel⟩, List.mem_of_getElem? (i := 653) (by decide +kernel), List.mem_of_getElem? (i := 813) (by decide +kernel), List.mem_of_getElem? (i := 814) (by decide +kernel)⟩
theorem lw_p45 : lw_okq (⟨"PetalWheelsModel", "petalsOf", "(II)I"⟩, 30) := ⟨⟨by decide +kernel, by decide +kernel⟩, List.mem_of_getElem? (i := 653) (by decide +kernel), List.mem_of_getElem? (i := 817) (by decide +kernel), List.mem_of_getElem? (i := 818) (by decide +kernel)⟩
theorem lw_p46 : lw_okq (⟨"PetalWheelsModel", "commonOf", "(II)I"⟩, 30) := ⟨⟨by decide +kernel, by decide +kernel⟩, List.mem_of_getElem? (i := 653) (by decide +kernel), List.mem_of_getElem? (i := 821) (by decide +kernel), List.mem_of_getElem? (i := 822) (by decide +kernel)⟩
theorem lw_p47 : lw_okq (⟨"PetalWheelsModel", "roundsOf", "(II)I"⟩, 30) := ⟨⟨by decide +kernel, by decide +kernel⟩, List.mem_of_getElem? (i := 653) (by decide +kernel), List.mem_of_getElem? (i := 828) (by decide +kernel), List.mem_of_getElem? (i := 829) (by decide +kernel)⟩
def lw_privs_3 : List (MethodName × Nat) := [(⟨"PetalWheels", "markOfLace", "(LPetalWheels$Curve;I)I"⟩, 12), (⟨"PetalWheels", "markOfStar", "(LPetalWheels$Curve;)I"⟩, 12), (⟨"PetalWheelsModel", "skip", "()V"⟩, 30), (⟨"PetalWheelsModel", "here", "()I"⟩, 30), (⟨"PetalWheelsModel", "readsItem", "()Z"⟩, 30), (⟨"PetalWheelsModel", "readsRing", "()Z"⟩, 30), (⟨"PetalWheelsModel", "number", "(II)Z"⟩, 30), (⟨"PetalWheelsModel", "ends", "()Z"⟩, 30), (⟨"PetalWheelsModel", "readsWheel", "()Z"⟩, 30), (⟨"PetalWheelsModel", "readsPen", "()Z"⟩, 30), (⟨"PetalWheelsModel", "isRing", "(I)Z"⟩, 30), (⟨"PetalWheelsModel", "isWheel", "(I)Z"⟩, 30), (⟨"PetalWheelsModel", "fits", "(II)Z"⟩, 30), (⟨"PetalWheelsModel", "petalsOf", "(II)I"⟩, 30), (⟨"PetalWheelsModel", "commonOf", "(II)I"⟩, 30), (⟨"PetalWheelsModel", "roundsOf", "(II)I"⟩, 30)]
theorem lw_r3 : ∀ q ∈ lw_privs_3, lw_okq q := List.forall_mem_cons.mpr ⟨lw_p32, List.forall_mem_cons.mpr ⟨lw_p33, List.forall_mem_cons.mpr ⟨lw_p34, List.forall_mem_cons.mpr ⟨lw_p35, List.forall_mem_cons.mpr ⟨lw_p36, List.forall_mem_cons.mpr ⟨lw_p37, List.forall_mem_cons.mpr ⟨lw_p38, List.forall_mem_cons.mpr ⟨lw_p39, List.forall_mem_cons.mpr ⟨lw_p40, List.forall_mem_cons.mpr ⟨lw_p41, List.forall_mem_cons.mpr ⟨lw_p42, List.forall_mem_cons.mpr ⟨lw_p43, List.forall_mem_cons.mpr ⟨lw_p44, List.forall_mem_cons.mpr ⟨lw_p45, List.forall_mem_cons.mpr ⟨lw_p46, List.forall_mem_cons.mpr ⟨lw_p47, fun _ h => absurd h List.not_mem_nil⟩⟩⟩⟩⟩⟩⟩⟩⟩⟩⟩⟩⟩⟩⟩⟩
theorem lw_p48 : lw_okq (⟨"PetalWheelsModel", "longOf", "(II)I"⟩, 30) := ⟨⟨by decide +kernel, by decide +kernel⟩, List.mem_of_getElem? (i := 653) (by decide +kernel), List.mem_of_getElem? (i := 832) (by decide +kernel), List.mem_of_getElem? (i := 833) (by decide +kernel)⟩
theorem lw_p49 : lw_okq (⟨"PetalWheelsModel", "isPen", "(I)Z"⟩, 30) := ⟨⟨by decide +kernel, by decide +kernel⟩, List.mem_of_getElem? (i := 653) (by decide +kernel), List.mem_of_getElem? (i := 840) (by decide +kernel), List.mem_of_getElem? (i := 841) (by decide +kernel)⟩
theorem lw_p50 : lw_okq (⟨"PetalWheelsModel", "penShown", "(I)I"⟩, 30) := ⟨⟨by decide +kernel, by decide +kernel⟩, List.mem_of_getElem? (i := 653) (by decide +kernel), List.mem_of_getElem? (i := 844) (by decide +kernel), List.mem_of_getElem? (i := 845) (by decide +kernel)⟩
theorem lw_p51 : lw_okq (⟨"PetalWheelsModel", "penAt", "(II)I"⟩, 30) := ⟨⟨by decide +kernel, by decide +kernel⟩, List.mem_of_getElem? (i := 653) (by decide +kernel), List.mem_of_getElem? (i := 848) (by decide +kernel), List.mem_of_getElem? (i := 849) (by decide +kernel)⟩
theorem lw_p52 : lw_okq (⟨"PetalWheelsModel", "shownAt", "(II)I"⟩, 30) := ⟨⟨by decide +kernel, by decide +kernel⟩, List.mem_of_getElem? (i := 653) (by decide +kernel), List.mem_of_getElem? (i := 852) (by decide +kernel), List.mem_of_getElem? (i := 853) (by decide +kernel)⟩
theorem lw_p53 : lw_okq (⟨"PetalWheelsModel", "hasTip", "(III)Z"⟩, 30) := ⟨⟨by decide +kernel, by decide +kernel⟩, List.mem_of_getElem? (i := 653) (by decide +kernel), List.mem_of_getElem? (i := 856) (by decide +kernel), List.mem_of_getElem? (i := 857) (by decide +kernel)⟩
theorem lw_p54 : lw_okq (⟨"PetalWheelsModel", "toothAt", "(III)I"⟩, 30) := ⟨⟨by decide +kernel, by decide +kernel⟩, List.mem_of_getElem? (i := 653) (by decide +kernel), List.mem_of_getElem? (i := 860) (by decide +kernel), List.mem_of_getElem? (i := 861) (by decide +kernel)⟩
theorem lw_p55 : lw_okq (⟨"PetalWheelsModel", "isCurve", "(I)Z"⟩, 30) := ⟨⟨by decide +kernel, by decide +kernel⟩, List.mem_of_getElem? (i := 653) (by decide +kernel), List.mem_of_getElem? (i := 871) (by decide +kernel), List.mem_of_getElem? (i := 872) (by decide +kernel)⟩
theorem lw_p56 : lw_okq (⟨"PetalWheelsModel", "curveShown", "(I)I"⟩, 30) := ⟨⟨by decide +kernel, by decide +kernel⟩, List.mem_of_getElem? (i := 653) (by decide +kernel), List.mem_of_getElem? (i := 875) (by decide +kernel), List.mem_of_getElem? (i := 876) (by decide +kernel)⟩
theorem lw_p57 : lw_okq (⟨"PetalWheelsModel", "notes", "()V"⟩, 30) := ⟨⟨by decide +kernel, by decide +kernel⟩, List.mem_of_getElem? (i := 653) (by decide +kernel), List.mem_of_getElem? (i := 883) (by decide +kernel), List.mem_of_getElem? (i := 884) (by decide +kernel)⟩
theorem lw_p58 : lw_okq (⟨"PetalWheelsModel", "lays", "([II)V"⟩, 30) := ⟨⟨by decide +kernel, by decide +kernel⟩, List.mem_of_getElem? (i := 653) (by decide +kernel), List.mem_of_getElem? (i := 887) (by decide +kernel), List.mem_of_getElem? (i := 888) (by decide +kernel)⟩
theorem lw_p59 : lw_okq (⟨"PetalWheelsModel", "takes", "([II)V"⟩, 30) := ⟨⟨by decide +kernel, by decide +kernel⟩, List.mem_of_getElem? (i := 653) (by decide +kernel), List.mem_of_getElem? (i := 907) (by decide +kernel), List.mem_of_getElem? (i := 908) (by decide +kernel)⟩
theorem lw_p60 : lw_okq (⟨"PetalWheelsModel", "shownMany", "()I"⟩, 30) := ⟨⟨by decide +kernel, by decide +kernel⟩, List.mem_of_getElem? (i := 653) (by decide +kernel), List.mem_of_getElem? (i := 915) (by decide +kernel), List.mem_of_getElem? (i := 916) (by decide +kernel)⟩
theorem lw_p61 : lw_okq (⟨"PetalWheelsModel", "like", "()I"⟩, 30) := ⟨⟨by decide +kernel, by decide +kernel⟩, List.mem_of_getElem? (i := 653) (by decide +kernel), List.mem_of_getElem? (i := 919) (by decide +kernel), List.mem_of_getElem? (i := 920) (by decide +kernel)⟩
theorem lw_p62 : lw_okq (⟨"PetalWheelsModel", "isLike", "(I)Z"⟩, 30) := ⟨⟨by decide +kernel, by decide +kernel⟩, List.mem_of_getElem? (i := 653) (by decide +kernel), List.mem_of_getElem? (i := 923) (by decide +kernel), List.mem_of_getElem? (i := 924) (by decide +kernel)⟩
theorem lw_p63 : lw_okq (⟨"PetalWheelsModel", "pointOf", "(III)I"⟩, 30) := ⟨⟨by decide +kernel, by decide +kernel⟩, List.mem_of_getElem? (i := 653) (by decide +kernel), List.mem_of_getElem? (i := 939) (by decide +kernel), List.mem_of_getElem? (i := 940) (by decide +kernel)⟩
def lw_privs_4 : List (MethodName × Nat) := [(⟨"PetalWheelsModel", "longOf", "(II)I"⟩, 30), (⟨"PetalWheelsModel", "isPen", "(I)Z"⟩, 30), (⟨"PetalWheelsModel", "penShown", "(I)I"⟩, 30), (⟨"PetalWheelsModel", "penAt", "(II)I"⟩, 30), (⟨"PetalWheelsModel", "shownAt", "(II)I"⟩, 30), (⟨"PetalWheelsModel", "hasTip", "(III)Z"⟩, 30), (⟨"PetalWheelsModel", "toothAt", "(III)I"⟩, 30), (⟨"PetalWheelsModel", "isCurve", "(I)Z"⟩, 30), (⟨"PetalWheelsModel", "curveShown", "(I)I"⟩, 30), (⟨"PetalWheelsModel", "notes", "()V"⟩, 30), (⟨"PetalWheelsModel", "lays", "([II)V"⟩, 30), (⟨"PetalWheelsModel", "takes", "([II)V"⟩, 30), (⟨"PetalWheelsModel", "shownMany", "()I"⟩, 30), (⟨"PetalWheelsModel", "like", "()I"⟩, 30), (⟨"PetalWheelsModel", "isLike", "(I)Z"⟩, 30), (⟨"PetalWheelsModel", "pointOf", "(III)I"⟩, 30)]
theorem lw_r4 : ∀ q ∈ lw_privs_4, lw_okq q := List.forall_mem_cons.mpr ⟨lw_p48, List.forall_mem_cons.mpr ⟨lw_p49, List.forall_mem_cons.mpr ⟨lw_p50, List.forall_mem_cons.mpr ⟨lw_p51, List.forall_mem_cons.mpr ⟨lw_p52, List.forall_mem_cons.mpr ⟨lw_p53, List.forall_mem_cons.mpr ⟨lw_p54, List.forall_mem_cons.mpr ⟨lw_p55, List.forall_mem_cons.mpr ⟨lw_p56, List.forall_mem_cons.mpr ⟨lw_p57, List.forall_mem_cons.mpr ⟨lw_p58, List.forall_mem_cons.mpr ⟨lw_p59, List.forall_mem_cons.mpr ⟨lw_p60, List.forall_mem_cons.mpr ⟨lw_p61, List.forall_mem_cons.mpr ⟨lw_p62, List.forall_mem_cons.mpr ⟨lw_p63, fun _ h => absurd h List.not_mem_nil⟩⟩⟩⟩⟩⟩⟩⟩⟩⟩⟩⟩⟩⟩⟩⟩
theorem lw_p64 : lw_okq (⟨"PetalWheelsModel", "openMany", "(I)I"⟩, 30) := ⟨⟨by decide +kernel, by decide +kernel⟩, List.mem_of_getElem? (i := 653) (by decide +kernel), List.mem_of_getElem? (i := 943) (by decide +kernel), List.mem_of_getElem? (i := 944) (by decide +kernel)⟩
theorem lw_p65 : lw_okq (⟨"PetalWheelsModel", "openRests", "(II)I"⟩, 30) := ⟨⟨by decide +kernel, by decide +kernel⟩, List.mem_of_getElem? (i := 653) (by decide +kernel), List.mem_of_getElem? (i := 948) (by decide +kernel), List.mem_of_getElem? (i := 949) (by decide +kernel)⟩
theorem lw_p66 : lw_okq (⟨"PetalWheelsModel", "comesTwo", "(III)V"⟩, 30) := ⟨⟨by decide +kernel, by decide +kernel⟩, List.mem_of_getElem? (i := 653) (by decide +kernel), List.mem_of_getElem? (i := 956) (by decide +kernel), List.mem_of_getElem? (i := 957) (by decide +kernel)⟩
theorem lw_p67 : lw_okq (⟨"PetalWheelsModel", "isSo", "(III)Z"⟩, 30) := ⟨⟨by decide +kernel, by decide +kernel⟩, List.mem_of_getElem? (i := 653) (by decide +kernel), List.mem_of_getElem? (i := 980) (by decide +kernel), List.mem_of_getElem? (i := 981) (by decide +kernel)⟩
theorem lw_p68 : lw_okq (⟨"PetalWheelsModel", "marked", "(II)I"⟩, 30) := ⟨⟨by decide +kernel, by decide +kernel⟩, List.mem_of_getElem? (i := 653) (by decide +kernel), List.mem_of_getElem? (i := 992) (by decide +kernel), List.mem_of_getElem? (i := 993) (by decide +kernel)⟩
def lw_privs_5 : List (MethodName × Nat) := [(⟨"PetalWheelsModel", "openMany", "(I)I"⟩, 30), (⟨"PetalWheelsModel", "openRests", "(II)I"⟩, 30), (⟨"PetalWheelsModel", "comesTwo", "(III)V"⟩, 30), (⟨"PetalWheelsModel", "isSo", "(III)Z"⟩, 30), (⟨"PetalWheelsModel", "marked", "(II)I"⟩, 30)]
theorem lw_r5 : ∀ q ∈ lw_privs_5, lw_okq q := List.forall_mem_cons.mpr ⟨lw_p64, List.forall_mem_cons.mpr ⟨lw_p65, List.forall_mem_cons.mpr ⟨lw_p66, List.forall_mem_cons.mpr ⟨lw_p67, List.forall_mem_cons.mpr ⟨lw_p68, fun _ h => absurd h List.not_mem_nil⟩⟩⟩⟩⟩
def lw_privs : List (MethodName × Nat) := lw_privs_1 ++ (lw_privs_2 ++ (lw_privs_3 ++ (lw_privs_4 ++ (lw_privs_5))))
def lw_tbl : List Cond := k2_sels lw_privs ++ tables_1
theorem lw_privs_ok : ∀ q ∈ lw_privs, lw_okq q := by
  show ∀ q ∈ lw_privs_1 ++ (lw_privs_2 ++ (lw_privs_3 ++ (lw_privs_4 ++ (lw_privs_5)))), lw_okq q
  exact List.forall_mem_append.mpr ⟨lw_r1, List.forall_mem_append.mpr ⟨lw_r2, List.forall_mem_append.mpr ⟨lw_r3, List.forall_mem_append.mpr ⟨lw_r4, lw_r5⟩⟩⟩⟩
end
section
def RX0 : String := "PetalWheels$Box"
def TX0 : u_T := fun k => match k with
  | 0 => ("PetalWheels$Box", "teeth", "[I", true)
  | 1 => ("PetalWheels$Box", "cogs", "[I", true)
  | 2 => ("PetalWheels$Box", "ink", "[I", true)
  | 3 => ("PetalWheels$Box", "rings", "I", false)
  | 4 => ("PetalWheels$Box", "wheels", "I", false)
  | _ => ("PetalWheels$Box", "pens", "I", false)
def tyX0 : Nat → FieldType := fun k => match k with
  | 0 => .array .int
  | 1 => .array .int
  | 2 => .array .int
  | 3 => .int
  | 4 => .int
  | _ => .int
abbrev wsX00 : List Cond := u_ws RX0 TX0 6
theorem nmX0 : ∀ a, a < 6 → ∀ b, b < 6 → a ≠ b → (TX0 a).2.1 ≠ (TX0 b).2.1 := by decide +kernel
theorem tyX0_ok : ∀ k, k < 6 → parseFieldDescriptor (TX0 k).2.2.1 = some (tyX0 k) := by decide +kernel
abbrev cX0_init : ByteArray := prog_2_method_1_code
def yX0_init : MethodName := ⟨RX0, "<init>", "()V"⟩
abbrev cX0_hasRoomFor : ByteArray := prog_2_method_2_code
def yX0_hasRoomFor : MethodName := ⟨RX0, "hasRoomFor", "(I)Z"⟩
abbrev cX0_adds : ByteArray := prog_2_method_3_code
def yX0_adds : MethodName := ⟨RX0, "adds", "(II)Z"⟩
abbrev cX0_addsRing : ByteArray := prog_2_method_4_code
def yX0_addsRing : MethodName := ⟨RX0, "addsRing", "(I)Z"⟩
abbrev cX0_addsWheel : ByteArray := prog_2_method_5_code
def yX0_addsWheel : MethodName := ⟨RX0, "addsWheel", "(I)Z"⟩
abbrev cX0_addsPen : ByteArray := prog_2_method_6_code
def yX0_addsPen : MethodName := ⟨RX0, "addsPen", "(I)Z"⟩
abbrev cX0_items : ByteArray := prog_2_method_7_code
def yX0_items : MethodName := ⟨RX0, "items", "()I"⟩
abbrev cX0_hasRing : ByteArray := prog_2_method_8_code
def yX0_hasRing : MethodName := ⟨RX0, "hasRing", "(I)Z"⟩
abbrev cX0_hasWheel : ByteArray := prog_2_method_9_code
def yX0_hasWheel : MethodName := ⟨RX0, "hasWheel", "(I)Z"⟩
abbrev cX0_hasPen : ByteArray := prog_2_method_10_code
def yX0_hasPen : MethodName := ⟨RX0, "hasPen", "(I)Z"⟩
abbrev cX0_teethOf : ByteArray := prog_2_method_11_code
def yX0_teethOf : MethodName := ⟨RX0, "teethOf", "(I)I"⟩
abbrev cX0_cogsOf : ByteArray := prog_2_method_12_code
def yX0_cogsOf : MethodName := ⟨RX0, "cogsOf", "(I)I"⟩
abbrev cX0_inkTold : ByteArray := prog_2_method_13_code
def yX0_inkTold : MethodName := ⟨RX0, "inkTold", "()[I"⟩
abbrev cX0_fits : ByteArray := prog_2_method_14_code
def yX0_fits : MethodName := ⟨RX0, "fits", "(II)Z"⟩
abbrev cX0_divisorOf : ByteArray := prog_2_method_15_code
def yX0_divisorOf : MethodName := ⟨RX0, "divisorOf", "(II)I"⟩
abbrev cX0_petalsOf : ByteArray := prog_2_method_16_code
def yX0_petalsOf : MethodName := ⟨RX0, "petalsOf", "(II)I"⟩
abbrev cX0_roundsOf : ByteArray := prog_2_method_17_code
def yX0_roundsOf : MethodName := ⟨RX0, "roundsOf", "(II)I"⟩
abbrev cX0_longOf : ByteArray := prog_2_method_18_code
def yX0_longOf : MethodName := ⟨RX0, "longOf", "(II)I"⟩
abbrev cX0_stepOf : ByteArray := prog_2_method_19_code
def yX0_stepOf : MethodName := ⟨RX0, "stepOf", "(I)I"⟩
def RX1 : String := "PetalWheels$Curve"
def TX1 : u_T := fun k => match k with
  | 0 => ("PetalWheels$Curve", "ring", "I", true)
  | 1 => ("PetalWheels$Curve", "wheel", "I", true)
  | 2 => ("PetalWheels$Curve", "hole", "I", true)
  | 3 => ("PetalWheels$Curve", "start", "I", true)
  | 4 => ("PetalWheels$Curve", "pen", "I", true)
  | 5 => ("PetalWheels$Curve", "lay", "I", true)
  | 6 => ("PetalWheels$Curve", "petals", "I", true)
  | 7 => ("PetalWheels$Curve", "rounds", "I", true)
  | 8 => ("PetalWheels$Curve", "gap", "I", true)
  | _ => ("PetalWheels$Curve", "first", "I", true)
def tyX1 : Nat → FieldType := fun k => match k with
  | 0 => .int
  | 1 => .int
  | 2 => .int
  | 3 => .int
  | 4 => .int
  | 5 => .int
  | 6 => .int
  | 7 => .int
  | 8 => .int
  | _ => .int
abbrev wsX10 : List Cond := u_ws RX1 TX1 10
theorem nmX1 : ∀ a, a < 10 → ∀ b, b < 10 → a ≠ b → (TX1 a).2.1 ≠ (TX1 b).2.1 := by decide +kernel
theorem tyX1_ok : ∀ k, k < 10 → parseFieldDescriptor (TX1 k).2.2.1 = some (tyX1 k) := by decide +kernel
abbrev cX1_init : ByteArray := prog_3_method_1_code
def yX1_init : MethodName := ⟨RX1, "<init>", "(LPetalWheels$Box;IIIIII)V"⟩
abbrev cX1_pointOf : ByteArray := prog_3_method_2_code
def yX1_pointOf : MethodName := ⟨RX1, "pointOf", "(I)I"⟩
abbrev cX1_hasTip : ByteArray := prog_3_method_3_code
def yX1_hasTip : MethodName := ⟨RX1, "hasTip", "(II)Z"⟩
def RX2 : String := "PetalWheels$Paper"
def TX2 : u_T := fun k => match k with
  | 0 => ("PetalWheels$Paper", "lies", "I", true)
  | 1 => ("PetalWheels$Paper", "ink", "[I", true)
  | 2 => ("PetalWheels$Paper", "curves", "[LPetalWheels$Curve;", true)
  | _ => ("PetalWheels$Paper", "before", "LPetalWheels$Paper;", true)
def tyX2 : Nat → FieldType := fun k => match k with
  | 0 => .int
  | 1 => .array .int
  | 2 => .array (.object "PetalWheels$Curve")
  | _ => .object "PetalWheels$Paper"
abbrev wsX20 : List Cond := u_ws RX2 TX2 4
theorem nmX2 : ∀ a, a < 4 → ∀ b, b < 4 → a ≠ b → (TX2 a).2.1 ≠ (TX2 b).2.1 := by decide +kernel
theorem tyX2_ok : ∀ k, k < 4 → parseFieldDescriptor (TX2 k).2.2.1 = some (tyX2 k) := by decide +kernel
abbrev cX2_init : ByteArray := prog_4_method_1_code
def yX2_init : MethodName := ⟨RX2, "<init>", "(I[I[LPetalWheels$Curve;LPetalWheels$Paper;)V"⟩
abbrev cX2_inkOf : ByteArray := prog_4_method_2_code
def yX2_inkOf : MethodName := ⟨RX2, "inkOf", "(I)I"⟩
abbrev cX2_curveAt : ByteArray := prog_4_method_3_code
def yX2_curveAt : MethodName := ⟨RX2, "curveAt", "(I)LPetalWheels$Curve;"⟩
abbrev cX2_hasCurveIn : ByteArray := prog_4_method_4_code
def yX2_hasCurveIn : MethodName := ⟨RX2, "hasCurveIn", "(I)Z"⟩
abbrev cX2_drawn : ByteArray := prog_4_method_5_code
def yX2_drawn : MethodName := ⟨RX2, "drawn", "(LPetalWheels$Curve;I)LPetalWheels$Paper;"⟩
abbrev cX2_rubbed : ByteArray := prog_4_method_6_code
def yX2_rubbed : MethodName := ⟨RX2, "rubbed", "(I)LPetalWheels$Paper;"⟩
abbrev cX2_turned : ByteArray := prog_4_method_7_code
def yX2_turned : MethodName := ⟨RX2, "turned", "(I)LPetalWheels$Paper;"⟩
abbrev cX2_filled : ByteArray := prog_4_method_8_code
def yX2_filled : MethodName := ⟨RX2, "filled", "(II)LPetalWheels$Paper;"⟩
abbrev cX2_inkWith : ByteArray := prog_4_method_9_code
def yX2_inkWith : MethodName := ⟨RX2, "inkWith", "(II)[I"⟩
def RX3 : String := "PetalWheels$Sights"
def TX3 : u_T := fun k => match k with
  | 0 => ("PetalWheels$Sights", "tooth", "[I", true)
  | 1 => ("PetalWheels$Sights", "tip", "[Z", true)
  | _ => ("PetalWheels$Sights", "seen", "I", false)
def tyX3 : Nat → FieldType := fun k => match k with
  | 0 => .array .int
  | 1 => .array .boolean
  | _ => .int
abbrev wsX30 : List Cond := u_ws RX3 TX3 3
theorem nmX3 : ∀ a, a < 3 → ∀ b, b < 3 → a ≠ b → (TX3 a).2.1 ≠ (TX3 b).2.1 := by decide +kernel
theorem tyX3_ok : ∀ k, k < 3 → parseFieldDescriptor (TX3 k).2.2.1 = some (tyX3 k) := by decide +kernel
abbrev cX3_init : ByteArray := prog_5_method_1_code
def yX3_init : MethodName := ⟨RX3, "<init>", "()V"⟩
abbrev cX3_adds : ByteArray := prog_5_method_2_code
def yX3_adds : MethodName := ⟨RX3, "adds", "(IZ)Z"⟩
abbrev cX3_empties : ByteArray := prog_5_method_3_code
def yX3_empties : MethodName := ⟨RX3, "empties", "()I"⟩
abbrev cX3_agree : ByteArray := prog_5_method_4_code
def yX3_agree : MethodName := ⟨RX3, "agree", "(III)Z"⟩
abbrev cX3_startsAgreeing : ByteArray := prog_5_method_5_code
def yX3_startsAgreeing : MethodName := ⟨RX3, "startsAgreeing", "(II)I"⟩
abbrev cX3_firstAgreeing : ByteArray := prog_5_method_6_code
def yX3_firstAgreeing : MethodName := ⟨RX3, "firstAgreeing", "(II)I"⟩
def RX4 : String := "PetalWheels$Text"
def TX4 : u_T := fun k => match k with
  | 0 => ("PetalWheels$Text", "bytes", "[I", true)
  | 1 => ("PetalWheels$Text", "length", "I", false)
  | 2 => ("PetalWheels$Text", "place", "I", false)
  | 3 => ("PetalWheels$Text", "behind", "I", false)
  | 4 => ("PetalWheels$Text", "token", "I", false)
  | _ => ("PetalWheels$Text", "value", "I", false)
def tyX4 : Nat → FieldType := fun k => match k with
  | 0 => .array .int
  | 1 => .int
  | 2 => .int
  | 3 => .int
  | 4 => .int
  | _ => .int
abbrev wsX40 : List Cond := u_ws RX4 TX4 6
theorem nmX4 : ∀ a, a < 6 → ∀ b, b < 6 → a ≠ b → (TX4 a).2.1 ≠ (TX4 b).2.1 := by decide +kernel
theorem tyX4_ok : ∀ k, k < 6 → parseFieldDescriptor (TX4 k).2.2.1 = some (tyX4 k) := by decide +kernel
abbrev cX4_init : ByteArray := prog_6_method_1_code
def yX4_init : MethodName := ⟨RX4, "<init>", "()V"⟩
abbrev cX4_adds : ByteArray := prog_6_method_2_code
def yX4_adds : MethodName := ⟨RX4, "adds", "(I)Z"⟩
abbrev cX4_empties : ByteArray := prog_6_method_3_code
def yX4_empties : MethodName := ⟨RX4, "empties", "()I"⟩
abbrev cX4_faultIn : ByteArray := prog_6_method_4_code
def yX4_faultIn : MethodName := ⟨RX4, "faultIn", "(LPetalWheels$Box;)I"⟩
abbrev cX4_readToken : ByteArray := prog_6_method_5_code
def yX4_readToken : MethodName := ⟨RX4, "readToken", "()V"⟩
abbrev cX4_readLetters : ByteArray := prog_6_method_6_code
def yX4_readLetters : MethodName := ⟨RX4, "readLetters", "()V"⟩
abbrev cX4_readNumber : ByteArray := prog_6_method_7_code
def yX4_readNumber : MethodName := ⟨RX4, "readNumber", "()V"⟩
abbrev cX4_byteAt : ByteArray := prog_6_method_8_code
def yX4_byteAt : MethodName := ⟨RX4, "byteAt", "(I)I"⟩
abbrev cX4_isLetter : ByteArray := prog_6_method_9_code
def yX4_isLetter : MethodName := ⟨RX4, "isLetter", "(I)Z"⟩
abbrev cX4_isDigit : ByteArray := prog_6_method_10_code
def yX4_isDigit : MethodName := ⟨RX4, "isDigit", "(I)Z"⟩
def RX5 : String := "PetalWheels"
def TX5 : u_T := fun k => match k with
  | 0 => ("PetalWheels", "text", "LPetalWheels$Text;", true)
  | 1 => ("PetalWheels", "sights", "LPetalWheels$Sights;", true)
  | 2 => ("PetalWheels", "told", "LPetalWheels$Box;", false)
  | 3 => ("PetalWheels", "paper", "LPetalWheels$Paper;", false)
  | 4 => ("PetalWheels", "undos", "I", false)
  | 5 => ("PetalWheels", "imagePaper", "[LPetalWheels$Paper;", true)
  | 6 => ("PetalWheels", "imageUndos", "[I", true)
  | 7 => ("PetalWheels", "traced", "J", false)
  | 8 => ("PetalWheels", "pointRow", "[I", true)
  | 9 => ("PetalWheels", "toothRow", "[I", true)
  | 10 => ("PetalWheels", "inkRow", "[I", true)
  | _ => ("PetalWheels", "inkRowNoted", "Z", false)
def tyX5 : Nat → FieldType := fun k => match k with
  | 0 => .object "PetalWheels$Text"
  | 1 => .object "PetalWheels$Sights"
  | 2 => .object "PetalWheels$Box"
  | 3 => .object "PetalWheels$Paper"
  | 4 => .int
  | 5 => .array (.object "PetalWheels$Paper")
  | 6 => .array .int
  | 7 => .long
  | 8 => .array .int
  | 9 => .array .int
  | 10 => .array .int
  | _ => .boolean
abbrev wsX50 : List Cond := u_ws RX5 TX5 12
theorem nmX5 : ∀ a, a < 12 → ∀ b, b < 12 → a ≠ b → (TX5 a).2.1 ≠ (TX5 b).2.1 := by decide +kernel
theorem tyX5_ok : ∀ k, k < 12 → parseFieldDescriptor (TX5 k).2.2.1 = some (tyX5 k) := by decide +kernel
abbrev cX5_init : ByteArray := prog_1_method_1_code
def yX5_init : MethodName := ⟨RX5, "<init>", "()V"⟩
abbrev cX5_type : ByteArray := prog_1_method_2_code
def yX5_type : MethodName := ⟨RX5, "type", "(I)I"⟩
abbrev cX5_clear : ByteArray := prog_1_method_3_code
def yX5_clear : MethodName := ⟨RX5, "clear", "()I"⟩
abbrev cX5_box : ByteArray := prog_1_method_4_code
def yX5_box : MethodName := ⟨RX5, "box", "()I"⟩
abbrev cX5_ring : ByteArray := prog_1_method_5_code
def yX5_ring : MethodName := ⟨RX5, "ring", "(I)I"⟩
abbrev cX5_wheel : ByteArray := prog_1_method_6_code
def yX5_wheel : MethodName := ⟨RX5, "wheel", "(III)I"⟩
abbrev cX5_pen : ByteArray := prog_1_method_7_code
def yX5_pen : MethodName := ⟨RX5, "pen", "(II)I"⟩
abbrev cX5_curve : ByteArray := prog_1_method_8_code
def yX5_curve : MethodName := ⟨RX5, "curve", "(II)I"⟩
abbrev cX5_draws : ByteArray := prog_1_method_9_code
def yX5_draws : MethodName := ⟨RX5, "draws", "(IIIII)I"⟩
abbrev cX5_rubs : ByteArray := prog_1_method_10_code
def yX5_rubs : MethodName := ⟨RX5, "rubs", "(I)I"⟩
abbrev cX5_spins : ByteArray := prog_1_method_11_code
def yX5_spins : MethodName := ⟨RX5, "spins", "(I)I"⟩
abbrev cX5_fills : ByteArray := prog_1_method_12_code
def yX5_fills : MethodName := ⟨RX5, "fills", "(II)I"⟩
abbrev cX5_undo : ByteArray := prog_1_method_13_code
def yX5_undo : MethodName := ⟨RX5, "undo", "()I"⟩
abbrev cX5_now : ByteArray := prog_1_method_14_code
def yX5_now : MethodName := ⟨RX5, "now", "(I)I"⟩
abbrev cX5_shown : ByteArray := prog_1_method_15_code
def yX5_shown : MethodName := ⟨RX5, "shown", "(II)I"⟩
abbrev cX5_petals : ByteArray := prog_1_method_16_code
def yX5_petals : MethodName := ⟨RX5, "petals", "(II)I"⟩
abbrev cX5_closes : ByteArray := prog_1_method_17_code
def yX5_closes : MethodName := ⟨RX5, "closes", "(III)I"⟩
abbrev cX5_best : ByteArray := prog_1_method_18_code
def yX5_best : MethodName := ⟨RX5, "best", "(II)I"⟩
abbrev cX5_meet : ByteArray := prog_1_method_19_code
def yX5_meet : MethodName := ⟨RX5, "meet", "(II)I"⟩
abbrev cX5_odds : ByteArray := prog_1_method_20_code
def yX5_odds : MethodName := ⟨RX5, "odds", "(IIII)I"⟩
abbrev cX5_sees : ByteArray := prog_1_method_21_code
def yX5_sees : MethodName := ⟨RX5, "sees", "(II)I"⟩
abbrev cX5_forget : ByteArray := prog_1_method_22_code
def yX5_forget : MethodName := ⟨RX5, "forget", "()I"⟩
abbrev cX5_guess : ByteArray := prog_1_method_23_code
def yX5_guess : MethodName := ⟨RX5, "guess", "(II)I"⟩
abbrev cX5_look : ByteArray := prog_1_method_24_code
def yX5_look : MethodName := ⟨RX5, "look", "(I)I"⟩
abbrev cX5_mark : ByteArray := prog_1_method_25_code
def yX5_mark : MethodName := ⟨RX5, "mark", "(II)I"⟩
abbrev cX5_keep : ByteArray := prog_1_method_26_code
def yX5_keep : MethodName := ⟨RX5, "keep", "(I)I"⟩
abbrev cX5_back : ByteArray := prog_1_method_27_code
def yX5_back : MethodName := ⟨RX5, "back", "(I)I"⟩
abbrev cX5_count : ByteArray := prog_1_method_28_code
def yX5_count : MethodName := ⟨RX5, "count", "(I)I"⟩
abbrev cX5_trace : ByteArray := prog_1_method_29_code
def yX5_trace : MethodName := ⟨RX5, "trace", "()J"⟩
abbrev cX5_within : ByteArray := prog_1_method_30_code
def yX5_within : MethodName := ⟨RX5, "within", "(III)Z"⟩
abbrev cX5_part : ByteArray := prog_1_method_31_code
def yX5_part : MethodName := ⟨RX5, "part", "(II)I"⟩
abbrev cX5_rest : ByteArray := prog_1_method_32_code
def yX5_rest : MethodName := ⟨RX5, "rest", "(II)I"⟩
abbrev cX5_greatestDivisor : ByteArray := prog_1_method_33_code
def yX5_greatestDivisor : MethodName := ⟨RX5, "greatestDivisor", "(II)I"⟩
abbrev cX5_startAnew : ByteArray := prog_1_method_34_code
def yX5_startAnew : MethodName := ⟨RX5, "startAnew", "(LPetalWheels$Box;)V"⟩
abbrev cX5_changeTo : ByteArray := prog_1_method_35_code
def yX5_changeTo : MethodName := ⟨RX5, "changeTo", "(LPetalWheels$Paper;)V"⟩
abbrev cX5_noteShown : ByteArray := prog_1_method_36_code
def yX5_noteShown : MethodName := ⟨RX5, "noteShown", "(I)V"⟩
abbrev cX5_notePens : ByteArray := prog_1_method_37_code
def yX5_notePens : MethodName := ⟨RX5, "notePens", "(I)V"⟩
abbrev cX5_pointsNoted : ByteArray := prog_1_method_38_code
def yX5_pointsNoted : MethodName := ⟨RX5, "pointsNoted", "(I)I"⟩
abbrev cX5_tipsShown : ByteArray := prog_1_method_39_code
def yX5_tipsShown : MethodName := ⟨RX5, "tipsShown", "(II)I"⟩
abbrev cX5_pointsOfPen : ByteArray := prog_1_method_40_code
def yX5_pointsOfPen : MethodName := ⟨RX5, "pointsOfPen", "(I)I"⟩
abbrev cX5_pointsShown : ByteArray := prog_1_method_41_code
def yX5_pointsShown : MethodName := ⟨RX5, "pointsShown", "()I"⟩
abbrev cX5_like : ByteArray := prog_1_method_42_code
def yX5_like : MethodName := ⟨RX5, "like", "()I"⟩
abbrev cX5_likeOfRow : ByteArray := prog_1_method_43_code
def yX5_likeOfRow : MethodName := ⟨RX5, "likeOfRow", "()I"⟩
abbrev cX5_isSameTurned : ByteArray := prog_1_method_44_code
def yX5_isSameTurned : MethodName := ⟨RX5, "isSameTurned", "(I)Z"⟩
abbrev cX5_noteBareTeeth : ByteArray := prog_1_method_45_code
def yX5_noteBareTeeth : MethodName := ⟨RX5, "noteBareTeeth", "(II)I"⟩
abbrev cX5_curvesNeeded : ByteArray := prog_1_method_46_code
def yX5_curvesNeeded : MethodName := ⟨RX5, "curvesNeeded", "(II)I"⟩
abbrev cX5_isClassBare : ByteArray := prog_1_method_47_code
def yX5_isClassBare : MethodName := ⟨RX5, "isClassBare", "(III)Z"⟩
abbrev cX5_noteMostPetals : ByteArray := prog_1_method_48_code
def yX5_noteMostPetals : MethodName := ⟨RX5, "noteMostPetals", "()V"⟩
abbrev cX5_addTwo : ByteArray := prog_1_method_49_code
def yX5_addTwo : MethodName := ⟨RX5, "addTwo", "(II)V"⟩
abbrev cX5_guesses : ByteArray := prog_1_method_50_code
def yX5_guesses : MethodName := ⟨RX5, "guesses", "(I)I"⟩
abbrev cX5_firstGuess : ByteArray := prog_1_method_51_code
def yX5_firstGuess : MethodName := ⟨RX5, "firstGuess", "(I)I"⟩
abbrev cX5_noteGuessesByTooth : ByteArray := prog_1_method_52_code
def yX5_noteGuessesByTooth : MethodName := ⟨RX5, "noteGuessesByTooth", "(I)V"⟩
abbrev cX5_addGuesses : ByteArray := prog_1_method_53_code
def yX5_addGuesses : MethodName := ⟨RX5, "addGuesses", "(III)V"⟩
abbrev cX5_markOfCurve : ByteArray := prog_1_method_54_code
def yX5_markOfCurve : MethodName := ⟨RX5, "markOfCurve", "(LPetalWheels$Curve;)I"⟩
abbrev cX5_markOfRose : ByteArray := prog_1_method_55_code
def yX5_markOfRose : MethodName := ⟨RX5, "markOfRose", "(LPetalWheels$Curve;)I"⟩
abbrev cX5_markOfWeb : ByteArray := prog_1_method_56_code
def yX5_markOfWeb : MethodName := ⟨RX5, "markOfWeb", "(LPetalWheels$Curve;)I"⟩
abbrev cX5_markOfBouquet : ByteArray := prog_1_method_57_code
def yX5_markOfBouquet : MethodName := ⟨RX5, "markOfBouquet", "(LPetalWheels$Curve;)I"⟩
abbrev cX5_markOfLace : ByteArray := prog_1_method_58_code
def yX5_markOfLace : MethodName := ⟨RX5, "markOfLace", "(LPetalWheels$Curve;I)I"⟩
abbrev cX5_markOfStar : ByteArray := prog_1_method_59_code
def yX5_markOfStar : MethodName := ⟨RX5, "markOfStar", "(LPetalWheels$Curve;)I"⟩
def RX6 : String := "PetalWheelsModel"
def TX6 : u_T := fun k => match k with
  | 0 => ("PetalWheelsModel", "rings", "I", false)
  | 1 => ("PetalWheelsModel", "wheels", "I", false)
  | 2 => ("PetalWheelsModel", "pens", "I", false)
  | 3 => ("PetalWheelsModel", "teeth", "[I", true)
  | 4 => ("PetalWheelsModel", "cogs", "[I", true)
  | 5 => ("PetalWheelsModel", "lies", "I", false)
  | 6 => ("PetalWheelsModel", "curves", "I", false)
  | 7 => ("PetalWheelsModel", "ink", "[I", true)
  | 8 => ("PetalWheelsModel", "drawn", "[I", true)
  | 9 => ("PetalWheelsModel", "seenMany", "I", false)
  | 10 => ("PetalWheelsModel", "seenTooth", "[I", true)
  | 11 => ("PetalWheelsModel", "seenTip", "[I", true)
  | 12 => ("PetalWheelsModel", "traced", "J", false)
  | 13 => ("PetalWheelsModel", "text", "[I", true)
  | 14 => ("PetalWheelsModel", "size", "I", false)
  | 15 => ("PetalWheelsModel", "readAt", "I", false)
  | 16 => ("PetalWheelsModel", "readRings", "I", false)
  | 17 => ("PetalWheelsModel", "readWheels", "I", false)
  | 18 => ("PetalWheelsModel", "readPens", "I", false)
  | 19 => ("PetalWheelsModel", "readNumber", "I", false)
  | 20 => ("PetalWheelsModel", "readTeeth", "[I", true)
  | 21 => ("PetalWheelsModel", "readCogs", "[I", true)
  | 22 => ("PetalWheelsModel", "readInk", "[I", true)
  | 23 => ("PetalWheelsModel", "ahead", "[I", true)
  | 24 => ("PetalWheelsModel", "undoMany", "I", false)
  | 25 => ("PetalWheelsModel", "picture", "[I", true)
  | 26 => ("PetalWheelsModel", "covered", "[I", true)
  | 27 => ("PetalWheelsModel", "mostBy", "[I", true)
  | 28 => ("PetalWheelsModel", "tips", "[I", true)
  | _ => ("PetalWheelsModel", "images", "[I", true)
def tyX6 : Nat → FieldType := fun k => match k with
  | 0 => .int
  | 1 => .int
  | 2 => .int
  | 3 => .array .int
  | 4 => .array .int
  | 5 => .int
  | 6 => .int
  | 7 => .array .int
  | 8 => .array .int
  | 9 => .int
  | 10 => .array .int
  | 11 => .array .int
  | 12 => .long
  | 13 => .array .int
  | 14 => .int
  | 15 => .int
  | 16 => .int
  | 17 => .int
  | 18 => .int
  | 19 => .int
  | 20 => .array .int
  | 21 => .array .int
  | 22 => .array .int
  | 23 => .array .int
  | 24 => .int
  | 25 => .array .int
  | 26 => .array .int
  | 27 => .array .int
  | 28 => .array .int
  | _ => .array .int
abbrev wsX60 : List Cond := u_ws RX6 TX6 30
theorem nmX6 : ∀ a, a < 30 → ∀ b, b < 30 → a ≠ b → (TX6 a).2.1 ≠ (TX6 b).2.1 := by decide +kernel
theorem tyX6_ok : ∀ k, k < 30 → parseFieldDescriptor (TX6 k).2.2.1 = some (tyX6 k) := by decide +kernel
abbrev cX6_init : ByteArray := prog_8_method_1_code
def yX6_init : MethodName := ⟨RX6, "<init>", "()V"⟩
abbrev cX6_in : ByteArray := prog_8_method_2_code
def yX6_in : MethodName := ⟨RX6, "in", "(III)Z"⟩
abbrev cX6_common : ByteArray := prog_8_method_3_code
def yX6_common : MethodName := ⟨RX6, "common", "(II)I"⟩
abbrev cX6_isRing : ByteArray := prog_8_method_4_code
def yX6_isRing : MethodName := ⟨RX6, "isRing", "(I)Z"⟩
abbrev cX6_isWheel : ByteArray := prog_8_method_5_code
def yX6_isWheel : MethodName := ⟨RX6, "isWheel", "(I)Z"⟩
abbrev cX6_isPen : ByteArray := prog_8_method_6_code
def yX6_isPen : MethodName := ⟨RX6, "isPen", "(I)Z"⟩
abbrev cX6_isCurve : ByteArray := prog_8_method_7_code
def yX6_isCurve : MethodName := ⟨RX6, "isCurve", "(I)Z"⟩
abbrev cX6_type : ByteArray := prog_8_method_8_code
def yX6_type : MethodName := ⟨RX6, "type", "(I)I"⟩
abbrev cX6_clear : ByteArray := prog_8_method_9_code
def yX6_clear : MethodName := ⟨RX6, "clear", "()I"⟩
abbrev cX6_here : ByteArray := prog_8_method_10_code
def yX6_here : MethodName := ⟨RX6, "here", "()I"⟩
abbrev cX6_skip : ByteArray := prog_8_method_11_code
def yX6_skip : MethodName := ⟨RX6, "skip", "()V"⟩
abbrev cX6_number : ByteArray := prog_8_method_12_code
def yX6_number : MethodName := ⟨RX6, "number", "(II)Z"⟩
abbrev cX6_ends : ByteArray := prog_8_method_13_code
def yX6_ends : MethodName := ⟨RX6, "ends", "()Z"⟩
abbrev cX6_readsRing : ByteArray := prog_8_method_14_code
def yX6_readsRing : MethodName := ⟨RX6, "readsRing", "()Z"⟩
abbrev cX6_readsWheel : ByteArray := prog_8_method_15_code
def yX6_readsWheel : MethodName := ⟨RX6, "readsWheel", "()Z"⟩
abbrev cX6_readsPen : ByteArray := prog_8_method_16_code
def yX6_readsPen : MethodName := ⟨RX6, "readsPen", "()Z"⟩
abbrev cX6_readsItem : ByteArray := prog_8_method_17_code
def yX6_readsItem : MethodName := ⟨RX6, "readsItem", "()Z"⟩
abbrev cX6_box : ByteArray := prog_8_method_18_code
def yX6_box : MethodName := ⟨RX6, "box", "()I"⟩
abbrev cX6_fits : ByteArray := prog_8_method_19_code
def yX6_fits : MethodName := ⟨RX6, "fits", "(II)Z"⟩
abbrev cX6_commonOf : ByteArray := prog_8_method_20_code
def yX6_commonOf : MethodName := ⟨RX6, "commonOf", "(II)I"⟩
abbrev cX6_petalsOf : ByteArray := prog_8_method_21_code
def yX6_petalsOf : MethodName := ⟨RX6, "petalsOf", "(II)I"⟩
abbrev cX6_roundsOf : ByteArray := prog_8_method_22_code
def yX6_roundsOf : MethodName := ⟨RX6, "roundsOf", "(II)I"⟩
abbrev cX6_longOf : ByteArray := prog_8_method_23_code
def yX6_longOf : MethodName := ⟨RX6, "longOf", "(II)I"⟩
abbrev cX6_ring : ByteArray := prog_8_method_24_code
def yX6_ring : MethodName := ⟨RX6, "ring", "(I)I"⟩
abbrev cX6_wheel : ByteArray := prog_8_method_25_code
def yX6_wheel : MethodName := ⟨RX6, "wheel", "(III)I"⟩
abbrev cX6_toothAt : ByteArray := prog_8_method_26_code
def yX6_toothAt : MethodName := ⟨RX6, "toothAt", "(III)I"⟩
abbrev cX6_pointOf : ByteArray := prog_8_method_27_code
def yX6_pointOf : MethodName := ⟨RX6, "pointOf", "(III)I"⟩
abbrev cX6_isTip : ByteArray := prog_8_method_28_code
def yX6_isTip : MethodName := ⟨RX6, "isTip", "(III)Z"⟩
abbrev cX6_hasTip : ByteArray := prog_8_method_29_code
def yX6_hasTip : MethodName := ⟨RX6, "hasTip", "(III)Z"⟩
abbrev cX6_shownAt : ByteArray := prog_8_method_30_code
def yX6_shownAt : MethodName := ⟨RX6, "shownAt", "(II)I"⟩
abbrev cX6_penAt : ByteArray := prog_8_method_31_code
def yX6_penAt : MethodName := ⟨RX6, "penAt", "(II)I"⟩
abbrev cX6_penShown : ByteArray := prog_8_method_32_code
def yX6_penShown : MethodName := ⟨RX6, "penShown", "(I)I"⟩
abbrev cX6_pen : ByteArray := prog_8_method_33_code
def yX6_pen : MethodName := ⟨RX6, "pen", "(II)I"⟩
abbrev cX6_curveShown : ByteArray := prog_8_method_34_code
def yX6_curveShown : MethodName := ⟨RX6, "curveShown", "(I)I"⟩
abbrev cX6_curve : ByteArray := prog_8_method_35_code
def yX6_curve : MethodName := ⟨RX6, "curve", "(II)I"⟩
abbrev cX6_lays : ByteArray := prog_8_method_36_code
def yX6_lays : MethodName := ⟨RX6, "lays", "([II)V"⟩
abbrev cX6_takes : ByteArray := prog_8_method_37_code
def yX6_takes : MethodName := ⟨RX6, "takes", "([II)V"⟩
abbrev cX6_notes : ByteArray := prog_8_method_38_code
def yX6_notes : MethodName := ⟨RX6, "notes", "()V"⟩
abbrev cX6_draws : ByteArray := prog_8_method_39_code
def yX6_draws : MethodName := ⟨RX6, "draws", "(IIIII)I"⟩
abbrev cX6_rubs : ByteArray := prog_8_method_40_code
def yX6_rubs : MethodName := ⟨RX6, "rubs", "(I)I"⟩
abbrev cX6_spins : ByteArray := prog_8_method_41_code
def yX6_spins : MethodName := ⟨RX6, "spins", "(I)I"⟩
abbrev cX6_fills : ByteArray := prog_8_method_42_code
def yX6_fills : MethodName := ⟨RX6, "fills", "(II)I"⟩
abbrev cX6_undo : ByteArray := prog_8_method_43_code
def yX6_undo : MethodName := ⟨RX6, "undo", "()I"⟩
abbrev cX6_shownMany : ByteArray := prog_8_method_44_code
def yX6_shownMany : MethodName := ⟨RX6, "shownMany", "()I"⟩
abbrev cX6_isLike : ByteArray := prog_8_method_45_code
def yX6_isLike : MethodName := ⟨RX6, "isLike", "(I)Z"⟩
abbrev cX6_like : ByteArray := prog_8_method_46_code
def yX6_like : MethodName := ⟨RX6, "like", "()I"⟩
abbrev cX6_now : ByteArray := prog_8_method_47_code
def yX6_now : MethodName := ⟨RX6, "now", "(I)I"⟩
abbrev cX6_shown : ByteArray := prog_8_method_48_code
def yX6_shown : MethodName := ⟨RX6, "shown", "(II)I"⟩
abbrev cX6_petals : ByteArray := prog_8_method_49_code
def yX6_petals : MethodName := ⟨RX6, "petals", "(II)I"⟩
abbrev cX6_openMany : ByteArray := prog_8_method_50_code
def yX6_openMany : MethodName := ⟨RX6, "openMany", "(I)I"⟩
abbrev cX6_openRests : ByteArray := prog_8_method_51_code
def yX6_openRests : MethodName := ⟨RX6, "openRests", "(II)I"⟩
abbrev cX6_closes : ByteArray := prog_8_method_52_code
def yX6_closes : MethodName := ⟨RX6, "closes", "(III)I"⟩
abbrev cX6_comesTwo : ByteArray := prog_8_method_53_code
def yX6_comesTwo : MethodName := ⟨RX6, "comesTwo", "(III)V"⟩
abbrev cX6_best : ByteArray := prog_8_method_54_code
def yX6_best : MethodName := ⟨RX6, "best", "(II)I"⟩
abbrev cX6_meet : ByteArray := prog_8_method_55_code
def yX6_meet : MethodName := ⟨RX6, "meet", "(II)I"⟩
abbrev cX6_odds : ByteArray := prog_8_method_56_code
def yX6_odds : MethodName := ⟨RX6, "odds", "(IIII)I"⟩
abbrev cX6_sees : ByteArray := prog_8_method_57_code
def yX6_sees : MethodName := ⟨RX6, "sees", "(II)I"⟩
abbrev cX6_forget : ByteArray := prog_8_method_58_code
def yX6_forget : MethodName := ⟨RX6, "forget", "()I"⟩
abbrev cX6_isSo : ByteArray := prog_8_method_59_code
def yX6_isSo : MethodName := ⟨RX6, "isSo", "(III)Z"⟩
abbrev cX6_guess : ByteArray := prog_8_method_60_code
def yX6_guess : MethodName := ⟨RX6, "guess", "(II)I"⟩
abbrev cX6_look : ByteArray := prog_8_method_61_code
def yX6_look : MethodName := ⟨RX6, "look", "(I)I"⟩
abbrev cX6_marked : ByteArray := prog_8_method_62_code
def yX6_marked : MethodName := ⟨RX6, "marked", "(II)I"⟩
abbrev cX6_mark : ByteArray := prog_8_method_63_code
def yX6_mark : MethodName := ⟨RX6, "mark", "(II)I"⟩
abbrev cX6_keep : ByteArray := prog_8_method_64_code
def yX6_keep : MethodName := ⟨RX6, "keep", "(I)I"⟩
abbrev cX6_back : ByteArray := prog_8_method_65_code
def yX6_back : MethodName := ⟨RX6, "back", "(I)I"⟩
abbrev cX6_count : ByteArray := prog_8_method_66_code
def yX6_count : MethodName := ⟨RX6, "count", "(I)I"⟩
abbrev cX6_trace : ByteArray := prog_8_method_67_code
def yX6_trace : MethodName := ⟨RX6, "trace", "()J"⟩
def RJx8e188 : String := "java/lang/Cloneable"
def TJx8e188 : u_T := fun k => match k with
  | _ => ("", "", "", false)
def tyJx8e188 : Nat → FieldType := fun k => match k with
  | _ => .int
abbrev wsJx8e1880 : List Cond := u_ws RJx8e188 TJx8e188 0
theorem nmJx8e188 : ∀ a, a < 0 → ∀ b, b < 0 → a ≠ b → (TJx8e188 a).2.1 ≠ (TJx8e188 b).2.1 := by decide +kernel
theorem tyJx8e188_ok : ∀ k, k < 0 → parseFieldDescriptor (TJx8e188 k).2.2.1 = some (tyJx8e188 k) := by decide +kernel
def RJ9 : String := "java/lang/Math"
def TJ9 : u_T := fun k => match k with
  | _ => ("", "", "", false)
def tyJ9 : Nat → FieldType := fun k => match k with
  | _ => .int
abbrev wsJ90 : List Cond := u_ws RJ9 TJ9 0
theorem nmJ9 : ∀ a, a < 0 → ∀ b, b < 0 → a ≠ b → (TJ9 a).2.1 ≠ (TJ9 b).2.1 := by decide +kernel
theorem tyJ9_ok : ∀ k, k < 0 → parseFieldDescriptor (TJ9 k).2.2.1 = some (tyJ9 k) := by decide +kernel
abbrev cJ9_floorMod_7cf53 : ByteArray := prog_10_method_50_code
def yJ9_floorMod_7cf53 : MethodName := ⟨RJ9, "floorMod", "(II)I"⟩
abbrev cJ9_max_7cf53 : ByteArray := prog_10_method_65_code
def yJ9_max_7cf53 : MethodName := ⟨RJ9, "max", "(II)I"⟩
abbrev cJ9_min_7cf53 : ByteArray := prog_10_method_69_code
def yJ9_min_7cf53 : MethodName := ⟨RJ9, "min", "(II)I"⟩
def RJ10 : String := "java/lang/System"
def TJ10 : u_T := fun k => match k with
  | _ => ("", "", "", false)
def tyJ10 : Nat → FieldType := fun k => match k with
  | _ => .int
abbrev wsJ100 : List Cond := u_ws RJ10 TJ10 0
theorem nmJ10 : ∀ a, a < 0 → ∀ b, b < 0 → a ≠ b → (TJ10 a).2.1 ≠ (TJ10 b).2.1 := by decide +kernel
theorem tyJ10_ok : ∀ k, k < 0 → parseFieldDescriptor (TJ10 k).2.2.1 = some (tyJ10 k) := by decide +kernel
def RJ7 : String := "java/util/Arrays"
def TJ7 : u_T := fun k => match k with
  | _ => ("", "", "", false)
def tyJ7 : Nat → FieldType := fun k => match k with
  | _ => .int
abbrev wsJ70 : List Cond := u_ws RJ7 TJ7 0
theorem nmJ7 : ∀ a, a < 0 → ∀ b, b < 0 → a ≠ b → (TJ7 a).2.1 ≠ (TJ7 b).2.1 := by decide +kernel
theorem tyJ7_ok : ∀ k, k < 0 → parseFieldDescriptor (TJ7 k).2.2.1 = some (tyJ7 k) := by decide +kernel
abbrev cJ7_fill_53178 : ByteArray := prog_12_method_103_code
def yJ7_fill_53178 : MethodName := ⟨RJ7, "fill", "([II)V"⟩
abbrev cJ7_copyOf_59c91 : ByteArray := prog_12_method_123_code
def yJ7_copyOf_59c91 : MethodName := ⟨RJ7, "copyOf", "([II)[I"⟩
def RL : String := "PetalWheelsLaw"
abbrev cL_law : ByteArray := code
def yL_law : MethodName := ⟨RL, "law", "([I)Z"⟩
abbrev vwCl : List vw_C := [(RX0, TX0, 6), (RX1, TX1, 10), (RX2, TX2, 4), (RX3, TX3, 3), (RX4, TX4, 6), (RX5, TX5, 12), (RX6, TX6, 30)]
end
section
theorem dX0_init_0 : decode cX0_init 0 = .ok (.aload_n 0, 1) := by decide +kernel
theorem dX0_init_1 : decode cX0_init 1 = .ok (.invokespecial 3, 3) := by decide +kernel
theorem dX0_init_4 : decode cX0_init 4 = .ok (.aload_n 0, 1) := by decide +kernel
theorem dX0_init_5 : decode cX0_init 5 = .ok (.iconst 4, 1) := by decide +kernel
theorem dX0_init_6 : decode cX0_init 6 = .ok (.newarray .int, 2) := by decide +kernel
theorem dX0_init_8 : decode cX0_init 8 = .ok (.putfield 9, 3) := by decide +kernel
theorem dX0_init_11 : decode cX0_init 11 = .ok (.aload_n 0, 1) := by decide +kernel
theorem dX0_init_12 : decode cX0_init 12 = .ok (.bipush 6, 2) := by decide +kernel
theorem dX0_init_14 : decode cX0_init 14 = .ok (.newarray .int, 2) := by decide +kernel
theorem dX0_init_16 : decode cX0_init 16 = .ok (.putfield 15, 3) := by decide +kernel
theorem dX0_init_19 : decode cX0_init 19 = .ok (.aload_n 0, 1) := by decide +kernel
theorem dX0_init_20 : decode cX0_init 20 = .ok (.iconst 4, 1) := by decide +kernel
theorem dX0_init_21 : decode cX0_init 21 = .ok (.newarray .int, 2) := by decide +kernel
theorem dX0_init_23 : decode cX0_init 23 = .ok (.putfield 18, 3) := by decide +kernel
theorem dX0_init_26 : decode cX0_init 26 = .ok (.aload_n 0, 1) := by decide +kernel
theorem dX0_init_27 : decode cX0_init 27 = .ok (.iconst 0, 1) := by decide +kernel
theorem dX0_init_28 : decode cX0_init 28 = .ok (.putfield 21, 3) := by decide +kernel
theorem dX0_init_31 : decode cX0_init 31 = .ok (.aload_n 0, 1) := by decide +kernel
theorem dX0_init_32 : decode cX0_init 32 = .ok (.iconst 0, 1) := by decide +kernel
theorem dX0_init_33 : decode cX0_init 33 = .ok (.putfield 25, 3) := by decide +kernel
theorem dX0_init_36 : decode cX0_init 36 = .ok (.aload_n 0, 1) := by decide +kernel
theorem dX0_init_37 : decode cX0_init 37 = .ok (.iconst 0, 1) := by decide +kernel
theorem dX0_init_38 : decode cX0_init 38 = .ok (.putfield 28, 3) := by decide +kernel
theorem dX0_init_41 : decode cX0_init 41 = .ok (.return_, 1) := by decide +kernel
theorem dX0_hasRoomFor_0 : decode cX0_hasRoomFor 0 = .ok (.iload_n 1, 1) := by decide +kernel
theorem dX0_hasRoomFor_1 : decode cX0_hasRoomFor 1 = .ok (.lookupswitch 78 #[(112, 64), (114, 35), (119, 49)], 35) := by decide +kernel
theorem dX0_hasRoomFor_36 : decode cX0_hasRoomFor 36 = .ok (.aload_n 0, 1) := by decide +kernel
theorem dX0_hasRoomFor_37 : decode cX0_hasRoomFor 37 = .ok (.getfield 21, 3) := by decide +kernel
theorem dX0_hasRoomFor_40 : decode cX0_hasRoomFor 40 = .ok (.iconst 4, 1) := by decide +kernel
theorem dX0_hasRoomFor_41 : decode cX0_hasRoomFor 41 = .ok (.if_icmp .ge 7, 3) := by decide +kernel
theorem dX0_hasRoomFor_44 : decode cX0_hasRoomFor 44 = .ok (.iconst 1, 1) := by decide +kernel
theorem dX0_hasRoomFor_45 : decode cX0_hasRoomFor 45 = .ok (.goto 4, 3) := by decide +kernel
theorem dX0_hasRoomFor_48 : decode cX0_hasRoomFor 48 = .ok (.iconst 0, 1) := by decide +kernel
theorem dX0_hasRoomFor_49 : decode cX0_hasRoomFor 49 = .ok (.ireturn, 1) := by decide +kernel
theorem dX0_hasRoomFor_50 : decode cX0_hasRoomFor 50 = .ok (.aload_n 0, 1) := by decide +kernel
theorem dX0_hasRoomFor_51 : decode cX0_hasRoomFor 51 = .ok (.getfield 25, 3) := by decide +kernel
theorem dX0_hasRoomFor_54 : decode cX0_hasRoomFor 54 = .ok (.bipush 6, 2) := by decide +kernel
theorem dX0_hasRoomFor_56 : decode cX0_hasRoomFor 56 = .ok (.if_icmp .ge 7, 3) := by decide +kernel
theorem dX0_hasRoomFor_59 : decode cX0_hasRoomFor 59 = .ok (.iconst 1, 1) := by decide +kernel
theorem dX0_hasRoomFor_60 : decode cX0_hasRoomFor 60 = .ok (.goto 4, 3) := by decide +kernel
theorem dX0_hasRoomFor_63 : decode cX0_hasRoomFor 63 = .ok (.iconst 0, 1) := by decide +kernel
theorem dX0_hasRoomFor_64 : decode cX0_hasRoomFor 64 = .ok (.ireturn, 1) := by decide +kernel
theorem dX0_hasRoomFor_65 : decode cX0_hasRoomFor 65 = .ok (.aload_n 0, 1) := by decide +kernel
theorem dX0_hasRoomFor_66 : decode cX0_hasRoomFor 66 = .ok (.getfield 28, 3) := by decide +kernel
theorem dX0_hasRoomFor_69 : decode cX0_hasRoomFor 69 = .ok (.iconst 4, 1) := by decide +kernel
theorem dX0_hasRoomFor_70 : decode cX0_hasRoomFor 70 = .ok (.if_icmp .ge 7, 3) := by decide +kernel
theorem dX0_hasRoomFor_73 : decode cX0_hasRoomFor 73 = .ok (.iconst 1, 1) := by decide +kernel
theorem dX0_hasRoomFor_74 : decode cX0_hasRoomFor 74 = .ok (.goto 4, 3) := by decide +kernel
theorem dX0_hasRoomFor_77 : decode cX0_hasRoomFor 77 = .ok (.iconst 0, 1) := by decide +kernel
theorem dX0_hasRoomFor_78 : decode cX0_hasRoomFor 78 = .ok (.ireturn, 1) := by decide +kernel
theorem dX0_hasRoomFor_79 : decode cX0_hasRoomFor 79 = .ok (.iconst 0, 1) := by decide +kernel
theorem dX0_hasRoomFor_80 : decode cX0_hasRoomFor 80 = .ok (.ireturn, 1) := by decide +kernel
theorem dX0_adds_0 : decode cX0_adds 0 = .ok (.iload_n 1, 1) := by decide +kernel
theorem dX0_adds_1 : decode cX0_adds 1 = .ok (.lookupswitch 53 #[(112, 47), (114, 35), (119, 41)], 35) := by decide +kernel
theorem dX0_adds_36 : decode cX0_adds 36 = .ok (.aload_n 0, 1) := by decide +kernel
theorem dX0_adds_37 : decode cX0_adds 37 = .ok (.iload_n 2, 1) := by decide +kernel
theorem dX0_adds_38 : decode cX0_adds 38 = .ok (.invokevirtual 31, 3) := by decide +kernel
theorem dX0_adds_41 : decode cX0_adds 41 = .ok (.ireturn, 1) := by decide +kernel
theorem dX0_adds_42 : decode cX0_adds 42 = .ok (.aload_n 0, 1) := by decide +kernel
theorem dX0_adds_43 : decode cX0_adds 43 = .ok (.iload_n 2, 1) := by decide +kernel
theorem dX0_adds_44 : decode cX0_adds 44 = .ok (.invokevirtual 35, 3) := by decide +kernel
theorem dX0_adds_47 : decode cX0_adds 47 = .ok (.ireturn, 1) := by decide +kernel
theorem dX0_adds_48 : decode cX0_adds 48 = .ok (.aload_n 0, 1) := by decide +kernel
theorem dX0_adds_49 : decode cX0_adds 49 = .ok (.iload_n 2, 1) := by decide +kernel
theorem dX0_adds_50 : decode cX0_adds 50 = .ok (.invokevirtual 38, 3) := by decide +kernel
theorem dX0_adds_53 : decode cX0_adds 53 = .ok (.ireturn, 1) := by decide +kernel
theorem dX0_adds_54 : decode cX0_adds 54 = .ok (.iconst 0, 1) := by decide +kernel
theorem dX0_adds_55 : decode cX0_adds 55 = .ok (.ireturn, 1) := by decide +kernel
theorem dX0_addsRing_0 : decode cX0_addsRing 0 = .ok (.aload_n 0, 1) := by decide +kernel
theorem dX0_addsRing_1 : decode cX0_addsRing 1 = .ok (.getfield 21, 3) := by decide +kernel
theorem dX0_addsRing_4 : decode cX0_addsRing 4 = .ok (.iconst 4, 1) := by decide +kernel
theorem dX0_addsRing_5 : decode cX0_addsRing 5 = .ok (.if_icmp .ge 24, 3) := by decide +kernel
theorem dX0_addsRing_8 : decode cX0_addsRing 8 = .ok (.iload_n 1, 1) := by decide +kernel
theorem dX0_addsRing_9 : decode cX0_addsRing 9 = .ok (.bipush 12, 2) := by decide +kernel
theorem dX0_addsRing_11 : decode cX0_addsRing 11 = .ok (.bipush 120, 2) := by decide +kernel
theorem dX0_addsRing_13 : decode cX0_addsRing 13 = .ok (.invokestatic 41, 3) := by decide +kernel
theorem dX0_addsRing_16 : decode cX0_addsRing 16 = .ok (.ifCond .eq 13, 3) := by decide +kernel
theorem dX0_addsRing_19 : decode cX0_addsRing 19 = .ok (.sipush 360, 3) := by decide +kernel
theorem dX0_addsRing_22 : decode cX0_addsRing 22 = .ok (.iload_n 1, 1) := by decide +kernel
theorem dX0_addsRing_23 : decode cX0_addsRing 23 = .ok (.invokestatic 45, 3) := by decide +kernel
theorem dX0_addsRing_26 : decode cX0_addsRing 26 = .ok (.ifCond .eq 5, 3) := by decide +kernel
theorem dX0_addsRing_29 : decode cX0_addsRing 29 = .ok (.iconst 0, 1) := by decide +kernel
theorem dX0_addsRing_30 : decode cX0_addsRing 30 = .ok (.ireturn, 1) := by decide +kernel
theorem dX0_addsRing_31 : decode cX0_addsRing 31 = .ok (.aload_n 0, 1) := by decide +kernel
theorem dX0_addsRing_32 : decode cX0_addsRing 32 = .ok (.getfield 9, 3) := by decide +kernel
theorem dX0_addsRing_35 : decode cX0_addsRing 35 = .ok (.aload_n 0, 1) := by decide +kernel
theorem dX0_addsRing_36 : decode cX0_addsRing 36 = .ok (.getfield 21, 3) := by decide +kernel
theorem dX0_addsRing_39 : decode cX0_addsRing 39 = .ok (.iload_n 1, 1) := by decide +kernel
theorem dX0_addsRing_40 : decode cX0_addsRing 40 = .ok (.iastore, 1) := by decide +kernel
theorem dX0_addsRing_41 : decode cX0_addsRing 41 = .ok (.aload_n 0, 1) := by decide +kernel
theorem dX0_addsRing_42 : decode cX0_addsRing 42 = .ok (.dup, 1) := by decide +kernel
theorem dX0_addsRing_43 : decode cX0_addsRing 43 = .ok (.getfield 21, 3) := by decide +kernel
theorem dX0_addsRing_46 : decode cX0_addsRing 46 = .ok (.iconst 1, 1) := by decide +kernel
theorem dX0_addsRing_47 : decode cX0_addsRing 47 = .ok (.iadd, 1) := by decide +kernel
theorem dX0_addsRing_48 : decode cX0_addsRing 48 = .ok (.putfield 21, 3) := by decide +kernel
theorem dX0_addsRing_51 : decode cX0_addsRing 51 = .ok (.iconst 1, 1) := by decide +kernel
theorem dX0_addsRing_52 : decode cX0_addsRing 52 = .ok (.ireturn, 1) := by decide +kernel
theorem dX0_addsWheel_0 : decode cX0_addsWheel 0 = .ok (.aload_n 0, 1) := by decide +kernel
theorem dX0_addsWheel_1 : decode cX0_addsWheel 1 = .ok (.getfield 25, 3) := by decide +kernel
theorem dX0_addsWheel_4 : decode cX0_addsWheel 4 = .ok (.bipush 6, 2) := by decide +kernel
theorem dX0_addsWheel_6 : decode cX0_addsWheel 6 = .ok (.if_icmp .ge 13, 3) := by decide +kernel
theorem dX0_addsWheel_9 : decode cX0_addsWheel 9 = .ok (.iload_n 1, 1) := by decide +kernel
theorem dX0_addsWheel_10 : decode cX0_addsWheel 10 = .ok (.iconst 3, 1) := by decide +kernel
theorem dX0_addsWheel_11 : decode cX0_addsWheel 11 = .ok (.bipush 99, 2) := by decide +kernel
theorem dX0_addsWheel_13 : decode cX0_addsWheel 13 = .ok (.invokestatic 41, 3) := by decide +kernel
theorem dX0_addsWheel_16 : decode cX0_addsWheel 16 = .ok (.ifCond .ne 5, 3) := by decide +kernel
theorem dX0_addsWheel_19 : decode cX0_addsWheel 19 = .ok (.iconst 0, 1) := by decide +kernel
theorem dX0_addsWheel_20 : decode cX0_addsWheel 20 = .ok (.ireturn, 1) := by decide +kernel
theorem dX0_addsWheel_21 : decode cX0_addsWheel 21 = .ok (.aload_n 0, 1) := by decide +kernel
theorem dX0_addsWheel_22 : decode cX0_addsWheel 22 = .ok (.getfield 15, 3) := by decide +kernel
theorem dX0_addsWheel_25 : decode cX0_addsWheel 25 = .ok (.aload_n 0, 1) := by decide +kernel
theorem dX0_addsWheel_26 : decode cX0_addsWheel 26 = .ok (.getfield 25, 3) := by decide +kernel
theorem dX0_addsWheel_29 : decode cX0_addsWheel 29 = .ok (.iload_n 1, 1) := by decide +kernel
theorem dX0_addsWheel_30 : decode cX0_addsWheel 30 = .ok (.iastore, 1) := by decide +kernel
theorem dX0_addsWheel_31 : decode cX0_addsWheel 31 = .ok (.aload_n 0, 1) := by decide +kernel
theorem dX0_addsWheel_32 : decode cX0_addsWheel 32 = .ok (.dup, 1) := by decide +kernel
theorem dX0_addsWheel_33 : decode cX0_addsWheel 33 = .ok (.getfield 25, 3) := by decide +kernel
theorem dX0_addsWheel_36 : decode cX0_addsWheel 36 = .ok (.iconst 1, 1) := by decide +kernel
theorem dX0_addsWheel_37 : decode cX0_addsWheel 37 = .ok (.iadd, 1) := by decide +kernel
theorem dX0_addsWheel_38 : decode cX0_addsWheel 38 = .ok (.putfield 25, 3) := by decide +kernel
theorem dX0_addsWheel_41 : decode cX0_addsWheel 41 = .ok (.iconst 1, 1) := by decide +kernel
theorem dX0_addsWheel_42 : decode cX0_addsWheel 42 = .ok (.ireturn, 1) := by decide +kernel
theorem dX0_addsPen_0 : decode cX0_addsPen 0 = .ok (.aload_n 0, 1) := by decide +kernel
theorem dX0_addsPen_1 : decode cX0_addsPen 1 = .ok (.getfield 28, 3) := by decide +kernel
theorem dX0_addsPen_4 : decode cX0_addsPen 4 = .ok (.iconst 4, 1) := by decide +kernel
theorem dX0_addsPen_5 : decode cX0_addsPen 5 = .ok (.if_icmp .ge 14, 3) := by decide +kernel
theorem dX0_addsPen_8 : decode cX0_addsPen 8 = .ok (.iload_n 1, 1) := by decide +kernel
theorem dX0_addsPen_9 : decode cX0_addsPen 9 = .ok (.iconst 0, 1) := by decide +kernel
theorem dX0_addsPen_10 : decode cX0_addsPen 10 = .ok (.sipush 999, 3) := by decide +kernel
theorem dX0_addsPen_13 : decode cX0_addsPen 13 = .ok (.invokestatic 41, 3) := by decide +kernel
theorem dX0_addsPen_16 : decode cX0_addsPen 16 = .ok (.ifCond .ne 5, 3) := by decide +kernel
theorem dX0_addsPen_19 : decode cX0_addsPen 19 = .ok (.iconst 0, 1) := by decide +kernel
theorem dX0_addsPen_20 : decode cX0_addsPen 20 = .ok (.ireturn, 1) := by decide +kernel
theorem dX0_addsPen_21 : decode cX0_addsPen 21 = .ok (.aload_n 0, 1) := by decide +kernel
theorem dX0_addsPen_22 : decode cX0_addsPen 22 = .ok (.getfield 18, 3) := by decide +kernel
theorem dX0_addsPen_25 : decode cX0_addsPen 25 = .ok (.aload_n 0, 1) := by decide +kernel
theorem dX0_addsPen_26 : decode cX0_addsPen 26 = .ok (.getfield 28, 3) := by decide +kernel
theorem dX0_addsPen_29 : decode cX0_addsPen 29 = .ok (.iload_n 1, 1) := by decide +kernel
theorem dX0_addsPen_30 : decode cX0_addsPen 30 = .ok (.iastore, 1) := by decide +kernel
theorem dX0_addsPen_31 : decode cX0_addsPen 31 = .ok (.aload_n 0, 1) := by decide +kernel
theorem dX0_addsPen_32 : decode cX0_addsPen 32 = .ok (.dup, 1) := by decide +kernel
theorem dX0_addsPen_33 : decode cX0_addsPen 33 = .ok (.getfield 28, 3) := by decide +kernel
theorem dX0_addsPen_36 : decode cX0_addsPen 36 = .ok (.iconst 1, 1) := by decide +kernel
theorem dX0_addsPen_37 : decode cX0_addsPen 37 = .ok (.iadd, 1) := by decide +kernel
theorem dX0_addsPen_38 : decode cX0_addsPen 38 = .ok (.putfield 28, 3) := by decide +kernel
theorem dX0_addsPen_41 : decode cX0_addsPen 41 = .ok (.iconst 1, 1) := by decide +kernel
theorem dX0_addsPen_42 : decode cX0_addsPen 42 = .ok (.ireturn, 1) := by decide +kernel
theorem dX0_items_0 : decode cX0_items 0 = .ok (.aload_n 0, 1) := by decide +kernel
theorem dX0_items_1 : decode cX0_items 1 = .ok (.getfield 21, 3) := by decide +kernel
theorem dX0_items_4 : decode cX0_items 4 = .ok (.aload_n 0, 1) := by decide +kernel
theorem dX0_items_5 : decode cX0_items 5 = .ok (.getfield 25, 3) := by decide +kernel
theorem dX0_items_8 : decode cX0_items 8 = .ok (.iadd, 1) := by decide +kernel
theorem dX0_items_9 : decode cX0_items 9 = .ok (.aload_n 0, 1) := by decide +kernel
theorem dX0_items_10 : decode cX0_items 10 = .ok (.getfield 28, 3) := by decide +kernel
theorem dX0_items_13 : decode cX0_items 13 = .ok (.iadd, 1) := by decide +kernel
theorem dX0_items_14 : decode cX0_items 14 = .ok (.ireturn, 1) := by decide +kernel
theorem dX0_hasRing_0 : decode cX0_hasRing 0 = .ok (.iload_n 1, 1) := by decide +kernel
theorem dX0_hasRing_1 : decode cX0_hasRing 1 = .ok (.ifCond .lt 15, 3) := by decide +kernel
theorem dX0_hasRing_4 : decode cX0_hasRing 4 = .ok (.iload_n 1, 1) := by decide +kernel
theorem dX0_hasRing_5 : decode cX0_hasRing 5 = .ok (.aload_n 0, 1) := by decide +kernel
theorem dX0_hasRing_6 : decode cX0_hasRing 6 = .ok (.getfield 21, 3) := by decide +kernel
theorem dX0_hasRing_9 : decode cX0_hasRing 9 = .ok (.if_icmp .ge 7, 3) := by decide +kernel
theorem dX0_hasRing_12 : decode cX0_hasRing 12 = .ok (.iconst 1, 1) := by decide +kernel
theorem dX0_hasRing_13 : decode cX0_hasRing 13 = .ok (.goto 4, 3) := by decide +kernel
theorem dX0_hasRing_16 : decode cX0_hasRing 16 = .ok (.iconst 0, 1) := by decide +kernel
theorem dX0_hasRing_17 : decode cX0_hasRing 17 = .ok (.ireturn, 1) := by decide +kernel
theorem dX0_hasWheel_0 : decode cX0_hasWheel 0 = .ok (.iload_n 1, 1) := by decide +kernel
theorem dX0_hasWheel_1 : decode cX0_hasWheel 1 = .ok (.ifCond .lt 15, 3) := by decide +kernel
theorem dX0_hasWheel_4 : decode cX0_hasWheel 4 = .ok (.iload_n 1, 1) := by decide +kernel
theorem dX0_hasWheel_5 : decode cX0_hasWheel 5 = .ok (.aload_n 0, 1) := by decide +kernel
theorem dX0_hasWheel_6 : decode cX0_hasWheel 6 = .ok (.getfield 25, 3) := by decide +kernel
theorem dX0_hasWheel_9 : decode cX0_hasWheel 9 = .ok (.if_icmp .ge 7, 3) := by decide +kernel
theorem dX0_hasWheel_12 : decode cX0_hasWheel 12 = .ok (.iconst 1, 1) := by decide +kernel
theorem dX0_hasWheel_13 : decode cX0_hasWheel 13 = .ok (.goto 4, 3) := by decide +kernel
theorem dX0_hasWheel_16 : decode cX0_hasWheel 16 = .ok (.iconst 0, 1) := by decide +kernel
theorem dX0_hasWheel_17 : decode cX0_hasWheel 17 = .ok (.ireturn, 1) := by decide +kernel
theorem dX0_hasPen_0 : decode cX0_hasPen 0 = .ok (.iload_n 1, 1) := by decide +kernel
theorem dX0_hasPen_1 : decode cX0_hasPen 1 = .ok (.ifCond .lt 15, 3) := by decide +kernel
theorem dX0_hasPen_4 : decode cX0_hasPen 4 = .ok (.iload_n 1, 1) := by decide +kernel
theorem dX0_hasPen_5 : decode cX0_hasPen 5 = .ok (.aload_n 0, 1) := by decide +kernel
theorem dX0_hasPen_6 : decode cX0_hasPen 6 = .ok (.getfield 28, 3) := by decide +kernel
theorem dX0_hasPen_9 : decode cX0_hasPen 9 = .ok (.if_icmp .ge 7, 3) := by decide +kernel
theorem dX0_hasPen_12 : decode cX0_hasPen 12 = .ok (.iconst 1, 1) := by decide +kernel
theorem dX0_hasPen_13 : decode cX0_hasPen 13 = .ok (.goto 4, 3) := by decide +kernel
theorem dX0_hasPen_16 : decode cX0_hasPen 16 = .ok (.iconst 0, 1) := by decide +kernel
theorem dX0_hasPen_17 : decode cX0_hasPen 17 = .ok (.ireturn, 1) := by decide +kernel
theorem dX0_teethOf_0 : decode cX0_teethOf 0 = .ok (.aload_n 0, 1) := by decide +kernel
theorem dX0_teethOf_1 : decode cX0_teethOf 1 = .ok (.iload_n 1, 1) := by decide +kernel
theorem dX0_teethOf_2 : decode cX0_teethOf 2 = .ok (.invokevirtual 49, 3) := by decide +kernel
theorem dX0_teethOf_5 : decode cX0_teethOf 5 = .ok (.ifCond .eq 12, 3) := by decide +kernel
theorem dX0_teethOf_8 : decode cX0_teethOf 8 = .ok (.aload_n 0, 1) := by decide +kernel
theorem dX0_teethOf_9 : decode cX0_teethOf 9 = .ok (.getfield 9, 3) := by decide +kernel
theorem dX0_teethOf_12 : decode cX0_teethOf 12 = .ok (.iload_n 1, 1) := by decide +kernel
theorem dX0_teethOf_13 : decode cX0_teethOf 13 = .ok (.iaload, 1) := by decide +kernel
theorem dX0_teethOf_14 : decode cX0_teethOf 14 = .ok (.goto 4, 3) := by decide +kernel
theorem dX0_teethOf_17 : decode cX0_teethOf 17 = .ok (.iconst 0, 1) := by decide +kernel
theorem dX0_teethOf_18 : decode cX0_teethOf 18 = .ok (.ireturn, 1) := by decide +kernel
theorem dX0_cogsOf_0 : decode cX0_cogsOf 0 = .ok (.aload_n 0, 1) := by decide +kernel
theorem dX0_cogsOf_1 : decode cX0_cogsOf 1 = .ok (.iload_n 1, 1) := by decide +kernel
theorem dX0_cogsOf_2 : decode cX0_cogsOf 2 = .ok (.invokevirtual 52, 3) := by decide +kernel
theorem dX0_cogsOf_5 : decode cX0_cogsOf 5 = .ok (.ifCond .eq 12, 3) := by decide +kernel
theorem dX0_cogsOf_8 : decode cX0_cogsOf 8 = .ok (.aload_n 0, 1) := by decide +kernel
theorem dX0_cogsOf_9 : decode cX0_cogsOf 9 = .ok (.getfield 15, 3) := by decide +kernel
theorem dX0_cogsOf_12 : decode cX0_cogsOf 12 = .ok (.iload_n 1, 1) := by decide +kernel
theorem dX0_cogsOf_13 : decode cX0_cogsOf 13 = .ok (.iaload, 1) := by decide +kernel
theorem dX0_cogsOf_14 : decode cX0_cogsOf 14 = .ok (.goto 4, 3) := by decide +kernel
theorem dX0_cogsOf_17 : decode cX0_cogsOf 17 = .ok (.iconst 0, 1) := by decide +kernel
theorem dX0_cogsOf_18 : decode cX0_cogsOf 18 = .ok (.ireturn, 1) := by decide +kernel
theorem dX0_inkTold_0 : decode cX0_inkTold 0 = .ok (.aload_n 0, 1) := by decide +kernel
theorem dX0_inkTold_1 : decode cX0_inkTold 1 = .ok (.getfield 18, 3) := by decide +kernel
theorem dX0_inkTold_4 : decode cX0_inkTold 4 = .ok (.aload_n 0, 1) := by decide +kernel
theorem dX0_inkTold_5 : decode cX0_inkTold 5 = .ok (.getfield 28, 3) := by decide +kernel
theorem dX0_inkTold_8 : decode cX0_inkTold 8 = .ok (.invokestatic 55, 3) := by decide +kernel
theorem dX0_inkTold_11 : decode cX0_inkTold 11 = .ok (.areturn, 1) := by decide +kernel
theorem dX0_fits_0 : decode cX0_fits 0 = .ok (.aload_n 0, 1) := by decide +kernel
theorem dX0_fits_1 : decode cX0_fits 1 = .ok (.iload_n 1, 1) := by decide +kernel
theorem dX0_fits_2 : decode cX0_fits 2 = .ok (.invokevirtual 49, 3) := by decide +kernel
theorem dX0_fits_5 : decode cX0_fits 5 = .ok (.ifCond .eq 28, 3) := by decide +kernel
theorem dX0_fits_8 : decode cX0_fits 8 = .ok (.aload_n 0, 1) := by decide +kernel
theorem dX0_fits_9 : decode cX0_fits 9 = .ok (.iload_n 2, 1) := by decide +kernel
theorem dX0_fits_10 : decode cX0_fits 10 = .ok (.invokevirtual 52, 3) := by decide +kernel
theorem dX0_fits_13 : decode cX0_fits 13 = .ok (.ifCond .eq 20, 3) := by decide +kernel
theorem dX0_fits_16 : decode cX0_fits 16 = .ok (.aload_n 0, 1) := by decide +kernel
theorem dX0_fits_17 : decode cX0_fits 17 = .ok (.iload_n 2, 1) := by decide +kernel
theorem dX0_fits_18 : decode cX0_fits 18 = .ok (.invokevirtual 61, 3) := by decide +kernel
theorem dX0_fits_21 : decode cX0_fits 21 = .ok (.aload_n 0, 1) := by decide +kernel
theorem dX0_fits_22 : decode cX0_fits 22 = .ok (.iload_n 1, 1) := by decide +kernel
theorem dX0_fits_23 : decode cX0_fits 23 = .ok (.invokevirtual 65, 3) := by decide +kernel
theorem dX0_fits_26 : decode cX0_fits 26 = .ok (.if_icmp .ge 7, 3) := by decide +kernel
theorem dX0_fits_29 : decode cX0_fits 29 = .ok (.iconst 1, 1) := by decide +kernel
theorem dX0_fits_30 : decode cX0_fits 30 = .ok (.goto 4, 3) := by decide +kernel
theorem dX0_fits_33 : decode cX0_fits 33 = .ok (.iconst 0, 1) := by decide +kernel
theorem dX0_fits_34 : decode cX0_fits 34 = .ok (.ireturn, 1) := by decide +kernel
theorem dX0_divisorOf_0 : decode cX0_divisorOf 0 = .ok (.aload_n 0, 1) := by decide +kernel
theorem dX0_divisorOf_1 : decode cX0_divisorOf 1 = .ok (.iload_n 1, 1) := by decide +kernel
theorem dX0_divisorOf_2 : decode cX0_divisorOf 2 = .ok (.invokevirtual 65, 3) := by decide +kernel
theorem dX0_divisorOf_5 : decode cX0_divisorOf 5 = .ok (.aload_n 0, 1) := by decide +kernel
theorem dX0_divisorOf_6 : decode cX0_divisorOf 6 = .ok (.iload_n 2, 1) := by decide +kernel
theorem dX0_divisorOf_7 : decode cX0_divisorOf 7 = .ok (.invokevirtual 61, 3) := by decide +kernel
theorem dX0_divisorOf_10 : decode cX0_divisorOf 10 = .ok (.invokestatic 68, 3) := by decide +kernel
theorem dX0_divisorOf_13 : decode cX0_divisorOf 13 = .ok (.ireturn, 1) := by decide +kernel
theorem dX0_petalsOf_0 : decode cX0_petalsOf 0 = .ok (.aload_n 0, 1) := by decide +kernel
theorem dX0_petalsOf_1 : decode cX0_petalsOf 1 = .ok (.iload_n 1, 1) := by decide +kernel
theorem dX0_petalsOf_2 : decode cX0_petalsOf 2 = .ok (.invokevirtual 65, 3) := by decide +kernel
theorem dX0_petalsOf_5 : decode cX0_petalsOf 5 = .ok (.aload_n 0, 1) := by decide +kernel
theorem dX0_petalsOf_6 : decode cX0_petalsOf 6 = .ok (.iload_n 1, 1) := by decide +kernel
theorem dX0_petalsOf_7 : decode cX0_petalsOf 7 = .ok (.iload_n 2, 1) := by decide +kernel
theorem dX0_petalsOf_8 : decode cX0_petalsOf 8 = .ok (.invokevirtual 71, 3) := by decide +kernel
theorem dX0_petalsOf_11 : decode cX0_petalsOf 11 = .ok (.invokestatic 74, 3) := by decide +kernel
theorem dX0_petalsOf_14 : decode cX0_petalsOf 14 = .ok (.ireturn, 1) := by decide +kernel
theorem dX0_roundsOf_0 : decode cX0_roundsOf 0 = .ok (.aload_n 0, 1) := by decide +kernel
theorem dX0_roundsOf_1 : decode cX0_roundsOf 1 = .ok (.iload_n 2, 1) := by decide +kernel
theorem dX0_roundsOf_2 : decode cX0_roundsOf 2 = .ok (.invokevirtual 61, 3) := by decide +kernel
theorem dX0_roundsOf_5 : decode cX0_roundsOf 5 = .ok (.aload_n 0, 1) := by decide +kernel
theorem dX0_roundsOf_6 : decode cX0_roundsOf 6 = .ok (.iload_n 1, 1) := by decide +kernel
theorem dX0_roundsOf_7 : decode cX0_roundsOf 7 = .ok (.iload_n 2, 1) := by decide +kernel
theorem dX0_roundsOf_8 : decode cX0_roundsOf 8 = .ok (.invokevirtual 71, 3) := by decide +kernel
theorem dX0_roundsOf_11 : decode cX0_roundsOf 11 = .ok (.invokestatic 74, 3) := by decide +kernel
theorem dX0_roundsOf_14 : decode cX0_roundsOf 14 = .ok (.ireturn, 1) := by decide +kernel
theorem dX0_longOf_0 : decode cX0_longOf 0 = .ok (.aload_n 0, 1) := by decide +kernel
theorem dX0_longOf_1 : decode cX0_longOf 1 = .ok (.iload_n 1, 1) := by decide +kernel
theorem dX0_longOf_2 : decode cX0_longOf 2 = .ok (.invokevirtual 65, 3) := by decide +kernel
theorem dX0_longOf_5 : decode cX0_longOf 5 = .ok (.aload_n 0, 1) := by decide +kernel
theorem dX0_longOf_6 : decode cX0_longOf 6 = .ok (.iload_n 1, 1) := by decide +kernel
theorem dX0_longOf_7 : decode cX0_longOf 7 = .ok (.iload_n 2, 1) := by decide +kernel
theorem dX0_longOf_8 : decode cX0_longOf 8 = .ok (.invokevirtual 77, 3) := by decide +kernel
theorem dX0_longOf_11 : decode cX0_longOf 11 = .ok (.imul, 1) := by decide +kernel
theorem dX0_longOf_12 : decode cX0_longOf 12 = .ok (.ireturn, 1) := by decide +kernel
theorem dX0_stepOf_0 : decode cX0_stepOf 0 = .ok (.sipush 360, 3) := by decide +kernel
theorem dX0_stepOf_3 : decode cX0_stepOf 3 = .ok (.aload_n 0, 1) := by decide +kernel
theorem dX0_stepOf_4 : decode cX0_stepOf 4 = .ok (.iload_n 1, 1) := by decide +kernel
theorem dX0_stepOf_5 : decode cX0_stepOf 5 = .ok (.invokevirtual 65, 3) := by decide +kernel
theorem dX0_stepOf_8 : decode cX0_stepOf 8 = .ok (.invokestatic 74, 3) := by decide +kernel
theorem dX0_stepOf_11 : decode cX0_stepOf 11 = .ok (.ireturn, 1) := by decide +kernel
theorem dX1_init_0 : decode cX1_init 0 = .ok (.aload_n 0, 1) := by decide +kernel
theorem dX1_init_1 : decode cX1_init 1 = .ok (.invokespecial 3, 3) := by decide +kernel
theorem dX1_init_4 : decode cX1_init 4 = .ok (.aload_n 0, 1) := by decide +kernel
theorem dX1_init_5 : decode cX1_init 5 = .ok (.iload_n 2, 1) := by decide +kernel
theorem dX1_init_6 : decode cX1_init 6 = .ok (.putfield 9, 3) := by decide +kernel
theorem dX1_init_9 : decode cX1_init 9 = .ok (.aload_n 0, 1) := by decide +kernel
theorem dX1_init_10 : decode cX1_init 10 = .ok (.iload_n 3, 1) := by decide +kernel
theorem dX1_init_11 : decode cX1_init 11 = .ok (.putfield 15, 3) := by decide +kernel
theorem dX1_init_14 : decode cX1_init 14 = .ok (.aload_n 0, 1) := by decide +kernel
theorem dX1_init_15 : decode cX1_init 15 = .ok (.iload 4, 2) := by decide +kernel
theorem dX1_init_17 : decode cX1_init 17 = .ok (.putfield 18, 3) := by decide +kernel
theorem dX1_init_20 : decode cX1_init 20 = .ok (.aload_n 0, 1) := by decide +kernel
theorem dX1_init_21 : decode cX1_init 21 = .ok (.iload 5, 2) := by decide +kernel
theorem dX1_init_23 : decode cX1_init 23 = .ok (.putfield 21, 3) := by decide +kernel
theorem dX1_init_26 : decode cX1_init 26 = .ok (.aload_n 0, 1) := by decide +kernel
theorem dX1_init_27 : decode cX1_init 27 = .ok (.iload 6, 2) := by decide +kernel
theorem dX1_init_29 : decode cX1_init 29 = .ok (.putfield 24, 3) := by decide +kernel
theorem dX1_init_32 : decode cX1_init 32 = .ok (.aload_n 0, 1) := by decide +kernel
theorem dX1_init_33 : decode cX1_init 33 = .ok (.iload 7, 2) := by decide +kernel
theorem dX1_init_35 : decode cX1_init 35 = .ok (.putfield 27, 3) := by decide +kernel
theorem dX1_init_38 : decode cX1_init 38 = .ok (.aload_n 0, 1) := by decide +kernel
theorem dX1_init_39 : decode cX1_init 39 = .ok (.aload_n 1, 1) := by decide +kernel
theorem dX1_init_40 : decode cX1_init 40 = .ok (.iload_n 2, 1) := by decide +kernel
theorem dX1_init_41 : decode cX1_init 41 = .ok (.iload_n 3, 1) := by decide +kernel
theorem dX1_init_42 : decode cX1_init 42 = .ok (.invokevirtual 30, 3) := by decide +kernel
theorem dX1_init_45 : decode cX1_init 45 = .ok (.putfield 36, 3) := by decide +kernel
theorem dX1_init_48 : decode cX1_init 48 = .ok (.aload_n 0, 1) := by decide +kernel
theorem dX1_init_49 : decode cX1_init 49 = .ok (.aload_n 1, 1) := by decide +kernel
theorem dX1_init_50 : decode cX1_init 50 = .ok (.iload_n 2, 1) := by decide +kernel
theorem dX1_init_51 : decode cX1_init 51 = .ok (.iload_n 3, 1) := by decide +kernel
theorem dX1_init_52 : decode cX1_init 52 = .ok (.invokevirtual 39, 3) := by decide +kernel
theorem dX1_init_55 : decode cX1_init 55 = .ok (.putfield 42, 3) := by decide +kernel
theorem dX1_init_58 : decode cX1_init 58 = .ok (.aload_n 0, 1) := by decide +kernel
theorem dX1_init_59 : decode cX1_init 59 = .ok (.sipush 360, 3) := by decide +kernel
theorem dX1_init_62 : decode cX1_init 62 = .ok (.aload_n 0, 1) := by decide +kernel
theorem dX1_init_63 : decode cX1_init 63 = .ok (.getfield 36, 3) := by decide +kernel
theorem dX1_init_66 : decode cX1_init 66 = .ok (.invokestatic 45, 3) := by decide +kernel
theorem dX1_init_69 : decode cX1_init 69 = .ok (.putfield 48, 3) := by decide +kernel
theorem dX1_init_72 : decode cX1_init 72 = .ok (.aload_n 0, 1) := by decide +kernel
theorem dX1_init_73 : decode cX1_init 73 = .ok (.aload_n 1, 1) := by decide +kernel
theorem dX1_init_74 : decode cX1_init 74 = .ok (.iload_n 2, 1) := by decide +kernel
theorem dX1_init_75 : decode cX1_init 75 = .ok (.invokevirtual 51, 3) := by decide +kernel
theorem dX1_init_78 : decode cX1_init 78 = .ok (.iload 5, 2) := by decide +kernel
theorem dX1_init_80 : decode cX1_init 80 = .ok (.imul, 1) := by decide +kernel
theorem dX1_init_81 : decode cX1_init 81 = .ok (.iload 7, 2) := by decide +kernel
theorem dX1_init_83 : decode cX1_init 83 = .ok (.iadd, 1) := by decide +kernel
theorem dX1_init_84 : decode cX1_init 84 = .ok (.putfield 55, 3) := by decide +kernel
theorem dX1_init_87 : decode cX1_init 87 = .ok (.return_, 1) := by decide +kernel
theorem dX1_pointOf_0 : decode cX1_pointOf 0 = .ok (.aload_n 0, 1) := by decide +kernel
theorem dX1_pointOf_1 : decode cX1_pointOf 1 = .ok (.getfield 55, 3) := by decide +kernel
theorem dX1_pointOf_4 : decode cX1_pointOf 4 = .ok (.aload_n 0, 1) := by decide +kernel
theorem dX1_pointOf_5 : decode cX1_pointOf 5 = .ok (.getfield 48, 3) := by decide +kernel
theorem dX1_pointOf_8 : decode cX1_pointOf 8 = .ok (.iload_n 1, 1) := by decide +kernel
theorem dX1_pointOf_9 : decode cX1_pointOf 9 = .ok (.imul, 1) := by decide +kernel
theorem dX1_pointOf_10 : decode cX1_pointOf 10 = .ok (.iadd, 1) := by decide +kernel
theorem dX1_pointOf_11 : decode cX1_pointOf 11 = .ok (.sipush 360, 3) := by decide +kernel
theorem dX1_pointOf_14 : decode cX1_pointOf 14 = .ok (.invokestatic 58, 3) := by decide +kernel
theorem dX1_pointOf_17 : decode cX1_pointOf 17 = .ok (.ireturn, 1) := by decide +kernel
theorem dX1_hasTip_0 : decode cX1_hasTip 0 = .ok (.iload_n 2, 1) := by decide +kernel
theorem dX1_hasTip_1 : decode cX1_hasTip 1 = .ok (.aload_n 0, 1) := by decide +kernel
theorem dX1_hasTip_2 : decode cX1_hasTip 2 = .ok (.getfield 18, 3) := by decide +kernel
theorem dX1_hasTip_5 : decode cX1_hasTip 5 = .ok (.if_icmp .ne 23, 3) := by decide +kernel
theorem dX1_hasTip_8 : decode cX1_hasTip 8 = .ok (.iload_n 1, 1) := by decide +kernel
theorem dX1_hasTip_9 : decode cX1_hasTip 9 = .ok (.aload_n 0, 1) := by decide +kernel
theorem dX1_hasTip_10 : decode cX1_hasTip 10 = .ok (.getfield 55, 3) := by decide +kernel
theorem dX1_hasTip_13 : decode cX1_hasTip 13 = .ok (.isub, 1) := by decide +kernel
theorem dX1_hasTip_14 : decode cX1_hasTip 14 = .ok (.aload_n 0, 1) := by decide +kernel
theorem dX1_hasTip_15 : decode cX1_hasTip 15 = .ok (.getfield 48, 3) := by decide +kernel
theorem dX1_hasTip_18 : decode cX1_hasTip 18 = .ok (.invokestatic 58, 3) := by decide +kernel
theorem dX1_hasTip_21 : decode cX1_hasTip 21 = .ok (.ifCond .ne 7, 3) := by decide +kernel
theorem dX1_hasTip_24 : decode cX1_hasTip 24 = .ok (.iconst 1, 1) := by decide +kernel
theorem dX1_hasTip_25 : decode cX1_hasTip 25 = .ok (.goto 4, 3) := by decide +kernel
theorem dX1_hasTip_28 : decode cX1_hasTip 28 = .ok (.iconst 0, 1) := by decide +kernel
theorem dX1_hasTip_29 : decode cX1_hasTip 29 = .ok (.ireturn, 1) := by decide +kernel
theorem dX2_init_0 : decode cX2_init 0 = .ok (.aload_n 0, 1) := by decide +kernel
theorem dX2_init_1 : decode cX2_init 1 = .ok (.invokespecial 3, 3) := by decide +kernel
theorem dX2_init_4 : decode cX2_init 4 = .ok (.aload_n 0, 1) := by decide +kernel
theorem dX2_init_5 : decode cX2_init 5 = .ok (.iload_n 1, 1) := by decide +kernel
theorem dX2_init_6 : decode cX2_init 6 = .ok (.putfield 9, 3) := by decide +kernel
theorem dX2_init_9 : decode cX2_init 9 = .ok (.aload_n 0, 1) := by decide +kernel
theorem dX2_init_10 : decode cX2_init 10 = .ok (.aload_n 2, 1) := by decide +kernel
theorem dX2_init_11 : decode cX2_init 11 = .ok (.putfield 15, 3) := by decide +kernel
theorem dX2_init_14 : decode cX2_init 14 = .ok (.aload_n 0, 1) := by decide +kernel
theorem dX2_init_15 : decode cX2_init 15 = .ok (.aload_n 3, 1) := by decide +kernel
theorem dX2_init_16 : decode cX2_init 16 = .ok (.putfield 19, 3) := by decide +kernel
theorem dX2_init_19 : decode cX2_init 19 = .ok (.aload_n 0, 1) := by decide +kernel
theorem dX2_init_20 : decode cX2_init 20 = .ok (.aload 4, 2) := by decide +kernel
theorem dX2_init_22 : decode cX2_init 22 = .ok (.putfield 23, 3) := by decide +kernel
theorem dX2_init_25 : decode cX2_init 25 = .ok (.return_, 1) := by decide +kernel
theorem dX2_inkOf_0 : decode cX2_inkOf 0 = .ok (.iload_n 1, 1) := by decide +kernel
theorem dX2_inkOf_1 : decode cX2_inkOf 1 = .ok (.ifCond .lt 21, 3) := by decide +kernel
theorem dX2_inkOf_4 : decode cX2_inkOf 4 = .ok (.iload_n 1, 1) := by decide +kernel
theorem dX2_inkOf_5 : decode cX2_inkOf 5 = .ok (.aload_n 0, 1) := by decide +kernel
theorem dX2_inkOf_6 : decode cX2_inkOf 6 = .ok (.getfield 15, 3) := by decide +kernel
theorem dX2_inkOf_9 : decode cX2_inkOf 9 = .ok (.arraylength, 1) := by decide +kernel
theorem dX2_inkOf_10 : decode cX2_inkOf 10 = .ok (.if_icmp .ge 12, 3) := by decide +kernel
theorem dX2_inkOf_13 : decode cX2_inkOf 13 = .ok (.aload_n 0, 1) := by decide +kernel
theorem dX2_inkOf_14 : decode cX2_inkOf 14 = .ok (.getfield 15, 3) := by decide +kernel
theorem dX2_inkOf_17 : decode cX2_inkOf 17 = .ok (.iload_n 1, 1) := by decide +kernel
theorem dX2_inkOf_18 : decode cX2_inkOf 18 = .ok (.iaload, 1) := by decide +kernel
theorem dX2_inkOf_19 : decode cX2_inkOf 19 = .ok (.goto 4, 3) := by decide +kernel
theorem dX2_inkOf_22 : decode cX2_inkOf 22 = .ok (.iconst 0, 1) := by decide +kernel
theorem dX2_inkOf_23 : decode cX2_inkOf 23 = .ok (.ireturn, 1) := by decide +kernel
theorem dX2_curveAt_0 : decode cX2_curveAt 0 = .ok (.iload_n 1, 1) := by decide +kernel
theorem dX2_curveAt_1 : decode cX2_curveAt 1 = .ok (.ifCond .lt 21, 3) := by decide +kernel
theorem dX2_curveAt_4 : decode cX2_curveAt 4 = .ok (.iload_n 1, 1) := by decide +kernel
theorem dX2_curveAt_5 : decode cX2_curveAt 5 = .ok (.aload_n 0, 1) := by decide +kernel
theorem dX2_curveAt_6 : decode cX2_curveAt 6 = .ok (.getfield 19, 3) := by decide +kernel
theorem dX2_curveAt_9 : decode cX2_curveAt 9 = .ok (.arraylength, 1) := by decide +kernel
theorem dX2_curveAt_10 : decode cX2_curveAt 10 = .ok (.if_icmp .ge 12, 3) := by decide +kernel
theorem dX2_curveAt_13 : decode cX2_curveAt 13 = .ok (.aload_n 0, 1) := by decide +kernel
theorem dX2_curveAt_14 : decode cX2_curveAt 14 = .ok (.getfield 19, 3) := by decide +kernel
theorem dX2_curveAt_17 : decode cX2_curveAt 17 = .ok (.iload_n 1, 1) := by decide +kernel
theorem dX2_curveAt_18 : decode cX2_curveAt 18 = .ok (.aaload, 1) := by decide +kernel
theorem dX2_curveAt_19 : decode cX2_curveAt 19 = .ok (.goto 4, 3) := by decide +kernel
theorem dX2_curveAt_22 : decode cX2_curveAt 22 = .ok (.aconst_null, 1) := by decide +kernel
theorem dX2_curveAt_23 : decode cX2_curveAt 23 = .ok (.areturn, 1) := by decide +kernel
theorem dX2_hasCurveIn_0 : decode cX2_hasCurveIn 0 = .ok (.iconst 0, 1) := by decide +kernel
theorem dX2_hasCurveIn_1 : decode cX2_hasCurveIn 1 = .ok (.istore_n 2, 1) := by decide +kernel
theorem dX2_hasCurveIn_2 : decode cX2_hasCurveIn 2 = .ok (.iload_n 2, 1) := by decide +kernel
theorem dX2_hasCurveIn_3 : decode cX2_hasCurveIn 3 = .ok (.aload_n 0, 1) := by decide +kernel
theorem dX2_hasCurveIn_4 : decode cX2_hasCurveIn 4 = .ok (.getfield 19, 3) := by decide +kernel
theorem dX2_hasCurveIn_7 : decode cX2_hasCurveIn 7 = .ok (.arraylength, 1) := by decide +kernel
theorem dX2_hasCurveIn_8 : decode cX2_hasCurveIn 8 = .ok (.if_icmp .ge 24, 3) := by decide +kernel
theorem dX2_hasCurveIn_11 : decode cX2_hasCurveIn 11 = .ok (.aload_n 0, 1) := by decide +kernel
theorem dX2_hasCurveIn_12 : decode cX2_hasCurveIn 12 = .ok (.getfield 19, 3) := by decide +kernel
theorem dX2_hasCurveIn_15 : decode cX2_hasCurveIn 15 = .ok (.iload_n 2, 1) := by decide +kernel
theorem dX2_hasCurveIn_16 : decode cX2_hasCurveIn 16 = .ok (.aaload, 1) := by decide +kernel
theorem dX2_hasCurveIn_17 : decode cX2_hasCurveIn 17 = .ok (.getfield 27, 3) := by decide +kernel
theorem dX2_hasCurveIn_20 : decode cX2_hasCurveIn 20 = .ok (.iload_n 1, 1) := by decide +kernel
theorem dX2_hasCurveIn_21 : decode cX2_hasCurveIn 21 = .ok (.if_icmp .ne 5, 3) := by decide +kernel
theorem dX2_hasCurveIn_24 : decode cX2_hasCurveIn 24 = .ok (.iconst 1, 1) := by decide +kernel
theorem dX2_hasCurveIn_25 : decode cX2_hasCurveIn 25 = .ok (.ireturn, 1) := by decide +kernel
theorem dX2_hasCurveIn_26 : decode cX2_hasCurveIn 26 = .ok (.iinc 2 1, 3) := by decide +kernel
theorem dX2_hasCurveIn_29 : decode cX2_hasCurveIn 29 = .ok (.goto (-27), 3) := by decide +kernel
theorem dX2_hasCurveIn_32 : decode cX2_hasCurveIn 32 = .ok (.iconst 0, 1) := by decide +kernel
theorem dX2_hasCurveIn_33 : decode cX2_hasCurveIn 33 = .ok (.ireturn, 1) := by decide +kernel
theorem dX2_drawn_0 : decode cX2_drawn 0 = .ok (.aload_n 0, 1) := by decide +kernel
theorem dX2_drawn_1 : decode cX2_drawn 1 = .ok (.getfield 19, 3) := by decide +kernel
theorem dX2_drawn_4 : decode cX2_drawn 4 = .ok (.arraylength, 1) := by decide +kernel
theorem dX2_drawn_5 : decode cX2_drawn 5 = .ok (.iconst 1, 1) := by decide +kernel
theorem dX2_drawn_6 : decode cX2_drawn 6 = .ok (.iadd, 1) := by decide +kernel
theorem dX2_drawn_7 : decode cX2_drawn 7 = .ok (.anewarray 28, 3) := by decide +kernel
theorem dX2_drawn_10 : decode cX2_drawn 10 = .ok (.astore_n 3, 1) := by decide +kernel
theorem dX2_drawn_11 : decode cX2_drawn 11 = .ok (.iconst 0, 1) := by decide +kernel
theorem dX2_drawn_12 : decode cX2_drawn 12 = .ok (.istore 4, 2) := by decide +kernel
theorem dX2_drawn_14 : decode cX2_drawn 14 = .ok (.iload 4, 2) := by decide +kernel
theorem dX2_drawn_16 : decode cX2_drawn 16 = .ok (.aload_n 0, 1) := by decide +kernel
theorem dX2_drawn_17 : decode cX2_drawn 17 = .ok (.getfield 19, 3) := by decide +kernel
theorem dX2_drawn_20 : decode cX2_drawn 20 = .ok (.arraylength, 1) := by decide +kernel
theorem dX2_drawn_21 : decode cX2_drawn 21 = .ok (.if_icmp .ge 20, 3) := by decide +kernel
theorem dX2_drawn_24 : decode cX2_drawn 24 = .ok (.aload_n 3, 1) := by decide +kernel
theorem dX2_drawn_25 : decode cX2_drawn 25 = .ok (.iload 4, 2) := by decide +kernel
theorem dX2_drawn_27 : decode cX2_drawn 27 = .ok (.aload_n 0, 1) := by decide +kernel
theorem dX2_drawn_28 : decode cX2_drawn 28 = .ok (.getfield 19, 3) := by decide +kernel
theorem dX2_drawn_31 : decode cX2_drawn 31 = .ok (.iload 4, 2) := by decide +kernel
theorem dX2_drawn_33 : decode cX2_drawn 33 = .ok (.aaload, 1) := by decide +kernel
theorem dX2_drawn_34 : decode cX2_drawn 34 = .ok (.aastore, 1) := by decide +kernel
theorem dX2_drawn_35 : decode cX2_drawn 35 = .ok (.iinc 4 1, 3) := by decide +kernel
theorem dX2_drawn_38 : decode cX2_drawn 38 = .ok (.goto (-24), 3) := by decide +kernel
theorem dX2_drawn_41 : decode cX2_drawn 41 = .ok (.aload_n 3, 1) := by decide +kernel
theorem dX2_drawn_42 : decode cX2_drawn 42 = .ok (.aload_n 0, 1) := by decide +kernel
theorem dX2_drawn_43 : decode cX2_drawn 43 = .ok (.getfield 19, 3) := by decide +kernel
theorem dX2_drawn_46 : decode cX2_drawn 46 = .ok (.arraylength, 1) := by decide +kernel
theorem dX2_drawn_47 : decode cX2_drawn 47 = .ok (.aload_n 1, 1) := by decide +kernel
theorem dX2_drawn_48 : decode cX2_drawn 48 = .ok (.aastore, 1) := by decide +kernel
theorem dX2_drawn_49 : decode cX2_drawn 49 = .ok (.new 10, 3) := by decide +kernel
theorem dX2_drawn_52 : decode cX2_drawn 52 = .ok (.dup, 1) := by decide +kernel
theorem dX2_drawn_53 : decode cX2_drawn 53 = .ok (.aload_n 0, 1) := by decide +kernel
theorem dX2_drawn_54 : decode cX2_drawn 54 = .ok (.getfield 9, 3) := by decide +kernel
theorem dX2_drawn_57 : decode cX2_drawn 57 = .ok (.aload_n 0, 1) := by decide +kernel
theorem dX2_drawn_58 : decode cX2_drawn 58 = .ok (.aload_n 1, 1) := by decide +kernel
theorem dX2_drawn_59 : decode cX2_drawn 59 = .ok (.getfield 32, 3) := by decide +kernel
theorem dX2_drawn_62 : decode cX2_drawn 62 = .ok (.aload_n 0, 1) := by decide +kernel
theorem dX2_drawn_63 : decode cX2_drawn 63 = .ok (.aload_n 1, 1) := by decide +kernel
theorem dX2_drawn_64 : decode cX2_drawn 64 = .ok (.getfield 32, 3) := by decide +kernel
theorem dX2_drawn_67 : decode cX2_drawn 67 = .ok (.invokevirtual 35, 3) := by decide +kernel
theorem dX2_drawn_70 : decode cX2_drawn 70 = .ok (.iload_n 2, 1) := by decide +kernel
theorem dX2_drawn_71 : decode cX2_drawn 71 = .ok (.isub, 1) := by decide +kernel
theorem dX2_drawn_72 : decode cX2_drawn 72 = .ok (.invokevirtual 39, 3) := by decide +kernel
theorem dX2_drawn_75 : decode cX2_drawn 75 = .ok (.aload_n 3, 1) := by decide +kernel
theorem dX2_drawn_76 : decode cX2_drawn 76 = .ok (.aload_n 0, 1) := by decide +kernel
theorem dX2_drawn_77 : decode cX2_drawn 77 = .ok (.invokespecial 43, 3) := by decide +kernel
theorem dX2_drawn_80 : decode cX2_drawn 80 = .ok (.areturn, 1) := by decide +kernel
theorem dX2_rubbed_0 : decode cX2_rubbed 0 = .ok (.aload_n 0, 1) := by decide +kernel
theorem dX2_rubbed_1 : decode cX2_rubbed 1 = .ok (.getfield 19, 3) := by decide +kernel
theorem dX2_rubbed_4 : decode cX2_rubbed 4 = .ok (.arraylength, 1) := by decide +kernel
theorem dX2_rubbed_5 : decode cX2_rubbed 5 = .ok (.iconst 1, 1) := by decide +kernel
theorem dX2_rubbed_6 : decode cX2_rubbed 6 = .ok (.isub, 1) := by decide +kernel
theorem dX2_rubbed_7 : decode cX2_rubbed 7 = .ok (.iconst 0, 1) := by decide +kernel
theorem dX2_rubbed_8 : decode cX2_rubbed 8 = .ok (.invokestatic 46, 3) := by decide +kernel
theorem dX2_rubbed_11 : decode cX2_rubbed 11 = .ok (.anewarray 28, 3) := by decide +kernel
theorem dX2_rubbed_14 : decode cX2_rubbed 14 = .ok (.astore_n 2, 1) := by decide +kernel
theorem dX2_rubbed_15 : decode cX2_rubbed 15 = .ok (.iconst 0, 1) := by decide +kernel
theorem dX2_rubbed_16 : decode cX2_rubbed 16 = .ok (.istore_n 3, 1) := by decide +kernel
theorem dX2_rubbed_17 : decode cX2_rubbed 17 = .ok (.iload_n 3, 1) := by decide +kernel
theorem dX2_rubbed_18 : decode cX2_rubbed 18 = .ok (.aload_n 2, 1) := by decide +kernel
theorem dX2_rubbed_19 : decode cX2_rubbed 19 = .ok (.arraylength, 1) := by decide +kernel
theorem dX2_rubbed_20 : decode cX2_rubbed 20 = .ok (.if_icmp .ge 29, 3) := by decide +kernel
theorem dX2_rubbed_23 : decode cX2_rubbed 23 = .ok (.aload_n 2, 1) := by decide +kernel
theorem dX2_rubbed_24 : decode cX2_rubbed 24 = .ok (.iload_n 3, 1) := by decide +kernel
theorem dX2_rubbed_25 : decode cX2_rubbed 25 = .ok (.aload_n 0, 1) := by decide +kernel
theorem dX2_rubbed_26 : decode cX2_rubbed 26 = .ok (.getfield 19, 3) := by decide +kernel
theorem dX2_rubbed_29 : decode cX2_rubbed 29 = .ok (.iload_n 3, 1) := by decide +kernel
theorem dX2_rubbed_30 : decode cX2_rubbed 30 = .ok (.iload_n 1, 1) := by decide +kernel
theorem dX2_rubbed_31 : decode cX2_rubbed 31 = .ok (.if_icmp .ge 7, 3) := by decide +kernel
theorem dX2_rubbed_34 : decode cX2_rubbed 34 = .ok (.iload_n 3, 1) := by decide +kernel
theorem dX2_rubbed_35 : decode cX2_rubbed 35 = .ok (.goto 6, 3) := by decide +kernel
theorem dX2_rubbed_38 : decode cX2_rubbed 38 = .ok (.iload_n 3, 1) := by decide +kernel
theorem dX2_rubbed_39 : decode cX2_rubbed 39 = .ok (.iconst 1, 1) := by decide +kernel
theorem dX2_rubbed_40 : decode cX2_rubbed 40 = .ok (.iadd, 1) := by decide +kernel
theorem dX2_rubbed_41 : decode cX2_rubbed 41 = .ok (.aaload, 1) := by decide +kernel
theorem dX2_rubbed_42 : decode cX2_rubbed 42 = .ok (.aastore, 1) := by decide +kernel
theorem dX2_rubbed_43 : decode cX2_rubbed 43 = .ok (.iinc 3 1, 3) := by decide +kernel
theorem dX2_rubbed_46 : decode cX2_rubbed 46 = .ok (.goto (-29), 3) := by decide +kernel
theorem dX2_rubbed_49 : decode cX2_rubbed 49 = .ok (.new 10, 3) := by decide +kernel
theorem dX2_rubbed_52 : decode cX2_rubbed 52 = .ok (.dup, 1) := by decide +kernel
theorem dX2_rubbed_53 : decode cX2_rubbed 53 = .ok (.aload_n 0, 1) := by decide +kernel
theorem dX2_rubbed_54 : decode cX2_rubbed 54 = .ok (.getfield 9, 3) := by decide +kernel
theorem dX2_rubbed_57 : decode cX2_rubbed 57 = .ok (.aload_n 0, 1) := by decide +kernel
theorem dX2_rubbed_58 : decode cX2_rubbed 58 = .ok (.getfield 15, 3) := by decide +kernel
theorem dX2_rubbed_61 : decode cX2_rubbed 61 = .ok (.aload_n 2, 1) := by decide +kernel
theorem dX2_rubbed_62 : decode cX2_rubbed 62 = .ok (.aload_n 0, 1) := by decide +kernel
theorem dX2_rubbed_63 : decode cX2_rubbed 63 = .ok (.invokespecial 43, 3) := by decide +kernel
theorem dX2_rubbed_66 : decode cX2_rubbed 66 = .ok (.areturn, 1) := by decide +kernel
theorem dX2_turned_0 : decode cX2_turned 0 = .ok (.new 10, 3) := by decide +kernel
theorem dX2_turned_3 : decode cX2_turned 3 = .ok (.dup, 1) := by decide +kernel
theorem dX2_turned_4 : decode cX2_turned 4 = .ok (.aload_n 0, 1) := by decide +kernel
theorem dX2_turned_5 : decode cX2_turned 5 = .ok (.getfield 9, 3) := by decide +kernel
theorem dX2_turned_8 : decode cX2_turned 8 = .ok (.iload_n 1, 1) := by decide +kernel
theorem dX2_turned_9 : decode cX2_turned 9 = .ok (.iadd, 1) := by decide +kernel
theorem dX2_turned_10 : decode cX2_turned 10 = .ok (.sipush 360, 3) := by decide +kernel
theorem dX2_turned_13 : decode cX2_turned 13 = .ok (.invokestatic 52, 3) := by decide +kernel
theorem dX2_turned_16 : decode cX2_turned 16 = .ok (.aload_n 0, 1) := by decide +kernel
theorem dX2_turned_17 : decode cX2_turned 17 = .ok (.getfield 15, 3) := by decide +kernel
theorem dX2_turned_20 : decode cX2_turned 20 = .ok (.aload_n 0, 1) := by decide +kernel
theorem dX2_turned_21 : decode cX2_turned 21 = .ok (.getfield 19, 3) := by decide +kernel
theorem dX2_turned_24 : decode cX2_turned 24 = .ok (.aload_n 0, 1) := by decide +kernel
theorem dX2_turned_25 : decode cX2_turned 25 = .ok (.invokespecial 43, 3) := by decide +kernel
theorem dX2_turned_28 : decode cX2_turned 28 = .ok (.areturn, 1) := by decide +kernel
theorem dX2_filled_0 : decode cX2_filled 0 = .ok (.aload_n 0, 1) := by decide +kernel
theorem dX2_filled_1 : decode cX2_filled 1 = .ok (.iload_n 1, 1) := by decide +kernel
theorem dX2_filled_2 : decode cX2_filled 2 = .ok (.aload_n 0, 1) := by decide +kernel
theorem dX2_filled_3 : decode cX2_filled 3 = .ok (.iload_n 1, 1) := by decide +kernel
theorem dX2_filled_4 : decode cX2_filled 4 = .ok (.invokevirtual 35, 3) := by decide +kernel
theorem dX2_filled_7 : decode cX2_filled 7 = .ok (.iload_n 2, 1) := by decide +kernel
theorem dX2_filled_8 : decode cX2_filled 8 = .ok (.iadd, 1) := by decide +kernel
theorem dX2_filled_9 : decode cX2_filled 9 = .ok (.sipush 999, 3) := by decide +kernel
theorem dX2_filled_12 : decode cX2_filled 12 = .ok (.invokestatic 55, 3) := by decide +kernel
theorem dX2_filled_15 : decode cX2_filled 15 = .ok (.invokevirtual 39, 3) := by decide +kernel
theorem dX2_filled_18 : decode cX2_filled 18 = .ok (.astore_n 3, 1) := by decide +kernel
theorem dX2_filled_19 : decode cX2_filled 19 = .ok (.new 10, 3) := by decide +kernel
theorem dX2_filled_22 : decode cX2_filled 22 = .ok (.dup, 1) := by decide +kernel
theorem dX2_filled_23 : decode cX2_filled 23 = .ok (.aload_n 0, 1) := by decide +kernel
theorem dX2_filled_24 : decode cX2_filled 24 = .ok (.getfield 9, 3) := by decide +kernel
theorem dX2_filled_27 : decode cX2_filled 27 = .ok (.aload_n 3, 1) := by decide +kernel
theorem dX2_filled_28 : decode cX2_filled 28 = .ok (.aload_n 0, 1) := by decide +kernel
theorem dX2_filled_29 : decode cX2_filled 29 = .ok (.getfield 19, 3) := by decide +kernel
theorem dX2_filled_32 : decode cX2_filled 32 = .ok (.aload_n 0, 1) := by decide +kernel
theorem dX2_filled_33 : decode cX2_filled 33 = .ok (.invokespecial 43, 3) := by decide +kernel
theorem dX2_filled_36 : decode cX2_filled 36 = .ok (.areturn, 1) := by decide +kernel
theorem dX2_inkWith_0 : decode cX2_inkWith 0 = .ok (.aload_n 0, 1) := by decide +kernel
theorem dX2_inkWith_1 : decode cX2_inkWith 1 = .ok (.getfield 15, 3) := by decide +kernel
theorem dX2_inkWith_4 : decode cX2_inkWith 4 = .ok (.invokevirtual 58, 3) := by decide +kernel
theorem dX2_inkWith_7 : decode cX2_inkWith 7 = .ok (.checkcast 59, 3) := by decide +kernel
theorem dX2_inkWith_10 : decode cX2_inkWith 10 = .ok (.astore_n 3, 1) := by decide +kernel
theorem dX2_inkWith_11 : decode cX2_inkWith 11 = .ok (.iload_n 1, 1) := by decide +kernel
theorem dX2_inkWith_12 : decode cX2_inkWith 12 = .ok (.ifCond .lt 13, 3) := by decide +kernel
theorem dX2_inkWith_15 : decode cX2_inkWith 15 = .ok (.iload_n 1, 1) := by decide +kernel
theorem dX2_inkWith_16 : decode cX2_inkWith 16 = .ok (.aload_n 3, 1) := by decide +kernel
theorem dX2_inkWith_17 : decode cX2_inkWith 17 = .ok (.arraylength, 1) := by decide +kernel
theorem dX2_inkWith_18 : decode cX2_inkWith 18 = .ok (.if_icmp .ge 7, 3) := by decide +kernel
theorem dX2_inkWith_21 : decode cX2_inkWith 21 = .ok (.aload_n 3, 1) := by decide +kernel
theorem dX2_inkWith_22 : decode cX2_inkWith 22 = .ok (.iload_n 1, 1) := by decide +kernel
theorem dX2_inkWith_23 : decode cX2_inkWith 23 = .ok (.iload_n 2, 1) := by decide +kernel
theorem dX2_inkWith_24 : decode cX2_inkWith 24 = .ok (.iastore, 1) := by decide +kernel
theorem dX2_inkWith_25 : decode cX2_inkWith 25 = .ok (.aload_n 3, 1) := by decide +kernel
theorem dX2_inkWith_26 : decode cX2_inkWith 26 = .ok (.areturn, 1) := by decide +kernel
theorem dX3_init_0 : decode cX3_init 0 = .ok (.aload_n 0, 1) := by decide +kernel
theorem dX3_init_1 : decode cX3_init 1 = .ok (.invokespecial 3, 3) := by decide +kernel
theorem dX3_init_4 : decode cX3_init 4 = .ok (.aload_n 0, 1) := by decide +kernel
theorem dX3_init_5 : decode cX3_init 5 = .ok (.bipush 6, 2) := by decide +kernel
theorem dX3_init_7 : decode cX3_init 7 = .ok (.newarray .int, 2) := by decide +kernel
theorem dX3_init_9 : decode cX3_init 9 = .ok (.putfield 9, 3) := by decide +kernel
theorem dX3_init_12 : decode cX3_init 12 = .ok (.aload_n 0, 1) := by decide +kernel
theorem dX3_init_13 : decode cX3_init 13 = .ok (.bipush 6, 2) := by decide +kernel
theorem dX3_init_15 : decode cX3_init 15 = .ok (.newarray .boolean, 2) := by decide +kernel
theorem dX3_init_17 : decode cX3_init 17 = .ok (.putfield 15, 3) := by decide +kernel
theorem dX3_init_20 : decode cX3_init 20 = .ok (.aload_n 0, 1) := by decide +kernel
theorem dX3_init_21 : decode cX3_init 21 = .ok (.iconst 0, 1) := by decide +kernel
theorem dX3_init_22 : decode cX3_init 22 = .ok (.putfield 19, 3) := by decide +kernel
theorem dX3_init_25 : decode cX3_init 25 = .ok (.return_, 1) := by decide +kernel
theorem dX3_adds_0 : decode cX3_adds 0 = .ok (.aload_n 0, 1) := by decide +kernel
theorem dX3_adds_1 : decode cX3_adds 1 = .ok (.getfield 19, 3) := by decide +kernel
theorem dX3_adds_4 : decode cX3_adds 4 = .ok (.bipush 6, 2) := by decide +kernel
theorem dX3_adds_6 : decode cX3_adds 6 = .ok (.if_icmp .lt 5, 3) := by decide +kernel
theorem dX3_adds_9 : decode cX3_adds 9 = .ok (.iconst 0, 1) := by decide +kernel
theorem dX3_adds_10 : decode cX3_adds 10 = .ok (.ireturn, 1) := by decide +kernel
theorem dX3_adds_11 : decode cX3_adds 11 = .ok (.aload_n 0, 1) := by decide +kernel
theorem dX3_adds_12 : decode cX3_adds 12 = .ok (.getfield 9, 3) := by decide +kernel
theorem dX3_adds_15 : decode cX3_adds 15 = .ok (.aload_n 0, 1) := by decide +kernel
theorem dX3_adds_16 : decode cX3_adds 16 = .ok (.getfield 19, 3) := by decide +kernel
theorem dX3_adds_19 : decode cX3_adds 19 = .ok (.iload_n 1, 1) := by decide +kernel
theorem dX3_adds_20 : decode cX3_adds 20 = .ok (.iastore, 1) := by decide +kernel
theorem dX3_adds_21 : decode cX3_adds 21 = .ok (.aload_n 0, 1) := by decide +kernel
theorem dX3_adds_22 : decode cX3_adds 22 = .ok (.getfield 15, 3) := by decide +kernel
theorem dX3_adds_25 : decode cX3_adds 25 = .ok (.aload_n 0, 1) := by decide +kernel
theorem dX3_adds_26 : decode cX3_adds 26 = .ok (.getfield 19, 3) := by decide +kernel
theorem dX3_adds_29 : decode cX3_adds 29 = .ok (.iload_n 2, 1) := by decide +kernel
theorem dX3_adds_30 : decode cX3_adds 30 = .ok (.bastore, 1) := by decide +kernel
theorem dX3_adds_31 : decode cX3_adds 31 = .ok (.aload_n 0, 1) := by decide +kernel
theorem dX3_adds_32 : decode cX3_adds 32 = .ok (.dup, 1) := by decide +kernel
theorem dX3_adds_33 : decode cX3_adds 33 = .ok (.getfield 19, 3) := by decide +kernel
theorem dX3_adds_36 : decode cX3_adds 36 = .ok (.iconst 1, 1) := by decide +kernel
theorem dX3_adds_37 : decode cX3_adds 37 = .ok (.iadd, 1) := by decide +kernel
theorem dX3_adds_38 : decode cX3_adds 38 = .ok (.putfield 19, 3) := by decide +kernel
theorem dX3_adds_41 : decode cX3_adds 41 = .ok (.iconst 1, 1) := by decide +kernel
theorem dX3_adds_42 : decode cX3_adds 42 = .ok (.ireturn, 1) := by decide +kernel
theorem dX3_empties_0 : decode cX3_empties 0 = .ok (.aload_n 0, 1) := by decide +kernel
theorem dX3_empties_1 : decode cX3_empties 1 = .ok (.getfield 19, 3) := by decide +kernel
theorem dX3_empties_4 : decode cX3_empties 4 = .ok (.istore_n 1, 1) := by decide +kernel
theorem dX3_empties_5 : decode cX3_empties 5 = .ok (.aload_n 0, 1) := by decide +kernel
theorem dX3_empties_6 : decode cX3_empties 6 = .ok (.iconst 0, 1) := by decide +kernel
theorem dX3_empties_7 : decode cX3_empties 7 = .ok (.putfield 19, 3) := by decide +kernel
theorem dX3_empties_10 : decode cX3_empties 10 = .ok (.iload_n 1, 1) := by decide +kernel
theorem dX3_empties_11 : decode cX3_empties 11 = .ok (.ireturn, 1) := by decide +kernel
theorem dX3_agree_0 : decode cX3_agree 0 = .ok (.iconst 0, 1) := by decide +kernel
theorem dX3_agree_1 : decode cX3_agree 1 = .ok (.istore 4, 2) := by decide +kernel
theorem dX3_agree_3 : decode cX3_agree 3 = .ok (.iload 4, 2) := by decide +kernel
theorem dX3_agree_5 : decode cX3_agree 5 = .ok (.aload_n 0, 1) := by decide +kernel
theorem dX3_agree_6 : decode cX3_agree 6 = .ok (.getfield 19, 3) := by decide +kernel
theorem dX3_agree_9 : decode cX3_agree 9 = .ok (.if_icmp .ge 57, 3) := by decide +kernel
theorem dX3_agree_12 : decode cX3_agree 12 = .ok (.aload_n 0, 1) := by decide +kernel
theorem dX3_agree_13 : decode cX3_agree 13 = .ok (.getfield 9, 3) := by decide +kernel
theorem dX3_agree_16 : decode cX3_agree 16 = .ok (.iload 4, 2) := by decide +kernel
theorem dX3_agree_18 : decode cX3_agree 18 = .ok (.iaload, 1) := by decide +kernel
theorem dX3_agree_19 : decode cX3_agree 19 = .ok (.iload_n 1, 1) := by decide +kernel
theorem dX3_agree_20 : decode cX3_agree 20 = .ok (.if_icmp .ge 23, 3) := by decide +kernel
theorem dX3_agree_23 : decode cX3_agree 23 = .ok (.aload_n 0, 1) := by decide +kernel
theorem dX3_agree_24 : decode cX3_agree 24 = .ok (.getfield 9, 3) := by decide +kernel
theorem dX3_agree_27 : decode cX3_agree 27 = .ok (.iload 4, 2) := by decide +kernel
theorem dX3_agree_29 : decode cX3_agree 29 = .ok (.iaload, 1) := by decide +kernel
theorem dX3_agree_30 : decode cX3_agree 30 = .ok (.iload_n 3, 1) := by decide +kernel
theorem dX3_agree_31 : decode cX3_agree 31 = .ok (.isub, 1) := by decide +kernel
theorem dX3_agree_32 : decode cX3_agree 32 = .ok (.iload_n 2, 1) := by decide +kernel
theorem dX3_agree_33 : decode cX3_agree 33 = .ok (.invokestatic 23, 3) := by decide +kernel
theorem dX3_agree_36 : decode cX3_agree 36 = .ok (.ifCond .ne 7, 3) := by decide +kernel
theorem dX3_agree_39 : decode cX3_agree 39 = .ok (.iconst 1, 1) := by decide +kernel
theorem dX3_agree_40 : decode cX3_agree 40 = .ok (.goto 4, 3) := by decide +kernel
theorem dX3_agree_43 : decode cX3_agree 43 = .ok (.iconst 0, 1) := by decide +kernel
theorem dX3_agree_44 : decode cX3_agree 44 = .ok (.istore 5, 2) := by decide +kernel
theorem dX3_agree_46 : decode cX3_agree 46 = .ok (.iload 5, 2) := by decide +kernel
theorem dX3_agree_48 : decode cX3_agree 48 = .ok (.aload_n 0, 1) := by decide +kernel
theorem dX3_agree_49 : decode cX3_agree 49 = .ok (.getfield 15, 3) := by decide +kernel
theorem dX3_agree_52 : decode cX3_agree 52 = .ok (.iload 4, 2) := by decide +kernel
theorem dX3_agree_54 : decode cX3_agree 54 = .ok (.baload, 1) := by decide +kernel
theorem dX3_agree_55 : decode cX3_agree 55 = .ok (.if_icmp .eq 5, 3) := by decide +kernel
theorem dX3_agree_58 : decode cX3_agree 58 = .ok (.iconst 0, 1) := by decide +kernel
theorem dX3_agree_59 : decode cX3_agree 59 = .ok (.ireturn, 1) := by decide +kernel
theorem dX3_agree_60 : decode cX3_agree 60 = .ok (.iinc 4 1, 3) := by decide +kernel
theorem dX3_agree_63 : decode cX3_agree 63 = .ok (.goto (-60), 3) := by decide +kernel
theorem dX3_agree_66 : decode cX3_agree 66 = .ok (.iconst 1, 1) := by decide +kernel
theorem dX3_agree_67 : decode cX3_agree 67 = .ok (.ireturn, 1) := by decide +kernel
theorem dX3_startsAgreeing_0 : decode cX3_startsAgreeing 0 = .ok (.iconst 0, 1) := by decide +kernel
theorem dX3_startsAgreeing_1 : decode cX3_startsAgreeing 1 = .ok (.istore_n 3, 1) := by decide +kernel
theorem dX3_startsAgreeing_2 : decode cX3_startsAgreeing 2 = .ok (.iconst 0, 1) := by decide +kernel
theorem dX3_startsAgreeing_3 : decode cX3_startsAgreeing 3 = .ok (.istore 4, 2) := by decide +kernel
theorem dX3_startsAgreeing_5 : decode cX3_startsAgreeing 5 = .ok (.iload 4, 2) := by decide +kernel
theorem dX3_startsAgreeing_7 : decode cX3_startsAgreeing 7 = .ok (.iload_n 2, 1) := by decide +kernel
theorem dX3_startsAgreeing_8 : decode cX3_startsAgreeing 8 = .ok (.if_icmp .ge 23, 3) := by decide +kernel
theorem dX3_startsAgreeing_11 : decode cX3_startsAgreeing 11 = .ok (.aload_n 0, 1) := by decide +kernel
theorem dX3_startsAgreeing_12 : decode cX3_startsAgreeing 12 = .ok (.iload_n 1, 1) := by decide +kernel
theorem dX3_startsAgreeing_13 : decode cX3_startsAgreeing 13 = .ok (.iload_n 2, 1) := by decide +kernel
theorem dX3_startsAgreeing_14 : decode cX3_startsAgreeing 14 = .ok (.iload 4, 2) := by decide +kernel
theorem dX3_startsAgreeing_16 : decode cX3_startsAgreeing 16 = .ok (.invokevirtual 27, 3) := by decide +kernel
theorem dX3_startsAgreeing_19 : decode cX3_startsAgreeing 19 = .ok (.ifCond .eq 6, 3) := by decide +kernel
theorem dX3_startsAgreeing_22 : decode cX3_startsAgreeing 22 = .ok (.iinc 3 1, 3) := by decide +kernel
theorem dX3_startsAgreeing_25 : decode cX3_startsAgreeing 25 = .ok (.iinc 4 1, 3) := by decide +kernel
theorem dX3_startsAgreeing_28 : decode cX3_startsAgreeing 28 = .ok (.goto (-23), 3) := by decide +kernel
theorem dX3_startsAgreeing_31 : decode cX3_startsAgreeing 31 = .ok (.iload_n 3, 1) := by decide +kernel
theorem dX3_startsAgreeing_32 : decode cX3_startsAgreeing 32 = .ok (.ireturn, 1) := by decide +kernel
theorem dX3_firstAgreeing_0 : decode cX3_firstAgreeing 0 = .ok (.iconst 0, 1) := by decide +kernel
theorem dX3_firstAgreeing_1 : decode cX3_firstAgreeing 1 = .ok (.istore_n 3, 1) := by decide +kernel
theorem dX3_firstAgreeing_2 : decode cX3_firstAgreeing 2 = .ok (.iload_n 3, 1) := by decide +kernel
theorem dX3_firstAgreeing_3 : decode cX3_firstAgreeing 3 = .ok (.iload_n 2, 1) := by decide +kernel
theorem dX3_firstAgreeing_4 : decode cX3_firstAgreeing 4 = .ok (.if_icmp .ge 21, 3) := by decide +kernel
theorem dX3_firstAgreeing_7 : decode cX3_firstAgreeing 7 = .ok (.aload_n 0, 1) := by decide +kernel
theorem dX3_firstAgreeing_8 : decode cX3_firstAgreeing 8 = .ok (.iload_n 1, 1) := by decide +kernel
theorem dX3_firstAgreeing_9 : decode cX3_firstAgreeing 9 = .ok (.iload_n 2, 1) := by decide +kernel
theorem dX3_firstAgreeing_10 : decode cX3_firstAgreeing 10 = .ok (.iload_n 3, 1) := by decide +kernel
theorem dX3_firstAgreeing_11 : decode cX3_firstAgreeing 11 = .ok (.invokevirtual 27, 3) := by decide +kernel
theorem dX3_firstAgreeing_14 : decode cX3_firstAgreeing 14 = .ok (.ifCond .eq 5, 3) := by decide +kernel
theorem dX3_firstAgreeing_17 : decode cX3_firstAgreeing 17 = .ok (.iload_n 3, 1) := by decide +kernel
theorem dX3_firstAgreeing_18 : decode cX3_firstAgreeing 18 = .ok (.ireturn, 1) := by decide +kernel
theorem dX3_firstAgreeing_19 : decode cX3_firstAgreeing 19 = .ok (.iinc 3 1, 3) := by decide +kernel
theorem dX3_firstAgreeing_22 : decode cX3_firstAgreeing 22 = .ok (.goto (-20), 3) := by decide +kernel
theorem dX3_firstAgreeing_25 : decode cX3_firstAgreeing 25 = .ok (.bipush (-9), 2) := by decide +kernel
theorem dX3_firstAgreeing_27 : decode cX3_firstAgreeing 27 = .ok (.ireturn, 1) := by decide +kernel
theorem dX4_init_0 : decode cX4_init 0 = .ok (.aload_n 0, 1) := by decide +kernel
theorem dX4_init_1 : decode cX4_init 1 = .ok (.invokespecial 3, 3) := by decide +kernel
theorem dX4_init_4 : decode cX4_init 4 = .ok (.aload_n 0, 1) := by decide +kernel
theorem dX4_init_5 : decode cX4_init 5 = .ok (.bipush 100, 2) := by decide +kernel
theorem dX4_init_7 : decode cX4_init 7 = .ok (.newarray .int, 2) := by decide +kernel
theorem dX4_init_9 : decode cX4_init 9 = .ok (.putfield 9, 3) := by decide +kernel
theorem dX4_init_12 : decode cX4_init 12 = .ok (.aload_n 0, 1) := by decide +kernel
theorem dX4_init_13 : decode cX4_init 13 = .ok (.iconst 0, 1) := by decide +kernel
theorem dX4_init_14 : decode cX4_init 14 = .ok (.putfield 15, 3) := by decide +kernel
theorem dX4_init_17 : decode cX4_init 17 = .ok (.aload_n 0, 1) := by decide +kernel
theorem dX4_init_18 : decode cX4_init 18 = .ok (.iconst 0, 1) := by decide +kernel
theorem dX4_init_19 : decode cX4_init 19 = .ok (.putfield 19, 3) := by decide +kernel
theorem dX4_init_22 : decode cX4_init 22 = .ok (.aload_n 0, 1) := by decide +kernel
theorem dX4_init_23 : decode cX4_init 23 = .ok (.iconst 0, 1) := by decide +kernel
theorem dX4_init_24 : decode cX4_init 24 = .ok (.putfield 22, 3) := by decide +kernel
theorem dX4_init_27 : decode cX4_init 27 = .ok (.aload_n 0, 1) := by decide +kernel
theorem dX4_init_28 : decode cX4_init 28 = .ok (.iconst 0, 1) := by decide +kernel
theorem dX4_init_29 : decode cX4_init 29 = .ok (.putfield 25, 3) := by decide +kernel
theorem dX4_init_32 : decode cX4_init 32 = .ok (.aload_n 0, 1) := by decide +kernel
theorem dX4_init_33 : decode cX4_init 33 = .ok (.iconst 0, 1) := by decide +kernel
theorem dX4_init_34 : decode cX4_init 34 = .ok (.putfield 28, 3) := by decide +kernel
theorem dX4_init_37 : decode cX4_init 37 = .ok (.return_, 1) := by decide +kernel
theorem dX4_adds_0 : decode cX4_adds 0 = .ok (.aload_n 0, 1) := by decide +kernel
theorem dX4_adds_1 : decode cX4_adds 1 = .ok (.getfield 15, 3) := by decide +kernel
theorem dX4_adds_4 : decode cX4_adds 4 = .ok (.bipush 100, 2) := by decide +kernel
theorem dX4_adds_6 : decode cX4_adds 6 = .ok (.if_icmp .lt 5, 3) := by decide +kernel
theorem dX4_adds_9 : decode cX4_adds 9 = .ok (.iconst 0, 1) := by decide +kernel
theorem dX4_adds_10 : decode cX4_adds 10 = .ok (.ireturn, 1) := by decide +kernel
theorem dX4_adds_11 : decode cX4_adds 11 = .ok (.aload_n 0, 1) := by decide +kernel
theorem dX4_adds_12 : decode cX4_adds 12 = .ok (.getfield 9, 3) := by decide +kernel
theorem dX4_adds_15 : decode cX4_adds 15 = .ok (.aload_n 0, 1) := by decide +kernel
theorem dX4_adds_16 : decode cX4_adds 16 = .ok (.getfield 15, 3) := by decide +kernel
theorem dX4_adds_19 : decode cX4_adds 19 = .ok (.iload_n 1, 1) := by decide +kernel
theorem dX4_adds_20 : decode cX4_adds 20 = .ok (.iastore, 1) := by decide +kernel
theorem dX4_adds_21 : decode cX4_adds 21 = .ok (.aload_n 0, 1) := by decide +kernel
theorem dX4_adds_22 : decode cX4_adds 22 = .ok (.dup, 1) := by decide +kernel
theorem dX4_adds_23 : decode cX4_adds 23 = .ok (.getfield 15, 3) := by decide +kernel
theorem dX4_adds_26 : decode cX4_adds 26 = .ok (.iconst 1, 1) := by decide +kernel
theorem dX4_adds_27 : decode cX4_adds 27 = .ok (.iadd, 1) := by decide +kernel
theorem dX4_adds_28 : decode cX4_adds 28 = .ok (.putfield 15, 3) := by decide +kernel
theorem dX4_adds_31 : decode cX4_adds 31 = .ok (.iconst 1, 1) := by decide +kernel
theorem dX4_adds_32 : decode cX4_adds 32 = .ok (.ireturn, 1) := by decide +kernel
theorem dX4_empties_0 : decode cX4_empties 0 = .ok (.aload_n 0, 1) := by decide +kernel
theorem dX4_empties_1 : decode cX4_empties 1 = .ok (.getfield 15, 3) := by decide +kernel
theorem dX4_empties_4 : decode cX4_empties 4 = .ok (.istore_n 1, 1) := by decide +kernel
theorem dX4_empties_5 : decode cX4_empties 5 = .ok (.aload_n 0, 1) := by decide +kernel
theorem dX4_empties_6 : decode cX4_empties 6 = .ok (.iconst 0, 1) := by decide +kernel
theorem dX4_empties_7 : decode cX4_empties 7 = .ok (.putfield 15, 3) := by decide +kernel
theorem dX4_empties_10 : decode cX4_empties 10 = .ok (.iload_n 1, 1) := by decide +kernel
theorem dX4_empties_11 : decode cX4_empties 11 = .ok (.ireturn, 1) := by decide +kernel
theorem dX4_faultIn_0 : decode cX4_faultIn 0 = .ok (.aload_n 0, 1) := by decide +kernel
theorem dX4_faultIn_1 : decode cX4_faultIn 1 = .ok (.iconst 0, 1) := by decide +kernel
theorem dX4_faultIn_2 : decode cX4_faultIn 2 = .ok (.putfield 22, 3) := by decide +kernel
theorem dX4_faultIn_5 : decode cX4_faultIn 5 = .ok (.aload_n 0, 1) := by decide +kernel
theorem dX4_faultIn_6 : decode cX4_faultIn 6 = .ok (.invokevirtual 31, 3) := by decide +kernel
theorem dX4_faultIn_9 : decode cX4_faultIn 9 = .ok (.iconst 0, 1) := by decide +kernel
theorem dX4_faultIn_10 : decode cX4_faultIn 10 = .ok (.istore_n 2, 1) := by decide +kernel
theorem dX4_faultIn_11 : decode cX4_faultIn 11 = .ok (.iload_n 2, 1) := by decide +kernel
theorem dX4_faultIn_12 : decode cX4_faultIn 12 = .ok (.bipush 100, 2) := by decide +kernel
theorem dX4_faultIn_14 : decode cX4_faultIn 14 = .ok (.if_icmp .gt 92, 3) := by decide +kernel
theorem dX4_faultIn_17 : decode cX4_faultIn 17 = .ok (.aload_n 0, 1) := by decide +kernel
theorem dX4_faultIn_18 : decode cX4_faultIn 18 = .ok (.getfield 25, 3) := by decide +kernel
theorem dX4_faultIn_21 : decode cX4_faultIn 21 = .ok (.ifCond .eq 85, 3) := by decide +kernel
theorem dX4_faultIn_24 : decode cX4_faultIn 24 = .ok (.aload_n 0, 1) := by decide +kernel
theorem dX4_faultIn_25 : decode cX4_faultIn 25 = .ok (.getfield 28, 3) := by decide +kernel
theorem dX4_faultIn_28 : decode cX4_faultIn 28 = .ok (.istore_n 3, 1) := by decide +kernel
theorem dX4_faultIn_29 : decode cX4_faultIn 29 = .ok (.aload_n 0, 1) := by decide +kernel
theorem dX4_faultIn_30 : decode cX4_faultIn 30 = .ok (.getfield 25, 3) := by decide +kernel
theorem dX4_faultIn_33 : decode cX4_faultIn 33 = .ok (.iconst 1, 1) := by decide +kernel
theorem dX4_faultIn_34 : decode cX4_faultIn 34 = .ok (.if_icmp .ne 11, 3) := by decide +kernel
theorem dX4_faultIn_37 : decode cX4_faultIn 37 = .ok (.aload_n 1, 1) := by decide +kernel
theorem dX4_faultIn_38 : decode cX4_faultIn 38 = .ok (.iload_n 3, 1) := by decide +kernel
theorem dX4_faultIn_39 : decode cX4_faultIn 39 = .ok (.invokevirtual 34, 3) := by decide +kernel
theorem dX4_faultIn_42 : decode cX4_faultIn 42 = .ok (.ifCond .ne 8, 3) := by decide +kernel
theorem dX4_faultIn_45 : decode cX4_faultIn 45 = .ok (.aload_n 0, 1) := by decide +kernel
theorem dX4_faultIn_46 : decode cX4_faultIn 46 = .ok (.getfield 19, 3) := by decide +kernel
theorem dX4_faultIn_49 : decode cX4_faultIn 49 = .ok (.ireturn, 1) := by decide +kernel
theorem dX4_faultIn_50 : decode cX4_faultIn 50 = .ok (.aload_n 0, 1) := by decide +kernel
theorem dX4_faultIn_51 : decode cX4_faultIn 51 = .ok (.invokevirtual 31, 3) := by decide +kernel
theorem dX4_faultIn_54 : decode cX4_faultIn 54 = .ok (.aload_n 0, 1) := by decide +kernel
theorem dX4_faultIn_55 : decode cX4_faultIn 55 = .ok (.getfield 25, 3) := by decide +kernel
theorem dX4_faultIn_58 : decode cX4_faultIn 58 = .ok (.iconst 2, 1) := by decide +kernel
theorem dX4_faultIn_59 : decode cX4_faultIn 59 = .ok (.if_icmp .ne 15, 3) := by decide +kernel
theorem dX4_faultIn_62 : decode cX4_faultIn 62 = .ok (.aload_n 1, 1) := by decide +kernel
theorem dX4_faultIn_63 : decode cX4_faultIn 63 = .ok (.iload_n 3, 1) := by decide +kernel
theorem dX4_faultIn_64 : decode cX4_faultIn 64 = .ok (.aload_n 0, 1) := by decide +kernel
theorem dX4_faultIn_65 : decode cX4_faultIn 65 = .ok (.getfield 28, 3) := by decide +kernel
theorem dX4_faultIn_68 : decode cX4_faultIn 68 = .ok (.invokevirtual 40, 3) := by decide +kernel
theorem dX4_faultIn_71 : decode cX4_faultIn 71 = .ok (.ifCond .ne 8, 3) := by decide +kernel
theorem dX4_faultIn_74 : decode cX4_faultIn 74 = .ok (.aload_n 0, 1) := by decide +kernel
theorem dX4_faultIn_75 : decode cX4_faultIn 75 = .ok (.getfield 19, 3) := by decide +kernel
theorem dX4_faultIn_78 : decode cX4_faultIn 78 = .ok (.ireturn, 1) := by decide +kernel
theorem dX4_faultIn_79 : decode cX4_faultIn 79 = .ok (.aload_n 0, 1) := by decide +kernel
theorem dX4_faultIn_80 : decode cX4_faultIn 80 = .ok (.invokevirtual 31, 3) := by decide +kernel
theorem dX4_faultIn_83 : decode cX4_faultIn 83 = .ok (.aload_n 0, 1) := by decide +kernel
theorem dX4_faultIn_84 : decode cX4_faultIn 84 = .ok (.getfield 25, 3) := by decide +kernel
theorem dX4_faultIn_87 : decode cX4_faultIn 87 = .ok (.iconst 3, 1) := by decide +kernel
theorem dX4_faultIn_88 : decode cX4_faultIn 88 = .ok (.if_icmp .eq 8, 3) := by decide +kernel
theorem dX4_faultIn_91 : decode cX4_faultIn 91 = .ok (.aload_n 0, 1) := by decide +kernel
theorem dX4_faultIn_92 : decode cX4_faultIn 92 = .ok (.getfield 19, 3) := by decide +kernel
theorem dX4_faultIn_95 : decode cX4_faultIn 95 = .ok (.ireturn, 1) := by decide +kernel
theorem dX4_faultIn_96 : decode cX4_faultIn 96 = .ok (.aload_n 0, 1) := by decide +kernel
theorem dX4_faultIn_97 : decode cX4_faultIn 97 = .ok (.invokevirtual 31, 3) := by decide +kernel
theorem dX4_faultIn_100 : decode cX4_faultIn 100 = .ok (.iinc 2 1, 3) := by decide +kernel
theorem dX4_faultIn_103 : decode cX4_faultIn 103 = .ok (.goto (-92), 3) := by decide +kernel
theorem dX4_faultIn_106 : decode cX4_faultIn 106 = .ok (.iconst (-1), 1) := by decide +kernel
theorem dX4_faultIn_107 : decode cX4_faultIn 107 = .ok (.ireturn, 1) := by decide +kernel
theorem dX4_readToken_0 : decode cX4_readToken 0 = .ok (.aload_n 0, 1) := by decide +kernel
theorem dX4_readToken_1 : decode cX4_readToken 1 = .ok (.getfield 22, 3) := by decide +kernel
theorem dX4_readToken_4 : decode cX4_readToken 4 = .ok (.aload_n 0, 1) := by decide +kernel
theorem dX4_readToken_5 : decode cX4_readToken 5 = .ok (.getfield 15, 3) := by decide +kernel
theorem dX4_readToken_8 : decode cX4_readToken 8 = .ok (.if_icmp .ge 29, 3) := by decide +kernel
theorem dX4_readToken_11 : decode cX4_readToken 11 = .ok (.aload_n 0, 1) := by decide +kernel
theorem dX4_readToken_12 : decode cX4_readToken 12 = .ok (.aload_n 0, 1) := by decide +kernel
theorem dX4_readToken_13 : decode cX4_readToken 13 = .ok (.getfield 22, 3) := by decide +kernel
theorem dX4_readToken_16 : decode cX4_readToken 16 = .ok (.invokevirtual 44, 3) := by decide +kernel
theorem dX4_readToken_19 : decode cX4_readToken 19 = .ok (.bipush 32, 2) := by decide +kernel
theorem dX4_readToken_21 : decode cX4_readToken 21 = .ok (.if_icmp .ne 16, 3) := by decide +kernel
theorem dX4_readToken_24 : decode cX4_readToken 24 = .ok (.aload_n 0, 1) := by decide +kernel
theorem dX4_readToken_25 : decode cX4_readToken 25 = .ok (.dup, 1) := by decide +kernel
theorem dX4_readToken_26 : decode cX4_readToken 26 = .ok (.getfield 22, 3) := by decide +kernel
theorem dX4_readToken_29 : decode cX4_readToken 29 = .ok (.iconst 1, 1) := by decide +kernel
theorem dX4_readToken_30 : decode cX4_readToken 30 = .ok (.iadd, 1) := by decide +kernel
theorem dX4_readToken_31 : decode cX4_readToken 31 = .ok (.putfield 22, 3) := by decide +kernel
theorem dX4_readToken_34 : decode cX4_readToken 34 = .ok (.goto (-34), 3) := by decide +kernel
theorem dX4_readToken_37 : decode cX4_readToken 37 = .ok (.aload_n 0, 1) := by decide +kernel
theorem dX4_readToken_38 : decode cX4_readToken 38 = .ok (.aload_n 0, 1) := by decide +kernel
theorem dX4_readToken_39 : decode cX4_readToken 39 = .ok (.getfield 22, 3) := by decide +kernel
theorem dX4_readToken_42 : decode cX4_readToken 42 = .ok (.putfield 19, 3) := by decide +kernel
theorem dX4_readToken_45 : decode cX4_readToken 45 = .ok (.aload_n 0, 1) := by decide +kernel
theorem dX4_readToken_46 : decode cX4_readToken 46 = .ok (.aload_n 0, 1) := by decide +kernel
theorem dX4_readToken_47 : decode cX4_readToken 47 = .ok (.getfield 19, 3) := by decide +kernel
theorem dX4_readToken_50 : decode cX4_readToken 50 = .ok (.invokevirtual 44, 3) := by decide +kernel
theorem dX4_readToken_53 : decode cX4_readToken 53 = .ok (.istore_n 1, 1) := by decide +kernel
theorem dX4_readToken_54 : decode cX4_readToken 54 = .ok (.aload_n 0, 1) := by decide +kernel
theorem dX4_readToken_55 : decode cX4_readToken 55 = .ok (.getfield 19, 3) := by decide +kernel
theorem dX4_readToken_58 : decode cX4_readToken 58 = .ok (.aload_n 0, 1) := by decide +kernel
theorem dX4_readToken_59 : decode cX4_readToken 59 = .ok (.getfield 15, 3) := by decide +kernel
theorem dX4_readToken_62 : decode cX4_readToken 62 = .ok (.if_icmp .lt 11, 3) := by decide +kernel
theorem dX4_readToken_65 : decode cX4_readToken 65 = .ok (.aload_n 0, 1) := by decide +kernel
theorem dX4_readToken_66 : decode cX4_readToken 66 = .ok (.iconst 0, 1) := by decide +kernel
theorem dX4_readToken_67 : decode cX4_readToken 67 = .ok (.putfield 25, 3) := by decide +kernel
theorem dX4_readToken_70 : decode cX4_readToken 70 = .ok (.goto 56, 3) := by decide +kernel
theorem dX4_readToken_73 : decode cX4_readToken 73 = .ok (.iload_n 1, 1) := by decide +kernel
theorem dX4_readToken_74 : decode cX4_readToken 74 = .ok (.invokestatic 48, 3) := by decide +kernel
theorem dX4_readToken_77 : decode cX4_readToken 77 = .ok (.ifCond .eq 10, 3) := by decide +kernel
theorem dX4_readToken_80 : decode cX4_readToken 80 = .ok (.aload_n 0, 1) := by decide +kernel
theorem dX4_readToken_81 : decode cX4_readToken 81 = .ok (.invokevirtual 51, 3) := by decide +kernel
theorem dX4_readToken_84 : decode cX4_readToken 84 = .ok (.goto 42, 3) := by decide +kernel
theorem dX4_readToken_87 : decode cX4_readToken 87 = .ok (.iload_n 1, 1) := by decide +kernel
theorem dX4_readToken_88 : decode cX4_readToken 88 = .ok (.invokestatic 54, 3) := by decide +kernel
theorem dX4_readToken_91 : decode cX4_readToken 91 = .ok (.ifCond .eq 10, 3) := by decide +kernel
theorem dX4_readToken_94 : decode cX4_readToken 94 = .ok (.aload_n 0, 1) := by decide +kernel
theorem dX4_readToken_95 : decode cX4_readToken 95 = .ok (.invokevirtual 57, 3) := by decide +kernel
theorem dX4_readToken_98 : decode cX4_readToken 98 = .ok (.goto 28, 3) := by decide +kernel
theorem dX4_readToken_101 : decode cX4_readToken 101 = .ok (.aload_n 0, 1) := by decide +kernel
theorem dX4_readToken_102 : decode cX4_readToken 102 = .ok (.iload_n 1, 1) := by decide +kernel
theorem dX4_readToken_103 : decode cX4_readToken 103 = .ok (.bipush 59, 2) := by decide +kernel
theorem dX4_readToken_105 : decode cX4_readToken 105 = .ok (.if_icmp .ne 7, 3) := by decide +kernel
theorem dX4_readToken_108 : decode cX4_readToken 108 = .ok (.iconst 3, 1) := by decide +kernel
theorem dX4_readToken_109 : decode cX4_readToken 109 = .ok (.goto 4, 3) := by decide +kernel
theorem dX4_readToken_112 : decode cX4_readToken 112 = .ok (.iconst 4, 1) := by decide +kernel
theorem dX4_readToken_113 : decode cX4_readToken 113 = .ok (.putfield 25, 3) := by decide +kernel
theorem dX4_readToken_116 : decode cX4_readToken 116 = .ok (.aload_n 0, 1) := by decide +kernel
theorem dX4_readToken_117 : decode cX4_readToken 117 = .ok (.dup, 1) := by decide +kernel
theorem dX4_readToken_118 : decode cX4_readToken 118 = .ok (.getfield 22, 3) := by decide +kernel
theorem dX4_readToken_121 : decode cX4_readToken 121 = .ok (.iconst 1, 1) := by decide +kernel
theorem dX4_readToken_122 : decode cX4_readToken 122 = .ok (.iadd, 1) := by decide +kernel
theorem dX4_readToken_123 : decode cX4_readToken 123 = .ok (.putfield 22, 3) := by decide +kernel
theorem dX4_readToken_126 : decode cX4_readToken 126 = .ok (.return_, 1) := by decide +kernel
theorem dX4_readLetters_0 : decode cX4_readLetters 0 = .ok (.aload_n 0, 1) := by decide +kernel
theorem dX4_readLetters_1 : decode cX4_readLetters 1 = .ok (.getfield 22, 3) := by decide +kernel
theorem dX4_readLetters_4 : decode cX4_readLetters 4 = .ok (.aload_n 0, 1) := by decide +kernel
theorem dX4_readLetters_5 : decode cX4_readLetters 5 = .ok (.getfield 15, 3) := by decide +kernel
theorem dX4_readLetters_8 : decode cX4_readLetters 8 = .ok (.if_icmp .ge 30, 3) := by decide +kernel
theorem dX4_readLetters_11 : decode cX4_readLetters 11 = .ok (.aload_n 0, 1) := by decide +kernel
theorem dX4_readLetters_12 : decode cX4_readLetters 12 = .ok (.aload_n 0, 1) := by decide +kernel
theorem dX4_readLetters_13 : decode cX4_readLetters 13 = .ok (.getfield 22, 3) := by decide +kernel
theorem dX4_readLetters_16 : decode cX4_readLetters 16 = .ok (.invokevirtual 44, 3) := by decide +kernel
theorem dX4_readLetters_19 : decode cX4_readLetters 19 = .ok (.invokestatic 48, 3) := by decide +kernel
theorem dX4_readLetters_22 : decode cX4_readLetters 22 = .ok (.ifCond .eq 16, 3) := by decide +kernel
theorem dX4_readLetters_25 : decode cX4_readLetters 25 = .ok (.aload_n 0, 1) := by decide +kernel
theorem dX4_readLetters_26 : decode cX4_readLetters 26 = .ok (.dup, 1) := by decide +kernel
theorem dX4_readLetters_27 : decode cX4_readLetters 27 = .ok (.getfield 22, 3) := by decide +kernel
theorem dX4_readLetters_30 : decode cX4_readLetters 30 = .ok (.iconst 1, 1) := by decide +kernel
theorem dX4_readLetters_31 : decode cX4_readLetters 31 = .ok (.iadd, 1) := by decide +kernel
theorem dX4_readLetters_32 : decode cX4_readLetters 32 = .ok (.putfield 22, 3) := by decide +kernel
theorem dX4_readLetters_35 : decode cX4_readLetters 35 = .ok (.goto (-35), 3) := by decide +kernel
theorem dX4_readLetters_38 : decode cX4_readLetters 38 = .ok (.aload_n 0, 1) := by decide +kernel
theorem dX4_readLetters_39 : decode cX4_readLetters 39 = .ok (.iconst 1, 1) := by decide +kernel
theorem dX4_readLetters_40 : decode cX4_readLetters 40 = .ok (.putfield 25, 3) := by decide +kernel
theorem dX4_readLetters_43 : decode cX4_readLetters 43 = .ok (.aload_n 0, 1) := by decide +kernel
theorem dX4_readLetters_44 : decode cX4_readLetters 44 = .ok (.aload_n 0, 1) := by decide +kernel
theorem dX4_readLetters_45 : decode cX4_readLetters 45 = .ok (.getfield 22, 3) := by decide +kernel
theorem dX4_readLetters_48 : decode cX4_readLetters 48 = .ok (.aload_n 0, 1) := by decide +kernel
theorem dX4_readLetters_49 : decode cX4_readLetters 49 = .ok (.getfield 19, 3) := by decide +kernel
theorem dX4_readLetters_52 : decode cX4_readLetters 52 = .ok (.isub, 1) := by decide +kernel
theorem dX4_readLetters_53 : decode cX4_readLetters 53 = .ok (.iconst 1, 1) := by decide +kernel
theorem dX4_readLetters_54 : decode cX4_readLetters 54 = .ok (.if_icmp .ne 14, 3) := by decide +kernel
theorem dX4_readLetters_57 : decode cX4_readLetters 57 = .ok (.aload_n 0, 1) := by decide +kernel
theorem dX4_readLetters_58 : decode cX4_readLetters 58 = .ok (.aload_n 0, 1) := by decide +kernel
theorem dX4_readLetters_59 : decode cX4_readLetters 59 = .ok (.getfield 19, 3) := by decide +kernel
theorem dX4_readLetters_62 : decode cX4_readLetters 62 = .ok (.invokevirtual 44, 3) := by decide +kernel
theorem dX4_readLetters_65 : decode cX4_readLetters 65 = .ok (.goto 4, 3) := by decide +kernel
theorem dX4_readLetters_68 : decode cX4_readLetters 68 = .ok (.iconst 0, 1) := by decide +kernel
theorem dX4_readLetters_69 : decode cX4_readLetters 69 = .ok (.putfield 28, 3) := by decide +kernel
theorem dX4_readLetters_72 : decode cX4_readLetters 72 = .ok (.return_, 1) := by decide +kernel
theorem dX4_readNumber_0 : decode cX4_readNumber 0 = .ok (.aload_n 0, 1) := by decide +kernel
theorem dX4_readNumber_1 : decode cX4_readNumber 1 = .ok (.iconst 0, 1) := by decide +kernel
theorem dX4_readNumber_2 : decode cX4_readNumber 2 = .ok (.putfield 28, 3) := by decide +kernel
theorem dX4_readNumber_5 : decode cX4_readNumber 5 = .ok (.aload_n 0, 1) := by decide +kernel
theorem dX4_readNumber_6 : decode cX4_readNumber 6 = .ok (.getfield 22, 3) := by decide +kernel
theorem dX4_readNumber_9 : decode cX4_readNumber 9 = .ok (.aload_n 0, 1) := by decide +kernel
theorem dX4_readNumber_10 : decode cX4_readNumber 10 = .ok (.getfield 15, 3) := by decide +kernel
theorem dX4_readNumber_13 : decode cX4_readNumber 13 = .ok (.if_icmp .ge 59, 3) := by decide +kernel
theorem dX4_readNumber_16 : decode cX4_readNumber 16 = .ok (.aload_n 0, 1) := by decide +kernel
theorem dX4_readNumber_17 : decode cX4_readNumber 17 = .ok (.aload_n 0, 1) := by decide +kernel
theorem dX4_readNumber_18 : decode cX4_readNumber 18 = .ok (.getfield 22, 3) := by decide +kernel
theorem dX4_readNumber_21 : decode cX4_readNumber 21 = .ok (.invokevirtual 44, 3) := by decide +kernel
theorem dX4_readNumber_24 : decode cX4_readNumber 24 = .ok (.invokestatic 54, 3) := by decide +kernel
theorem dX4_readNumber_27 : decode cX4_readNumber 27 = .ok (.ifCond .eq 45, 3) := by decide +kernel
theorem dX4_readNumber_30 : decode cX4_readNumber 30 = .ok (.aload_n 0, 1) := by decide +kernel
theorem dX4_readNumber_31 : decode cX4_readNumber 31 = .ok (.bipush 10, 2) := by decide +kernel
theorem dX4_readNumber_33 : decode cX4_readNumber 33 = .ok (.aload_n 0, 1) := by decide +kernel
theorem dX4_readNumber_34 : decode cX4_readNumber 34 = .ok (.getfield 28, 3) := by decide +kernel
theorem dX4_readNumber_37 : decode cX4_readNumber 37 = .ok (.imul, 1) := by decide +kernel
theorem dX4_readNumber_38 : decode cX4_readNumber 38 = .ok (.aload_n 0, 1) := by decide +kernel
theorem dX4_readNumber_39 : decode cX4_readNumber 39 = .ok (.aload_n 0, 1) := by decide +kernel
theorem dX4_readNumber_40 : decode cX4_readNumber 40 = .ok (.getfield 22, 3) := by decide +kernel
theorem dX4_readNumber_43 : decode cX4_readNumber 43 = .ok (.invokevirtual 44, 3) := by decide +kernel
theorem dX4_readNumber_46 : decode cX4_readNumber 46 = .ok (.iadd, 1) := by decide +kernel
theorem dX4_readNumber_47 : decode cX4_readNumber 47 = .ok (.bipush 48, 2) := by decide +kernel
theorem dX4_readNumber_49 : decode cX4_readNumber 49 = .ok (.isub, 1) := by decide +kernel
theorem dX4_readNumber_50 : decode cX4_readNumber 50 = .ok (.sipush 1000, 3) := by decide +kernel
theorem dX4_readNumber_53 : decode cX4_readNumber 53 = .ok (.invokestatic 60, 3) := by decide +kernel
theorem dX4_readNumber_56 : decode cX4_readNumber 56 = .ok (.putfield 28, 3) := by decide +kernel
theorem dX4_readNumber_59 : decode cX4_readNumber 59 = .ok (.aload_n 0, 1) := by decide +kernel
theorem dX4_readNumber_60 : decode cX4_readNumber 60 = .ok (.dup, 1) := by decide +kernel
theorem dX4_readNumber_61 : decode cX4_readNumber 61 = .ok (.getfield 22, 3) := by decide +kernel
theorem dX4_readNumber_64 : decode cX4_readNumber 64 = .ok (.iconst 1, 1) := by decide +kernel
theorem dX4_readNumber_65 : decode cX4_readNumber 65 = .ok (.iadd, 1) := by decide +kernel
theorem dX4_readNumber_66 : decode cX4_readNumber 66 = .ok (.putfield 22, 3) := by decide +kernel
theorem dX4_readNumber_69 : decode cX4_readNumber 69 = .ok (.goto (-64), 3) := by decide +kernel
theorem dX4_readNumber_72 : decode cX4_readNumber 72 = .ok (.aload_n 0, 1) := by decide +kernel
theorem dX4_readNumber_73 : decode cX4_readNumber 73 = .ok (.aload_n 0, 1) := by decide +kernel
theorem dX4_readNumber_74 : decode cX4_readNumber 74 = .ok (.getfield 19, 3) := by decide +kernel
theorem dX4_readNumber_77 : decode cX4_readNumber 77 = .ok (.invokevirtual 44, 3) := by decide +kernel
theorem dX4_readNumber_80 : decode cX4_readNumber 80 = .ok (.bipush 48, 2) := by decide +kernel
theorem dX4_readNumber_82 : decode cX4_readNumber 82 = .ok (.if_icmp .ne 20, 3) := by decide +kernel
theorem dX4_readNumber_85 : decode cX4_readNumber 85 = .ok (.aload_n 0, 1) := by decide +kernel
theorem dX4_readNumber_86 : decode cX4_readNumber 86 = .ok (.getfield 22, 3) := by decide +kernel
theorem dX4_readNumber_89 : decode cX4_readNumber 89 = .ok (.aload_n 0, 1) := by decide +kernel
theorem dX4_readNumber_90 : decode cX4_readNumber 90 = .ok (.getfield 19, 3) := by decide +kernel
theorem dX4_readNumber_93 : decode cX4_readNumber 93 = .ok (.isub, 1) := by decide +kernel
theorem dX4_readNumber_94 : decode cX4_readNumber 94 = .ok (.iconst 1, 1) := by decide +kernel
theorem dX4_readNumber_95 : decode cX4_readNumber 95 = .ok (.if_icmp .le 7, 3) := by decide +kernel
theorem dX4_readNumber_98 : decode cX4_readNumber 98 = .ok (.iconst 1, 1) := by decide +kernel
theorem dX4_readNumber_99 : decode cX4_readNumber 99 = .ok (.goto 4, 3) := by decide +kernel
theorem dX4_readNumber_102 : decode cX4_readNumber 102 = .ok (.iconst 0, 1) := by decide +kernel
theorem dX4_readNumber_103 : decode cX4_readNumber 103 = .ok (.istore_n 1, 1) := by decide +kernel
theorem dX4_readNumber_104 : decode cX4_readNumber 104 = .ok (.aload_n 0, 1) := by decide +kernel
theorem dX4_readNumber_105 : decode cX4_readNumber 105 = .ok (.iload_n 1, 1) := by decide +kernel
theorem dX4_readNumber_106 : decode cX4_readNumber 106 = .ok (.ifCond .ne 13, 3) := by decide +kernel
theorem dX4_readNumber_109 : decode cX4_readNumber 109 = .ok (.aload_n 0, 1) := by decide +kernel
theorem dX4_readNumber_110 : decode cX4_readNumber 110 = .ok (.getfield 28, 3) := by decide +kernel
theorem dX4_readNumber_113 : decode cX4_readNumber 113 = .ok (.sipush 999, 3) := by decide +kernel
theorem dX4_readNumber_116 : decode cX4_readNumber 116 = .ok (.if_icmp .le 7, 3) := by decide +kernel
theorem dX4_readNumber_119 : decode cX4_readNumber 119 = .ok (.iconst 4, 1) := by decide +kernel
theorem dX4_readNumber_120 : decode cX4_readNumber 120 = .ok (.goto 4, 3) := by decide +kernel
theorem dX4_readNumber_123 : decode cX4_readNumber 123 = .ok (.iconst 2, 1) := by decide +kernel
theorem dX4_readNumber_124 : decode cX4_readNumber 124 = .ok (.putfield 25, 3) := by decide +kernel
theorem dX4_readNumber_127 : decode cX4_readNumber 127 = .ok (.return_, 1) := by decide +kernel
theorem dX4_byteAt_0 : decode cX4_byteAt 0 = .ok (.iload_n 1, 1) := by decide +kernel
theorem dX4_byteAt_1 : decode cX4_byteAt 1 = .ok (.ifCond .lt 20, 3) := by decide +kernel
theorem dX4_byteAt_4 : decode cX4_byteAt 4 = .ok (.iload_n 1, 1) := by decide +kernel
theorem dX4_byteAt_5 : decode cX4_byteAt 5 = .ok (.aload_n 0, 1) := by decide +kernel
theorem dX4_byteAt_6 : decode cX4_byteAt 6 = .ok (.getfield 15, 3) := by decide +kernel
theorem dX4_byteAt_9 : decode cX4_byteAt 9 = .ok (.if_icmp .ge 12, 3) := by decide +kernel
theorem dX4_byteAt_12 : decode cX4_byteAt 12 = .ok (.aload_n 0, 1) := by decide +kernel
theorem dX4_byteAt_13 : decode cX4_byteAt 13 = .ok (.getfield 9, 3) := by decide +kernel
theorem dX4_byteAt_16 : decode cX4_byteAt 16 = .ok (.iload_n 1, 1) := by decide +kernel
theorem dX4_byteAt_17 : decode cX4_byteAt 17 = .ok (.iaload, 1) := by decide +kernel
theorem dX4_byteAt_18 : decode cX4_byteAt 18 = .ok (.goto 4, 3) := by decide +kernel
theorem dX4_byteAt_21 : decode cX4_byteAt 21 = .ok (.iconst 0, 1) := by decide +kernel
theorem dX4_byteAt_22 : decode cX4_byteAt 22 = .ok (.ireturn, 1) := by decide +kernel
theorem dX4_isLetter_0 : decode cX4_isLetter 0 = .ok (.iload_n 0, 1) := by decide +kernel
theorem dX4_isLetter_1 : decode cX4_isLetter 1 = .ok (.bipush 97, 2) := by decide +kernel
theorem dX4_isLetter_3 : decode cX4_isLetter 3 = .ok (.if_icmp .lt 13, 3) := by decide +kernel
theorem dX4_isLetter_6 : decode cX4_isLetter 6 = .ok (.iload_n 0, 1) := by decide +kernel
theorem dX4_isLetter_7 : decode cX4_isLetter 7 = .ok (.bipush 122, 2) := by decide +kernel
theorem dX4_isLetter_9 : decode cX4_isLetter 9 = .ok (.if_icmp .gt 7, 3) := by decide +kernel
theorem dX4_isLetter_12 : decode cX4_isLetter 12 = .ok (.iconst 1, 1) := by decide +kernel
theorem dX4_isLetter_13 : decode cX4_isLetter 13 = .ok (.goto 4, 3) := by decide +kernel
theorem dX4_isLetter_16 : decode cX4_isLetter 16 = .ok (.iconst 0, 1) := by decide +kernel
theorem dX4_isLetter_17 : decode cX4_isLetter 17 = .ok (.ireturn, 1) := by decide +kernel
theorem dX4_isDigit_0 : decode cX4_isDigit 0 = .ok (.iload_n 0, 1) := by decide +kernel
theorem dX4_isDigit_1 : decode cX4_isDigit 1 = .ok (.bipush 48, 2) := by decide +kernel
theorem dX4_isDigit_3 : decode cX4_isDigit 3 = .ok (.if_icmp .lt 13, 3) := by decide +kernel
theorem dX4_isDigit_6 : decode cX4_isDigit 6 = .ok (.iload_n 0, 1) := by decide +kernel
theorem dX4_isDigit_7 : decode cX4_isDigit 7 = .ok (.bipush 57, 2) := by decide +kernel
theorem dX4_isDigit_9 : decode cX4_isDigit 9 = .ok (.if_icmp .gt 7, 3) := by decide +kernel
theorem dX4_isDigit_12 : decode cX4_isDigit 12 = .ok (.iconst 1, 1) := by decide +kernel
theorem dX4_isDigit_13 : decode cX4_isDigit 13 = .ok (.goto 4, 3) := by decide +kernel
theorem dX4_isDigit_16 : decode cX4_isDigit 16 = .ok (.iconst 0, 1) := by decide +kernel
theorem dX4_isDigit_17 : decode cX4_isDigit 17 = .ok (.ireturn, 1) := by decide +kernel
theorem dX5_init_0 : decode cX5_init 0 = .ok (.aload_n 0, 1) := by decide +kernel
theorem dX5_init_1 : decode cX5_init 1 = .ok (.invokespecial 1, 3) := by decide +kernel
theorem dX5_init_4 : decode cX5_init 4 = .ok (.aload_n 0, 1) := by decide +kernel
theorem dX5_init_5 : decode cX5_init 5 = .ok (.new 7, 3) := by decide +kernel
theorem dX5_init_8 : decode cX5_init 8 = .ok (.dup, 1) := by decide +kernel
theorem dX5_init_9 : decode cX5_init 9 = .ok (.invokespecial 9, 3) := by decide +kernel
theorem dX5_init_12 : decode cX5_init 12 = .ok (.putfield 10, 3) := by decide +kernel
theorem dX5_init_15 : decode cX5_init 15 = .ok (.aload_n 0, 1) := by decide +kernel
theorem dX5_init_16 : decode cX5_init 16 = .ok (.new 16, 3) := by decide +kernel
theorem dX5_init_19 : decode cX5_init 19 = .ok (.dup, 1) := by decide +kernel
theorem dX5_init_20 : decode cX5_init 20 = .ok (.invokespecial 18, 3) := by decide +kernel
theorem dX5_init_23 : decode cX5_init 23 = .ok (.putfield 19, 3) := by decide +kernel
theorem dX5_init_26 : decode cX5_init 26 = .ok (.aload_n 0, 1) := by decide +kernel
theorem dX5_init_27 : decode cX5_init 27 = .ok (.new 23, 3) := by decide +kernel
theorem dX5_init_30 : decode cX5_init 30 = .ok (.dup, 1) := by decide +kernel
theorem dX5_init_31 : decode cX5_init 31 = .ok (.invokespecial 25, 3) := by decide +kernel
theorem dX5_init_34 : decode cX5_init 34 = .ok (.putfield 26, 3) := by decide +kernel
theorem dX5_init_37 : decode cX5_init 37 = .ok (.aload_n 0, 1) := by decide +kernel
theorem dX5_init_38 : decode cX5_init 38 = .ok (.new 30, 3) := by decide +kernel
theorem dX5_init_41 : decode cX5_init 41 = .ok (.dup, 1) := by decide +kernel
theorem dX5_init_42 : decode cX5_init 42 = .ok (.iconst 0, 1) := by decide +kernel
theorem dX5_init_43 : decode cX5_init 43 = .ok (.iconst 0, 1) := by decide +kernel
theorem dX5_init_44 : decode cX5_init 44 = .ok (.newarray .int, 2) := by decide +kernel
end
section
theorem dX5_init_46 : decode cX5_init 46 = .ok (.iconst 0, 1) := by decide +kernel
theorem dX5_init_47 : decode cX5_init 47 = .ok (.anewarray 32, 3) := by decide +kernel
theorem dX5_init_50 : decode cX5_init 50 = .ok (.aconst_null, 1) := by decide +kernel
theorem dX5_init_51 : decode cX5_init 51 = .ok (.invokespecial 34, 3) := by decide +kernel
theorem dX5_init_54 : decode cX5_init 54 = .ok (.putfield 37, 3) := by decide +kernel
theorem dX5_init_57 : decode cX5_init 57 = .ok (.aload_n 0, 1) := by decide +kernel
theorem dX5_init_58 : decode cX5_init 58 = .ok (.iconst 0, 1) := by decide +kernel
theorem dX5_init_59 : decode cX5_init 59 = .ok (.putfield 41, 3) := by decide +kernel
theorem dX5_init_62 : decode cX5_init 62 = .ok (.aload_n 0, 1) := by decide +kernel
theorem dX5_init_63 : decode cX5_init 63 = .ok (.iconst 2, 1) := by decide +kernel
theorem dX5_init_64 : decode cX5_init 64 = .ok (.anewarray 30, 3) := by decide +kernel
theorem dX5_init_67 : decode cX5_init 67 = .ok (.putfield 45, 3) := by decide +kernel
theorem dX5_init_70 : decode cX5_init 70 = .ok (.aload_n 0, 1) := by decide +kernel
theorem dX5_init_71 : decode cX5_init 71 = .ok (.iconst 2, 1) := by decide +kernel
theorem dX5_init_72 : decode cX5_init 72 = .ok (.newarray .int, 2) := by decide +kernel
theorem dX5_init_74 : decode cX5_init 74 = .ok (.putfield 49, 3) := by decide +kernel
theorem dX5_init_77 : decode cX5_init 77 = .ok (.aload_n 0, 1) := by decide +kernel
theorem dX5_init_78 : decode cX5_init 78 = .ok (.lconst 0, 1) := by decide +kernel
theorem dX5_init_79 : decode cX5_init 79 = .ok (.putfield 53, 3) := by decide +kernel
theorem dX5_init_82 : decode cX5_init 82 = .ok (.aload_n 0, 1) := by decide +kernel
theorem dX5_init_83 : decode cX5_init 83 = .ok (.sipush 360, 3) := by decide +kernel
theorem dX5_init_86 : decode cX5_init 86 = .ok (.newarray .int, 2) := by decide +kernel
theorem dX5_init_88 : decode cX5_init 88 = .ok (.putfield 57, 3) := by decide +kernel
theorem dX5_init_91 : decode cX5_init 91 = .ok (.aload_n 0, 1) := by decide +kernel
theorem dX5_init_92 : decode cX5_init 92 = .ok (.bipush 120, 2) := by decide +kernel
theorem dX5_init_94 : decode cX5_init 94 = .ok (.newarray .int, 2) := by decide +kernel
theorem dX5_init_96 : decode cX5_init 96 = .ok (.putfield 60, 3) := by decide +kernel
theorem dX5_init_99 : decode cX5_init 99 = .ok (.aload_n 0, 1) := by decide +kernel
theorem dX5_init_100 : decode cX5_init 100 = .ok (.sipush 1000, 3) := by decide +kernel
theorem dX5_init_103 : decode cX5_init 103 = .ok (.newarray .int, 2) := by decide +kernel
theorem dX5_init_105 : decode cX5_init 105 = .ok (.putfield 63, 3) := by decide +kernel
theorem dX5_init_108 : decode cX5_init 108 = .ok (.aload_n 0, 1) := by decide +kernel
theorem dX5_init_109 : decode cX5_init 109 = .ok (.iconst 0, 1) := by decide +kernel
theorem dX5_init_110 : decode cX5_init 110 = .ok (.putfield 66, 3) := by decide +kernel
theorem dX5_init_113 : decode cX5_init 113 = .ok (.return_, 1) := by decide +kernel
theorem dX5_type_0 : decode cX5_type 0 = .ok (.iload_n 1, 1) := by decide +kernel
theorem dX5_type_1 : decode cX5_type 1 = .ok (.iconst 0, 1) := by decide +kernel
theorem dX5_type_2 : decode cX5_type 2 = .ok (.sipush 255, 3) := by decide +kernel
theorem dX5_type_5 : decode cX5_type 5 = .ok (.invokestatic 70, 3) := by decide +kernel
theorem dX5_type_8 : decode cX5_type 8 = .ok (.ifCond .ne 5, 3) := by decide +kernel
theorem dX5_type_11 : decode cX5_type 11 = .ok (.iconst (-1), 1) := by decide +kernel
theorem dX5_type_12 : decode cX5_type 12 = .ok (.ireturn, 1) := by decide +kernel
theorem dX5_type_13 : decode cX5_type 13 = .ok (.aload_n 0, 1) := by decide +kernel
theorem dX5_type_14 : decode cX5_type 14 = .ok (.getfield 10, 3) := by decide +kernel
theorem dX5_type_17 : decode cX5_type 17 = .ok (.iload_n 1, 1) := by decide +kernel
theorem dX5_type_18 : decode cX5_type 18 = .ok (.invokevirtual 74, 3) := by decide +kernel
theorem dX5_type_21 : decode cX5_type 21 = .ok (.ifCond .eq 13, 3) := by decide +kernel
theorem dX5_type_24 : decode cX5_type 24 = .ok (.aload_n 0, 1) := by decide +kernel
theorem dX5_type_25 : decode cX5_type 25 = .ok (.getfield 10, 3) := by decide +kernel
theorem dX5_type_28 : decode cX5_type 28 = .ok (.getfield 78, 3) := by decide +kernel
theorem dX5_type_31 : decode cX5_type 31 = .ok (.goto 5, 3) := by decide +kernel
theorem dX5_type_34 : decode cX5_type 34 = .ok (.bipush (-3), 2) := by decide +kernel
theorem dX5_type_36 : decode cX5_type 36 = .ok (.ireturn, 1) := by decide +kernel
theorem dX5_clear_0 : decode cX5_clear 0 = .ok (.aload_n 0, 1) := by decide +kernel
theorem dX5_clear_1 : decode cX5_clear 1 = .ok (.getfield 10, 3) := by decide +kernel
theorem dX5_clear_4 : decode cX5_clear 4 = .ok (.invokevirtual 81, 3) := by decide +kernel
theorem dX5_clear_7 : decode cX5_clear 7 = .ok (.ireturn, 1) := by decide +kernel
theorem dX5_box_0 : decode cX5_box 0 = .ok (.new 23, 3) := by decide +kernel
theorem dX5_box_3 : decode cX5_box 3 = .ok (.dup, 1) := by decide +kernel
theorem dX5_box_4 : decode cX5_box 4 = .ok (.invokespecial 25, 3) := by decide +kernel
theorem dX5_box_7 : decode cX5_box 7 = .ok (.astore_n 1, 1) := by decide +kernel
theorem dX5_box_8 : decode cX5_box 8 = .ok (.aload_n 0, 1) := by decide +kernel
theorem dX5_box_9 : decode cX5_box 9 = .ok (.getfield 10, 3) := by decide +kernel
theorem dX5_box_12 : decode cX5_box 12 = .ok (.aload_n 1, 1) := by decide +kernel
theorem dX5_box_13 : decode cX5_box 13 = .ok (.invokevirtual 85, 3) := by decide +kernel
theorem dX5_box_16 : decode cX5_box 16 = .ok (.istore_n 2, 1) := by decide +kernel
theorem dX5_box_17 : decode cX5_box 17 = .ok (.iload_n 2, 1) := by decide +kernel
theorem dX5_box_18 : decode cX5_box 18 = .ok (.iconst (-1), 1) := by decide +kernel
theorem dX5_box_19 : decode cX5_box 19 = .ok (.if_icmp .eq 8, 3) := by decide +kernel
theorem dX5_box_22 : decode cX5_box 22 = .ok (.bipush (-10), 2) := by decide +kernel
theorem dX5_box_24 : decode cX5_box 24 = .ok (.iload_n 2, 1) := by decide +kernel
theorem dX5_box_25 : decode cX5_box 25 = .ok (.isub, 1) := by decide +kernel
theorem dX5_box_26 : decode cX5_box 26 = .ok (.ireturn, 1) := by decide +kernel
theorem dX5_box_27 : decode cX5_box 27 = .ok (.aload_n 0, 1) := by decide +kernel
theorem dX5_box_28 : decode cX5_box 28 = .ok (.getfield 10, 3) := by decide +kernel
theorem dX5_box_31 : decode cX5_box 31 = .ok (.invokevirtual 81, 3) := by decide +kernel
theorem dX5_box_34 : decode cX5_box 34 = .ok (.pop, 1) := by decide +kernel
theorem dX5_box_35 : decode cX5_box 35 = .ok (.aload_n 0, 1) := by decide +kernel
theorem dX5_box_36 : decode cX5_box 36 = .ok (.aload_n 1, 1) := by decide +kernel
theorem dX5_box_37 : decode cX5_box 37 = .ok (.invokevirtual 89, 3) := by decide +kernel
theorem dX5_box_40 : decode cX5_box 40 = .ok (.aload_n 1, 1) := by decide +kernel
theorem dX5_box_41 : decode cX5_box 41 = .ok (.invokevirtual 93, 3) := by decide +kernel
theorem dX5_box_44 : decode cX5_box 44 = .ok (.ireturn, 1) := by decide +kernel
theorem dX5_ring_0 : decode cX5_ring 0 = .ok (.aload_n 0, 1) := by decide +kernel
theorem dX5_ring_1 : decode cX5_ring 1 = .ok (.getfield 26, 3) := by decide +kernel
theorem dX5_ring_4 : decode cX5_ring 4 = .ok (.iload_n 1, 1) := by decide +kernel
theorem dX5_ring_5 : decode cX5_ring 5 = .ok (.invokevirtual 96, 3) := by decide +kernel
theorem dX5_ring_8 : decode cX5_ring 8 = .ok (.ifCond .eq 14, 3) := by decide +kernel
theorem dX5_ring_11 : decode cX5_ring 11 = .ok (.aload_n 0, 1) := by decide +kernel
theorem dX5_ring_12 : decode cX5_ring 12 = .ok (.getfield 26, 3) := by decide +kernel
theorem dX5_ring_15 : decode cX5_ring 15 = .ok (.iload_n 1, 1) := by decide +kernel
theorem dX5_ring_16 : decode cX5_ring 16 = .ok (.invokevirtual 99, 3) := by decide +kernel
theorem dX5_ring_19 : decode cX5_ring 19 = .ok (.goto 4, 3) := by decide +kernel
theorem dX5_ring_22 : decode cX5_ring 22 = .ok (.iconst (-1), 1) := by decide +kernel
theorem dX5_ring_23 : decode cX5_ring 23 = .ok (.ireturn, 1) := by decide +kernel
theorem dX5_wheel_0 : decode cX5_wheel 0 = .ok (.aload_n 0, 1) := by decide +kernel
theorem dX5_wheel_1 : decode cX5_wheel 1 = .ok (.getfield 26, 3) := by decide +kernel
theorem dX5_wheel_4 : decode cX5_wheel 4 = .ok (.iload_n 1, 1) := by decide +kernel
theorem dX5_wheel_5 : decode cX5_wheel 5 = .ok (.invokevirtual 96, 3) := by decide +kernel
theorem dX5_wheel_8 : decode cX5_wheel 8 = .ok (.ifCond .eq 23, 3) := by decide +kernel
theorem dX5_wheel_11 : decode cX5_wheel 11 = .ok (.aload_n 0, 1) := by decide +kernel
theorem dX5_wheel_12 : decode cX5_wheel 12 = .ok (.getfield 26, 3) := by decide +kernel
theorem dX5_wheel_15 : decode cX5_wheel 15 = .ok (.iload_n 2, 1) := by decide +kernel
theorem dX5_wheel_16 : decode cX5_wheel 16 = .ok (.invokevirtual 103, 3) := by decide +kernel
theorem dX5_wheel_19 : decode cX5_wheel 19 = .ok (.ifCond .eq 12, 3) := by decide +kernel
theorem dX5_wheel_22 : decode cX5_wheel 22 = .ok (.iload_n 3, 1) := by decide +kernel
theorem dX5_wheel_23 : decode cX5_wheel 23 = .ok (.iconst 0, 1) := by decide +kernel
theorem dX5_wheel_24 : decode cX5_wheel 24 = .ok (.iconst 3, 1) := by decide +kernel
theorem dX5_wheel_25 : decode cX5_wheel 25 = .ok (.invokestatic 70, 3) := by decide +kernel
theorem dX5_wheel_28 : decode cX5_wheel 28 = .ok (.ifCond .ne 5, 3) := by decide +kernel
theorem dX5_wheel_31 : decode cX5_wheel 31 = .ok (.iconst (-1), 1) := by decide +kernel
theorem dX5_wheel_32 : decode cX5_wheel 32 = .ok (.ireturn, 1) := by decide +kernel
theorem dX5_wheel_33 : decode cX5_wheel 33 = .ok (.iload_n 3, 1) := by decide +kernel
theorem dX5_wheel_34 : decode cX5_wheel 34 = .ok (.ifCond .ne 12, 3) := by decide +kernel
theorem dX5_wheel_37 : decode cX5_wheel 37 = .ok (.aload_n 0, 1) := by decide +kernel
theorem dX5_wheel_38 : decode cX5_wheel 38 = .ok (.getfield 26, 3) := by decide +kernel
theorem dX5_wheel_41 : decode cX5_wheel 41 = .ok (.iload_n 2, 1) := by decide +kernel
theorem dX5_wheel_42 : decode cX5_wheel 42 = .ok (.invokevirtual 106, 3) := by decide +kernel
theorem dX5_wheel_45 : decode cX5_wheel 45 = .ok (.ireturn, 1) := by decide +kernel
theorem dX5_wheel_46 : decode cX5_wheel 46 = .ok (.aload_n 0, 1) := by decide +kernel
theorem dX5_wheel_47 : decode cX5_wheel 47 = .ok (.getfield 26, 3) := by decide +kernel
theorem dX5_wheel_50 : decode cX5_wheel 50 = .ok (.iload_n 1, 1) := by decide +kernel
theorem dX5_wheel_51 : decode cX5_wheel 51 = .ok (.iload_n 2, 1) := by decide +kernel
theorem dX5_wheel_52 : decode cX5_wheel 52 = .ok (.invokevirtual 109, 3) := by decide +kernel
theorem dX5_wheel_55 : decode cX5_wheel 55 = .ok (.ifCond .ne 6, 3) := by decide +kernel
theorem dX5_wheel_58 : decode cX5_wheel 58 = .ok (.bipush (-9), 2) := by decide +kernel
theorem dX5_wheel_60 : decode cX5_wheel 60 = .ok (.ireturn, 1) := by decide +kernel
theorem dX5_wheel_61 : decode cX5_wheel 61 = .ok (.iload_n 3, 1) := by decide +kernel
theorem dX5_wheel_62 : decode cX5_wheel 62 = .ok (.lookupswitch 46 #[(1, 26), (2, 36)], 26) := by decide +kernel
theorem dX5_wheel_88 : decode cX5_wheel 88 = .ok (.aload_n 0, 1) := by decide +kernel
theorem dX5_wheel_89 : decode cX5_wheel 89 = .ok (.getfield 26, 3) := by decide +kernel
theorem dX5_wheel_92 : decode cX5_wheel 92 = .ok (.iload_n 1, 1) := by decide +kernel
theorem dX5_wheel_93 : decode cX5_wheel 93 = .ok (.iload_n 2, 1) := by decide +kernel
theorem dX5_wheel_94 : decode cX5_wheel 94 = .ok (.invokevirtual 113, 3) := by decide +kernel
theorem dX5_wheel_97 : decode cX5_wheel 97 = .ok (.ireturn, 1) := by decide +kernel
theorem dX5_wheel_98 : decode cX5_wheel 98 = .ok (.aload_n 0, 1) := by decide +kernel
theorem dX5_wheel_99 : decode cX5_wheel 99 = .ok (.getfield 26, 3) := by decide +kernel
theorem dX5_wheel_102 : decode cX5_wheel 102 = .ok (.iload_n 1, 1) := by decide +kernel
theorem dX5_wheel_103 : decode cX5_wheel 103 = .ok (.iload_n 2, 1) := by decide +kernel
theorem dX5_wheel_104 : decode cX5_wheel 104 = .ok (.invokevirtual 117, 3) := by decide +kernel
theorem dX5_wheel_107 : decode cX5_wheel 107 = .ok (.ireturn, 1) := by decide +kernel
theorem dX5_wheel_108 : decode cX5_wheel 108 = .ok (.aload_n 0, 1) := by decide +kernel
theorem dX5_wheel_109 : decode cX5_wheel 109 = .ok (.getfield 26, 3) := by decide +kernel
theorem dX5_wheel_112 : decode cX5_wheel 112 = .ok (.iload_n 1, 1) := by decide +kernel
theorem dX5_wheel_113 : decode cX5_wheel 113 = .ok (.iload_n 2, 1) := by decide +kernel
theorem dX5_wheel_114 : decode cX5_wheel 114 = .ok (.invokevirtual 120, 3) := by decide +kernel
theorem dX5_wheel_117 : decode cX5_wheel 117 = .ok (.ireturn, 1) := by decide +kernel
theorem dX5_pen_0 : decode cX5_pen 0 = .ok (.aload_n 0, 1) := by decide +kernel
theorem dX5_pen_1 : decode cX5_pen 1 = .ok (.getfield 26, 3) := by decide +kernel
theorem dX5_pen_4 : decode cX5_pen 4 = .ok (.iload_n 1, 1) := by decide +kernel
theorem dX5_pen_5 : decode cX5_pen 5 = .ok (.invokevirtual 123, 3) := by decide +kernel
theorem dX5_pen_8 : decode cX5_pen 8 = .ok (.ifCond .eq 12, 3) := by decide +kernel
theorem dX5_pen_11 : decode cX5_pen 11 = .ok (.iload_n 2, 1) := by decide +kernel
theorem dX5_pen_12 : decode cX5_pen 12 = .ok (.iconst 0, 1) := by decide +kernel
theorem dX5_pen_13 : decode cX5_pen 13 = .ok (.iconst 1, 1) := by decide +kernel
theorem dX5_pen_14 : decode cX5_pen 14 = .ok (.invokestatic 70, 3) := by decide +kernel
theorem dX5_pen_17 : decode cX5_pen 17 = .ok (.ifCond .ne 5, 3) := by decide +kernel
theorem dX5_pen_20 : decode cX5_pen 20 = .ok (.iconst (-1), 1) := by decide +kernel
theorem dX5_pen_21 : decode cX5_pen 21 = .ok (.ireturn, 1) := by decide +kernel
theorem dX5_pen_22 : decode cX5_pen 22 = .ok (.iload_n 2, 1) := by decide +kernel
theorem dX5_pen_23 : decode cX5_pen 23 = .ok (.ifCond .ne 14, 3) := by decide +kernel
theorem dX5_pen_26 : decode cX5_pen 26 = .ok (.aload_n 0, 1) := by decide +kernel
theorem dX5_pen_27 : decode cX5_pen 27 = .ok (.getfield 37, 3) := by decide +kernel
theorem dX5_pen_30 : decode cX5_pen 30 = .ok (.iload_n 1, 1) := by decide +kernel
theorem dX5_pen_31 : decode cX5_pen 31 = .ok (.invokevirtual 126, 3) := by decide +kernel
theorem dX5_pen_34 : decode cX5_pen 34 = .ok (.goto 8, 3) := by decide +kernel
theorem dX5_pen_37 : decode cX5_pen 37 = .ok (.aload_n 0, 1) := by decide +kernel
theorem dX5_pen_38 : decode cX5_pen 38 = .ok (.iload_n 1, 1) := by decide +kernel
theorem dX5_pen_39 : decode cX5_pen 39 = .ok (.invokevirtual 129, 3) := by decide +kernel
theorem dX5_pen_42 : decode cX5_pen 42 = .ok (.ireturn, 1) := by decide +kernel
theorem dX5_curve_0 : decode cX5_curve 0 = .ok (.aload_n 0, 1) := by decide +kernel
theorem dX5_curve_1 : decode cX5_curve 1 = .ok (.getfield 37, 3) := by decide +kernel
theorem dX5_curve_4 : decode cX5_curve 4 = .ok (.iload_n 1, 1) := by decide +kernel
theorem dX5_curve_5 : decode cX5_curve 5 = .ok (.invokevirtual 132, 3) := by decide +kernel
theorem dX5_curve_8 : decode cX5_curve 8 = .ok (.astore_n 3, 1) := by decide +kernel
theorem dX5_curve_9 : decode cX5_curve 9 = .ok (.aload_n 3, 1) := by decide +kernel
theorem dX5_curve_10 : decode cX5_curve 10 = .ok (.ifnonnull 5, 3) := by decide +kernel
theorem dX5_curve_13 : decode cX5_curve 13 = .ok (.iconst (-1), 1) := by decide +kernel
theorem dX5_curve_14 : decode cX5_curve 14 = .ok (.ireturn, 1) := by decide +kernel
theorem dX5_curve_15 : decode cX5_curve 15 = .ok (.iload_n 2, 1) := by decide +kernel
theorem dX5_curve_16 : decode cX5_curve 16 = .ok (.tableswitch 84 0 6 #[44, 49, 54, 59, 64, 69, 74], 44) := by decide +kernel
theorem dX5_curve_60 : decode cX5_curve 60 = .ok (.aload_n 3, 1) := by decide +kernel
theorem dX5_curve_61 : decode cX5_curve 61 = .ok (.getfield 136, 3) := by decide +kernel
theorem dX5_curve_64 : decode cX5_curve 64 = .ok (.ireturn, 1) := by decide +kernel
theorem dX5_curve_65 : decode cX5_curve 65 = .ok (.aload_n 3, 1) := by decide +kernel
theorem dX5_curve_66 : decode cX5_curve 66 = .ok (.getfield 139, 3) := by decide +kernel
theorem dX5_curve_69 : decode cX5_curve 69 = .ok (.ireturn, 1) := by decide +kernel
theorem dX5_curve_70 : decode cX5_curve 70 = .ok (.aload_n 3, 1) := by decide +kernel
theorem dX5_curve_71 : decode cX5_curve 71 = .ok (.getfield 142, 3) := by decide +kernel
theorem dX5_curve_74 : decode cX5_curve 74 = .ok (.ireturn, 1) := by decide +kernel
theorem dX5_curve_75 : decode cX5_curve 75 = .ok (.aload_n 3, 1) := by decide +kernel
theorem dX5_curve_76 : decode cX5_curve 76 = .ok (.getfield 145, 3) := by decide +kernel
theorem dX5_curve_79 : decode cX5_curve 79 = .ok (.ireturn, 1) := by decide +kernel
theorem dX5_curve_80 : decode cX5_curve 80 = .ok (.aload_n 3, 1) := by decide +kernel
theorem dX5_curve_81 : decode cX5_curve 81 = .ok (.getfield 148, 3) := by decide +kernel
theorem dX5_curve_84 : decode cX5_curve 84 = .ok (.ireturn, 1) := by decide +kernel
theorem dX5_curve_85 : decode cX5_curve 85 = .ok (.aload_n 3, 1) := by decide +kernel
theorem dX5_curve_86 : decode cX5_curve 86 = .ok (.getfield 151, 3) := by decide +kernel
theorem dX5_curve_89 : decode cX5_curve 89 = .ok (.ireturn, 1) := by decide +kernel
theorem dX5_curve_90 : decode cX5_curve 90 = .ok (.aload_n 0, 1) := by decide +kernel
theorem dX5_curve_91 : decode cX5_curve 91 = .ok (.iload_n 1, 1) := by decide +kernel
theorem dX5_curve_92 : decode cX5_curve 92 = .ok (.aload_n 3, 1) := by decide +kernel
theorem dX5_curve_93 : decode cX5_curve 93 = .ok (.getfield 142, 3) := by decide +kernel
theorem dX5_curve_96 : decode cX5_curve 96 = .ok (.invokevirtual 154, 3) := by decide +kernel
theorem dX5_curve_99 : decode cX5_curve 99 = .ok (.ireturn, 1) := by decide +kernel
theorem dX5_curve_100 : decode cX5_curve 100 = .ok (.iconst (-1), 1) := by decide +kernel
theorem dX5_curve_101 : decode cX5_curve 101 = .ok (.ireturn, 1) := by decide +kernel
theorem dX5_draws_0 : decode cX5_draws 0 = .ok (.aload_n 0, 1) := by decide +kernel
theorem dX5_draws_1 : decode cX5_draws 1 = .ok (.getfield 26, 3) := by decide +kernel
theorem dX5_draws_4 : decode cX5_draws 4 = .ok (.iload_n 1, 1) := by decide +kernel
theorem dX5_draws_5 : decode cX5_draws 5 = .ok (.invokevirtual 96, 3) := by decide +kernel
theorem dX5_draws_8 : decode cX5_draws 8 = .ok (.ifCond .eq 26, 3) := by decide +kernel
theorem dX5_draws_11 : decode cX5_draws 11 = .ok (.aload_n 0, 1) := by decide +kernel
theorem dX5_draws_12 : decode cX5_draws 12 = .ok (.getfield 26, 3) := by decide +kernel
theorem dX5_draws_15 : decode cX5_draws 15 = .ok (.iload_n 2, 1) := by decide +kernel
theorem dX5_draws_16 : decode cX5_draws 16 = .ok (.invokevirtual 103, 3) := by decide +kernel
theorem dX5_draws_19 : decode cX5_draws 19 = .ok (.ifCond .eq 15, 3) := by decide +kernel
theorem dX5_draws_22 : decode cX5_draws 22 = .ok (.aload_n 0, 1) := by decide +kernel
theorem dX5_draws_23 : decode cX5_draws 23 = .ok (.getfield 26, 3) := by decide +kernel
theorem dX5_draws_26 : decode cX5_draws 26 = .ok (.iload 5, 2) := by decide +kernel
theorem dX5_draws_28 : decode cX5_draws 28 = .ok (.invokevirtual 123, 3) := by decide +kernel
theorem dX5_draws_31 : decode cX5_draws 31 = .ok (.ifCond .ne 5, 3) := by decide +kernel
theorem dX5_draws_34 : decode cX5_draws 34 = .ok (.iconst (-1), 1) := by decide +kernel
theorem dX5_draws_35 : decode cX5_draws 35 = .ok (.ireturn, 1) := by decide +kernel
theorem dX5_draws_36 : decode cX5_draws 36 = .ok (.iload_n 3, 1) := by decide +kernel
theorem dX5_draws_37 : decode cX5_draws 37 = .ok (.iconst 1, 1) := by decide +kernel
theorem dX5_draws_38 : decode cX5_draws 38 = .ok (.bipush 9, 2) := by decide +kernel
theorem dX5_draws_40 : decode cX5_draws 40 = .ok (.invokestatic 70, 3) := by decide +kernel
theorem dX5_draws_43 : decode cX5_draws 43 = .ok (.ifCond .eq 22, 3) := by decide +kernel
theorem dX5_draws_46 : decode cX5_draws 46 = .ok (.iload 4, 2) := by decide +kernel
theorem dX5_draws_48 : decode cX5_draws 48 = .ok (.iconst 0, 1) := by decide +kernel
theorem dX5_draws_49 : decode cX5_draws 49 = .ok (.aload_n 0, 1) := by decide +kernel
theorem dX5_draws_50 : decode cX5_draws 50 = .ok (.getfield 26, 3) := by decide +kernel
theorem dX5_draws_53 : decode cX5_draws 53 = .ok (.iload_n 1, 1) := by decide +kernel
theorem dX5_draws_54 : decode cX5_draws 54 = .ok (.invokevirtual 99, 3) := by decide +kernel
theorem dX5_draws_57 : decode cX5_draws 57 = .ok (.iconst 1, 1) := by decide +kernel
theorem dX5_draws_58 : decode cX5_draws 58 = .ok (.isub, 1) := by decide +kernel
theorem dX5_draws_59 : decode cX5_draws 59 = .ok (.invokestatic 70, 3) := by decide +kernel
theorem dX5_draws_62 : decode cX5_draws 62 = .ok (.ifCond .ne 5, 3) := by decide +kernel
theorem dX5_draws_65 : decode cX5_draws 65 = .ok (.iconst (-1), 1) := by decide +kernel
theorem dX5_draws_66 : decode cX5_draws 66 = .ok (.ireturn, 1) := by decide +kernel
theorem dX5_draws_67 : decode cX5_draws 67 = .ok (.aload_n 0, 1) := by decide +kernel
theorem dX5_draws_68 : decode cX5_draws 68 = .ok (.getfield 26, 3) := by decide +kernel
theorem dX5_draws_71 : decode cX5_draws 71 = .ok (.iload_n 1, 1) := by decide +kernel
theorem dX5_draws_72 : decode cX5_draws 72 = .ok (.iload_n 2, 1) := by decide +kernel
theorem dX5_draws_73 : decode cX5_draws 73 = .ok (.invokevirtual 109, 3) := by decide +kernel
theorem dX5_draws_76 : decode cX5_draws 76 = .ok (.ifCond .eq 24, 3) := by decide +kernel
theorem dX5_draws_79 : decode cX5_draws 79 = .ok (.aload_n 0, 1) := by decide +kernel
theorem dX5_draws_80 : decode cX5_draws 80 = .ok (.getfield 37, 3) := by decide +kernel
theorem dX5_draws_83 : decode cX5_draws 83 = .ok (.iload 5, 2) := by decide +kernel
theorem dX5_draws_85 : decode cX5_draws 85 = .ok (.invokevirtual 126, 3) := by decide +kernel
theorem dX5_draws_88 : decode cX5_draws 88 = .ok (.aload_n 0, 1) := by decide +kernel
theorem dX5_draws_89 : decode cX5_draws 89 = .ok (.getfield 26, 3) := by decide +kernel
theorem dX5_draws_92 : decode cX5_draws 92 = .ok (.iload_n 1, 1) := by decide +kernel
theorem dX5_draws_93 : decode cX5_draws 93 = .ok (.iload_n 2, 1) := by decide +kernel
theorem dX5_draws_94 : decode cX5_draws 94 = .ok (.invokevirtual 120, 3) := by decide +kernel
theorem dX5_draws_97 : decode cX5_draws 97 = .ok (.if_icmp .ge 6, 3) := by decide +kernel
theorem dX5_draws_100 : decode cX5_draws 100 = .ok (.bipush (-2), 2) := by decide +kernel
theorem dX5_draws_102 : decode cX5_draws 102 = .ok (.ireturn, 1) := by decide +kernel
theorem dX5_draws_103 : decode cX5_draws 103 = .ok (.aload_n 0, 1) := by decide +kernel
theorem dX5_draws_104 : decode cX5_draws 104 = .ok (.getfield 37, 3) := by decide +kernel
theorem dX5_draws_107 : decode cX5_draws 107 = .ok (.getfield 157, 3) := by decide +kernel
theorem dX5_draws_110 : decode cX5_draws 110 = .ok (.arraylength, 1) := by decide +kernel
theorem dX5_draws_111 : decode cX5_draws 111 = .ok (.istore 6, 2) := by decide +kernel
theorem dX5_draws_113 : decode cX5_draws 113 = .ok (.iload 6, 2) := by decide +kernel
theorem dX5_draws_115 : decode cX5_draws 115 = .ok (.bipush 12, 2) := by decide +kernel
theorem dX5_draws_117 : decode cX5_draws 117 = .ok (.if_icmp .lt 6, 3) := by decide +kernel
theorem dX5_draws_120 : decode cX5_draws 120 = .ok (.bipush (-3), 2) := by decide +kernel
theorem dX5_draws_122 : decode cX5_draws 122 = .ok (.ireturn, 1) := by decide +kernel
theorem dX5_draws_123 : decode cX5_draws 123 = .ok (.new 32, 3) := by decide +kernel
theorem dX5_draws_126 : decode cX5_draws 126 = .ok (.dup, 1) := by decide +kernel
theorem dX5_draws_127 : decode cX5_draws 127 = .ok (.aload_n 0, 1) := by decide +kernel
theorem dX5_draws_128 : decode cX5_draws 128 = .ok (.getfield 26, 3) := by decide +kernel
theorem dX5_draws_131 : decode cX5_draws 131 = .ok (.iload_n 1, 1) := by decide +kernel
theorem dX5_draws_132 : decode cX5_draws 132 = .ok (.iload_n 2, 1) := by decide +kernel
theorem dX5_draws_133 : decode cX5_draws 133 = .ok (.iload_n 3, 1) := by decide +kernel
theorem dX5_draws_134 : decode cX5_draws 134 = .ok (.iload 4, 2) := by decide +kernel
theorem dX5_draws_136 : decode cX5_draws 136 = .ok (.iload 5, 2) := by decide +kernel
theorem dX5_draws_138 : decode cX5_draws 138 = .ok (.aload_n 0, 1) := by decide +kernel
theorem dX5_draws_139 : decode cX5_draws 139 = .ok (.getfield 37, 3) := by decide +kernel
theorem dX5_draws_142 : decode cX5_draws 142 = .ok (.getfield 161, 3) := by decide +kernel
theorem dX5_draws_145 : decode cX5_draws 145 = .ok (.invokespecial 164, 3) := by decide +kernel
theorem dX5_draws_148 : decode cX5_draws 148 = .ok (.astore 7, 2) := by decide +kernel
theorem dX5_draws_150 : decode cX5_draws 150 = .ok (.aload_n 0, 1) := by decide +kernel
theorem dX5_draws_151 : decode cX5_draws 151 = .ok (.aload_n 0, 1) := by decide +kernel
theorem dX5_draws_152 : decode cX5_draws 152 = .ok (.getfield 37, 3) := by decide +kernel
theorem dX5_draws_155 : decode cX5_draws 155 = .ok (.aload 7, 2) := by decide +kernel
theorem dX5_draws_157 : decode cX5_draws 157 = .ok (.aload_n 0, 1) := by decide +kernel
theorem dX5_draws_158 : decode cX5_draws 158 = .ok (.getfield 26, 3) := by decide +kernel
theorem dX5_draws_161 : decode cX5_draws 161 = .ok (.iload_n 1, 1) := by decide +kernel
theorem dX5_draws_162 : decode cX5_draws 162 = .ok (.iload_n 2, 1) := by decide +kernel
theorem dX5_draws_163 : decode cX5_draws 163 = .ok (.invokevirtual 120, 3) := by decide +kernel
theorem dX5_draws_166 : decode cX5_draws 166 = .ok (.invokevirtual 167, 3) := by decide +kernel
theorem dX5_draws_169 : decode cX5_draws 169 = .ok (.invokevirtual 171, 3) := by decide +kernel
theorem dX5_draws_172 : decode cX5_draws 172 = .ok (.iload 6, 2) := by decide +kernel
theorem dX5_draws_174 : decode cX5_draws 174 = .ok (.ireturn, 1) := by decide +kernel
theorem dX5_rubs_0 : decode cX5_rubs 0 = .ok (.aload_n 0, 1) := by decide +kernel
theorem dX5_rubs_1 : decode cX5_rubs 1 = .ok (.getfield 37, 3) := by decide +kernel
theorem dX5_rubs_4 : decode cX5_rubs 4 = .ok (.iload_n 1, 1) := by decide +kernel
theorem dX5_rubs_5 : decode cX5_rubs 5 = .ok (.invokevirtual 132, 3) := by decide +kernel
theorem dX5_rubs_8 : decode cX5_rubs 8 = .ok (.ifnonnull 5, 3) := by decide +kernel
theorem dX5_rubs_11 : decode cX5_rubs 11 = .ok (.iconst (-1), 1) := by decide +kernel
theorem dX5_rubs_12 : decode cX5_rubs 12 = .ok (.ireturn, 1) := by decide +kernel
theorem dX5_rubs_13 : decode cX5_rubs 13 = .ok (.aload_n 0, 1) := by decide +kernel
theorem dX5_rubs_14 : decode cX5_rubs 14 = .ok (.aload_n 0, 1) := by decide +kernel
theorem dX5_rubs_15 : decode cX5_rubs 15 = .ok (.getfield 37, 3) := by decide +kernel
theorem dX5_rubs_18 : decode cX5_rubs 18 = .ok (.iload_n 1, 1) := by decide +kernel
theorem dX5_rubs_19 : decode cX5_rubs 19 = .ok (.invokevirtual 175, 3) := by decide +kernel
theorem dX5_rubs_22 : decode cX5_rubs 22 = .ok (.invokevirtual 171, 3) := by decide +kernel
theorem dX5_rubs_25 : decode cX5_rubs 25 = .ok (.aload_n 0, 1) := by decide +kernel
theorem dX5_rubs_26 : decode cX5_rubs 26 = .ok (.getfield 37, 3) := by decide +kernel
theorem dX5_rubs_29 : decode cX5_rubs 29 = .ok (.getfield 157, 3) := by decide +kernel
theorem dX5_rubs_32 : decode cX5_rubs 32 = .ok (.arraylength, 1) := by decide +kernel
theorem dX5_rubs_33 : decode cX5_rubs 33 = .ok (.ireturn, 1) := by decide +kernel
theorem dX5_spins_0 : decode cX5_spins 0 = .ok (.iload_n 1, 1) := by decide +kernel
theorem dX5_spins_1 : decode cX5_spins 1 = .ok (.iconst 1, 1) := by decide +kernel
theorem dX5_spins_2 : decode cX5_spins 2 = .ok (.sipush 359, 3) := by decide +kernel
theorem dX5_spins_5 : decode cX5_spins 5 = .ok (.invokestatic 70, 3) := by decide +kernel
theorem dX5_spins_8 : decode cX5_spins 8 = .ok (.ifCond .ne 5, 3) := by decide +kernel
theorem dX5_spins_11 : decode cX5_spins 11 = .ok (.iconst (-1), 1) := by decide +kernel
theorem dX5_spins_12 : decode cX5_spins 12 = .ok (.ireturn, 1) := by decide +kernel
theorem dX5_spins_13 : decode cX5_spins 13 = .ok (.aload_n 0, 1) := by decide +kernel
theorem dX5_spins_14 : decode cX5_spins 14 = .ok (.aload_n 0, 1) := by decide +kernel
theorem dX5_spins_15 : decode cX5_spins 15 = .ok (.getfield 37, 3) := by decide +kernel
theorem dX5_spins_18 : decode cX5_spins 18 = .ok (.iload_n 1, 1) := by decide +kernel
theorem dX5_spins_19 : decode cX5_spins 19 = .ok (.invokevirtual 179, 3) := by decide +kernel
theorem dX5_spins_22 : decode cX5_spins 22 = .ok (.invokevirtual 171, 3) := by decide +kernel
theorem dX5_spins_25 : decode cX5_spins 25 = .ok (.aload_n 0, 1) := by decide +kernel
theorem dX5_spins_26 : decode cX5_spins 26 = .ok (.getfield 37, 3) := by decide +kernel
theorem dX5_spins_29 : decode cX5_spins 29 = .ok (.getfield 161, 3) := by decide +kernel
theorem dX5_spins_32 : decode cX5_spins 32 = .ok (.ireturn, 1) := by decide +kernel
theorem dX5_fills_0 : decode cX5_fills 0 = .ok (.aload_n 0, 1) := by decide +kernel
theorem dX5_fills_1 : decode cX5_fills 1 = .ok (.getfield 26, 3) := by decide +kernel
theorem dX5_fills_4 : decode cX5_fills 4 = .ok (.iload_n 1, 1) := by decide +kernel
theorem dX5_fills_5 : decode cX5_fills 5 = .ok (.invokevirtual 123, 3) := by decide +kernel
theorem dX5_fills_8 : decode cX5_fills 8 = .ok (.ifCond .eq 14, 3) := by decide +kernel
theorem dX5_fills_11 : decode cX5_fills 11 = .ok (.iload_n 2, 1) := by decide +kernel
theorem dX5_fills_12 : decode cX5_fills 12 = .ok (.iconst 1, 1) := by decide +kernel
theorem dX5_fills_13 : decode cX5_fills 13 = .ok (.sipush 999, 3) := by decide +kernel
theorem dX5_fills_16 : decode cX5_fills 16 = .ok (.invokestatic 70, 3) := by decide +kernel
theorem dX5_fills_19 : decode cX5_fills 19 = .ok (.ifCond .ne 5, 3) := by decide +kernel
theorem dX5_fills_22 : decode cX5_fills 22 = .ok (.iconst (-1), 1) := by decide +kernel
theorem dX5_fills_23 : decode cX5_fills 23 = .ok (.ireturn, 1) := by decide +kernel
theorem dX5_fills_24 : decode cX5_fills 24 = .ok (.aload_n 0, 1) := by decide +kernel
theorem dX5_fills_25 : decode cX5_fills 25 = .ok (.getfield 37, 3) := by decide +kernel
theorem dX5_fills_28 : decode cX5_fills 28 = .ok (.iload_n 1, 1) := by decide +kernel
theorem dX5_fills_29 : decode cX5_fills 29 = .ok (.invokevirtual 126, 3) := by decide +kernel
theorem dX5_fills_32 : decode cX5_fills 32 = .ok (.sipush 999, 3) := by decide +kernel
theorem dX5_fills_35 : decode cX5_fills 35 = .ok (.if_icmp .lt 6, 3) := by decide +kernel
theorem dX5_fills_38 : decode cX5_fills 38 = .ok (.bipush (-2), 2) := by decide +kernel
theorem dX5_fills_40 : decode cX5_fills 40 = .ok (.ireturn, 1) := by decide +kernel
theorem dX5_fills_41 : decode cX5_fills 41 = .ok (.aload_n 0, 1) := by decide +kernel
theorem dX5_fills_42 : decode cX5_fills 42 = .ok (.aload_n 0, 1) := by decide +kernel
theorem dX5_fills_43 : decode cX5_fills 43 = .ok (.getfield 37, 3) := by decide +kernel
theorem dX5_fills_46 : decode cX5_fills 46 = .ok (.iload_n 1, 1) := by decide +kernel
theorem dX5_fills_47 : decode cX5_fills 47 = .ok (.iload_n 2, 1) := by decide +kernel
theorem dX5_fills_48 : decode cX5_fills 48 = .ok (.invokevirtual 182, 3) := by decide +kernel
theorem dX5_fills_51 : decode cX5_fills 51 = .ok (.invokevirtual 171, 3) := by decide +kernel
theorem dX5_fills_54 : decode cX5_fills 54 = .ok (.aload_n 0, 1) := by decide +kernel
theorem dX5_fills_55 : decode cX5_fills 55 = .ok (.getfield 37, 3) := by decide +kernel
theorem dX5_fills_58 : decode cX5_fills 58 = .ok (.iload_n 1, 1) := by decide +kernel
theorem dX5_fills_59 : decode cX5_fills 59 = .ok (.invokevirtual 126, 3) := by decide +kernel
theorem dX5_fills_62 : decode cX5_fills 62 = .ok (.ireturn, 1) := by decide +kernel
theorem dX5_undo_0 : decode cX5_undo 0 = .ok (.aload_n 0, 1) := by decide +kernel
theorem dX5_undo_1 : decode cX5_undo 1 = .ok (.getfield 37, 3) := by decide +kernel
theorem dX5_undo_4 : decode cX5_undo 4 = .ok (.getfield 186, 3) := by decide +kernel
theorem dX5_undo_7 : decode cX5_undo 7 = .ok (.astore_n 1, 1) := by decide +kernel
theorem dX5_undo_8 : decode cX5_undo 8 = .ok (.aload_n 0, 1) := by decide +kernel
theorem dX5_undo_9 : decode cX5_undo 9 = .ok (.getfield 41, 3) := by decide +kernel
theorem dX5_undo_12 : decode cX5_undo 12 = .ok (.ifCond .le 7, 3) := by decide +kernel
theorem dX5_undo_15 : decode cX5_undo 15 = .ok (.aload_n 1, 1) := by decide +kernel
theorem dX5_undo_16 : decode cX5_undo 16 = .ok (.ifnonnull 6, 3) := by decide +kernel
theorem dX5_undo_19 : decode cX5_undo 19 = .ok (.bipush (-2), 2) := by decide +kernel
theorem dX5_undo_21 : decode cX5_undo 21 = .ok (.ireturn, 1) := by decide +kernel
theorem dX5_undo_22 : decode cX5_undo 22 = .ok (.aload_n 0, 1) := by decide +kernel
theorem dX5_undo_23 : decode cX5_undo 23 = .ok (.aload_n 1, 1) := by decide +kernel
theorem dX5_undo_24 : decode cX5_undo 24 = .ok (.putfield 37, 3) := by decide +kernel
theorem dX5_undo_27 : decode cX5_undo 27 = .ok (.aload_n 0, 1) := by decide +kernel
theorem dX5_undo_28 : decode cX5_undo 28 = .ok (.dup, 1) := by decide +kernel
theorem dX5_undo_29 : decode cX5_undo 29 = .ok (.getfield 41, 3) := by decide +kernel
theorem dX5_undo_32 : decode cX5_undo 32 = .ok (.iconst 1, 1) := by decide +kernel
theorem dX5_undo_33 : decode cX5_undo 33 = .ok (.isub, 1) := by decide +kernel
theorem dX5_undo_34 : decode cX5_undo 34 = .ok (.putfield 41, 3) := by decide +kernel
theorem dX5_undo_37 : decode cX5_undo 37 = .ok (.aload_n 0, 1) := by decide +kernel
theorem dX5_undo_38 : decode cX5_undo 38 = .ok (.getfield 41, 3) := by decide +kernel
theorem dX5_undo_41 : decode cX5_undo 41 = .ok (.ireturn, 1) := by decide +kernel
theorem dX5_now_0 : decode cX5_now 0 = .ok (.iload_n 1, 1) := by decide +kernel
theorem dX5_now_1 : decode cX5_now 1 = .ok (.tableswitch 58 0 3 #[31, 39, 48, 53], 31) := by decide +kernel
theorem dX5_now_32 : decode cX5_now 32 = .ok (.aload_n 0, 1) := by decide +kernel
theorem dX5_now_33 : decode cX5_now 33 = .ok (.getfield 37, 3) := by decide +kernel
theorem dX5_now_36 : decode cX5_now 36 = .ok (.getfield 161, 3) := by decide +kernel
theorem dX5_now_39 : decode cX5_now 39 = .ok (.ireturn, 1) := by decide +kernel
theorem dX5_now_40 : decode cX5_now 40 = .ok (.aload_n 0, 1) := by decide +kernel
theorem dX5_now_41 : decode cX5_now 41 = .ok (.getfield 37, 3) := by decide +kernel
theorem dX5_now_44 : decode cX5_now 44 = .ok (.getfield 157, 3) := by decide +kernel
theorem dX5_now_47 : decode cX5_now 47 = .ok (.arraylength, 1) := by decide +kernel
theorem dX5_now_48 : decode cX5_now 48 = .ok (.ireturn, 1) := by decide +kernel
theorem dX5_now_49 : decode cX5_now 49 = .ok (.aload_n 0, 1) := by decide +kernel
theorem dX5_now_50 : decode cX5_now 50 = .ok (.invokevirtual 189, 3) := by decide +kernel
theorem dX5_now_53 : decode cX5_now 53 = .ok (.ireturn, 1) := by decide +kernel
theorem dX5_now_54 : decode cX5_now 54 = .ok (.aload_n 0, 1) := by decide +kernel
theorem dX5_now_55 : decode cX5_now 55 = .ok (.invokevirtual 192, 3) := by decide +kernel
theorem dX5_now_58 : decode cX5_now 58 = .ok (.ireturn, 1) := by decide +kernel
theorem dX5_now_59 : decode cX5_now 59 = .ok (.iconst (-1), 1) := by decide +kernel
theorem dX5_now_60 : decode cX5_now 60 = .ok (.ireturn, 1) := by decide +kernel
theorem dX5_shown_0 : decode cX5_shown 0 = .ok (.iload_n 1, 1) := by decide +kernel
theorem dX5_shown_1 : decode cX5_shown 1 = .ok (.iconst 0, 1) := by decide +kernel
theorem dX5_shown_2 : decode cX5_shown 2 = .ok (.sipush 359, 3) := by decide +kernel
theorem dX5_shown_5 : decode cX5_shown 5 = .ok (.invokestatic 70, 3) := by decide +kernel
theorem dX5_shown_8 : decode cX5_shown 8 = .ok (.ifCond .eq 13, 3) := by decide +kernel
theorem dX5_shown_11 : decode cX5_shown 11 = .ok (.iload_n 2, 1) := by decide +kernel
theorem dX5_shown_12 : decode cX5_shown 12 = .ok (.iconst 1, 1) := by decide +kernel
theorem dX5_shown_13 : decode cX5_shown 13 = .ok (.bipush 9, 2) := by decide +kernel
theorem dX5_shown_15 : decode cX5_shown 15 = .ok (.invokestatic 70, 3) := by decide +kernel
theorem dX5_shown_18 : decode cX5_shown 18 = .ok (.ifCond .ne 5, 3) := by decide +kernel
theorem dX5_shown_21 : decode cX5_shown 21 = .ok (.iconst (-1), 1) := by decide +kernel
theorem dX5_shown_22 : decode cX5_shown 22 = .ok (.ireturn, 1) := by decide +kernel
theorem dX5_shown_23 : decode cX5_shown 23 = .ok (.aload_n 0, 1) := by decide +kernel
theorem dX5_shown_24 : decode cX5_shown 24 = .ok (.getfield 37, 3) := by decide +kernel
theorem dX5_shown_27 : decode cX5_shown 27 = .ok (.getfield 157, 3) := by decide +kernel
theorem dX5_shown_30 : decode cX5_shown 30 = .ok (.arraylength, 1) := by decide +kernel
theorem dX5_shown_31 : decode cX5_shown 31 = .ok (.iconst 1, 1) := by decide +kernel
theorem dX5_shown_32 : decode cX5_shown 32 = .ok (.isub, 1) := by decide +kernel
theorem dX5_shown_33 : decode cX5_shown 33 = .ok (.istore_n 3, 1) := by decide +kernel
theorem dX5_shown_34 : decode cX5_shown 34 = .ok (.iload_n 3, 1) := by decide +kernel
theorem dX5_shown_35 : decode cX5_shown 35 = .ok (.ifCond .lt 28, 3) := by decide +kernel
theorem dX5_shown_38 : decode cX5_shown 38 = .ok (.aload_n 0, 1) := by decide +kernel
theorem dX5_shown_39 : decode cX5_shown 39 = .ok (.getfield 37, 3) := by decide +kernel
theorem dX5_shown_42 : decode cX5_shown 42 = .ok (.getfield 157, 3) := by decide +kernel
theorem dX5_shown_45 : decode cX5_shown 45 = .ok (.iload_n 3, 1) := by decide +kernel
theorem dX5_shown_46 : decode cX5_shown 46 = .ok (.aaload, 1) := by decide +kernel
theorem dX5_shown_47 : decode cX5_shown 47 = .ok (.iload_n 1, 1) := by decide +kernel
theorem dX5_shown_48 : decode cX5_shown 48 = .ok (.iload_n 2, 1) := by decide +kernel
theorem dX5_shown_49 : decode cX5_shown 49 = .ok (.invokevirtual 195, 3) := by decide +kernel
theorem dX5_shown_52 : decode cX5_shown 52 = .ok (.ifCond .eq 5, 3) := by decide +kernel
theorem dX5_shown_55 : decode cX5_shown 55 = .ok (.iload_n 3, 1) := by decide +kernel
theorem dX5_shown_56 : decode cX5_shown 56 = .ok (.ireturn, 1) := by decide +kernel
theorem dX5_shown_57 : decode cX5_shown 57 = .ok (.iinc 3 (-1), 3) := by decide +kernel
theorem dX5_shown_60 : decode cX5_shown 60 = .ok (.goto (-26), 3) := by decide +kernel
theorem dX5_shown_63 : decode cX5_shown 63 = .ok (.bipush (-9), 2) := by decide +kernel
theorem dX5_shown_65 : decode cX5_shown 65 = .ok (.ireturn, 1) := by decide +kernel
theorem dX5_petals_0 : decode cX5_petals 0 = .ok (.aload_n 0, 1) := by decide +kernel
theorem dX5_petals_1 : decode cX5_petals 1 = .ok (.getfield 26, 3) := by decide +kernel
theorem dX5_petals_4 : decode cX5_petals 4 = .ok (.iload_n 1, 1) := by decide +kernel
theorem dX5_petals_5 : decode cX5_petals 5 = .ok (.invokevirtual 96, 3) := by decide +kernel
theorem dX5_petals_8 : decode cX5_petals 8 = .ok (.ifCond .eq 13, 3) := by decide +kernel
theorem dX5_petals_11 : decode cX5_petals 11 = .ok (.iload_n 2, 1) := by decide +kernel
theorem dX5_petals_12 : decode cX5_petals 12 = .ok (.iconst 1, 1) := by decide +kernel
theorem dX5_petals_13 : decode cX5_petals 13 = .ok (.bipush 120, 2) := by decide +kernel
theorem dX5_petals_15 : decode cX5_petals 15 = .ok (.invokestatic 70, 3) := by decide +kernel
theorem dX5_petals_18 : decode cX5_petals 18 = .ok (.ifCond .ne 5, 3) := by decide +kernel
theorem dX5_petals_21 : decode cX5_petals 21 = .ok (.iconst (-1), 1) := by decide +kernel
theorem dX5_petals_22 : decode cX5_petals 22 = .ok (.ireturn, 1) := by decide +kernel
theorem dX5_petals_23 : decode cX5_petals 23 = .ok (.iconst 0, 1) := by decide +kernel
theorem dX5_petals_24 : decode cX5_petals 24 = .ok (.istore_n 3, 1) := by decide +kernel
theorem dX5_petals_25 : decode cX5_petals 25 = .ok (.iload_n 3, 1) := by decide +kernel
theorem dX5_petals_26 : decode cX5_petals 26 = .ok (.aload_n 0, 1) := by decide +kernel
theorem dX5_petals_27 : decode cX5_petals 27 = .ok (.getfield 26, 3) := by decide +kernel
theorem dX5_petals_30 : decode cX5_petals 30 = .ok (.getfield 198, 3) := by decide +kernel
theorem dX5_petals_33 : decode cX5_petals 33 = .ok (.if_icmp .ge 36, 3) := by decide +kernel
theorem dX5_petals_36 : decode cX5_petals 36 = .ok (.aload_n 0, 1) := by decide +kernel
theorem dX5_petals_37 : decode cX5_petals 37 = .ok (.getfield 26, 3) := by decide +kernel
theorem dX5_petals_40 : decode cX5_petals 40 = .ok (.iload_n 1, 1) := by decide +kernel
theorem dX5_petals_41 : decode cX5_petals 41 = .ok (.iload_n 3, 1) := by decide +kernel
theorem dX5_petals_42 : decode cX5_petals 42 = .ok (.invokevirtual 109, 3) := by decide +kernel
theorem dX5_petals_45 : decode cX5_petals 45 = .ok (.ifCond .eq 18, 3) := by decide +kernel
theorem dX5_petals_48 : decode cX5_petals 48 = .ok (.aload_n 0, 1) := by decide +kernel
theorem dX5_petals_49 : decode cX5_petals 49 = .ok (.getfield 26, 3) := by decide +kernel
theorem dX5_petals_52 : decode cX5_petals 52 = .ok (.iload_n 1, 1) := by decide +kernel
theorem dX5_petals_53 : decode cX5_petals 53 = .ok (.iload_n 3, 1) := by decide +kernel
theorem dX5_petals_54 : decode cX5_petals 54 = .ok (.invokevirtual 113, 3) := by decide +kernel
theorem dX5_petals_57 : decode cX5_petals 57 = .ok (.iload_n 2, 1) := by decide +kernel
theorem dX5_petals_58 : decode cX5_petals 58 = .ok (.if_icmp .ne 5, 3) := by decide +kernel
theorem dX5_petals_61 : decode cX5_petals 61 = .ok (.iload_n 3, 1) := by decide +kernel
theorem dX5_petals_62 : decode cX5_petals 62 = .ok (.ireturn, 1) := by decide +kernel
theorem dX5_petals_63 : decode cX5_petals 63 = .ok (.iinc 3 1, 3) := by decide +kernel
theorem dX5_petals_66 : decode cX5_petals 66 = .ok (.goto (-41), 3) := by decide +kernel
theorem dX5_petals_69 : decode cX5_petals 69 = .ok (.bipush (-9), 2) := by decide +kernel
theorem dX5_petals_71 : decode cX5_petals 71 = .ok (.ireturn, 1) := by decide +kernel
theorem dX5_closes_0 : decode cX5_closes 0 = .ok (.aload_n 0, 1) := by decide +kernel
theorem dX5_closes_1 : decode cX5_closes 1 = .ok (.getfield 26, 3) := by decide +kernel
theorem dX5_closes_4 : decode cX5_closes 4 = .ok (.iload_n 1, 1) := by decide +kernel
theorem dX5_closes_5 : decode cX5_closes 5 = .ok (.invokevirtual 96, 3) := by decide +kernel
theorem dX5_closes_8 : decode cX5_closes 8 = .ok (.ifCond .eq 22, 3) := by decide +kernel
theorem dX5_closes_11 : decode cX5_closes 11 = .ok (.iload_n 2, 1) := by decide +kernel
theorem dX5_closes_12 : decode cX5_closes 12 = .ok (.iconst 1, 1) := by decide +kernel
theorem dX5_closes_13 : decode cX5_closes 13 = .ok (.bipush 9, 2) := by decide +kernel
theorem dX5_closes_15 : decode cX5_closes 15 = .ok (.invokestatic 70, 3) := by decide +kernel
theorem dX5_closes_18 : decode cX5_closes 18 = .ok (.ifCond .eq 12, 3) := by decide +kernel
theorem dX5_closes_21 : decode cX5_closes 21 = .ok (.iload_n 3, 1) := by decide +kernel
theorem dX5_closes_22 : decode cX5_closes 22 = .ok (.iconst 0, 1) := by decide +kernel
theorem dX5_closes_23 : decode cX5_closes 23 = .ok (.iconst 1, 1) := by decide +kernel
theorem dX5_closes_24 : decode cX5_closes 24 = .ok (.invokestatic 70, 3) := by decide +kernel
theorem dX5_closes_27 : decode cX5_closes 27 = .ok (.ifCond .ne 5, 3) := by decide +kernel
theorem dX5_closes_30 : decode cX5_closes 30 = .ok (.iconst (-1), 1) := by decide +kernel
theorem dX5_closes_31 : decode cX5_closes 31 = .ok (.ireturn, 1) := by decide +kernel
theorem dX5_closes_32 : decode cX5_closes 32 = .ok (.aload_n 0, 1) := by decide +kernel
theorem dX5_closes_33 : decode cX5_closes 33 = .ok (.iload_n 1, 1) := by decide +kernel
theorem dX5_closes_34 : decode cX5_closes 34 = .ok (.iload_n 2, 1) := by decide +kernel
theorem dX5_closes_35 : decode cX5_closes 35 = .ok (.invokevirtual 201, 3) := by decide +kernel
theorem dX5_closes_38 : decode cX5_closes 38 = .ok (.ifCond .ne 14, 3) := by decide +kernel
theorem dX5_closes_41 : decode cX5_closes 41 = .ok (.iload_n 3, 1) := by decide +kernel
theorem dX5_closes_42 : decode cX5_closes 42 = .ok (.ifCond .ne 7, 3) := by decide +kernel
theorem dX5_closes_45 : decode cX5_closes 45 = .ok (.iconst 0, 1) := by decide +kernel
theorem dX5_closes_46 : decode cX5_closes 46 = .ok (.goto 5, 3) := by decide +kernel
theorem dX5_closes_49 : decode cX5_closes 49 = .ok (.bipush (-9), 2) := by decide +kernel
theorem dX5_closes_51 : decode cX5_closes 51 = .ok (.ireturn, 1) := by decide +kernel
theorem dX5_closes_52 : decode cX5_closes 52 = .ok (.bipush (-9), 2) := by decide +kernel
theorem dX5_closes_54 : decode cX5_closes 54 = .ok (.istore 4, 2) := by decide +kernel
theorem dX5_closes_56 : decode cX5_closes 56 = .ok (.bipush (-9), 2) := by decide +kernel
theorem dX5_closes_58 : decode cX5_closes 58 = .ok (.istore 5, 2) := by decide +kernel
theorem dX5_closes_60 : decode cX5_closes 60 = .ok (.iconst 0, 1) := by decide +kernel
theorem dX5_closes_61 : decode cX5_closes 61 = .ok (.istore 6, 2) := by decide +kernel
theorem dX5_closes_63 : decode cX5_closes 63 = .ok (.iload 6, 2) := by decide +kernel
theorem dX5_closes_65 : decode cX5_closes 65 = .ok (.aload_n 0, 1) := by decide +kernel
theorem dX5_closes_66 : decode cX5_closes 66 = .ok (.getfield 26, 3) := by decide +kernel
theorem dX5_closes_69 : decode cX5_closes 69 = .ok (.getfield 198, 3) := by decide +kernel
theorem dX5_closes_72 : decode cX5_closes 72 = .ok (.if_icmp .ge 68, 3) := by decide +kernel
theorem dX5_closes_75 : decode cX5_closes 75 = .ok (.aload_n 0, 1) := by decide +kernel
theorem dX5_closes_76 : decode cX5_closes 76 = .ok (.getfield 26, 3) := by decide +kernel
theorem dX5_closes_79 : decode cX5_closes 79 = .ok (.iload_n 1, 1) := by decide +kernel
theorem dX5_closes_80 : decode cX5_closes 80 = .ok (.iload 6, 2) := by decide +kernel
theorem dX5_closes_82 : decode cX5_closes 82 = .ok (.invokevirtual 109, 3) := by decide +kernel
theorem dX5_closes_85 : decode cX5_closes 85 = .ok (.ifCond .eq 49, 3) := by decide +kernel
theorem dX5_closes_88 : decode cX5_closes 88 = .ok (.aload_n 0, 1) := by decide +kernel
theorem dX5_closes_89 : decode cX5_closes 89 = .ok (.aload_n 0, 1) := by decide +kernel
theorem dX5_closes_90 : decode cX5_closes 90 = .ok (.getfield 26, 3) := by decide +kernel
theorem dX5_closes_93 : decode cX5_closes 93 = .ok (.iload_n 1, 1) := by decide +kernel
theorem dX5_closes_94 : decode cX5_closes 94 = .ok (.invokevirtual 99, 3) := by decide +kernel
theorem dX5_closes_97 : decode cX5_closes 97 = .ok (.aload_n 0, 1) := by decide +kernel
theorem dX5_closes_98 : decode cX5_closes 98 = .ok (.getfield 26, 3) := by decide +kernel
theorem dX5_closes_101 : decode cX5_closes 101 = .ok (.iload_n 1, 1) := by decide +kernel
theorem dX5_closes_102 : decode cX5_closes 102 = .ok (.iload 6, 2) := by decide +kernel
theorem dX5_closes_104 : decode cX5_closes 104 = .ok (.invokevirtual 204, 3) := by decide +kernel
theorem dX5_closes_107 : decode cX5_closes 107 = .ok (.invokevirtual 207, 3) := by decide +kernel
theorem dX5_closes_110 : decode cX5_closes 110 = .ok (.istore 7, 2) := by decide +kernel
theorem dX5_closes_112 : decode cX5_closes 112 = .ok (.iload 5, 2) := by decide +kernel
theorem dX5_closes_114 : decode cX5_closes 114 = .ok (.bipush (-9), 2) := by decide +kernel
theorem dX5_closes_116 : decode cX5_closes 116 = .ok (.if_icmp .eq 10, 3) := by decide +kernel
theorem dX5_closes_119 : decode cX5_closes 119 = .ok (.iload 7, 2) := by decide +kernel
theorem dX5_closes_121 : decode cX5_closes 121 = .ok (.iload 4, 2) := by decide +kernel
theorem dX5_closes_123 : decode cX5_closes 123 = .ok (.if_icmp .ge 11, 3) := by decide +kernel
theorem dX5_closes_126 : decode cX5_closes 126 = .ok (.iload 7, 2) := by decide +kernel
theorem dX5_closes_128 : decode cX5_closes 128 = .ok (.istore 4, 2) := by decide +kernel
theorem dX5_closes_130 : decode cX5_closes 130 = .ok (.iload 6, 2) := by decide +kernel
theorem dX5_closes_132 : decode cX5_closes 132 = .ok (.istore 5, 2) := by decide +kernel
theorem dX5_closes_134 : decode cX5_closes 134 = .ok (.iinc 6 1, 3) := by decide +kernel
theorem dX5_closes_137 : decode cX5_closes 137 = .ok (.goto (-74), 3) := by decide +kernel
theorem dX5_closes_140 : decode cX5_closes 140 = .ok (.iload_n 3, 1) := by decide +kernel
theorem dX5_closes_141 : decode cX5_closes 141 = .ok (.ifCond .ne 8, 3) := by decide +kernel
theorem dX5_closes_144 : decode cX5_closes 144 = .ok (.iload 4, 2) := by decide +kernel
theorem dX5_closes_146 : decode cX5_closes 146 = .ok (.goto 5, 3) := by decide +kernel
theorem dX5_closes_149 : decode cX5_closes 149 = .ok (.iload 5, 2) := by decide +kernel
theorem dX5_closes_151 : decode cX5_closes 151 = .ok (.ireturn, 1) := by decide +kernel
theorem dX5_best_0 : decode cX5_best 0 = .ok (.aload_n 0, 1) := by decide +kernel
theorem dX5_best_1 : decode cX5_best 1 = .ok (.getfield 26, 3) := by decide +kernel
theorem dX5_best_4 : decode cX5_best 4 = .ok (.iload_n 1, 1) := by decide +kernel
theorem dX5_best_5 : decode cX5_best 5 = .ok (.invokevirtual 123, 3) := by decide +kernel
theorem dX5_best_8 : decode cX5_best 8 = .ok (.ifCond .eq 12, 3) := by decide +kernel
theorem dX5_best_11 : decode cX5_best 11 = .ok (.iload_n 2, 1) := by decide +kernel
theorem dX5_best_12 : decode cX5_best 12 = .ok (.iconst 0, 1) := by decide +kernel
theorem dX5_best_13 : decode cX5_best 13 = .ok (.iconst 1, 1) := by decide +kernel
theorem dX5_best_14 : decode cX5_best 14 = .ok (.invokestatic 70, 3) := by decide +kernel
theorem dX5_best_17 : decode cX5_best 17 = .ok (.ifCond .ne 5, 3) := by decide +kernel
theorem dX5_best_20 : decode cX5_best 20 = .ok (.iconst (-1), 1) := by decide +kernel
theorem dX5_best_21 : decode cX5_best 21 = .ok (.ireturn, 1) := by decide +kernel
theorem dX5_best_22 : decode cX5_best 22 = .ok (.aload_n 0, 1) := by decide +kernel
theorem dX5_best_23 : decode cX5_best 23 = .ok (.getfield 66, 3) := by decide +kernel
theorem dX5_best_26 : decode cX5_best 26 = .ok (.ifCond .ne 7, 3) := by decide +kernel
theorem dX5_best_29 : decode cX5_best 29 = .ok (.aload_n 0, 1) := by decide +kernel
theorem dX5_best_30 : decode cX5_best 30 = .ok (.invokevirtual 210, 3) := by decide +kernel
theorem dX5_best_33 : decode cX5_best 33 = .ok (.aload_n 0, 1) := by decide +kernel
theorem dX5_best_34 : decode cX5_best 34 = .ok (.getfield 37, 3) := by decide +kernel
theorem dX5_best_37 : decode cX5_best 37 = .ok (.iload_n 1, 1) := by decide +kernel
theorem dX5_best_38 : decode cX5_best 38 = .ok (.invokevirtual 126, 3) := by decide +kernel
theorem dX5_best_41 : decode cX5_best 41 = .ok (.iconst 0, 1) := by decide +kernel
theorem dX5_best_42 : decode cX5_best 42 = .ok (.invokestatic 213, 3) := by decide +kernel
theorem dX5_best_45 : decode cX5_best 45 = .ok (.sipush 999, 3) := by decide +kernel
theorem dX5_best_48 : decode cX5_best 48 = .ok (.invokestatic 218, 3) := by decide +kernel
theorem dX5_best_51 : decode cX5_best 51 = .ok (.istore_n 3, 1) := by decide +kernel
theorem dX5_best_52 : decode cX5_best 52 = .ok (.aload_n 0, 1) := by decide +kernel
theorem dX5_best_53 : decode cX5_best 53 = .ok (.getfield 63, 3) := by decide +kernel
theorem dX5_best_56 : decode cX5_best 56 = .ok (.iload_n 3, 1) := by decide +kernel
theorem dX5_best_57 : decode cX5_best 57 = .ok (.iaload, 1) := by decide +kernel
theorem dX5_best_58 : decode cX5_best 58 = .ok (.istore 4, 2) := by decide +kernel
theorem dX5_best_60 : decode cX5_best 60 = .ok (.iload_n 2, 1) := by decide +kernel
theorem dX5_best_61 : decode cX5_best 61 = .ok (.ifCond .ne 6, 3) := by decide +kernel
theorem dX5_best_64 : decode cX5_best 64 = .ok (.iload 4, 2) := by decide +kernel
theorem dX5_best_66 : decode cX5_best 66 = .ok (.ireturn, 1) := by decide +kernel
theorem dX5_best_67 : decode cX5_best 67 = .ok (.iconst 0, 1) := by decide +kernel
theorem dX5_best_68 : decode cX5_best 68 = .ok (.istore 5, 2) := by decide +kernel
theorem dX5_best_70 : decode cX5_best 70 = .ok (.iload 5, 2) := by decide +kernel
theorem dX5_best_72 : decode cX5_best 72 = .ok (.iload_n 3, 1) := by decide +kernel
theorem dX5_best_73 : decode cX5_best 73 = .ok (.if_icmp .ge 21, 3) := by decide +kernel
theorem dX5_best_76 : decode cX5_best 76 = .ok (.aload_n 0, 1) := by decide +kernel
theorem dX5_best_77 : decode cX5_best 77 = .ok (.getfield 63, 3) := by decide +kernel
theorem dX5_best_80 : decode cX5_best 80 = .ok (.iload 5, 2) := by decide +kernel
theorem dX5_best_82 : decode cX5_best 82 = .ok (.iaload, 1) := by decide +kernel
theorem dX5_best_83 : decode cX5_best 83 = .ok (.iload 4, 2) := by decide +kernel
theorem dX5_best_85 : decode cX5_best 85 = .ok (.if_icmp .ge 9, 3) := by decide +kernel
theorem dX5_best_88 : decode cX5_best 88 = .ok (.iinc 5 1, 3) := by decide +kernel
theorem dX5_best_91 : decode cX5_best 91 = .ok (.goto (-21), 3) := by decide +kernel
theorem dX5_best_94 : decode cX5_best 94 = .ok (.iload 5, 2) := by decide +kernel
theorem dX5_best_96 : decode cX5_best 96 = .ok (.ireturn, 1) := by decide +kernel
theorem dX5_meet_0 : decode cX5_meet 0 = .ok (.aload_n 0, 1) := by decide +kernel
theorem dX5_meet_1 : decode cX5_meet 1 = .ok (.getfield 37, 3) := by decide +kernel
theorem dX5_meet_4 : decode cX5_meet 4 = .ok (.iload_n 1, 1) := by decide +kernel
theorem dX5_meet_5 : decode cX5_meet 5 = .ok (.invokevirtual 132, 3) := by decide +kernel
theorem dX5_meet_8 : decode cX5_meet 8 = .ok (.astore_n 3, 1) := by decide +kernel
theorem dX5_meet_9 : decode cX5_meet 9 = .ok (.aload_n 0, 1) := by decide +kernel
theorem dX5_meet_10 : decode cX5_meet 10 = .ok (.getfield 37, 3) := by decide +kernel
theorem dX5_meet_13 : decode cX5_meet 13 = .ok (.iload_n 2, 1) := by decide +kernel
theorem dX5_meet_14 : decode cX5_meet 14 = .ok (.invokevirtual 132, 3) := by decide +kernel
theorem dX5_meet_17 : decode cX5_meet 17 = .ok (.astore 4, 2) := by decide +kernel
theorem dX5_meet_19 : decode cX5_meet 19 = .ok (.aload_n 3, 1) := by decide +kernel
theorem dX5_meet_20 : decode cX5_meet 20 = .ok (.ifnull 13, 3) := by decide +kernel
theorem dX5_meet_23 : decode cX5_meet 23 = .ok (.aload 4, 2) := by decide +kernel
theorem dX5_meet_25 : decode cX5_meet 25 = .ok (.ifnull 8, 3) := by decide +kernel
theorem dX5_meet_28 : decode cX5_meet 28 = .ok (.iload_n 1, 1) := by decide +kernel
theorem dX5_meet_29 : decode cX5_meet 29 = .ok (.iload_n 2, 1) := by decide +kernel
theorem dX5_meet_30 : decode cX5_meet 30 = .ok (.if_icmp .ne 5, 3) := by decide +kernel
theorem dX5_meet_33 : decode cX5_meet 33 = .ok (.iconst (-1), 1) := by decide +kernel
theorem dX5_meet_34 : decode cX5_meet 34 = .ok (.ireturn, 1) := by decide +kernel
theorem dX5_meet_35 : decode cX5_meet 35 = .ok (.iconst 0, 1) := by decide +kernel
theorem dX5_meet_36 : decode cX5_meet 36 = .ok (.istore 5, 2) := by decide +kernel
theorem dX5_meet_38 : decode cX5_meet 38 = .ok (.iconst 0, 1) := by decide +kernel
theorem dX5_meet_39 : decode cX5_meet 39 = .ok (.istore 6, 2) := by decide +kernel
theorem dX5_meet_41 : decode cX5_meet 41 = .ok (.iload 6, 2) := by decide +kernel
theorem dX5_meet_43 : decode cX5_meet 43 = .ok (.aload_n 3, 1) := by decide +kernel
theorem dX5_meet_44 : decode cX5_meet 44 = .ok (.getfield 221, 3) := by decide +kernel
theorem dX5_meet_47 : decode cX5_meet 47 = .ok (.if_icmp .ge 30, 3) := by decide +kernel
theorem dX5_meet_50 : decode cX5_meet 50 = .ok (.aload 4, 2) := by decide +kernel
theorem dX5_meet_52 : decode cX5_meet 52 = .ok (.aload_n 3, 1) := by decide +kernel
theorem dX5_meet_53 : decode cX5_meet 53 = .ok (.iload 6, 2) := by decide +kernel
theorem dX5_meet_55 : decode cX5_meet 55 = .ok (.invokevirtual 224, 3) := by decide +kernel
theorem dX5_meet_58 : decode cX5_meet 58 = .ok (.aload_n 3, 1) := by decide +kernel
theorem dX5_meet_59 : decode cX5_meet 59 = .ok (.getfield 142, 3) := by decide +kernel
theorem dX5_meet_62 : decode cX5_meet 62 = .ok (.invokevirtual 195, 3) := by decide +kernel
theorem dX5_meet_65 : decode cX5_meet 65 = .ok (.ifCond .eq 6, 3) := by decide +kernel
theorem dX5_meet_68 : decode cX5_meet 68 = .ok (.iinc 5 1, 3) := by decide +kernel
theorem dX5_meet_71 : decode cX5_meet 71 = .ok (.iinc 6 1, 3) := by decide +kernel
theorem dX5_meet_74 : decode cX5_meet 74 = .ok (.goto (-33), 3) := by decide +kernel
theorem dX5_meet_77 : decode cX5_meet 77 = .ok (.iload 5, 2) := by decide +kernel
theorem dX5_meet_79 : decode cX5_meet 79 = .ok (.ireturn, 1) := by decide +kernel
theorem dX5_odds_0 : decode cX5_odds 0 = .ok (.aload_n 0, 1) := by decide +kernel
theorem dX5_odds_1 : decode cX5_odds 1 = .ok (.getfield 26, 3) := by decide +kernel
theorem dX5_odds_4 : decode cX5_odds 4 = .ok (.iload_n 1, 1) := by decide +kernel
theorem dX5_odds_5 : decode cX5_odds 5 = .ok (.invokevirtual 96, 3) := by decide +kernel
theorem dX5_odds_8 : decode cX5_odds 8 = .ok (.ifCond .eq 14, 3) := by decide +kernel
theorem dX5_odds_11 : decode cX5_odds 11 = .ok (.aload_n 0, 1) := by decide +kernel
theorem dX5_odds_12 : decode cX5_odds 12 = .ok (.getfield 26, 3) := by decide +kernel
theorem dX5_odds_15 : decode cX5_odds 15 = .ok (.iload_n 2, 1) := by decide +kernel
theorem dX5_odds_16 : decode cX5_odds 16 = .ok (.invokevirtual 103, 3) := by decide +kernel
theorem dX5_odds_19 : decode cX5_odds 19 = .ok (.ifCond .ne 5, 3) := by decide +kernel
theorem dX5_odds_22 : decode cX5_odds 22 = .ok (.iconst (-1), 1) := by decide +kernel
theorem dX5_odds_23 : decode cX5_odds 23 = .ok (.ireturn, 1) := by decide +kernel
theorem dX5_odds_24 : decode cX5_odds 24 = .ok (.iload_n 3, 1) := by decide +kernel
theorem dX5_odds_25 : decode cX5_odds 25 = .ok (.iconst 0, 1) := by decide +kernel
theorem dX5_odds_26 : decode cX5_odds 26 = .ok (.sipush 359, 3) := by decide +kernel
theorem dX5_odds_29 : decode cX5_odds 29 = .ok (.invokestatic 70, 3) := by decide +kernel
theorem dX5_odds_32 : decode cX5_odds 32 = .ok (.ifCond .eq 13, 3) := by decide +kernel
theorem dX5_odds_35 : decode cX5_odds 35 = .ok (.iload 4, 2) := by decide +kernel
theorem dX5_odds_37 : decode cX5_odds 37 = .ok (.iconst 0, 1) := by decide +kernel
theorem dX5_odds_38 : decode cX5_odds 38 = .ok (.iconst 1, 1) := by decide +kernel
theorem dX5_odds_39 : decode cX5_odds 39 = .ok (.invokestatic 70, 3) := by decide +kernel
theorem dX5_odds_42 : decode cX5_odds 42 = .ok (.ifCond .ne 5, 3) := by decide +kernel
theorem dX5_odds_45 : decode cX5_odds 45 = .ok (.iconst (-1), 1) := by decide +kernel
theorem dX5_odds_46 : decode cX5_odds 46 = .ok (.ireturn, 1) := by decide +kernel
theorem dX5_odds_47 : decode cX5_odds 47 = .ok (.aload_n 0, 1) := by decide +kernel
theorem dX5_odds_48 : decode cX5_odds 48 = .ok (.getfield 26, 3) := by decide +kernel
theorem dX5_odds_51 : decode cX5_odds 51 = .ok (.iload_n 1, 1) := by decide +kernel
theorem dX5_odds_52 : decode cX5_odds 52 = .ok (.iload_n 2, 1) := by decide +kernel
theorem dX5_odds_53 : decode cX5_odds 53 = .ok (.invokevirtual 109, 3) := by decide +kernel
theorem dX5_odds_56 : decode cX5_odds 56 = .ok (.ifCond .ne 6, 3) := by decide +kernel
theorem dX5_odds_59 : decode cX5_odds 59 = .ok (.bipush (-2), 2) := by decide +kernel
theorem dX5_odds_61 : decode cX5_odds 61 = .ok (.ireturn, 1) := by decide +kernel
theorem dX5_odds_62 : decode cX5_odds 62 = .ok (.iload_n 3, 1) := by decide +kernel
theorem dX5_odds_63 : decode cX5_odds 63 = .ok (.aload_n 0, 1) := by decide +kernel
theorem dX5_odds_64 : decode cX5_odds 64 = .ok (.getfield 37, 3) := by decide +kernel
theorem dX5_odds_67 : decode cX5_odds 67 = .ok (.getfield 161, 3) := by decide +kernel
theorem dX5_odds_70 : decode cX5_odds 70 = .ok (.isub, 1) := by decide +kernel
theorem dX5_odds_71 : decode cX5_odds 71 = .ok (.aload_n 0, 1) := by decide +kernel
theorem dX5_odds_72 : decode cX5_odds 72 = .ok (.getfield 26, 3) := by decide +kernel
theorem dX5_odds_75 : decode cX5_odds 75 = .ok (.iload_n 1, 1) := by decide +kernel
theorem dX5_odds_76 : decode cX5_odds 76 = .ok (.invokevirtual 227, 3) := by decide +kernel
theorem dX5_odds_79 : decode cX5_odds 79 = .ok (.invokestatic 230, 3) := by decide +kernel
theorem dX5_odds_82 : decode cX5_odds 82 = .ok (.ifCond .ne 7, 3) := by decide +kernel
theorem dX5_odds_85 : decode cX5_odds 85 = .ok (.iconst 1, 1) := by decide +kernel
theorem dX5_odds_86 : decode cX5_odds 86 = .ok (.goto 4, 3) := by decide +kernel
theorem dX5_odds_89 : decode cX5_odds 89 = .ok (.iconst 0, 1) := by decide +kernel
theorem dX5_odds_90 : decode cX5_odds 90 = .ok (.istore 5, 2) := by decide +kernel
theorem dX5_odds_92 : decode cX5_odds 92 = .ok (.iload 4, 2) := by decide +kernel
theorem dX5_odds_94 : decode cX5_odds 94 = .ok (.ifCond .ne 14, 3) := by decide +kernel
theorem dX5_odds_97 : decode cX5_odds 97 = .ok (.iload 5, 2) := by decide +kernel
theorem dX5_odds_99 : decode cX5_odds 99 = .ok (.ifCond .eq 7, 3) := by decide +kernel
theorem dX5_odds_102 : decode cX5_odds 102 = .ok (.iconst 1, 1) := by decide +kernel
theorem dX5_odds_103 : decode cX5_odds 103 = .ok (.goto 4, 3) := by decide +kernel
theorem dX5_odds_106 : decode cX5_odds 106 = .ok (.iconst 0, 1) := by decide +kernel
theorem dX5_odds_107 : decode cX5_odds 107 = .ok (.ireturn, 1) := by decide +kernel
theorem dX5_odds_108 : decode cX5_odds 108 = .ok (.iload 5, 2) := by decide +kernel
theorem dX5_odds_110 : decode cX5_odds 110 = .ok (.ifCond .eq 15, 3) := by decide +kernel
theorem dX5_odds_113 : decode cX5_odds 113 = .ok (.aload_n 0, 1) := by decide +kernel
theorem dX5_odds_114 : decode cX5_odds 114 = .ok (.getfield 26, 3) := by decide +kernel
theorem dX5_odds_117 : decode cX5_odds 117 = .ok (.iload_n 1, 1) := by decide +kernel
theorem dX5_odds_118 : decode cX5_odds 118 = .ok (.iload_n 2, 1) := by decide +kernel
theorem dX5_odds_119 : decode cX5_odds 119 = .ok (.invokevirtual 204, 3) := by decide +kernel
theorem dX5_odds_122 : decode cX5_odds 122 = .ok (.goto 4, 3) := by decide +kernel
theorem dX5_odds_125 : decode cX5_odds 125 = .ok (.iconst 1, 1) := by decide +kernel
theorem dX5_odds_126 : decode cX5_odds 126 = .ok (.ireturn, 1) := by decide +kernel
theorem dX5_sees_0 : decode cX5_sees 0 = .ok (.iload_n 1, 1) := by decide +kernel
theorem dX5_sees_1 : decode cX5_sees 1 = .ok (.iconst 0, 1) := by decide +kernel
theorem dX5_sees_2 : decode cX5_sees 2 = .ok (.bipush 119, 2) := by decide +kernel
theorem dX5_sees_4 : decode cX5_sees 4 = .ok (.invokestatic 70, 3) := by decide +kernel
theorem dX5_sees_7 : decode cX5_sees 7 = .ok (.ifCond .eq 12, 3) := by decide +kernel
theorem dX5_sees_10 : decode cX5_sees 10 = .ok (.iload_n 2, 1) := by decide +kernel
theorem dX5_sees_11 : decode cX5_sees 11 = .ok (.iconst 0, 1) := by decide +kernel
theorem dX5_sees_12 : decode cX5_sees 12 = .ok (.iconst 1, 1) := by decide +kernel
theorem dX5_sees_13 : decode cX5_sees 13 = .ok (.invokestatic 70, 3) := by decide +kernel
theorem dX5_sees_16 : decode cX5_sees 16 = .ok (.ifCond .ne 5, 3) := by decide +kernel
theorem dX5_sees_19 : decode cX5_sees 19 = .ok (.iconst (-1), 1) := by decide +kernel
theorem dX5_sees_20 : decode cX5_sees 20 = .ok (.ireturn, 1) := by decide +kernel
theorem dX5_sees_21 : decode cX5_sees 21 = .ok (.aload_n 0, 1) := by decide +kernel
theorem dX5_sees_22 : decode cX5_sees 22 = .ok (.getfield 19, 3) := by decide +kernel
theorem dX5_sees_25 : decode cX5_sees 25 = .ok (.iload_n 1, 1) := by decide +kernel
theorem dX5_sees_26 : decode cX5_sees 26 = .ok (.iload_n 2, 1) := by decide +kernel
theorem dX5_sees_27 : decode cX5_sees 27 = .ok (.iconst 1, 1) := by decide +kernel
theorem dX5_sees_28 : decode cX5_sees 28 = .ok (.if_icmp .ne 7, 3) := by decide +kernel
theorem dX5_sees_31 : decode cX5_sees 31 = .ok (.iconst 1, 1) := by decide +kernel
theorem dX5_sees_32 : decode cX5_sees 32 = .ok (.goto 4, 3) := by decide +kernel
theorem dX5_sees_35 : decode cX5_sees 35 = .ok (.iconst 0, 1) := by decide +kernel
theorem dX5_sees_36 : decode cX5_sees 36 = .ok (.invokevirtual 233, 3) := by decide +kernel
theorem dX5_sees_39 : decode cX5_sees 39 = .ok (.ifCond .eq 13, 3) := by decide +kernel
theorem dX5_sees_42 : decode cX5_sees 42 = .ok (.aload_n 0, 1) := by decide +kernel
theorem dX5_sees_43 : decode cX5_sees 43 = .ok (.getfield 19, 3) := by decide +kernel
theorem dX5_sees_46 : decode cX5_sees 46 = .ok (.getfield 236, 3) := by decide +kernel
theorem dX5_sees_49 : decode cX5_sees 49 = .ok (.goto 5, 3) := by decide +kernel
theorem dX5_sees_52 : decode cX5_sees 52 = .ok (.bipush (-3), 2) := by decide +kernel
theorem dX5_sees_54 : decode cX5_sees 54 = .ok (.ireturn, 1) := by decide +kernel
theorem dX5_forget_0 : decode cX5_forget 0 = .ok (.aload_n 0, 1) := by decide +kernel
theorem dX5_forget_1 : decode cX5_forget 1 = .ok (.getfield 19, 3) := by decide +kernel
theorem dX5_forget_4 : decode cX5_forget 4 = .ok (.invokevirtual 239, 3) := by decide +kernel
theorem dX5_forget_7 : decode cX5_forget 7 = .ok (.ireturn, 1) := by decide +kernel
theorem dX5_guess_0 : decode cX5_guess 0 = .ok (.aload_n 0, 1) := by decide +kernel
theorem dX5_guess_1 : decode cX5_guess 1 = .ok (.getfield 26, 3) := by decide +kernel
theorem dX5_guess_4 : decode cX5_guess 4 = .ok (.iload_n 1, 1) := by decide +kernel
theorem dX5_guess_5 : decode cX5_guess 5 = .ok (.invokevirtual 96, 3) := by decide +kernel
theorem dX5_guess_8 : decode cX5_guess 8 = .ok (.ifCond .eq 12, 3) := by decide +kernel
theorem dX5_guess_11 : decode cX5_guess 11 = .ok (.iload_n 2, 1) := by decide +kernel
theorem dX5_guess_12 : decode cX5_guess 12 = .ok (.iconst 0, 1) := by decide +kernel
theorem dX5_guess_13 : decode cX5_guess 13 = .ok (.iconst 1, 1) := by decide +kernel
theorem dX5_guess_14 : decode cX5_guess 14 = .ok (.invokestatic 70, 3) := by decide +kernel
theorem dX5_guess_17 : decode cX5_guess 17 = .ok (.ifCond .ne 5, 3) := by decide +kernel
theorem dX5_guess_20 : decode cX5_guess 20 = .ok (.iconst (-1), 1) := by decide +kernel
theorem dX5_guess_21 : decode cX5_guess 21 = .ok (.ireturn, 1) := by decide +kernel
theorem dX5_guess_22 : decode cX5_guess 22 = .ok (.iload_n 2, 1) := by decide +kernel
theorem dX5_guess_23 : decode cX5_guess 23 = .ok (.ifCond .ne 11, 3) := by decide +kernel
theorem dX5_guess_26 : decode cX5_guess 26 = .ok (.aload_n 0, 1) := by decide +kernel
theorem dX5_guess_27 : decode cX5_guess 27 = .ok (.iload_n 1, 1) := by decide +kernel
theorem dX5_guess_28 : decode cX5_guess 28 = .ok (.invokevirtual 240, 3) := by decide +kernel
theorem dX5_guess_31 : decode cX5_guess 31 = .ok (.goto 8, 3) := by decide +kernel
theorem dX5_guess_34 : decode cX5_guess 34 = .ok (.aload_n 0, 1) := by decide +kernel
theorem dX5_guess_35 : decode cX5_guess 35 = .ok (.iload_n 1, 1) := by decide +kernel
theorem dX5_guess_36 : decode cX5_guess 36 = .ok (.invokevirtual 243, 3) := by decide +kernel
theorem dX5_guess_39 : decode cX5_guess 39 = .ok (.ireturn, 1) := by decide +kernel
theorem dX5_look_0 : decode cX5_look 0 = .ok (.aload_n 0, 1) := by decide +kernel
theorem dX5_look_1 : decode cX5_look 1 = .ok (.getfield 26, 3) := by decide +kernel
theorem dX5_look_4 : decode cX5_look 4 = .ok (.iload_n 1, 1) := by decide +kernel
theorem dX5_look_5 : decode cX5_look 5 = .ok (.invokevirtual 96, 3) := by decide +kernel
theorem dX5_look_8 : decode cX5_look 8 = .ok (.ifCond .ne 5, 3) := by decide +kernel
theorem dX5_look_11 : decode cX5_look 11 = .ok (.iconst (-1), 1) := by decide +kernel
theorem dX5_look_12 : decode cX5_look 12 = .ok (.ireturn, 1) := by decide +kernel
theorem dX5_look_13 : decode cX5_look 13 = .ok (.aload_n 0, 1) := by decide +kernel
theorem dX5_look_14 : decode cX5_look 14 = .ok (.iload_n 1, 1) := by decide +kernel
theorem dX5_look_15 : decode cX5_look 15 = .ok (.invokevirtual 240, 3) := by decide +kernel
theorem dX5_look_18 : decode cX5_look 18 = .ok (.istore_n 2, 1) := by decide +kernel
theorem dX5_look_19 : decode cX5_look 19 = .ok (.aload_n 0, 1) := by decide +kernel
theorem dX5_look_20 : decode cX5_look 20 = .ok (.iload_n 1, 1) := by decide +kernel
theorem dX5_look_21 : decode cX5_look 21 = .ok (.invokevirtual 246, 3) := by decide +kernel
theorem dX5_look_24 : decode cX5_look 24 = .ok (.iload_n 2, 1) := by decide +kernel
theorem dX5_look_25 : decode cX5_look 25 = .ok (.istore_n 3, 1) := by decide +kernel
theorem dX5_look_26 : decode cX5_look 26 = .ok (.bipush (-9), 2) := by decide +kernel
theorem dX5_look_28 : decode cX5_look 28 = .ok (.istore 4, 2) := by decide +kernel
theorem dX5_look_30 : decode cX5_look 30 = .ok (.iconst 0, 1) := by decide +kernel
theorem dX5_look_31 : decode cX5_look 31 = .ok (.istore 5, 2) := by decide +kernel
theorem dX5_look_33 : decode cX5_look 33 = .ok (.iload 5, 2) := by decide +kernel
theorem dX5_look_35 : decode cX5_look 35 = .ok (.aload_n 0, 1) := by decide +kernel
theorem dX5_look_36 : decode cX5_look 36 = .ok (.getfield 26, 3) := by decide +kernel
theorem dX5_look_39 : decode cX5_look 39 = .ok (.iload_n 1, 1) := by decide +kernel
theorem dX5_look_40 : decode cX5_look 40 = .ok (.invokevirtual 99, 3) := by decide +kernel
theorem dX5_look_43 : decode cX5_look 43 = .ok (.if_icmp .ge 53, 3) := by decide +kernel
theorem dX5_look_46 : decode cX5_look 46 = .ok (.iload 5, 2) := by decide +kernel
theorem dX5_look_48 : decode cX5_look 48 = .ok (.aload_n 0, 1) := by decide +kernel
theorem dX5_look_49 : decode cX5_look 49 = .ok (.getfield 60, 3) := by decide +kernel
theorem dX5_look_52 : decode cX5_look 52 = .ok (.arraylength, 1) := by decide +kernel
theorem dX5_look_53 : decode cX5_look 53 = .ok (.if_icmp .ge 43, 3) := by decide +kernel
theorem dX5_look_56 : decode cX5_look 56 = .ok (.aload_n 0, 1) := by decide +kernel
theorem dX5_look_57 : decode cX5_look 57 = .ok (.getfield 60, 3) := by decide +kernel
theorem dX5_look_60 : decode cX5_look 60 = .ok (.iload 5, 2) := by decide +kernel
theorem dX5_look_62 : decode cX5_look 62 = .ok (.iaload, 1) := by decide +kernel
theorem dX5_look_63 : decode cX5_look 63 = .ok (.iload_n 2, 1) := by decide +kernel
theorem dX5_look_64 : decode cX5_look 64 = .ok (.aload_n 0, 1) := by decide +kernel
theorem dX5_look_65 : decode cX5_look 65 = .ok (.getfield 60, 3) := by decide +kernel
theorem dX5_look_68 : decode cX5_look 68 = .ok (.iload 5, 2) := by decide +kernel
theorem dX5_look_70 : decode cX5_look 70 = .ok (.iaload, 1) := by decide +kernel
theorem dX5_look_71 : decode cX5_look 71 = .ok (.isub, 1) := by decide +kernel
theorem dX5_look_72 : decode cX5_look 72 = .ok (.invokestatic 213, 3) := by decide +kernel
theorem dX5_look_75 : decode cX5_look 75 = .ok (.istore 6, 2) := by decide +kernel
theorem dX5_look_77 : decode cX5_look 77 = .ok (.iload 6, 2) := by decide +kernel
theorem dX5_look_79 : decode cX5_look 79 = .ok (.iload_n 3, 1) := by decide +kernel
theorem dX5_look_80 : decode cX5_look 80 = .ok (.if_icmp .ge 10, 3) := by decide +kernel
theorem dX5_look_83 : decode cX5_look 83 = .ok (.iload 6, 2) := by decide +kernel
theorem dX5_look_85 : decode cX5_look 85 = .ok (.istore_n 3, 1) := by decide +kernel
theorem dX5_look_86 : decode cX5_look 86 = .ok (.iload 5, 2) := by decide +kernel
theorem dX5_look_88 : decode cX5_look 88 = .ok (.istore 4, 2) := by decide +kernel
theorem dX5_look_90 : decode cX5_look 90 = .ok (.iinc 5 1, 3) := by decide +kernel
theorem dX5_look_93 : decode cX5_look 93 = .ok (.goto (-60), 3) := by decide +kernel
theorem dX5_look_96 : decode cX5_look 96 = .ok (.iload 4, 2) := by decide +kernel
theorem dX5_look_98 : decode cX5_look 98 = .ok (.ireturn, 1) := by decide +kernel
theorem dX5_mark_0 : decode cX5_mark 0 = .ok (.aload_n 0, 1) := by decide +kernel
theorem dX5_mark_1 : decode cX5_mark 1 = .ok (.getfield 37, 3) := by decide +kernel
theorem dX5_mark_4 : decode cX5_mark 4 = .ok (.iload_n 2, 1) := by decide +kernel
theorem dX5_mark_5 : decode cX5_mark 5 = .ok (.invokevirtual 132, 3) := by decide +kernel
theorem dX5_mark_8 : decode cX5_mark 8 = .ok (.astore_n 3, 1) := by decide +kernel
theorem dX5_mark_9 : decode cX5_mark 9 = .ok (.aload_n 3, 1) := by decide +kernel
theorem dX5_mark_10 : decode cX5_mark 10 = .ok (.ifnonnull 6, 3) := by decide +kernel
theorem dX5_mark_13 : decode cX5_mark 13 = .ok (.ldc 250, 2) := by decide +kernel
theorem dX5_mark_15 : decode cX5_mark 15 = .ok (.ireturn, 1) := by decide +kernel
theorem dX5_mark_16 : decode cX5_mark 16 = .ok (.iload_n 1, 1) := by decide +kernel
theorem dX5_mark_17 : decode cX5_mark 17 = .ok (.tableswitch 76 0 5 #[39, 45, 51, 57, 63, 70], 39) := by decide +kernel
theorem dX5_mark_56 : decode cX5_mark 56 = .ok (.aload_n 0, 1) := by decide +kernel
theorem dX5_mark_57 : decode cX5_mark 57 = .ok (.aload_n 3, 1) := by decide +kernel
theorem dX5_mark_58 : decode cX5_mark 58 = .ok (.invokevirtual 251, 3) := by decide +kernel
theorem dX5_mark_61 : decode cX5_mark 61 = .ok (.ireturn, 1) := by decide +kernel
theorem dX5_mark_62 : decode cX5_mark 62 = .ok (.aload_n 0, 1) := by decide +kernel
theorem dX5_mark_63 : decode cX5_mark 63 = .ok (.aload_n 3, 1) := by decide +kernel
theorem dX5_mark_64 : decode cX5_mark 64 = .ok (.invokevirtual 255, 3) := by decide +kernel
theorem dX5_mark_67 : decode cX5_mark 67 = .ok (.ireturn, 1) := by decide +kernel
theorem dX5_mark_68 : decode cX5_mark 68 = .ok (.aload_n 0, 1) := by decide +kernel
theorem dX5_mark_69 : decode cX5_mark 69 = .ok (.aload_n 3, 1) := by decide +kernel
theorem dX5_mark_70 : decode cX5_mark 70 = .ok (.invokevirtual 258, 3) := by decide +kernel
theorem dX5_mark_73 : decode cX5_mark 73 = .ok (.ireturn, 1) := by decide +kernel
theorem dX5_mark_74 : decode cX5_mark 74 = .ok (.aload_n 0, 1) := by decide +kernel
theorem dX5_mark_75 : decode cX5_mark 75 = .ok (.aload_n 3, 1) := by decide +kernel
theorem dX5_mark_76 : decode cX5_mark 76 = .ok (.invokevirtual 261, 3) := by decide +kernel
theorem dX5_mark_79 : decode cX5_mark 79 = .ok (.ireturn, 1) := by decide +kernel
theorem dX5_mark_80 : decode cX5_mark 80 = .ok (.aload_n 0, 1) := by decide +kernel
theorem dX5_mark_81 : decode cX5_mark 81 = .ok (.aload_n 3, 1) := by decide +kernel
theorem dX5_mark_82 : decode cX5_mark 82 = .ok (.iload_n 2, 1) := by decide +kernel
theorem dX5_mark_83 : decode cX5_mark 83 = .ok (.invokevirtual 264, 3) := by decide +kernel
theorem dX5_mark_86 : decode cX5_mark 86 = .ok (.ireturn, 1) := by decide +kernel
theorem dX5_mark_87 : decode cX5_mark 87 = .ok (.aload_n 0, 1) := by decide +kernel
theorem dX5_mark_88 : decode cX5_mark 88 = .ok (.aload_n 3, 1) := by decide +kernel
theorem dX5_mark_89 : decode cX5_mark 89 = .ok (.invokevirtual 268, 3) := by decide +kernel
theorem dX5_mark_92 : decode cX5_mark 92 = .ok (.ireturn, 1) := by decide +kernel
theorem dX5_mark_93 : decode cX5_mark 93 = .ok (.ldc 250, 2) := by decide +kernel
theorem dX5_mark_95 : decode cX5_mark 95 = .ok (.ireturn, 1) := by decide +kernel
theorem dX5_keep_0 : decode cX5_keep 0 = .ok (.iload_n 1, 1) := by decide +kernel
theorem dX5_keep_1 : decode cX5_keep 1 = .ok (.iconst 0, 1) := by decide +kernel
theorem dX5_keep_2 : decode cX5_keep 2 = .ok (.iconst 1, 1) := by decide +kernel
theorem dX5_keep_3 : decode cX5_keep 3 = .ok (.invokestatic 70, 3) := by decide +kernel
theorem dX5_keep_6 : decode cX5_keep 6 = .ok (.ifCond .ne 5, 3) := by decide +kernel
theorem dX5_keep_9 : decode cX5_keep 9 = .ok (.iconst (-1), 1) := by decide +kernel
theorem dX5_keep_10 : decode cX5_keep 10 = .ok (.ireturn, 1) := by decide +kernel
theorem dX5_keep_11 : decode cX5_keep 11 = .ok (.aload_n 0, 1) := by decide +kernel
theorem dX5_keep_12 : decode cX5_keep 12 = .ok (.getfield 45, 3) := by decide +kernel
theorem dX5_keep_15 : decode cX5_keep 15 = .ok (.iload_n 1, 1) := by decide +kernel
theorem dX5_keep_16 : decode cX5_keep 16 = .ok (.aload_n 0, 1) := by decide +kernel
theorem dX5_keep_17 : decode cX5_keep 17 = .ok (.getfield 37, 3) := by decide +kernel
theorem dX5_keep_20 : decode cX5_keep 20 = .ok (.aastore, 1) := by decide +kernel
theorem dX5_keep_21 : decode cX5_keep 21 = .ok (.aload_n 0, 1) := by decide +kernel
theorem dX5_keep_22 : decode cX5_keep 22 = .ok (.getfield 49, 3) := by decide +kernel
theorem dX5_keep_25 : decode cX5_keep 25 = .ok (.iload_n 1, 1) := by decide +kernel
theorem dX5_keep_26 : decode cX5_keep 26 = .ok (.aload_n 0, 1) := by decide +kernel
theorem dX5_keep_27 : decode cX5_keep 27 = .ok (.getfield 41, 3) := by decide +kernel
theorem dX5_keep_30 : decode cX5_keep 30 = .ok (.iastore, 1) := by decide +kernel
theorem dX5_keep_31 : decode cX5_keep 31 = .ok (.aload_n 0, 1) := by decide +kernel
theorem dX5_keep_32 : decode cX5_keep 32 = .ok (.getfield 37, 3) := by decide +kernel
theorem dX5_keep_35 : decode cX5_keep 35 = .ok (.getfield 157, 3) := by decide +kernel
theorem dX5_keep_38 : decode cX5_keep 38 = .ok (.arraylength, 1) := by decide +kernel
theorem dX5_keep_39 : decode cX5_keep 39 = .ok (.ireturn, 1) := by decide +kernel
theorem dX5_back_0 : decode cX5_back 0 = .ok (.iload_n 1, 1) := by decide +kernel
theorem dX5_back_1 : decode cX5_back 1 = .ok (.iconst 0, 1) := by decide +kernel
theorem dX5_back_2 : decode cX5_back 2 = .ok (.iconst 1, 1) := by decide +kernel
theorem dX5_back_3 : decode cX5_back 3 = .ok (.invokestatic 70, 3) := by decide +kernel
theorem dX5_back_6 : decode cX5_back 6 = .ok (.ifCond .ne 5, 3) := by decide +kernel
theorem dX5_back_9 : decode cX5_back 9 = .ok (.iconst (-1), 1) := by decide +kernel
theorem dX5_back_10 : decode cX5_back 10 = .ok (.ireturn, 1) := by decide +kernel
theorem dX5_back_11 : decode cX5_back 11 = .ok (.aload_n 0, 1) := by decide +kernel
theorem dX5_back_12 : decode cX5_back 12 = .ok (.getfield 45, 3) := by decide +kernel
theorem dX5_back_15 : decode cX5_back 15 = .ok (.iload_n 1, 1) := by decide +kernel
theorem dX5_back_16 : decode cX5_back 16 = .ok (.aaload, 1) := by decide +kernel
theorem dX5_back_17 : decode cX5_back 17 = .ok (.astore_n 2, 1) := by decide +kernel
theorem dX5_back_18 : decode cX5_back 18 = .ok (.aload_n 2, 1) := by decide +kernel
theorem dX5_back_19 : decode cX5_back 19 = .ok (.ifnonnull 6, 3) := by decide +kernel
theorem dX5_back_22 : decode cX5_back 22 = .ok (.bipush (-2), 2) := by decide +kernel
theorem dX5_back_24 : decode cX5_back 24 = .ok (.ireturn, 1) := by decide +kernel
theorem dX5_back_25 : decode cX5_back 25 = .ok (.aload_n 0, 1) := by decide +kernel
theorem dX5_back_26 : decode cX5_back 26 = .ok (.aload_n 2, 1) := by decide +kernel
theorem dX5_back_27 : decode cX5_back 27 = .ok (.putfield 37, 3) := by decide +kernel
theorem dX5_back_30 : decode cX5_back 30 = .ok (.aload_n 0, 1) := by decide +kernel
theorem dX5_back_31 : decode cX5_back 31 = .ok (.aload_n 0, 1) := by decide +kernel
theorem dX5_back_32 : decode cX5_back 32 = .ok (.getfield 49, 3) := by decide +kernel
theorem dX5_back_35 : decode cX5_back 35 = .ok (.iload_n 1, 1) := by decide +kernel
theorem dX5_back_36 : decode cX5_back 36 = .ok (.iaload, 1) := by decide +kernel
theorem dX5_back_37 : decode cX5_back 37 = .ok (.putfield 41, 3) := by decide +kernel
theorem dX5_back_40 : decode cX5_back 40 = .ok (.aload_n 0, 1) := by decide +kernel
theorem dX5_back_41 : decode cX5_back 41 = .ok (.getfield 37, 3) := by decide +kernel
theorem dX5_back_44 : decode cX5_back 44 = .ok (.getfield 157, 3) := by decide +kernel
theorem dX5_back_47 : decode cX5_back 47 = .ok (.arraylength, 1) := by decide +kernel
theorem dX5_back_48 : decode cX5_back 48 = .ok (.ireturn, 1) := by decide +kernel
theorem dX5_count_0 : decode cX5_count 0 = .ok (.iload_n 1, 1) := by decide +kernel
theorem dX5_count_1 : decode cX5_count 1 = .ok (.tableswitch 84 0 5 #[39, 47, 55, 63, 71, 76], 39) := by decide +kernel
theorem dX5_count_40 : decode cX5_count 40 = .ok (.aload_n 0, 1) := by decide +kernel
theorem dX5_count_41 : decode cX5_count 41 = .ok (.getfield 26, 3) := by decide +kernel
theorem dX5_count_44 : decode cX5_count 44 = .ok (.getfield 271, 3) := by decide +kernel
theorem dX5_count_47 : decode cX5_count 47 = .ok (.ireturn, 1) := by decide +kernel
theorem dX5_count_48 : decode cX5_count 48 = .ok (.aload_n 0, 1) := by decide +kernel
theorem dX5_count_49 : decode cX5_count 49 = .ok (.getfield 26, 3) := by decide +kernel
theorem dX5_count_52 : decode cX5_count 52 = .ok (.getfield 198, 3) := by decide +kernel
theorem dX5_count_55 : decode cX5_count 55 = .ok (.ireturn, 1) := by decide +kernel
theorem dX5_count_56 : decode cX5_count 56 = .ok (.aload_n 0, 1) := by decide +kernel
theorem dX5_count_57 : decode cX5_count 57 = .ok (.getfield 26, 3) := by decide +kernel
theorem dX5_count_60 : decode cX5_count 60 = .ok (.getfield 274, 3) := by decide +kernel
theorem dX5_count_63 : decode cX5_count 63 = .ok (.ireturn, 1) := by decide +kernel
theorem dX5_count_64 : decode cX5_count 64 = .ok (.aload_n 0, 1) := by decide +kernel
theorem dX5_count_65 : decode cX5_count 65 = .ok (.getfield 19, 3) := by decide +kernel
theorem dX5_count_68 : decode cX5_count 68 = .ok (.getfield 236, 3) := by decide +kernel
theorem dX5_count_71 : decode cX5_count 71 = .ok (.ireturn, 1) := by decide +kernel
theorem dX5_count_72 : decode cX5_count 72 = .ok (.aload_n 0, 1) := by decide +kernel
theorem dX5_count_73 : decode cX5_count 73 = .ok (.getfield 41, 3) := by decide +kernel
theorem dX5_count_76 : decode cX5_count 76 = .ok (.ireturn, 1) := by decide +kernel
theorem dX5_count_77 : decode cX5_count 77 = .ok (.aload_n 0, 1) := by decide +kernel
theorem dX5_count_78 : decode cX5_count 78 = .ok (.getfield 10, 3) := by decide +kernel
theorem dX5_count_81 : decode cX5_count 81 = .ok (.getfield 78, 3) := by decide +kernel
theorem dX5_count_84 : decode cX5_count 84 = .ok (.ireturn, 1) := by decide +kernel
theorem dX5_count_85 : decode cX5_count 85 = .ok (.iconst (-1), 1) := by decide +kernel
theorem dX5_count_86 : decode cX5_count 86 = .ok (.ireturn, 1) := by decide +kernel
theorem dX5_trace_0 : decode cX5_trace 0 = .ok (.aload_n 0, 1) := by decide +kernel
theorem dX5_trace_1 : decode cX5_trace 1 = .ok (.getfield 53, 3) := by decide +kernel
theorem dX5_trace_4 : decode cX5_trace 4 = .ok (.lreturn, 1) := by decide +kernel
theorem dX5_within_0 : decode cX5_within 0 = .ok (.iload_n 0, 1) := by decide +kernel
theorem dX5_within_1 : decode cX5_within 1 = .ok (.iload_n 1, 1) := by decide +kernel
theorem dX5_within_2 : decode cX5_within 2 = .ok (.if_icmp .lt 12, 3) := by decide +kernel
theorem dX5_within_5 : decode cX5_within 5 = .ok (.iload_n 0, 1) := by decide +kernel
theorem dX5_within_6 : decode cX5_within 6 = .ok (.iload_n 2, 1) := by decide +kernel
theorem dX5_within_7 : decode cX5_within 7 = .ok (.if_icmp .gt 7, 3) := by decide +kernel
theorem dX5_within_10 : decode cX5_within 10 = .ok (.iconst 1, 1) := by decide +kernel
theorem dX5_within_11 : decode cX5_within 11 = .ok (.goto 4, 3) := by decide +kernel
theorem dX5_within_14 : decode cX5_within 14 = .ok (.iconst 0, 1) := by decide +kernel
theorem dX5_within_15 : decode cX5_within 15 = .ok (.ireturn, 1) := by decide +kernel
theorem dX5_part_0 : decode cX5_part 0 = .ok (.iload_n 1, 1) := by decide +kernel
theorem dX5_part_1 : decode cX5_part 1 = .ok (.ifCond .ne 7, 3) := by decide +kernel
theorem dX5_part_4 : decode cX5_part 4 = .ok (.iconst 0, 1) := by decide +kernel
theorem dX5_part_5 : decode cX5_part 5 = .ok (.goto 6, 3) := by decide +kernel
theorem dX5_part_8 : decode cX5_part 8 = .ok (.iload_n 0, 1) := by decide +kernel
theorem dX5_part_9 : decode cX5_part 9 = .ok (.iload_n 1, 1) := by decide +kernel
theorem dX5_part_10 : decode cX5_part 10 = .ok (.idiv, 1) := by decide +kernel
theorem dX5_part_11 : decode cX5_part 11 = .ok (.ireturn, 1) := by decide +kernel
theorem dX5_rest_0 : decode cX5_rest 0 = .ok (.iload_n 1, 1) := by decide +kernel
theorem dX5_rest_1 : decode cX5_rest 1 = .ok (.ifCond .gt 7, 3) := by decide +kernel
theorem dX5_rest_4 : decode cX5_rest 4 = .ok (.iconst 0, 1) := by decide +kernel
theorem dX5_rest_5 : decode cX5_rest 5 = .ok (.goto 8, 3) := by decide +kernel
theorem dX5_rest_8 : decode cX5_rest 8 = .ok (.iload_n 0, 1) := by decide +kernel
theorem dX5_rest_9 : decode cX5_rest 9 = .ok (.iload_n 1, 1) := by decide +kernel
theorem dX5_rest_10 : decode cX5_rest 10 = .ok (.invokestatic 277, 3) := by decide +kernel
theorem dX5_rest_13 : decode cX5_rest 13 = .ok (.ireturn, 1) := by decide +kernel
theorem dX5_greatestDivisor_0 : decode cX5_greatestDivisor 0 = .ok (.iload_n 0, 1) := by decide +kernel
theorem dX5_greatestDivisor_1 : decode cX5_greatestDivisor 1 = .ok (.istore_n 2, 1) := by decide +kernel
theorem dX5_greatestDivisor_2 : decode cX5_greatestDivisor 2 = .ok (.iload_n 1, 1) := by decide +kernel
theorem dX5_greatestDivisor_3 : decode cX5_greatestDivisor 3 = .ok (.istore_n 3, 1) := by decide +kernel
theorem dX5_greatestDivisor_4 : decode cX5_greatestDivisor 4 = .ok (.iconst 0, 1) := by decide +kernel
theorem dX5_greatestDivisor_5 : decode cX5_greatestDivisor 5 = .ok (.istore 4, 2) := by decide +kernel
theorem dX5_greatestDivisor_7 : decode cX5_greatestDivisor 7 = .ok (.iload 4, 2) := by decide +kernel
theorem dX5_greatestDivisor_9 : decode cX5_greatestDivisor 9 = .ok (.bipush 64, 2) := by decide +kernel
theorem dX5_greatestDivisor_11 : decode cX5_greatestDivisor 11 = .ok (.if_icmp .ge 23, 3) := by decide +kernel
theorem dX5_greatestDivisor_14 : decode cX5_greatestDivisor 14 = .ok (.iload_n 3, 1) := by decide +kernel
theorem dX5_greatestDivisor_15 : decode cX5_greatestDivisor 15 = .ok (.ifCond .eq 19, 3) := by decide +kernel
theorem dX5_greatestDivisor_18 : decode cX5_greatestDivisor 18 = .ok (.iload_n 2, 1) := by decide +kernel
theorem dX5_greatestDivisor_19 : decode cX5_greatestDivisor 19 = .ok (.iload_n 3, 1) := by decide +kernel
theorem dX5_greatestDivisor_20 : decode cX5_greatestDivisor 20 = .ok (.irem, 1) := by decide +kernel
theorem dX5_greatestDivisor_21 : decode cX5_greatestDivisor 21 = .ok (.istore 5, 2) := by decide +kernel
theorem dX5_greatestDivisor_23 : decode cX5_greatestDivisor 23 = .ok (.iload_n 3, 1) := by decide +kernel
theorem dX5_greatestDivisor_24 : decode cX5_greatestDivisor 24 = .ok (.istore_n 2, 1) := by decide +kernel
theorem dX5_greatestDivisor_25 : decode cX5_greatestDivisor 25 = .ok (.iload 5, 2) := by decide +kernel
theorem dX5_greatestDivisor_27 : decode cX5_greatestDivisor 27 = .ok (.istore_n 3, 1) := by decide +kernel
theorem dX5_greatestDivisor_28 : decode cX5_greatestDivisor 28 = .ok (.iinc 4 1, 3) := by decide +kernel
theorem dX5_greatestDivisor_31 : decode cX5_greatestDivisor 31 = .ok (.goto (-24), 3) := by decide +kernel
theorem dX5_greatestDivisor_34 : decode cX5_greatestDivisor 34 = .ok (.iload_n 2, 1) := by decide +kernel
theorem dX5_greatestDivisor_35 : decode cX5_greatestDivisor 35 = .ok (.ireturn, 1) := by decide +kernel
theorem dX5_startAnew_0 : decode cX5_startAnew 0 = .ok (.aload_n 0, 1) := by decide +kernel
theorem dX5_startAnew_1 : decode cX5_startAnew 1 = .ok (.aload_n 1, 1) := by decide +kernel
theorem dX5_startAnew_2 : decode cX5_startAnew 2 = .ok (.putfield 26, 3) := by decide +kernel
theorem dX5_startAnew_5 : decode cX5_startAnew 5 = .ok (.aload_n 0, 1) := by decide +kernel
theorem dX5_startAnew_6 : decode cX5_startAnew 6 = .ok (.new 30, 3) := by decide +kernel
theorem dX5_startAnew_9 : decode cX5_startAnew 9 = .ok (.dup, 1) := by decide +kernel
theorem dX5_startAnew_10 : decode cX5_startAnew 10 = .ok (.iconst 0, 1) := by decide +kernel
theorem dX5_startAnew_11 : decode cX5_startAnew 11 = .ok (.aload_n 1, 1) := by decide +kernel
theorem dX5_startAnew_12 : decode cX5_startAnew 12 = .ok (.invokevirtual 280, 3) := by decide +kernel
theorem dX5_startAnew_15 : decode cX5_startAnew 15 = .ok (.iconst 0, 1) := by decide +kernel
theorem dX5_startAnew_16 : decode cX5_startAnew 16 = .ok (.anewarray 32, 3) := by decide +kernel
end
section
theorem dX5_startAnew_19 : decode cX5_startAnew 19 = .ok (.aconst_null, 1) := by decide +kernel
theorem dX5_startAnew_20 : decode cX5_startAnew 20 = .ok (.invokespecial 34, 3) := by decide +kernel
theorem dX5_startAnew_23 : decode cX5_startAnew 23 = .ok (.putfield 37, 3) := by decide +kernel
theorem dX5_startAnew_26 : decode cX5_startAnew 26 = .ok (.aload_n 0, 1) := by decide +kernel
theorem dX5_startAnew_27 : decode cX5_startAnew 27 = .ok (.iconst 0, 1) := by decide +kernel
theorem dX5_startAnew_28 : decode cX5_startAnew 28 = .ok (.putfield 41, 3) := by decide +kernel
theorem dX5_startAnew_31 : decode cX5_startAnew 31 = .ok (.aload_n 0, 1) := by decide +kernel
theorem dX5_startAnew_32 : decode cX5_startAnew 32 = .ok (.iconst 0, 1) := by decide +kernel
theorem dX5_startAnew_33 : decode cX5_startAnew 33 = .ok (.putfield 66, 3) := by decide +kernel
theorem dX5_startAnew_36 : decode cX5_startAnew 36 = .ok (.aload_n 0, 1) := by decide +kernel
theorem dX5_startAnew_37 : decode cX5_startAnew 37 = .ok (.getfield 19, 3) := by decide +kernel
theorem dX5_startAnew_40 : decode cX5_startAnew 40 = .ok (.invokevirtual 239, 3) := by decide +kernel
theorem dX5_startAnew_43 : decode cX5_startAnew 43 = .ok (.pop, 1) := by decide +kernel
theorem dX5_startAnew_44 : decode cX5_startAnew 44 = .ok (.iconst 0, 1) := by decide +kernel
theorem dX5_startAnew_45 : decode cX5_startAnew 45 = .ok (.istore_n 2, 1) := by decide +kernel
theorem dX5_startAnew_46 : decode cX5_startAnew 46 = .ok (.iload_n 2, 1) := by decide +kernel
theorem dX5_startAnew_47 : decode cX5_startAnew 47 = .ok (.iconst 2, 1) := by decide +kernel
theorem dX5_startAnew_48 : decode cX5_startAnew 48 = .ok (.if_icmp .ge 23, 3) := by decide +kernel
theorem dX5_startAnew_51 : decode cX5_startAnew 51 = .ok (.aload_n 0, 1) := by decide +kernel
theorem dX5_startAnew_52 : decode cX5_startAnew 52 = .ok (.getfield 45, 3) := by decide +kernel
theorem dX5_startAnew_55 : decode cX5_startAnew 55 = .ok (.iload_n 2, 1) := by decide +kernel
theorem dX5_startAnew_56 : decode cX5_startAnew 56 = .ok (.aconst_null, 1) := by decide +kernel
theorem dX5_startAnew_57 : decode cX5_startAnew 57 = .ok (.aastore, 1) := by decide +kernel
theorem dX5_startAnew_58 : decode cX5_startAnew 58 = .ok (.aload_n 0, 1) := by decide +kernel
theorem dX5_startAnew_59 : decode cX5_startAnew 59 = .ok (.getfield 49, 3) := by decide +kernel
theorem dX5_startAnew_62 : decode cX5_startAnew 62 = .ok (.iload_n 2, 1) := by decide +kernel
theorem dX5_startAnew_63 : decode cX5_startAnew 63 = .ok (.iconst 0, 1) := by decide +kernel
theorem dX5_startAnew_64 : decode cX5_startAnew 64 = .ok (.iastore, 1) := by decide +kernel
theorem dX5_startAnew_65 : decode cX5_startAnew 65 = .ok (.iinc 2 1, 3) := by decide +kernel
theorem dX5_startAnew_68 : decode cX5_startAnew 68 = .ok (.goto (-22), 3) := by decide +kernel
theorem dX5_startAnew_71 : decode cX5_startAnew 71 = .ok (.return_, 1) := by decide +kernel
theorem dX5_changeTo_0 : decode cX5_changeTo 0 = .ok (.aload_n 0, 1) := by decide +kernel
theorem dX5_changeTo_1 : decode cX5_changeTo 1 = .ok (.aload_n 1, 1) := by decide +kernel
theorem dX5_changeTo_2 : decode cX5_changeTo 2 = .ok (.putfield 37, 3) := by decide +kernel
theorem dX5_changeTo_5 : decode cX5_changeTo 5 = .ok (.aload_n 0, 1) := by decide +kernel
theorem dX5_changeTo_6 : decode cX5_changeTo 6 = .ok (.aload_n 0, 1) := by decide +kernel
theorem dX5_changeTo_7 : decode cX5_changeTo 7 = .ok (.getfield 41, 3) := by decide +kernel
theorem dX5_changeTo_10 : decode cX5_changeTo 10 = .ok (.iconst 1, 1) := by decide +kernel
theorem dX5_changeTo_11 : decode cX5_changeTo 11 = .ok (.iadd, 1) := by decide +kernel
theorem dX5_changeTo_12 : decode cX5_changeTo 12 = .ok (.bipush 10, 2) := by decide +kernel
theorem dX5_changeTo_14 : decode cX5_changeTo 14 = .ok (.invokestatic 218, 3) := by decide +kernel
theorem dX5_changeTo_17 : decode cX5_changeTo 17 = .ok (.putfield 41, 3) := by decide +kernel
theorem dX5_changeTo_20 : decode cX5_changeTo 20 = .ok (.return_, 1) := by decide +kernel
theorem dX5_noteShown_0 : decode cX5_noteShown 0 = .ok (.aload_n 0, 1) := by decide +kernel
theorem dX5_noteShown_1 : decode cX5_noteShown 1 = .ok (.getfield 57, 3) := by decide +kernel
theorem dX5_noteShown_4 : decode cX5_noteShown 4 = .ok (.bipush (-9), 2) := by decide +kernel
theorem dX5_noteShown_6 : decode cX5_noteShown 6 = .ok (.invokestatic 284, 3) := by decide +kernel
theorem dX5_noteShown_9 : decode cX5_noteShown 9 = .ok (.iconst 0, 1) := by decide +kernel
theorem dX5_noteShown_10 : decode cX5_noteShown 10 = .ok (.istore_n 2, 1) := by decide +kernel
theorem dX5_noteShown_11 : decode cX5_noteShown 11 = .ok (.iload_n 2, 1) := by decide +kernel
theorem dX5_noteShown_12 : decode cX5_noteShown 12 = .ok (.aload_n 0, 1) := by decide +kernel
theorem dX5_noteShown_13 : decode cX5_noteShown 13 = .ok (.getfield 37, 3) := by decide +kernel
theorem dX5_noteShown_16 : decode cX5_noteShown 16 = .ok (.getfield 157, 3) := by decide +kernel
theorem dX5_noteShown_19 : decode cX5_noteShown 19 = .ok (.arraylength, 1) := by decide +kernel
theorem dX5_noteShown_20 : decode cX5_noteShown 20 = .ok (.if_icmp .ge 57, 3) := by decide +kernel
theorem dX5_noteShown_23 : decode cX5_noteShown 23 = .ok (.aload_n 0, 1) := by decide +kernel
theorem dX5_noteShown_24 : decode cX5_noteShown 24 = .ok (.getfield 37, 3) := by decide +kernel
theorem dX5_noteShown_27 : decode cX5_noteShown 27 = .ok (.getfield 157, 3) := by decide +kernel
theorem dX5_noteShown_30 : decode cX5_noteShown 30 = .ok (.iload_n 2, 1) := by decide +kernel
theorem dX5_noteShown_31 : decode cX5_noteShown 31 = .ok (.aaload, 1) := by decide +kernel
theorem dX5_noteShown_32 : decode cX5_noteShown 32 = .ok (.astore_n 3, 1) := by decide +kernel
theorem dX5_noteShown_33 : decode cX5_noteShown 33 = .ok (.aload_n 3, 1) := by decide +kernel
theorem dX5_noteShown_34 : decode cX5_noteShown 34 = .ok (.getfield 142, 3) := by decide +kernel
theorem dX5_noteShown_37 : decode cX5_noteShown 37 = .ok (.iload_n 1, 1) := by decide +kernel
theorem dX5_noteShown_38 : decode cX5_noteShown 38 = .ok (.if_icmp .ne 33, 3) := by decide +kernel
theorem dX5_noteShown_41 : decode cX5_noteShown 41 = .ok (.iconst 0, 1) := by decide +kernel
theorem dX5_noteShown_42 : decode cX5_noteShown 42 = .ok (.istore 4, 2) := by decide +kernel
theorem dX5_noteShown_44 : decode cX5_noteShown 44 = .ok (.iload 4, 2) := by decide +kernel
theorem dX5_noteShown_46 : decode cX5_noteShown 46 = .ok (.aload_n 3, 1) := by decide +kernel
theorem dX5_noteShown_47 : decode cX5_noteShown 47 = .ok (.getfield 221, 3) := by decide +kernel
theorem dX5_noteShown_50 : decode cX5_noteShown 50 = .ok (.if_icmp .ge 21, 3) := by decide +kernel
theorem dX5_noteShown_53 : decode cX5_noteShown 53 = .ok (.aload_n 0, 1) := by decide +kernel
theorem dX5_noteShown_54 : decode cX5_noteShown 54 = .ok (.getfield 57, 3) := by decide +kernel
theorem dX5_noteShown_57 : decode cX5_noteShown 57 = .ok (.aload_n 3, 1) := by decide +kernel
theorem dX5_noteShown_58 : decode cX5_noteShown 58 = .ok (.iload 4, 2) := by decide +kernel
theorem dX5_noteShown_60 : decode cX5_noteShown 60 = .ok (.invokevirtual 224, 3) := by decide +kernel
theorem dX5_noteShown_63 : decode cX5_noteShown 63 = .ok (.iload_n 2, 1) := by decide +kernel
theorem dX5_noteShown_64 : decode cX5_noteShown 64 = .ok (.iastore, 1) := by decide +kernel
theorem dX5_noteShown_65 : decode cX5_noteShown 65 = .ok (.iinc 4 1, 3) := by decide +kernel
theorem dX5_noteShown_68 : decode cX5_noteShown 68 = .ok (.goto (-24), 3) := by decide +kernel
theorem dX5_noteShown_71 : decode cX5_noteShown 71 = .ok (.iinc 2 1, 3) := by decide +kernel
theorem dX5_noteShown_74 : decode cX5_noteShown 74 = .ok (.goto (-63), 3) := by decide +kernel
theorem dX5_noteShown_77 : decode cX5_noteShown 77 = .ok (.return_, 1) := by decide +kernel
theorem dX5_notePens_0 : decode cX5_notePens 0 = .ok (.aload_n 0, 1) := by decide +kernel
theorem dX5_notePens_1 : decode cX5_notePens 1 = .ok (.iload_n 1, 1) := by decide +kernel
theorem dX5_notePens_2 : decode cX5_notePens 2 = .ok (.invokevirtual 290, 3) := by decide +kernel
theorem dX5_notePens_5 : decode cX5_notePens 5 = .ok (.iconst 0, 1) := by decide +kernel
theorem dX5_notePens_6 : decode cX5_notePens 6 = .ok (.istore_n 2, 1) := by decide +kernel
theorem dX5_notePens_7 : decode cX5_notePens 7 = .ok (.iload_n 2, 1) := by decide +kernel
theorem dX5_notePens_8 : decode cX5_notePens 8 = .ok (.sipush 360, 3) := by decide +kernel
theorem dX5_notePens_11 : decode cX5_notePens 11 = .ok (.if_icmp .ge 42, 3) := by decide +kernel
theorem dX5_notePens_14 : decode cX5_notePens 14 = .ok (.aload_n 0, 1) := by decide +kernel
theorem dX5_notePens_15 : decode cX5_notePens 15 = .ok (.getfield 37, 3) := by decide +kernel
theorem dX5_notePens_18 : decode cX5_notePens 18 = .ok (.aload_n 0, 1) := by decide +kernel
theorem dX5_notePens_19 : decode cX5_notePens 19 = .ok (.getfield 57, 3) := by decide +kernel
theorem dX5_notePens_22 : decode cX5_notePens 22 = .ok (.iload_n 2, 1) := by decide +kernel
theorem dX5_notePens_23 : decode cX5_notePens 23 = .ok (.iaload, 1) := by decide +kernel
theorem dX5_notePens_24 : decode cX5_notePens 24 = .ok (.invokevirtual 132, 3) := by decide +kernel
theorem dX5_notePens_27 : decode cX5_notePens 27 = .ok (.astore_n 3, 1) := by decide +kernel
theorem dX5_notePens_28 : decode cX5_notePens 28 = .ok (.aload_n 0, 1) := by decide +kernel
theorem dX5_notePens_29 : decode cX5_notePens 29 = .ok (.getfield 57, 3) := by decide +kernel
theorem dX5_notePens_32 : decode cX5_notePens 32 = .ok (.iload_n 2, 1) := by decide +kernel
theorem dX5_notePens_33 : decode cX5_notePens 33 = .ok (.aload_n 3, 1) := by decide +kernel
theorem dX5_notePens_34 : decode cX5_notePens 34 = .ok (.ifnonnull 8, 3) := by decide +kernel
theorem dX5_notePens_37 : decode cX5_notePens 37 = .ok (.bipush (-9), 2) := by decide +kernel
theorem dX5_notePens_39 : decode cX5_notePens 39 = .ok (.goto 7, 3) := by decide +kernel
theorem dX5_notePens_42 : decode cX5_notePens 42 = .ok (.aload_n 3, 1) := by decide +kernel
theorem dX5_notePens_43 : decode cX5_notePens 43 = .ok (.getfield 148, 3) := by decide +kernel
theorem dX5_notePens_46 : decode cX5_notePens 46 = .ok (.iastore, 1) := by decide +kernel
theorem dX5_notePens_47 : decode cX5_notePens 47 = .ok (.iinc 2 1, 3) := by decide +kernel
theorem dX5_notePens_50 : decode cX5_notePens 50 = .ok (.goto (-43), 3) := by decide +kernel
theorem dX5_notePens_53 : decode cX5_notePens 53 = .ok (.return_, 1) := by decide +kernel
theorem dX5_pointsNoted_0 : decode cX5_pointsNoted 0 = .ok (.iconst 0, 1) := by decide +kernel
theorem dX5_pointsNoted_1 : decode cX5_pointsNoted 1 = .ok (.istore_n 2, 1) := by decide +kernel
theorem dX5_pointsNoted_2 : decode cX5_pointsNoted 2 = .ok (.iconst 0, 1) := by decide +kernel
theorem dX5_pointsNoted_3 : decode cX5_pointsNoted 3 = .ok (.istore_n 3, 1) := by decide +kernel
theorem dX5_pointsNoted_4 : decode cX5_pointsNoted 4 = .ok (.iload_n 3, 1) := by decide +kernel
theorem dX5_pointsNoted_5 : decode cX5_pointsNoted 5 = .ok (.sipush 360, 3) := by decide +kernel
theorem dX5_pointsNoted_8 : decode cX5_pointsNoted 8 = .ok (.if_icmp .ge 22, 3) := by decide +kernel
theorem dX5_pointsNoted_11 : decode cX5_pointsNoted 11 = .ok (.aload_n 0, 1) := by decide +kernel
theorem dX5_pointsNoted_12 : decode cX5_pointsNoted 12 = .ok (.getfield 57, 3) := by decide +kernel
theorem dX5_pointsNoted_15 : decode cX5_pointsNoted 15 = .ok (.iload_n 3, 1) := by decide +kernel
theorem dX5_pointsNoted_16 : decode cX5_pointsNoted 16 = .ok (.iaload, 1) := by decide +kernel
theorem dX5_pointsNoted_17 : decode cX5_pointsNoted 17 = .ok (.iload_n 1, 1) := by decide +kernel
theorem dX5_pointsNoted_18 : decode cX5_pointsNoted 18 = .ok (.if_icmp .ne 6, 3) := by decide +kernel
theorem dX5_pointsNoted_21 : decode cX5_pointsNoted 21 = .ok (.iinc 2 1, 3) := by decide +kernel
theorem dX5_pointsNoted_24 : decode cX5_pointsNoted 24 = .ok (.iinc 3 1, 3) := by decide +kernel
theorem dX5_pointsNoted_27 : decode cX5_pointsNoted 27 = .ok (.goto (-23), 3) := by decide +kernel
theorem dX5_pointsNoted_30 : decode cX5_pointsNoted 30 = .ok (.iload_n 2, 1) := by decide +kernel
theorem dX5_pointsNoted_31 : decode cX5_pointsNoted 31 = .ok (.ireturn, 1) := by decide +kernel
theorem dX5_tipsShown_0 : decode cX5_tipsShown 0 = .ok (.aload_n 0, 1) := by decide +kernel
theorem dX5_tipsShown_1 : decode cX5_tipsShown 1 = .ok (.iload_n 2, 1) := by decide +kernel
theorem dX5_tipsShown_2 : decode cX5_tipsShown 2 = .ok (.invokevirtual 290, 3) := by decide +kernel
theorem dX5_tipsShown_5 : decode cX5_tipsShown 5 = .ok (.aload_n 0, 1) := by decide +kernel
theorem dX5_tipsShown_6 : decode cX5_tipsShown 6 = .ok (.iload_n 1, 1) := by decide +kernel
theorem dX5_tipsShown_7 : decode cX5_tipsShown 7 = .ok (.invokevirtual 293, 3) := by decide +kernel
theorem dX5_tipsShown_10 : decode cX5_tipsShown 10 = .ok (.ireturn, 1) := by decide +kernel
theorem dX5_pointsOfPen_0 : decode cX5_pointsOfPen 0 = .ok (.iconst 0, 1) := by decide +kernel
theorem dX5_pointsOfPen_1 : decode cX5_pointsOfPen 1 = .ok (.istore_n 2, 1) := by decide +kernel
theorem dX5_pointsOfPen_2 : decode cX5_pointsOfPen 2 = .ok (.iconst 1, 1) := by decide +kernel
theorem dX5_pointsOfPen_3 : decode cX5_pointsOfPen 3 = .ok (.istore_n 3, 1) := by decide +kernel
theorem dX5_pointsOfPen_4 : decode cX5_pointsOfPen 4 = .ok (.iload_n 3, 1) := by decide +kernel
theorem dX5_pointsOfPen_5 : decode cX5_pointsOfPen 5 = .ok (.bipush 9, 2) := by decide +kernel
theorem dX5_pointsOfPen_7 : decode cX5_pointsOfPen 7 = .ok (.if_icmp .gt 33, 3) := by decide +kernel
theorem dX5_pointsOfPen_10 : decode cX5_pointsOfPen 10 = .ok (.aload_n 0, 1) := by decide +kernel
theorem dX5_pointsOfPen_11 : decode cX5_pointsOfPen 11 = .ok (.getfield 37, 3) := by decide +kernel
theorem dX5_pointsOfPen_14 : decode cX5_pointsOfPen 14 = .ok (.iload_n 3, 1) := by decide +kernel
theorem dX5_pointsOfPen_15 : decode cX5_pointsOfPen 15 = .ok (.invokevirtual 296, 3) := by decide +kernel
theorem dX5_pointsOfPen_18 : decode cX5_pointsOfPen 18 = .ok (.ifCond .eq 16, 3) := by decide +kernel
theorem dX5_pointsOfPen_21 : decode cX5_pointsOfPen 21 = .ok (.aload_n 0, 1) := by decide +kernel
theorem dX5_pointsOfPen_22 : decode cX5_pointsOfPen 22 = .ok (.iload_n 3, 1) := by decide +kernel
theorem dX5_pointsOfPen_23 : decode cX5_pointsOfPen 23 = .ok (.invokevirtual 299, 3) := by decide +kernel
theorem dX5_pointsOfPen_26 : decode cX5_pointsOfPen 26 = .ok (.iload_n 2, 1) := by decide +kernel
theorem dX5_pointsOfPen_27 : decode cX5_pointsOfPen 27 = .ok (.aload_n 0, 1) := by decide +kernel
theorem dX5_pointsOfPen_28 : decode cX5_pointsOfPen 28 = .ok (.iload_n 1, 1) := by decide +kernel
theorem dX5_pointsOfPen_29 : decode cX5_pointsOfPen 29 = .ok (.invokevirtual 293, 3) := by decide +kernel
theorem dX5_pointsOfPen_32 : decode cX5_pointsOfPen 32 = .ok (.iadd, 1) := by decide +kernel
theorem dX5_pointsOfPen_33 : decode cX5_pointsOfPen 33 = .ok (.istore_n 2, 1) := by decide +kernel
theorem dX5_pointsOfPen_34 : decode cX5_pointsOfPen 34 = .ok (.iinc 3 1, 3) := by decide +kernel
theorem dX5_pointsOfPen_37 : decode cX5_pointsOfPen 37 = .ok (.goto (-33), 3) := by decide +kernel
theorem dX5_pointsOfPen_40 : decode cX5_pointsOfPen 40 = .ok (.iload_n 2, 1) := by decide +kernel
theorem dX5_pointsOfPen_41 : decode cX5_pointsOfPen 41 = .ok (.ireturn, 1) := by decide +kernel
theorem dX5_pointsShown_0 : decode cX5_pointsShown 0 = .ok (.iconst 0, 1) := by decide +kernel
theorem dX5_pointsShown_1 : decode cX5_pointsShown 1 = .ok (.istore_n 1, 1) := by decide +kernel
theorem dX5_pointsShown_2 : decode cX5_pointsShown 2 = .ok (.iconst 1, 1) := by decide +kernel
theorem dX5_pointsShown_3 : decode cX5_pointsShown 3 = .ok (.istore_n 2, 1) := by decide +kernel
theorem dX5_pointsShown_4 : decode cX5_pointsShown 4 = .ok (.iload_n 2, 1) := by decide +kernel
theorem dX5_pointsShown_5 : decode cX5_pointsShown 5 = .ok (.bipush 9, 2) := by decide +kernel
theorem dX5_pointsShown_7 : decode cX5_pointsShown 7 = .ok (.if_icmp .gt 38, 3) := by decide +kernel
theorem dX5_pointsShown_10 : decode cX5_pointsShown 10 = .ok (.aload_n 0, 1) := by decide +kernel
theorem dX5_pointsShown_11 : decode cX5_pointsShown 11 = .ok (.getfield 37, 3) := by decide +kernel
theorem dX5_pointsShown_14 : decode cX5_pointsShown 14 = .ok (.iload_n 2, 1) := by decide +kernel
theorem dX5_pointsShown_15 : decode cX5_pointsShown 15 = .ok (.invokevirtual 296, 3) := by decide +kernel
theorem dX5_pointsShown_18 : decode cX5_pointsShown 18 = .ok (.ifCond .eq 21, 3) := by decide +kernel
theorem dX5_pointsShown_21 : decode cX5_pointsShown 21 = .ok (.aload_n 0, 1) := by decide +kernel
theorem dX5_pointsShown_22 : decode cX5_pointsShown 22 = .ok (.iload_n 2, 1) := by decide +kernel
theorem dX5_pointsShown_23 : decode cX5_pointsShown 23 = .ok (.invokevirtual 290, 3) := by decide +kernel
theorem dX5_pointsShown_26 : decode cX5_pointsShown 26 = .ok (.iload_n 1, 1) := by decide +kernel
theorem dX5_pointsShown_27 : decode cX5_pointsShown 27 = .ok (.sipush 360, 3) := by decide +kernel
theorem dX5_pointsShown_30 : decode cX5_pointsShown 30 = .ok (.aload_n 0, 1) := by decide +kernel
theorem dX5_pointsShown_31 : decode cX5_pointsShown 31 = .ok (.bipush (-9), 2) := by decide +kernel
theorem dX5_pointsShown_33 : decode cX5_pointsShown 33 = .ok (.invokevirtual 293, 3) := by decide +kernel
theorem dX5_pointsShown_36 : decode cX5_pointsShown 36 = .ok (.isub, 1) := by decide +kernel
theorem dX5_pointsShown_37 : decode cX5_pointsShown 37 = .ok (.iadd, 1) := by decide +kernel
theorem dX5_pointsShown_38 : decode cX5_pointsShown 38 = .ok (.istore_n 1, 1) := by decide +kernel
theorem dX5_pointsShown_39 : decode cX5_pointsShown 39 = .ok (.iinc 2 1, 3) := by decide +kernel
theorem dX5_pointsShown_42 : decode cX5_pointsShown 42 = .ok (.goto (-38), 3) := by decide +kernel
theorem dX5_pointsShown_45 : decode cX5_pointsShown 45 = .ok (.iload_n 1, 1) := by decide +kernel
theorem dX5_pointsShown_46 : decode cX5_pointsShown 46 = .ok (.ireturn, 1) := by decide +kernel
theorem dX5_like_0 : decode cX5_like 0 = .ok (.sipush 360, 3) := by decide +kernel
theorem dX5_like_3 : decode cX5_like 3 = .ok (.istore_n 1, 1) := by decide +kernel
theorem dX5_like_4 : decode cX5_like 4 = .ok (.iconst 1, 1) := by decide +kernel
theorem dX5_like_5 : decode cX5_like 5 = .ok (.istore_n 2, 1) := by decide +kernel
theorem dX5_like_6 : decode cX5_like 6 = .ok (.iload_n 2, 1) := by decide +kernel
theorem dX5_like_7 : decode cX5_like 7 = .ok (.bipush 9, 2) := by decide +kernel
theorem dX5_like_9 : decode cX5_like 9 = .ok (.if_icmp .gt 34, 3) := by decide +kernel
theorem dX5_like_12 : decode cX5_like 12 = .ok (.aload_n 0, 1) := by decide +kernel
theorem dX5_like_13 : decode cX5_like 13 = .ok (.getfield 37, 3) := by decide +kernel
theorem dX5_like_16 : decode cX5_like 16 = .ok (.iload_n 2, 1) := by decide +kernel
theorem dX5_like_17 : decode cX5_like 17 = .ok (.invokevirtual 296, 3) := by decide +kernel
theorem dX5_like_20 : decode cX5_like 20 = .ok (.ifCond .eq 17, 3) := by decide +kernel
theorem dX5_like_23 : decode cX5_like 23 = .ok (.aload_n 0, 1) := by decide +kernel
theorem dX5_like_24 : decode cX5_like 24 = .ok (.iload_n 2, 1) := by decide +kernel
theorem dX5_like_25 : decode cX5_like 25 = .ok (.invokevirtual 299, 3) := by decide +kernel
theorem dX5_like_28 : decode cX5_like 28 = .ok (.iload_n 1, 1) := by decide +kernel
theorem dX5_like_29 : decode cX5_like 29 = .ok (.aload_n 0, 1) := by decide +kernel
theorem dX5_like_30 : decode cX5_like 30 = .ok (.invokevirtual 302, 3) := by decide +kernel
theorem dX5_like_33 : decode cX5_like 33 = .ok (.invokestatic 305, 3) := by decide +kernel
theorem dX5_like_36 : decode cX5_like 36 = .ok (.istore_n 1, 1) := by decide +kernel
theorem dX5_like_37 : decode cX5_like 37 = .ok (.iinc 2 1, 3) := by decide +kernel
theorem dX5_like_40 : decode cX5_like 40 = .ok (.goto (-34), 3) := by decide +kernel
theorem dX5_like_43 : decode cX5_like 43 = .ok (.iload_n 1, 1) := by decide +kernel
theorem dX5_like_44 : decode cX5_like 44 = .ok (.ireturn, 1) := by decide +kernel
theorem dX5_likeOfRow_0 : decode cX5_likeOfRow 0 = .ok (.sipush 360, 3) := by decide +kernel
theorem dX5_likeOfRow_3 : decode cX5_likeOfRow 3 = .ok (.istore_n 1, 1) := by decide +kernel
theorem dX5_likeOfRow_4 : decode cX5_likeOfRow 4 = .ok (.iload_n 1, 1) := by decide +kernel
theorem dX5_likeOfRow_5 : decode cX5_likeOfRow 5 = .ok (.iconst 1, 1) := by decide +kernel
theorem dX5_likeOfRow_6 : decode cX5_likeOfRow 6 = .ok (.if_icmp .le 31, 3) := by decide +kernel
theorem dX5_likeOfRow_9 : decode cX5_likeOfRow 9 = .ok (.sipush 360, 3) := by decide +kernel
theorem dX5_likeOfRow_12 : decode cX5_likeOfRow 12 = .ok (.iload_n 1, 1) := by decide +kernel
theorem dX5_likeOfRow_13 : decode cX5_likeOfRow 13 = .ok (.irem, 1) := by decide +kernel
theorem dX5_likeOfRow_14 : decode cX5_likeOfRow 14 = .ok (.ifCond .ne 17, 3) := by decide +kernel
theorem dX5_likeOfRow_17 : decode cX5_likeOfRow 17 = .ok (.aload_n 0, 1) := by decide +kernel
theorem dX5_likeOfRow_18 : decode cX5_likeOfRow 18 = .ok (.sipush 360, 3) := by decide +kernel
theorem dX5_likeOfRow_21 : decode cX5_likeOfRow 21 = .ok (.iload_n 1, 1) := by decide +kernel
theorem dX5_likeOfRow_22 : decode cX5_likeOfRow 22 = .ok (.idiv, 1) := by decide +kernel
theorem dX5_likeOfRow_23 : decode cX5_likeOfRow 23 = .ok (.invokevirtual 308, 3) := by decide +kernel
theorem dX5_likeOfRow_26 : decode cX5_likeOfRow 26 = .ok (.ifCond .eq 5, 3) := by decide +kernel
theorem dX5_likeOfRow_29 : decode cX5_likeOfRow 29 = .ok (.iload_n 1, 1) := by decide +kernel
theorem dX5_likeOfRow_30 : decode cX5_likeOfRow 30 = .ok (.ireturn, 1) := by decide +kernel
theorem dX5_likeOfRow_31 : decode cX5_likeOfRow 31 = .ok (.iinc 1 (-1), 3) := by decide +kernel
theorem dX5_likeOfRow_34 : decode cX5_likeOfRow 34 = .ok (.goto (-30), 3) := by decide +kernel
theorem dX5_likeOfRow_37 : decode cX5_likeOfRow 37 = .ok (.iconst 1, 1) := by decide +kernel
theorem dX5_likeOfRow_38 : decode cX5_likeOfRow 38 = .ok (.ireturn, 1) := by decide +kernel
theorem dX5_isSameTurned_0 : decode cX5_isSameTurned 0 = .ok (.iconst 0, 1) := by decide +kernel
theorem dX5_isSameTurned_1 : decode cX5_isSameTurned 1 = .ok (.istore_n 2, 1) := by decide +kernel
theorem dX5_isSameTurned_2 : decode cX5_isSameTurned 2 = .ok (.iload_n 2, 1) := by decide +kernel
theorem dX5_isSameTurned_3 : decode cX5_isSameTurned 3 = .ok (.sipush 360, 3) := by decide +kernel
theorem dX5_isSameTurned_6 : decode cX5_isSameTurned 6 = .ok (.if_icmp .ge 34, 3) := by decide +kernel
theorem dX5_isSameTurned_9 : decode cX5_isSameTurned 9 = .ok (.aload_n 0, 1) := by decide +kernel
theorem dX5_isSameTurned_10 : decode cX5_isSameTurned 10 = .ok (.getfield 57, 3) := by decide +kernel
theorem dX5_isSameTurned_13 : decode cX5_isSameTurned 13 = .ok (.iload_n 2, 1) := by decide +kernel
theorem dX5_isSameTurned_14 : decode cX5_isSameTurned 14 = .ok (.iaload, 1) := by decide +kernel
theorem dX5_isSameTurned_15 : decode cX5_isSameTurned 15 = .ok (.aload_n 0, 1) := by decide +kernel
theorem dX5_isSameTurned_16 : decode cX5_isSameTurned 16 = .ok (.getfield 57, 3) := by decide +kernel
theorem dX5_isSameTurned_19 : decode cX5_isSameTurned 19 = .ok (.iload_n 2, 1) := by decide +kernel
theorem dX5_isSameTurned_20 : decode cX5_isSameTurned 20 = .ok (.iload_n 1, 1) := by decide +kernel
theorem dX5_isSameTurned_21 : decode cX5_isSameTurned 21 = .ok (.iadd, 1) := by decide +kernel
theorem dX5_isSameTurned_22 : decode cX5_isSameTurned 22 = .ok (.sipush 360, 3) := by decide +kernel
theorem dX5_isSameTurned_25 : decode cX5_isSameTurned 25 = .ok (.invokestatic 230, 3) := by decide +kernel
theorem dX5_isSameTurned_28 : decode cX5_isSameTurned 28 = .ok (.iaload, 1) := by decide +kernel
theorem dX5_isSameTurned_29 : decode cX5_isSameTurned 29 = .ok (.if_icmp .eq 5, 3) := by decide +kernel
theorem dX5_isSameTurned_32 : decode cX5_isSameTurned 32 = .ok (.iconst 0, 1) := by decide +kernel
theorem dX5_isSameTurned_33 : decode cX5_isSameTurned 33 = .ok (.ireturn, 1) := by decide +kernel
theorem dX5_isSameTurned_34 : decode cX5_isSameTurned 34 = .ok (.iinc 2 1, 3) := by decide +kernel
theorem dX5_isSameTurned_37 : decode cX5_isSameTurned 37 = .ok (.goto (-35), 3) := by decide +kernel
theorem dX5_isSameTurned_40 : decode cX5_isSameTurned 40 = .ok (.iconst 1, 1) := by decide +kernel
theorem dX5_isSameTurned_41 : decode cX5_isSameTurned 41 = .ok (.ireturn, 1) := by decide +kernel
theorem dX5_noteBareTeeth_0 : decode cX5_noteBareTeeth 0 = .ok (.aload_n 0, 1) := by decide +kernel
theorem dX5_noteBareTeeth_1 : decode cX5_noteBareTeeth 1 = .ok (.iload_n 2, 1) := by decide +kernel
theorem dX5_noteBareTeeth_2 : decode cX5_noteBareTeeth 2 = .ok (.invokevirtual 290, 3) := by decide +kernel
theorem dX5_noteBareTeeth_5 : decode cX5_noteBareTeeth 5 = .ok (.aload_n 0, 1) := by decide +kernel
theorem dX5_noteBareTeeth_6 : decode cX5_noteBareTeeth 6 = .ok (.getfield 26, 3) := by decide +kernel
theorem dX5_noteBareTeeth_9 : decode cX5_noteBareTeeth 9 = .ok (.iload_n 1, 1) := by decide +kernel
theorem dX5_noteBareTeeth_10 : decode cX5_noteBareTeeth 10 = .ok (.invokevirtual 227, 3) := by decide +kernel
theorem dX5_noteBareTeeth_13 : decode cX5_noteBareTeeth 13 = .ok (.istore_n 3, 1) := by decide +kernel
theorem dX5_noteBareTeeth_14 : decode cX5_noteBareTeeth 14 = .ok (.iconst 0, 1) := by decide +kernel
theorem dX5_noteBareTeeth_15 : decode cX5_noteBareTeeth 15 = .ok (.istore 4, 2) := by decide +kernel
theorem dX5_noteBareTeeth_17 : decode cX5_noteBareTeeth 17 = .ok (.iconst 0, 1) := by decide +kernel
theorem dX5_noteBareTeeth_18 : decode cX5_noteBareTeeth 18 = .ok (.istore 5, 2) := by decide +kernel
theorem dX5_noteBareTeeth_20 : decode cX5_noteBareTeeth 20 = .ok (.iload 5, 2) := by decide +kernel
theorem dX5_noteBareTeeth_22 : decode cX5_noteBareTeeth 22 = .ok (.aload_n 0, 1) := by decide +kernel
theorem dX5_noteBareTeeth_23 : decode cX5_noteBareTeeth 23 = .ok (.getfield 26, 3) := by decide +kernel
theorem dX5_noteBareTeeth_26 : decode cX5_noteBareTeeth 26 = .ok (.iload_n 1, 1) := by decide +kernel
theorem dX5_noteBareTeeth_27 : decode cX5_noteBareTeeth 27 = .ok (.invokevirtual 99, 3) := by decide +kernel
theorem dX5_noteBareTeeth_30 : decode cX5_noteBareTeeth 30 = .ok (.if_icmp .ge 75, 3) := by decide +kernel
theorem dX5_noteBareTeeth_33 : decode cX5_noteBareTeeth 33 = .ok (.iload 5, 2) := by decide +kernel
theorem dX5_noteBareTeeth_35 : decode cX5_noteBareTeeth 35 = .ok (.aload_n 0, 1) := by decide +kernel
theorem dX5_noteBareTeeth_36 : decode cX5_noteBareTeeth 36 = .ok (.getfield 60, 3) := by decide +kernel
theorem dX5_noteBareTeeth_39 : decode cX5_noteBareTeeth 39 = .ok (.arraylength, 1) := by decide +kernel
theorem dX5_noteBareTeeth_40 : decode cX5_noteBareTeeth 40 = .ok (.if_icmp .ge 65, 3) := by decide +kernel
theorem dX5_noteBareTeeth_43 : decode cX5_noteBareTeeth 43 = .ok (.iload_n 3, 1) := by decide +kernel
theorem dX5_noteBareTeeth_44 : decode cX5_noteBareTeeth 44 = .ok (.iload 5, 2) := by decide +kernel
theorem dX5_noteBareTeeth_46 : decode cX5_noteBareTeeth 46 = .ok (.imul, 1) := by decide +kernel
theorem dX5_noteBareTeeth_47 : decode cX5_noteBareTeeth 47 = .ok (.aload_n 0, 1) := by decide +kernel
theorem dX5_noteBareTeeth_48 : decode cX5_noteBareTeeth 48 = .ok (.getfield 37, 3) := by decide +kernel
theorem dX5_noteBareTeeth_51 : decode cX5_noteBareTeeth 51 = .ok (.getfield 161, 3) := by decide +kernel
theorem dX5_noteBareTeeth_54 : decode cX5_noteBareTeeth 54 = .ok (.iadd, 1) := by decide +kernel
theorem dX5_noteBareTeeth_55 : decode cX5_noteBareTeeth 55 = .ok (.sipush 360, 3) := by decide +kernel
theorem dX5_noteBareTeeth_58 : decode cX5_noteBareTeeth 58 = .ok (.invokestatic 230, 3) := by decide +kernel
theorem dX5_noteBareTeeth_61 : decode cX5_noteBareTeeth 61 = .ok (.istore 6, 2) := by decide +kernel
theorem dX5_noteBareTeeth_63 : decode cX5_noteBareTeeth 63 = .ok (.aload_n 0, 1) := by decide +kernel
theorem dX5_noteBareTeeth_64 : decode cX5_noteBareTeeth 64 = .ok (.getfield 60, 3) := by decide +kernel
theorem dX5_noteBareTeeth_67 : decode cX5_noteBareTeeth 67 = .ok (.iload 5, 2) := by decide +kernel
theorem dX5_noteBareTeeth_69 : decode cX5_noteBareTeeth 69 = .ok (.aload_n 0, 1) := by decide +kernel
theorem dX5_noteBareTeeth_70 : decode cX5_noteBareTeeth 70 = .ok (.getfield 57, 3) := by decide +kernel
theorem dX5_noteBareTeeth_73 : decode cX5_noteBareTeeth 73 = .ok (.iload 6, 2) := by decide +kernel
theorem dX5_noteBareTeeth_75 : decode cX5_noteBareTeeth 75 = .ok (.iaload, 1) := by decide +kernel
theorem dX5_noteBareTeeth_76 : decode cX5_noteBareTeeth 76 = .ok (.bipush (-9), 2) := by decide +kernel
theorem dX5_noteBareTeeth_78 : decode cX5_noteBareTeeth 78 = .ok (.if_icmp .ne 7, 3) := by decide +kernel
theorem dX5_noteBareTeeth_81 : decode cX5_noteBareTeeth 81 = .ok (.iconst 1, 1) := by decide +kernel
theorem dX5_noteBareTeeth_82 : decode cX5_noteBareTeeth 82 = .ok (.goto 4, 3) := by decide +kernel
theorem dX5_noteBareTeeth_85 : decode cX5_noteBareTeeth 85 = .ok (.iconst 0, 1) := by decide +kernel
theorem dX5_noteBareTeeth_86 : decode cX5_noteBareTeeth 86 = .ok (.iastore, 1) := by decide +kernel
theorem dX5_noteBareTeeth_87 : decode cX5_noteBareTeeth 87 = .ok (.iload 4, 2) := by decide +kernel
theorem dX5_noteBareTeeth_89 : decode cX5_noteBareTeeth 89 = .ok (.aload_n 0, 1) := by decide +kernel
theorem dX5_noteBareTeeth_90 : decode cX5_noteBareTeeth 90 = .ok (.getfield 60, 3) := by decide +kernel
theorem dX5_noteBareTeeth_93 : decode cX5_noteBareTeeth 93 = .ok (.iload 5, 2) := by decide +kernel
theorem dX5_noteBareTeeth_95 : decode cX5_noteBareTeeth 95 = .ok (.iaload, 1) := by decide +kernel
theorem dX5_noteBareTeeth_96 : decode cX5_noteBareTeeth 96 = .ok (.iadd, 1) := by decide +kernel
theorem dX5_noteBareTeeth_97 : decode cX5_noteBareTeeth 97 = .ok (.istore 4, 2) := by decide +kernel
theorem dX5_noteBareTeeth_99 : decode cX5_noteBareTeeth 99 = .ok (.iinc 5 1, 3) := by decide +kernel
theorem dX5_noteBareTeeth_102 : decode cX5_noteBareTeeth 102 = .ok (.goto (-82), 3) := by decide +kernel
theorem dX5_noteBareTeeth_105 : decode cX5_noteBareTeeth 105 = .ok (.iload 4, 2) := by decide +kernel
theorem dX5_noteBareTeeth_107 : decode cX5_noteBareTeeth 107 = .ok (.ireturn, 1) := by decide +kernel
theorem dX5_curvesNeeded_0 : decode cX5_curvesNeeded 0 = .ok (.iconst 0, 1) := by decide +kernel
theorem dX5_curvesNeeded_1 : decode cX5_curvesNeeded 1 = .ok (.istore_n 3, 1) := by decide +kernel
theorem dX5_curvesNeeded_2 : decode cX5_curvesNeeded 2 = .ok (.iconst 0, 1) := by decide +kernel
theorem dX5_curvesNeeded_3 : decode cX5_curvesNeeded 3 = .ok (.istore 4, 2) := by decide +kernel
theorem dX5_curvesNeeded_5 : decode cX5_curvesNeeded 5 = .ok (.iload 4, 2) := by decide +kernel
theorem dX5_curvesNeeded_7 : decode cX5_curvesNeeded 7 = .ok (.iload_n 2, 1) := by decide +kernel
theorem dX5_curvesNeeded_8 : decode cX5_curvesNeeded 8 = .ok (.if_icmp .ge 23, 3) := by decide +kernel
theorem dX5_curvesNeeded_11 : decode cX5_curvesNeeded 11 = .ok (.aload_n 0, 1) := by decide +kernel
theorem dX5_curvesNeeded_12 : decode cX5_curvesNeeded 12 = .ok (.iload 4, 2) := by decide +kernel
theorem dX5_curvesNeeded_14 : decode cX5_curvesNeeded 14 = .ok (.iload_n 1, 1) := by decide +kernel
theorem dX5_curvesNeeded_15 : decode cX5_curvesNeeded 15 = .ok (.iload_n 2, 1) := by decide +kernel
theorem dX5_curvesNeeded_16 : decode cX5_curvesNeeded 16 = .ok (.invokevirtual 311, 3) := by decide +kernel
theorem dX5_curvesNeeded_19 : decode cX5_curvesNeeded 19 = .ok (.ifCond .eq 6, 3) := by decide +kernel
theorem dX5_curvesNeeded_22 : decode cX5_curvesNeeded 22 = .ok (.iinc 3 1, 3) := by decide +kernel
theorem dX5_curvesNeeded_25 : decode cX5_curvesNeeded 25 = .ok (.iinc 4 1, 3) := by decide +kernel
theorem dX5_curvesNeeded_28 : decode cX5_curvesNeeded 28 = .ok (.goto (-23), 3) := by decide +kernel
theorem dX5_curvesNeeded_31 : decode cX5_curvesNeeded 31 = .ok (.iload_n 3, 1) := by decide +kernel
theorem dX5_curvesNeeded_32 : decode cX5_curvesNeeded 32 = .ok (.ireturn, 1) := by decide +kernel
theorem dX5_isClassBare_0 : decode cX5_isClassBare 0 = .ok (.iload_n 3, 1) := by decide +kernel
theorem dX5_isClassBare_1 : decode cX5_isClassBare 1 = .ok (.iconst 1, 1) := by decide +kernel
theorem dX5_isClassBare_2 : decode cX5_isClassBare 2 = .ok (.invokestatic 213, 3) := by decide +kernel
theorem dX5_isClassBare_5 : decode cX5_isClassBare 5 = .ok (.istore 4, 2) := by decide +kernel
theorem dX5_isClassBare_7 : decode cX5_isClassBare 7 = .ok (.iload_n 1, 1) := by decide +kernel
theorem dX5_isClassBare_8 : decode cX5_isClassBare 8 = .ok (.istore 5, 2) := by decide +kernel
theorem dX5_isClassBare_10 : decode cX5_isClassBare 10 = .ok (.iload 5, 2) := by decide +kernel
theorem dX5_isClassBare_12 : decode cX5_isClassBare 12 = .ok (.iload_n 2, 1) := by decide +kernel
theorem dX5_isClassBare_13 : decode cX5_isClassBare 13 = .ok (.if_icmp .ge 36, 3) := by decide +kernel
theorem dX5_isClassBare_16 : decode cX5_isClassBare 16 = .ok (.iload 5, 2) := by decide +kernel
theorem dX5_isClassBare_18 : decode cX5_isClassBare 18 = .ok (.aload_n 0, 1) := by decide +kernel
theorem dX5_isClassBare_19 : decode cX5_isClassBare 19 = .ok (.getfield 60, 3) := by decide +kernel
theorem dX5_isClassBare_22 : decode cX5_isClassBare 22 = .ok (.arraylength, 1) := by decide +kernel
theorem dX5_isClassBare_23 : decode cX5_isClassBare 23 = .ok (.if_icmp .ge 26, 3) := by decide +kernel
theorem dX5_isClassBare_26 : decode cX5_isClassBare 26 = .ok (.aload_n 0, 1) := by decide +kernel
theorem dX5_isClassBare_27 : decode cX5_isClassBare 27 = .ok (.getfield 60, 3) := by decide +kernel
theorem dX5_isClassBare_30 : decode cX5_isClassBare 30 = .ok (.iload 5, 2) := by decide +kernel
theorem dX5_isClassBare_32 : decode cX5_isClassBare 32 = .ok (.iaload, 1) := by decide +kernel
theorem dX5_isClassBare_33 : decode cX5_isClassBare 33 = .ok (.iconst 1, 1) := by decide +kernel
theorem dX5_isClassBare_34 : decode cX5_isClassBare 34 = .ok (.if_icmp .ne 5, 3) := by decide +kernel
theorem dX5_isClassBare_37 : decode cX5_isClassBare 37 = .ok (.iconst 1, 1) := by decide +kernel
theorem dX5_isClassBare_38 : decode cX5_isClassBare 38 = .ok (.ireturn, 1) := by decide +kernel
theorem dX5_isClassBare_39 : decode cX5_isClassBare 39 = .ok (.iload 5, 2) := by decide +kernel
theorem dX5_isClassBare_41 : decode cX5_isClassBare 41 = .ok (.iload 4, 2) := by decide +kernel
theorem dX5_isClassBare_43 : decode cX5_isClassBare 43 = .ok (.iadd, 1) := by decide +kernel
theorem dX5_isClassBare_44 : decode cX5_isClassBare 44 = .ok (.istore 5, 2) := by decide +kernel
theorem dX5_isClassBare_46 : decode cX5_isClassBare 46 = .ok (.goto (-36), 3) := by decide +kernel
theorem dX5_isClassBare_49 : decode cX5_isClassBare 49 = .ok (.iconst 0, 1) := by decide +kernel
theorem dX5_isClassBare_50 : decode cX5_isClassBare 50 = .ok (.ireturn, 1) := by decide +kernel
theorem dX5_noteMostPetals_0 : decode cX5_noteMostPetals 0 = .ok (.aload_n 0, 1) := by decide +kernel
theorem dX5_noteMostPetals_1 : decode cX5_noteMostPetals 1 = .ok (.getfield 63, 3) := by decide +kernel
theorem dX5_noteMostPetals_4 : decode cX5_noteMostPetals 4 = .ok (.iconst 0, 1) := by decide +kernel
theorem dX5_noteMostPetals_5 : decode cX5_noteMostPetals 5 = .ok (.invokestatic 284, 3) := by decide +kernel
theorem dX5_noteMostPetals_8 : decode cX5_noteMostPetals 8 = .ok (.iconst 0, 1) := by decide +kernel
theorem dX5_noteMostPetals_9 : decode cX5_noteMostPetals 9 = .ok (.istore_n 1, 1) := by decide +kernel
theorem dX5_noteMostPetals_10 : decode cX5_noteMostPetals 10 = .ok (.iload_n 1, 1) := by decide +kernel
theorem dX5_noteMostPetals_11 : decode cX5_noteMostPetals 11 = .ok (.aload_n 0, 1) := by decide +kernel
theorem dX5_noteMostPetals_12 : decode cX5_noteMostPetals 12 = .ok (.getfield 26, 3) := by decide +kernel
theorem dX5_noteMostPetals_15 : decode cX5_noteMostPetals 15 = .ok (.getfield 271, 3) := by decide +kernel
theorem dX5_noteMostPetals_18 : decode cX5_noteMostPetals 18 = .ok (.if_icmp .ge 62, 3) := by decide +kernel
theorem dX5_noteMostPetals_21 : decode cX5_noteMostPetals 21 = .ok (.iconst 0, 1) := by decide +kernel
theorem dX5_noteMostPetals_22 : decode cX5_noteMostPetals 22 = .ok (.istore_n 2, 1) := by decide +kernel
theorem dX5_noteMostPetals_23 : decode cX5_noteMostPetals 23 = .ok (.iload_n 2, 1) := by decide +kernel
theorem dX5_noteMostPetals_24 : decode cX5_noteMostPetals 24 = .ok (.aload_n 0, 1) := by decide +kernel
theorem dX5_noteMostPetals_25 : decode cX5_noteMostPetals 25 = .ok (.getfield 26, 3) := by decide +kernel
theorem dX5_noteMostPetals_28 : decode cX5_noteMostPetals 28 = .ok (.getfield 198, 3) := by decide +kernel
theorem dX5_noteMostPetals_31 : decode cX5_noteMostPetals 31 = .ok (.if_icmp .ge 43, 3) := by decide +kernel
theorem dX5_noteMostPetals_34 : decode cX5_noteMostPetals 34 = .ok (.aload_n 0, 1) := by decide +kernel
theorem dX5_noteMostPetals_35 : decode cX5_noteMostPetals 35 = .ok (.getfield 26, 3) := by decide +kernel
theorem dX5_noteMostPetals_38 : decode cX5_noteMostPetals 38 = .ok (.iload_n 1, 1) := by decide +kernel
theorem dX5_noteMostPetals_39 : decode cX5_noteMostPetals 39 = .ok (.iload_n 2, 1) := by decide +kernel
theorem dX5_noteMostPetals_40 : decode cX5_noteMostPetals 40 = .ok (.invokevirtual 109, 3) := by decide +kernel
theorem dX5_noteMostPetals_43 : decode cX5_noteMostPetals 43 = .ok (.ifCond .eq 25, 3) := by decide +kernel
theorem dX5_noteMostPetals_46 : decode cX5_noteMostPetals 46 = .ok (.aload_n 0, 1) := by decide +kernel
theorem dX5_noteMostPetals_47 : decode cX5_noteMostPetals 47 = .ok (.aload_n 0, 1) := by decide +kernel
theorem dX5_noteMostPetals_48 : decode cX5_noteMostPetals 48 = .ok (.getfield 26, 3) := by decide +kernel
theorem dX5_noteMostPetals_51 : decode cX5_noteMostPetals 51 = .ok (.iload_n 1, 1) := by decide +kernel
theorem dX5_noteMostPetals_52 : decode cX5_noteMostPetals 52 = .ok (.iload_n 2, 1) := by decide +kernel
theorem dX5_noteMostPetals_53 : decode cX5_noteMostPetals 53 = .ok (.invokevirtual 120, 3) := by decide +kernel
theorem dX5_noteMostPetals_56 : decode cX5_noteMostPetals 56 = .ok (.aload_n 0, 1) := by decide +kernel
theorem dX5_noteMostPetals_57 : decode cX5_noteMostPetals 57 = .ok (.getfield 26, 3) := by decide +kernel
theorem dX5_noteMostPetals_60 : decode cX5_noteMostPetals 60 = .ok (.iload_n 1, 1) := by decide +kernel
theorem dX5_noteMostPetals_61 : decode cX5_noteMostPetals 61 = .ok (.iload_n 2, 1) := by decide +kernel
theorem dX5_noteMostPetals_62 : decode cX5_noteMostPetals 62 = .ok (.invokevirtual 113, 3) := by decide +kernel
theorem dX5_noteMostPetals_65 : decode cX5_noteMostPetals 65 = .ok (.invokevirtual 314, 3) := by decide +kernel
theorem dX5_noteMostPetals_68 : decode cX5_noteMostPetals 68 = .ok (.iinc 2 1, 3) := by decide +kernel
theorem dX5_noteMostPetals_71 : decode cX5_noteMostPetals 71 = .ok (.goto (-48), 3) := by decide +kernel
theorem dX5_noteMostPetals_74 : decode cX5_noteMostPetals 74 = .ok (.iinc 1 1, 3) := by decide +kernel
theorem dX5_noteMostPetals_77 : decode cX5_noteMostPetals 77 = .ok (.goto (-67), 3) := by decide +kernel
theorem dX5_noteMostPetals_80 : decode cX5_noteMostPetals 80 = .ok (.aload_n 0, 1) := by decide +kernel
theorem dX5_noteMostPetals_81 : decode cX5_noteMostPetals 81 = .ok (.iconst 1, 1) := by decide +kernel
theorem dX5_noteMostPetals_82 : decode cX5_noteMostPetals 82 = .ok (.putfield 66, 3) := by decide +kernel
theorem dX5_noteMostPetals_85 : decode cX5_noteMostPetals 85 = .ok (.return_, 1) := by decide +kernel
theorem dX5_addTwo_0 : decode cX5_addTwo 0 = .ok (.iload_n 1, 1) := by decide +kernel
theorem dX5_addTwo_1 : decode cX5_addTwo 1 = .ok (.iconst 0, 1) := by decide +kernel
theorem dX5_addTwo_2 : decode cX5_addTwo 2 = .ok (.invokestatic 213, 3) := by decide +kernel
theorem dX5_addTwo_5 : decode cX5_addTwo 5 = .ok (.istore_n 3, 1) := by decide +kernel
theorem dX5_addTwo_6 : decode cX5_addTwo 6 = .ok (.sipush 999, 3) := by decide +kernel
theorem dX5_addTwo_9 : decode cX5_addTwo 9 = .ok (.istore 4, 2) := by decide +kernel
theorem dX5_addTwo_11 : decode cX5_addTwo 11 = .ok (.iload 4, 2) := by decide +kernel
theorem dX5_addTwo_13 : decode cX5_addTwo 13 = .ok (.iload_n 3, 1) := by decide +kernel
theorem dX5_addTwo_14 : decode cX5_addTwo 14 = .ok (.if_icmp .lt 37, 3) := by decide +kernel
theorem dX5_addTwo_17 : decode cX5_addTwo 17 = .ok (.aload_n 0, 1) := by decide +kernel
theorem dX5_addTwo_18 : decode cX5_addTwo 18 = .ok (.getfield 63, 3) := by decide +kernel
theorem dX5_addTwo_21 : decode cX5_addTwo 21 = .ok (.iload 4, 2) := by decide +kernel
theorem dX5_addTwo_23 : decode cX5_addTwo 23 = .ok (.aload_n 0, 1) := by decide +kernel
theorem dX5_addTwo_24 : decode cX5_addTwo 24 = .ok (.getfield 63, 3) := by decide +kernel
theorem dX5_addTwo_27 : decode cX5_addTwo 27 = .ok (.iload 4, 2) := by decide +kernel
theorem dX5_addTwo_29 : decode cX5_addTwo 29 = .ok (.iaload, 1) := by decide +kernel
theorem dX5_addTwo_30 : decode cX5_addTwo 30 = .ok (.aload_n 0, 1) := by decide +kernel
theorem dX5_addTwo_31 : decode cX5_addTwo 31 = .ok (.getfield 63, 3) := by decide +kernel
theorem dX5_addTwo_34 : decode cX5_addTwo 34 = .ok (.iload 4, 2) := by decide +kernel
theorem dX5_addTwo_36 : decode cX5_addTwo 36 = .ok (.iload_n 3, 1) := by decide +kernel
theorem dX5_addTwo_37 : decode cX5_addTwo 37 = .ok (.isub, 1) := by decide +kernel
theorem dX5_addTwo_38 : decode cX5_addTwo 38 = .ok (.iaload, 1) := by decide +kernel
theorem dX5_addTwo_39 : decode cX5_addTwo 39 = .ok (.iload_n 2, 1) := by decide +kernel
theorem dX5_addTwo_40 : decode cX5_addTwo 40 = .ok (.iadd, 1) := by decide +kernel
theorem dX5_addTwo_41 : decode cX5_addTwo 41 = .ok (.invokestatic 213, 3) := by decide +kernel
theorem dX5_addTwo_44 : decode cX5_addTwo 44 = .ok (.iastore, 1) := by decide +kernel
theorem dX5_addTwo_45 : decode cX5_addTwo 45 = .ok (.iinc 4 (-1), 3) := by decide +kernel
theorem dX5_addTwo_48 : decode cX5_addTwo 48 = .ok (.goto (-37), 3) := by decide +kernel
theorem dX5_addTwo_51 : decode cX5_addTwo 51 = .ok (.return_, 1) := by decide +kernel
theorem dX5_guesses_0 : decode cX5_guesses 0 = .ok (.aload_n 0, 1) := by decide +kernel
theorem dX5_guesses_1 : decode cX5_guesses 1 = .ok (.getfield 26, 3) := by decide +kernel
theorem dX5_guesses_4 : decode cX5_guesses 4 = .ok (.iload_n 1, 1) := by decide +kernel
theorem dX5_guesses_5 : decode cX5_guesses 5 = .ok (.invokevirtual 99, 3) := by decide +kernel
theorem dX5_guesses_8 : decode cX5_guesses 8 = .ok (.istore_n 2, 1) := by decide +kernel
theorem dX5_guesses_9 : decode cX5_guesses 9 = .ok (.iconst 0, 1) := by decide +kernel
theorem dX5_guesses_10 : decode cX5_guesses 10 = .ok (.istore_n 3, 1) := by decide +kernel
theorem dX5_guesses_11 : decode cX5_guesses 11 = .ok (.iconst 0, 1) := by decide +kernel
theorem dX5_guesses_12 : decode cX5_guesses 12 = .ok (.istore 4, 2) := by decide +kernel
theorem dX5_guesses_14 : decode cX5_guesses 14 = .ok (.iload 4, 2) := by decide +kernel
theorem dX5_guesses_16 : decode cX5_guesses 16 = .ok (.aload_n 0, 1) := by decide +kernel
theorem dX5_guesses_17 : decode cX5_guesses 17 = .ok (.getfield 26, 3) := by decide +kernel
theorem dX5_guesses_20 : decode cX5_guesses 20 = .ok (.getfield 198, 3) := by decide +kernel
theorem dX5_guesses_23 : decode cX5_guesses 23 = .ok (.if_icmp .ge 58, 3) := by decide +kernel
theorem dX5_guesses_26 : decode cX5_guesses 26 = .ok (.aload_n 0, 1) := by decide +kernel
theorem dX5_guesses_27 : decode cX5_guesses 27 = .ok (.getfield 26, 3) := by decide +kernel
theorem dX5_guesses_30 : decode cX5_guesses 30 = .ok (.iload_n 1, 1) := by decide +kernel
theorem dX5_guesses_31 : decode cX5_guesses 31 = .ok (.iload 4, 2) := by decide +kernel
theorem dX5_guesses_33 : decode cX5_guesses 33 = .ok (.invokevirtual 109, 3) := by decide +kernel
theorem dX5_guesses_36 : decode cX5_guesses 36 = .ok (.ifCond .eq 39, 3) := by decide +kernel
theorem dX5_guesses_39 : decode cX5_guesses 39 = .ok (.aload_n 0, 1) := by decide +kernel
theorem dX5_guesses_40 : decode cX5_guesses 40 = .ok (.getfield 26, 3) := by decide +kernel
theorem dX5_guesses_43 : decode cX5_guesses 43 = .ok (.iload_n 1, 1) := by decide +kernel
theorem dX5_guesses_44 : decode cX5_guesses 44 = .ok (.iload 4, 2) := by decide +kernel
theorem dX5_guesses_46 : decode cX5_guesses 46 = .ok (.invokevirtual 204, 3) := by decide +kernel
theorem dX5_guesses_49 : decode cX5_guesses 49 = .ok (.istore 5, 2) := by decide +kernel
theorem dX5_guesses_51 : decode cX5_guesses 51 = .ok (.iload_n 3, 1) := by decide +kernel
theorem dX5_guesses_52 : decode cX5_guesses 52 = .ok (.aload_n 0, 1) := by decide +kernel
theorem dX5_guesses_53 : decode cX5_guesses 53 = .ok (.getfield 26, 3) := by decide +kernel
theorem dX5_guesses_56 : decode cX5_guesses 56 = .ok (.iload_n 1, 1) := by decide +kernel
theorem dX5_guesses_57 : decode cX5_guesses 57 = .ok (.iload 4, 2) := by decide +kernel
theorem dX5_guesses_59 : decode cX5_guesses 59 = .ok (.invokevirtual 113, 3) := by decide +kernel
theorem dX5_guesses_62 : decode cX5_guesses 62 = .ok (.aload_n 0, 1) := by decide +kernel
theorem dX5_guesses_63 : decode cX5_guesses 63 = .ok (.getfield 19, 3) := by decide +kernel
theorem dX5_guesses_66 : decode cX5_guesses 66 = .ok (.iload_n 2, 1) := by decide +kernel
theorem dX5_guesses_67 : decode cX5_guesses 67 = .ok (.iload 5, 2) := by decide +kernel
theorem dX5_guesses_69 : decode cX5_guesses 69 = .ok (.invokevirtual 318, 3) := by decide +kernel
theorem dX5_guesses_72 : decode cX5_guesses 72 = .ok (.imul, 1) := by decide +kernel
theorem dX5_guesses_73 : decode cX5_guesses 73 = .ok (.iadd, 1) := by decide +kernel
theorem dX5_guesses_74 : decode cX5_guesses 74 = .ok (.istore_n 3, 1) := by decide +kernel
theorem dX5_guesses_75 : decode cX5_guesses 75 = .ok (.iinc 4 1, 3) := by decide +kernel
theorem dX5_guesses_78 : decode cX5_guesses 78 = .ok (.goto (-64), 3) := by decide +kernel
theorem dX5_guesses_81 : decode cX5_guesses 81 = .ok (.iload_n 3, 1) := by decide +kernel
theorem dX5_guesses_82 : decode cX5_guesses 82 = .ok (.ireturn, 1) := by decide +kernel
theorem dX5_firstGuess_0 : decode cX5_firstGuess 0 = .ok (.aload_n 0, 1) := by decide +kernel
theorem dX5_firstGuess_1 : decode cX5_firstGuess 1 = .ok (.getfield 26, 3) := by decide +kernel
theorem dX5_firstGuess_4 : decode cX5_firstGuess 4 = .ok (.iload_n 1, 1) := by decide +kernel
theorem dX5_firstGuess_5 : decode cX5_firstGuess 5 = .ok (.invokevirtual 99, 3) := by decide +kernel
theorem dX5_firstGuess_8 : decode cX5_firstGuess 8 = .ok (.istore_n 2, 1) := by decide +kernel
theorem dX5_firstGuess_9 : decode cX5_firstGuess 9 = .ok (.iconst 0, 1) := by decide +kernel
theorem dX5_firstGuess_10 : decode cX5_firstGuess 10 = .ok (.istore_n 3, 1) := by decide +kernel
theorem dX5_firstGuess_11 : decode cX5_firstGuess 11 = .ok (.iload_n 3, 1) := by decide +kernel
theorem dX5_firstGuess_12 : decode cX5_firstGuess 12 = .ok (.aload_n 0, 1) := by decide +kernel
theorem dX5_firstGuess_13 : decode cX5_firstGuess 13 = .ok (.getfield 26, 3) := by decide +kernel
theorem dX5_firstGuess_16 : decode cX5_firstGuess 16 = .ok (.getfield 198, 3) := by decide +kernel
theorem dX5_firstGuess_19 : decode cX5_firstGuess 19 = .ok (.if_icmp .ge 56, 3) := by decide +kernel
theorem dX5_firstGuess_22 : decode cX5_firstGuess 22 = .ok (.aload_n 0, 1) := by decide +kernel
theorem dX5_firstGuess_23 : decode cX5_firstGuess 23 = .ok (.getfield 26, 3) := by decide +kernel
theorem dX5_firstGuess_26 : decode cX5_firstGuess 26 = .ok (.iload_n 1, 1) := by decide +kernel
theorem dX5_firstGuess_27 : decode cX5_firstGuess 27 = .ok (.iload_n 3, 1) := by decide +kernel
theorem dX5_firstGuess_28 : decode cX5_firstGuess 28 = .ok (.invokevirtual 109, 3) := by decide +kernel
theorem dX5_firstGuess_31 : decode cX5_firstGuess 31 = .ok (.ifCond .eq 38, 3) := by decide +kernel
theorem dX5_firstGuess_34 : decode cX5_firstGuess 34 = .ok (.aload_n 0, 1) := by decide +kernel
theorem dX5_firstGuess_35 : decode cX5_firstGuess 35 = .ok (.getfield 19, 3) := by decide +kernel
theorem dX5_firstGuess_38 : decode cX5_firstGuess 38 = .ok (.iload_n 2, 1) := by decide +kernel
theorem dX5_firstGuess_39 : decode cX5_firstGuess 39 = .ok (.aload_n 0, 1) := by decide +kernel
theorem dX5_firstGuess_40 : decode cX5_firstGuess 40 = .ok (.getfield 26, 3) := by decide +kernel
theorem dX5_firstGuess_43 : decode cX5_firstGuess 43 = .ok (.iload_n 1, 1) := by decide +kernel
theorem dX5_firstGuess_44 : decode cX5_firstGuess 44 = .ok (.iload_n 3, 1) := by decide +kernel
theorem dX5_firstGuess_45 : decode cX5_firstGuess 45 = .ok (.invokevirtual 204, 3) := by decide +kernel
theorem dX5_firstGuess_48 : decode cX5_firstGuess 48 = .ok (.invokevirtual 321, 3) := by decide +kernel
theorem dX5_firstGuess_51 : decode cX5_firstGuess 51 = .ok (.istore 4, 2) := by decide +kernel
theorem dX5_firstGuess_53 : decode cX5_firstGuess 53 = .ok (.iload 4, 2) := by decide +kernel
theorem dX5_firstGuess_55 : decode cX5_firstGuess 55 = .ok (.bipush (-9), 2) := by decide +kernel
theorem dX5_firstGuess_57 : decode cX5_firstGuess 57 = .ok (.if_icmp .eq 12, 3) := by decide +kernel
theorem dX5_firstGuess_60 : decode cX5_firstGuess 60 = .ok (.sipush 1000, 3) := by decide +kernel
theorem dX5_firstGuess_63 : decode cX5_firstGuess 63 = .ok (.iload_n 3, 1) := by decide +kernel
theorem dX5_firstGuess_64 : decode cX5_firstGuess 64 = .ok (.imul, 1) := by decide +kernel
theorem dX5_firstGuess_65 : decode cX5_firstGuess 65 = .ok (.iload 4, 2) := by decide +kernel
theorem dX5_firstGuess_67 : decode cX5_firstGuess 67 = .ok (.iadd, 1) := by decide +kernel
theorem dX5_firstGuess_68 : decode cX5_firstGuess 68 = .ok (.ireturn, 1) := by decide +kernel
theorem dX5_firstGuess_69 : decode cX5_firstGuess 69 = .ok (.iinc 3 1, 3) := by decide +kernel
theorem dX5_firstGuess_72 : decode cX5_firstGuess 72 = .ok (.goto (-61), 3) := by decide +kernel
theorem dX5_firstGuess_75 : decode cX5_firstGuess 75 = .ok (.bipush (-9), 2) := by decide +kernel
theorem dX5_firstGuess_77 : decode cX5_firstGuess 77 = .ok (.ireturn, 1) := by decide +kernel
theorem dX5_noteGuessesByTooth_0 : decode cX5_noteGuessesByTooth 0 = .ok (.aload_n 0, 1) := by decide +kernel
theorem dX5_noteGuessesByTooth_1 : decode cX5_noteGuessesByTooth 1 = .ok (.getfield 60, 3) := by decide +kernel
theorem dX5_noteGuessesByTooth_4 : decode cX5_noteGuessesByTooth 4 = .ok (.iconst 0, 1) := by decide +kernel
theorem dX5_noteGuessesByTooth_5 : decode cX5_noteGuessesByTooth 5 = .ok (.invokestatic 284, 3) := by decide +kernel
theorem dX5_noteGuessesByTooth_8 : decode cX5_noteGuessesByTooth 8 = .ok (.iconst 0, 1) := by decide +kernel
theorem dX5_noteGuessesByTooth_9 : decode cX5_noteGuessesByTooth 9 = .ok (.istore_n 2, 1) := by decide +kernel
theorem dX5_noteGuessesByTooth_10 : decode cX5_noteGuessesByTooth 10 = .ok (.iload_n 2, 1) := by decide +kernel
theorem dX5_noteGuessesByTooth_11 : decode cX5_noteGuessesByTooth 11 = .ok (.aload_n 0, 1) := by decide +kernel
theorem dX5_noteGuessesByTooth_12 : decode cX5_noteGuessesByTooth 12 = .ok (.getfield 26, 3) := by decide +kernel
theorem dX5_noteGuessesByTooth_15 : decode cX5_noteGuessesByTooth 15 = .ok (.getfield 198, 3) := by decide +kernel
theorem dX5_noteGuessesByTooth_18 : decode cX5_noteGuessesByTooth 18 = .ok (.if_icmp .ge 51, 3) := by decide +kernel
theorem dX5_noteGuessesByTooth_21 : decode cX5_noteGuessesByTooth 21 = .ok (.aload_n 0, 1) := by decide +kernel
theorem dX5_noteGuessesByTooth_22 : decode cX5_noteGuessesByTooth 22 = .ok (.getfield 26, 3) := by decide +kernel
theorem dX5_noteGuessesByTooth_25 : decode cX5_noteGuessesByTooth 25 = .ok (.iload_n 1, 1) := by decide +kernel
theorem dX5_noteGuessesByTooth_26 : decode cX5_noteGuessesByTooth 26 = .ok (.iload_n 2, 1) := by decide +kernel
theorem dX5_noteGuessesByTooth_27 : decode cX5_noteGuessesByTooth 27 = .ok (.invokevirtual 109, 3) := by decide +kernel
theorem dX5_noteGuessesByTooth_30 : decode cX5_noteGuessesByTooth 30 = .ok (.ifCond .eq 33, 3) := by decide +kernel
theorem dX5_noteGuessesByTooth_33 : decode cX5_noteGuessesByTooth 33 = .ok (.aload_n 0, 1) := by decide +kernel
theorem dX5_noteGuessesByTooth_34 : decode cX5_noteGuessesByTooth 34 = .ok (.aload_n 0, 1) := by decide +kernel
theorem dX5_noteGuessesByTooth_35 : decode cX5_noteGuessesByTooth 35 = .ok (.getfield 26, 3) := by decide +kernel
theorem dX5_noteGuessesByTooth_38 : decode cX5_noteGuessesByTooth 38 = .ok (.iload_n 1, 1) := by decide +kernel
theorem dX5_noteGuessesByTooth_39 : decode cX5_noteGuessesByTooth 39 = .ok (.invokevirtual 99, 3) := by decide +kernel
theorem dX5_noteGuessesByTooth_42 : decode cX5_noteGuessesByTooth 42 = .ok (.aload_n 0, 1) := by decide +kernel
theorem dX5_noteGuessesByTooth_43 : decode cX5_noteGuessesByTooth 43 = .ok (.getfield 26, 3) := by decide +kernel
theorem dX5_noteGuessesByTooth_46 : decode cX5_noteGuessesByTooth 46 = .ok (.iload_n 1, 1) := by decide +kernel
theorem dX5_noteGuessesByTooth_47 : decode cX5_noteGuessesByTooth 47 = .ok (.iload_n 2, 1) := by decide +kernel
theorem dX5_noteGuessesByTooth_48 : decode cX5_noteGuessesByTooth 48 = .ok (.invokevirtual 204, 3) := by decide +kernel
theorem dX5_noteGuessesByTooth_51 : decode cX5_noteGuessesByTooth 51 = .ok (.aload_n 0, 1) := by decide +kernel
theorem dX5_noteGuessesByTooth_52 : decode cX5_noteGuessesByTooth 52 = .ok (.getfield 26, 3) := by decide +kernel
theorem dX5_noteGuessesByTooth_55 : decode cX5_noteGuessesByTooth 55 = .ok (.iload_n 1, 1) := by decide +kernel
theorem dX5_noteGuessesByTooth_56 : decode cX5_noteGuessesByTooth 56 = .ok (.iload_n 2, 1) := by decide +kernel
theorem dX5_noteGuessesByTooth_57 : decode cX5_noteGuessesByTooth 57 = .ok (.invokevirtual 113, 3) := by decide +kernel
theorem dX5_noteGuessesByTooth_60 : decode cX5_noteGuessesByTooth 60 = .ok (.invokevirtual 324, 3) := by decide +kernel
theorem dX5_noteGuessesByTooth_63 : decode cX5_noteGuessesByTooth 63 = .ok (.iinc 2 1, 3) := by decide +kernel
theorem dX5_noteGuessesByTooth_66 : decode cX5_noteGuessesByTooth 66 = .ok (.goto (-56), 3) := by decide +kernel
theorem dX5_noteGuessesByTooth_69 : decode cX5_noteGuessesByTooth 69 = .ok (.return_, 1) := by decide +kernel
theorem dX5_addGuesses_0 : decode cX5_addGuesses 0 = .ok (.iload_n 2, 1) := by decide +kernel
theorem dX5_addGuesses_1 : decode cX5_addGuesses 1 = .ok (.iconst 1, 1) := by decide +kernel
theorem dX5_addGuesses_2 : decode cX5_addGuesses 2 = .ok (.invokestatic 213, 3) := by decide +kernel
theorem dX5_addGuesses_5 : decode cX5_addGuesses 5 = .ok (.istore 4, 2) := by decide +kernel
theorem dX5_addGuesses_7 : decode cX5_addGuesses 7 = .ok (.iconst 0, 1) := by decide +kernel
theorem dX5_addGuesses_8 : decode cX5_addGuesses 8 = .ok (.istore 5, 2) := by decide +kernel
theorem dX5_addGuesses_10 : decode cX5_addGuesses 10 = .ok (.iload 5, 2) := by decide +kernel
theorem dX5_addGuesses_12 : decode cX5_addGuesses 12 = .ok (.iload_n 2, 1) := by decide +kernel
theorem dX5_addGuesses_13 : decode cX5_addGuesses 13 = .ok (.if_icmp .ge 64, 3) := by decide +kernel
theorem dX5_addGuesses_16 : decode cX5_addGuesses 16 = .ok (.aload_n 0, 1) := by decide +kernel
theorem dX5_addGuesses_17 : decode cX5_addGuesses 17 = .ok (.getfield 19, 3) := by decide +kernel
theorem dX5_addGuesses_20 : decode cX5_addGuesses 20 = .ok (.iload_n 1, 1) := by decide +kernel
theorem dX5_addGuesses_21 : decode cX5_addGuesses 21 = .ok (.iload_n 2, 1) := by decide +kernel
theorem dX5_addGuesses_22 : decode cX5_addGuesses 22 = .ok (.iload 5, 2) := by decide +kernel
theorem dX5_addGuesses_24 : decode cX5_addGuesses 24 = .ok (.invokevirtual 328, 3) := by decide +kernel
theorem dX5_addGuesses_27 : decode cX5_addGuesses 27 = .ok (.ifCond .eq 44, 3) := by decide +kernel
theorem dX5_addGuesses_30 : decode cX5_addGuesses 30 = .ok (.iload 5, 2) := by decide +kernel
theorem dX5_addGuesses_32 : decode cX5_addGuesses 32 = .ok (.istore 6, 2) := by decide +kernel
theorem dX5_addGuesses_34 : decode cX5_addGuesses 34 = .ok (.iload 6, 2) := by decide +kernel
theorem dX5_addGuesses_36 : decode cX5_addGuesses 36 = .ok (.iload_n 1, 1) := by decide +kernel
theorem dX5_addGuesses_37 : decode cX5_addGuesses 37 = .ok (.if_icmp .ge 34, 3) := by decide +kernel
theorem dX5_addGuesses_40 : decode cX5_addGuesses 40 = .ok (.iload 6, 2) := by decide +kernel
theorem dX5_addGuesses_42 : decode cX5_addGuesses 42 = .ok (.aload_n 0, 1) := by decide +kernel
theorem dX5_addGuesses_43 : decode cX5_addGuesses 43 = .ok (.getfield 60, 3) := by decide +kernel
theorem dX5_addGuesses_46 : decode cX5_addGuesses 46 = .ok (.arraylength, 1) := by decide +kernel
theorem dX5_addGuesses_47 : decode cX5_addGuesses 47 = .ok (.if_icmp .ge 24, 3) := by decide +kernel
theorem dX5_addGuesses_50 : decode cX5_addGuesses 50 = .ok (.aload_n 0, 1) := by decide +kernel
theorem dX5_addGuesses_51 : decode cX5_addGuesses 51 = .ok (.getfield 60, 3) := by decide +kernel
theorem dX5_addGuesses_54 : decode cX5_addGuesses 54 = .ok (.iload 6, 2) := by decide +kernel
theorem dX5_addGuesses_56 : decode cX5_addGuesses 56 = .ok (.dup2, 1) := by decide +kernel
theorem dX5_addGuesses_57 : decode cX5_addGuesses 57 = .ok (.iaload, 1) := by decide +kernel
theorem dX5_addGuesses_58 : decode cX5_addGuesses 58 = .ok (.iload_n 3, 1) := by decide +kernel
theorem dX5_addGuesses_59 : decode cX5_addGuesses 59 = .ok (.iadd, 1) := by decide +kernel
theorem dX5_addGuesses_60 : decode cX5_addGuesses 60 = .ok (.iastore, 1) := by decide +kernel
theorem dX5_addGuesses_61 : decode cX5_addGuesses 61 = .ok (.iload 6, 2) := by decide +kernel
theorem dX5_addGuesses_63 : decode cX5_addGuesses 63 = .ok (.iload 4, 2) := by decide +kernel
theorem dX5_addGuesses_65 : decode cX5_addGuesses 65 = .ok (.iadd, 1) := by decide +kernel
theorem dX5_addGuesses_66 : decode cX5_addGuesses 66 = .ok (.istore 6, 2) := by decide +kernel
theorem dX5_addGuesses_68 : decode cX5_addGuesses 68 = .ok (.goto (-34), 3) := by decide +kernel
theorem dX5_addGuesses_71 : decode cX5_addGuesses 71 = .ok (.iinc 5 1, 3) := by decide +kernel
theorem dX5_addGuesses_74 : decode cX5_addGuesses 74 = .ok (.goto (-64), 3) := by decide +kernel
theorem dX5_addGuesses_77 : decode cX5_addGuesses 77 = .ok (.return_, 1) := by decide +kernel
theorem dX5_markOfCurve_0 : decode cX5_markOfCurve 0 = .ok (.aload_n 0, 1) := by decide +kernel
theorem dX5_markOfCurve_1 : decode cX5_markOfCurve 1 = .ok (.dup, 1) := by decide +kernel
theorem dX5_markOfCurve_2 : decode cX5_markOfCurve 2 = .ok (.getfield 53, 3) := by decide +kernel
theorem dX5_markOfCurve_5 : decode cX5_markOfCurve 5 = .ok (.lconst 1, 1) := by decide +kernel
theorem dX5_markOfCurve_6 : decode cX5_markOfCurve 6 = .ok (.ladd, 1) := by decide +kernel
theorem dX5_markOfCurve_7 : decode cX5_markOfCurve 7 = .ok (.putfield 53, 3) := by decide +kernel
theorem dX5_markOfCurve_10 : decode cX5_markOfCurve 10 = .ok (.aload_n 1, 1) := by decide +kernel
theorem dX5_markOfCurve_11 : decode cX5_markOfCurve 11 = .ok (.getfield 221, 3) := by decide +kernel
theorem dX5_markOfCurve_14 : decode cX5_markOfCurve 14 = .ok (.ireturn, 1) := by decide +kernel
theorem dX5_markOfRose_0 : decode cX5_markOfRose 0 = .ok (.aload_n 0, 1) := by decide +kernel
theorem dX5_markOfRose_1 : decode cX5_markOfRose 1 = .ok (.dup, 1) := by decide +kernel
theorem dX5_markOfRose_2 : decode cX5_markOfRose 2 = .ok (.getfield 53, 3) := by decide +kernel
theorem dX5_markOfRose_5 : decode cX5_markOfRose 5 = .ok (.ldc2_w 331, 3) := by decide +kernel
theorem dX5_markOfRose_8 : decode cX5_markOfRose 8 = .ok (.ladd, 1) := by decide +kernel
theorem dX5_markOfRose_9 : decode cX5_markOfRose 9 = .ok (.putfield 53, 3) := by decide +kernel
theorem dX5_markOfRose_12 : decode cX5_markOfRose 12 = .ok (.aload_n 0, 1) := by decide +kernel
theorem dX5_markOfRose_13 : decode cX5_markOfRose 13 = .ok (.aload_n 1, 1) := by decide +kernel
theorem dX5_markOfRose_14 : decode cX5_markOfRose 14 = .ok (.invokevirtual 251, 3) := by decide +kernel
theorem dX5_markOfRose_17 : decode cX5_markOfRose 17 = .ok (.aload_n 1, 1) := by decide +kernel
theorem dX5_markOfRose_18 : decode cX5_markOfRose 18 = .ok (.getfield 142, 3) := by decide +kernel
theorem dX5_markOfRose_21 : decode cX5_markOfRose 21 = .ok (.iadd, 1) := by decide +kernel
theorem dX5_markOfRose_22 : decode cX5_markOfRose 22 = .ok (.ireturn, 1) := by decide +kernel
theorem dX5_markOfWeb_0 : decode cX5_markOfWeb 0 = .ok (.aload_n 0, 1) := by decide +kernel
theorem dX5_markOfWeb_1 : decode cX5_markOfWeb 1 = .ok (.dup, 1) := by decide +kernel
theorem dX5_markOfWeb_2 : decode cX5_markOfWeb 2 = .ok (.getfield 53, 3) := by decide +kernel
theorem dX5_markOfWeb_5 : decode cX5_markOfWeb 5 = .ok (.ldc2_w 333, 3) := by decide +kernel
theorem dX5_markOfWeb_8 : decode cX5_markOfWeb 8 = .ok (.ladd, 1) := by decide +kernel
theorem dX5_markOfWeb_9 : decode cX5_markOfWeb 9 = .ok (.putfield 53, 3) := by decide +kernel
theorem dX5_markOfWeb_12 : decode cX5_markOfWeb 12 = .ok (.aload_n 0, 1) := by decide +kernel
theorem dX5_markOfWeb_13 : decode cX5_markOfWeb 13 = .ok (.aload_n 1, 1) := by decide +kernel
theorem dX5_markOfWeb_14 : decode cX5_markOfWeb 14 = .ok (.invokevirtual 251, 3) := by decide +kernel
theorem dX5_markOfWeb_17 : decode cX5_markOfWeb 17 = .ok (.aload_n 1, 1) := by decide +kernel
theorem dX5_markOfWeb_18 : decode cX5_markOfWeb 18 = .ok (.getfield 335, 3) := by decide +kernel
theorem dX5_markOfWeb_21 : decode cX5_markOfWeb 21 = .ok (.isub, 1) := by decide +kernel
theorem dX5_markOfWeb_22 : decode cX5_markOfWeb 22 = .ok (.ireturn, 1) := by decide +kernel
theorem dX5_markOfBouquet_0 : decode cX5_markOfBouquet 0 = .ok (.aload_n 0, 1) := by decide +kernel
theorem dX5_markOfBouquet_1 : decode cX5_markOfBouquet 1 = .ok (.dup, 1) := by decide +kernel
theorem dX5_markOfBouquet_2 : decode cX5_markOfBouquet 2 = .ok (.getfield 53, 3) := by decide +kernel
theorem dX5_markOfBouquet_5 : decode cX5_markOfBouquet 5 = .ok (.ldc2_w 338, 3) := by decide +kernel
theorem dX5_markOfBouquet_8 : decode cX5_markOfBouquet 8 = .ok (.ladd, 1) := by decide +kernel
theorem dX5_markOfBouquet_9 : decode cX5_markOfBouquet 9 = .ok (.putfield 53, 3) := by decide +kernel
theorem dX5_markOfBouquet_12 : decode cX5_markOfBouquet 12 = .ok (.aload_n 0, 1) := by decide +kernel
theorem dX5_markOfBouquet_13 : decode cX5_markOfBouquet 13 = .ok (.aload_n 1, 1) := by decide +kernel
theorem dX5_markOfBouquet_14 : decode cX5_markOfBouquet 14 = .ok (.invokevirtual 255, 3) := by decide +kernel
theorem dX5_markOfBouquet_17 : decode cX5_markOfBouquet 17 = .ok (.iconst 2, 1) := by decide +kernel
theorem dX5_markOfBouquet_18 : decode cX5_markOfBouquet 18 = .ok (.imul, 1) := by decide +kernel
theorem dX5_markOfBouquet_19 : decode cX5_markOfBouquet 19 = .ok (.ireturn, 1) := by decide +kernel
theorem dX5_markOfLace_0 : decode cX5_markOfLace 0 = .ok (.aload_n 0, 1) := by decide +kernel
theorem dX5_markOfLace_1 : decode cX5_markOfLace 1 = .ok (.dup, 1) := by decide +kernel
theorem dX5_markOfLace_2 : decode cX5_markOfLace 2 = .ok (.getfield 53, 3) := by decide +kernel
theorem dX5_markOfLace_5 : decode cX5_markOfLace 5 = .ok (.ldc2_w 340, 3) := by decide +kernel
theorem dX5_markOfLace_8 : decode cX5_markOfLace 8 = .ok (.ladd, 1) := by decide +kernel
theorem dX5_markOfLace_9 : decode cX5_markOfLace 9 = .ok (.putfield 53, 3) := by decide +kernel
theorem dX5_markOfLace_12 : decode cX5_markOfLace 12 = .ok (.aload_n 0, 1) := by decide +kernel
theorem dX5_markOfLace_13 : decode cX5_markOfLace 13 = .ok (.aload_n 1, 1) := by decide +kernel
theorem dX5_markOfLace_14 : decode cX5_markOfLace 14 = .ok (.invokevirtual 258, 3) := by decide +kernel
theorem dX5_markOfLace_17 : decode cX5_markOfLace 17 = .ok (.iload_n 2, 1) := by decide +kernel
theorem dX5_markOfLace_18 : decode cX5_markOfLace 18 = .ok (.iadd, 1) := by decide +kernel
theorem dX5_markOfLace_19 : decode cX5_markOfLace 19 = .ok (.ireturn, 1) := by decide +kernel
theorem dX5_markOfStar_0 : decode cX5_markOfStar 0 = .ok (.aload_n 0, 1) := by decide +kernel
theorem dX5_markOfStar_1 : decode cX5_markOfStar 1 = .ok (.dup, 1) := by decide +kernel
theorem dX5_markOfStar_2 : decode cX5_markOfStar 2 = .ok (.getfield 53, 3) := by decide +kernel
theorem dX5_markOfStar_5 : decode cX5_markOfStar 5 = .ok (.ldc2_w 342, 3) := by decide +kernel
theorem dX5_markOfStar_8 : decode cX5_markOfStar 8 = .ok (.ladd, 1) := by decide +kernel
theorem dX5_markOfStar_9 : decode cX5_markOfStar 9 = .ok (.putfield 53, 3) := by decide +kernel
theorem dX5_markOfStar_12 : decode cX5_markOfStar 12 = .ok (.aload_n 0, 1) := by decide +kernel
theorem dX5_markOfStar_13 : decode cX5_markOfStar 13 = .ok (.aload_n 1, 1) := by decide +kernel
theorem dX5_markOfStar_14 : decode cX5_markOfStar 14 = .ok (.invokevirtual 251, 3) := by decide +kernel
theorem dX5_markOfStar_17 : decode cX5_markOfStar 17 = .ok (.aload_n 1, 1) := by decide +kernel
theorem dX5_markOfStar_18 : decode cX5_markOfStar 18 = .ok (.getfield 145, 3) := by decide +kernel
theorem dX5_markOfStar_21 : decode cX5_markOfStar 21 = .ok (.iadd, 1) := by decide +kernel
theorem dX5_markOfStar_22 : decode cX5_markOfStar 22 = .ok (.ireturn, 1) := by decide +kernel
theorem dX6_init_0 : decode cX6_init 0 = .ok (.aload_n 0, 1) := by decide +kernel
theorem dX6_init_1 : decode cX6_init 1 = .ok (.invokespecial 1, 3) := by decide +kernel
theorem dX6_init_4 : decode cX6_init 4 = .ok (.aload_n 0, 1) := by decide +kernel
theorem dX6_init_5 : decode cX6_init 5 = .ok (.iconst 4, 1) := by decide +kernel
theorem dX6_init_6 : decode cX6_init 6 = .ok (.newarray .int, 2) := by decide +kernel
theorem dX6_init_8 : decode cX6_init 8 = .ok (.putfield 7, 3) := by decide +kernel
theorem dX6_init_11 : decode cX6_init 11 = .ok (.aload_n 0, 1) := by decide +kernel
theorem dX6_init_12 : decode cX6_init 12 = .ok (.bipush 6, 2) := by decide +kernel
theorem dX6_init_14 : decode cX6_init 14 = .ok (.newarray .int, 2) := by decide +kernel
theorem dX6_init_16 : decode cX6_init 16 = .ok (.putfield 13, 3) := by decide +kernel
theorem dX6_init_19 : decode cX6_init 19 = .ok (.aload_n 0, 1) := by decide +kernel
theorem dX6_init_20 : decode cX6_init 20 = .ok (.iconst 4, 1) := by decide +kernel
theorem dX6_init_21 : decode cX6_init 21 = .ok (.newarray .int, 2) := by decide +kernel
theorem dX6_init_23 : decode cX6_init 23 = .ok (.putfield 16, 3) := by decide +kernel
theorem dX6_init_26 : decode cX6_init 26 = .ok (.aload_n 0, 1) := by decide +kernel
theorem dX6_init_27 : decode cX6_init 27 = .ok (.bipush 72, 2) := by decide +kernel
theorem dX6_init_29 : decode cX6_init 29 = .ok (.newarray .int, 2) := by decide +kernel
theorem dX6_init_31 : decode cX6_init 31 = .ok (.putfield 19, 3) := by decide +kernel
theorem dX6_init_34 : decode cX6_init 34 = .ok (.aload_n 0, 1) := by decide +kernel
theorem dX6_init_35 : decode cX6_init 35 = .ok (.bipush 6, 2) := by decide +kernel
theorem dX6_init_37 : decode cX6_init 37 = .ok (.newarray .int, 2) := by decide +kernel
theorem dX6_init_39 : decode cX6_init 39 = .ok (.putfield 22, 3) := by decide +kernel
theorem dX6_init_42 : decode cX6_init 42 = .ok (.aload_n 0, 1) := by decide +kernel
theorem dX6_init_43 : decode cX6_init 43 = .ok (.bipush 6, 2) := by decide +kernel
theorem dX6_init_45 : decode cX6_init 45 = .ok (.newarray .int, 2) := by decide +kernel
theorem dX6_init_47 : decode cX6_init 47 = .ok (.putfield 25, 3) := by decide +kernel
theorem dX6_init_50 : decode cX6_init 50 = .ok (.aload_n 0, 1) := by decide +kernel
theorem dX6_init_51 : decode cX6_init 51 = .ok (.bipush 100, 2) := by decide +kernel
theorem dX6_init_53 : decode cX6_init 53 = .ok (.newarray .int, 2) := by decide +kernel
theorem dX6_init_55 : decode cX6_init 55 = .ok (.putfield 28, 3) := by decide +kernel
theorem dX6_init_58 : decode cX6_init 58 = .ok (.aload_n 0, 1) := by decide +kernel
theorem dX6_init_59 : decode cX6_init 59 = .ok (.iconst 4, 1) := by decide +kernel
theorem dX6_init_60 : decode cX6_init 60 = .ok (.newarray .int, 2) := by decide +kernel
theorem dX6_init_62 : decode cX6_init 62 = .ok (.putfield 31, 3) := by decide +kernel
theorem dX6_init_65 : decode cX6_init 65 = .ok (.aload_n 0, 1) := by decide +kernel
theorem dX6_init_66 : decode cX6_init 66 = .ok (.bipush 6, 2) := by decide +kernel
theorem dX6_init_68 : decode cX6_init 68 = .ok (.newarray .int, 2) := by decide +kernel
theorem dX6_init_70 : decode cX6_init 70 = .ok (.putfield 34, 3) := by decide +kernel
theorem dX6_init_73 : decode cX6_init 73 = .ok (.aload_n 0, 1) := by decide +kernel
theorem dX6_init_74 : decode cX6_init 74 = .ok (.iconst 4, 1) := by decide +kernel
theorem dX6_init_75 : decode cX6_init 75 = .ok (.newarray .int, 2) := by decide +kernel
theorem dX6_init_77 : decode cX6_init 77 = .ok (.putfield 37, 3) := by decide +kernel
theorem dX6_init_80 : decode cX6_init 80 = .ok (.aload_n 0, 1) := by decide +kernel
theorem dX6_init_81 : decode cX6_init 81 = .ok (.sipush 780, 3) := by decide +kernel
theorem dX6_init_84 : decode cX6_init 84 = .ok (.newarray .int, 2) := by decide +kernel
theorem dX6_init_86 : decode cX6_init 86 = .ok (.putfield 40, 3) := by decide +kernel
theorem dX6_init_89 : decode cX6_init 89 = .ok (.aload_n 0, 1) := by decide +kernel
theorem dX6_init_90 : decode cX6_init 90 = .ok (.sipush 3240, 3) := by decide +kernel
theorem dX6_init_93 : decode cX6_init 93 = .ok (.newarray .int, 2) := by decide +kernel
theorem dX6_init_95 : decode cX6_init 95 = .ok (.putfield 43, 3) := by decide +kernel
theorem dX6_init_98 : decode cX6_init 98 = .ok (.aload_n 0, 1) := by decide +kernel
theorem dX6_init_99 : decode cX6_init 99 = .ok (.bipush 120, 2) := by decide +kernel
theorem dX6_init_101 : decode cX6_init 101 = .ok (.newarray .int, 2) := by decide +kernel
theorem dX6_init_103 : decode cX6_init 103 = .ok (.putfield 46, 3) := by decide +kernel
theorem dX6_init_106 : decode cX6_init 106 = .ok (.aload_n 0, 1) := by decide +kernel
theorem dX6_init_107 : decode cX6_init 107 = .ok (.sipush 1000, 3) := by decide +kernel
theorem dX6_init_110 : decode cX6_init 110 = .ok (.newarray .int, 2) := by decide +kernel
theorem dX6_init_112 : decode cX6_init 112 = .ok (.putfield 49, 3) := by decide +kernel
theorem dX6_init_115 : decode cX6_init 115 = .ok (.aload_n 0, 1) := by decide +kernel
theorem dX6_init_116 : decode cX6_init 116 = .ok (.bipush 120, 2) := by decide +kernel
theorem dX6_init_118 : decode cX6_init 118 = .ok (.newarray .int, 2) := by decide +kernel
theorem dX6_init_120 : decode cX6_init 120 = .ok (.putfield 52, 3) := by decide +kernel
theorem dX6_init_123 : decode cX6_init 123 = .ok (.aload_n 0, 1) := by decide +kernel
theorem dX6_init_124 : decode cX6_init 124 = .ok (.sipush 1720, 3) := by decide +kernel
theorem dX6_init_127 : decode cX6_init 127 = .ok (.newarray .int, 2) := by decide +kernel
theorem dX6_init_129 : decode cX6_init 129 = .ok (.putfield 55, 3) := by decide +kernel
theorem dX6_init_132 : decode cX6_init 132 = .ok (.return_, 1) := by decide +kernel
theorem dX6_in_0 : decode cX6_in 0 = .ok (.iload_n 0, 1) := by decide +kernel
theorem dX6_in_1 : decode cX6_in 1 = .ok (.iload_n 1, 1) := by decide +kernel
theorem dX6_in_2 : decode cX6_in 2 = .ok (.if_icmp .lt 12, 3) := by decide +kernel
theorem dX6_in_5 : decode cX6_in 5 = .ok (.iload_n 0, 1) := by decide +kernel
theorem dX6_in_6 : decode cX6_in 6 = .ok (.iload_n 2, 1) := by decide +kernel
theorem dX6_in_7 : decode cX6_in 7 = .ok (.if_icmp .gt 7, 3) := by decide +kernel
theorem dX6_in_10 : decode cX6_in 10 = .ok (.iconst 1, 1) := by decide +kernel
theorem dX6_in_11 : decode cX6_in 11 = .ok (.goto 4, 3) := by decide +kernel
theorem dX6_in_14 : decode cX6_in 14 = .ok (.iconst 0, 1) := by decide +kernel
theorem dX6_in_15 : decode cX6_in 15 = .ok (.ireturn, 1) := by decide +kernel
theorem dX6_common_0 : decode cX6_common 0 = .ok (.iload_n 0, 1) := by decide +kernel
theorem dX6_common_1 : decode cX6_common 1 = .ok (.istore_n 2, 1) := by decide +kernel
theorem dX6_common_2 : decode cX6_common 2 = .ok (.iload_n 1, 1) := by decide +kernel
theorem dX6_common_3 : decode cX6_common 3 = .ok (.istore_n 3, 1) := by decide +kernel
theorem dX6_common_4 : decode cX6_common 4 = .ok (.iload_n 3, 1) := by decide +kernel
theorem dX6_common_5 : decode cX6_common 5 = .ok (.ifCond .eq 16, 3) := by decide +kernel
theorem dX6_common_8 : decode cX6_common 8 = .ok (.iload_n 2, 1) := by decide +kernel
theorem dX6_common_9 : decode cX6_common 9 = .ok (.iload_n 3, 1) := by decide +kernel
theorem dX6_common_10 : decode cX6_common 10 = .ok (.irem, 1) := by decide +kernel
theorem dX6_common_11 : decode cX6_common 11 = .ok (.istore 4, 2) := by decide +kernel
theorem dX6_common_13 : decode cX6_common 13 = .ok (.iload_n 3, 1) := by decide +kernel
theorem dX6_common_14 : decode cX6_common 14 = .ok (.istore_n 2, 1) := by decide +kernel
theorem dX6_common_15 : decode cX6_common 15 = .ok (.iload 4, 2) := by decide +kernel
theorem dX6_common_17 : decode cX6_common 17 = .ok (.istore_n 3, 1) := by decide +kernel
theorem dX6_common_18 : decode cX6_common 18 = .ok (.goto (-14), 3) := by decide +kernel
theorem dX6_common_21 : decode cX6_common 21 = .ok (.iload_n 2, 1) := by decide +kernel
theorem dX6_common_22 : decode cX6_common 22 = .ok (.ireturn, 1) := by decide +kernel
theorem dX6_isRing_0 : decode cX6_isRing 0 = .ok (.iload_n 1, 1) := by decide +kernel
theorem dX6_isRing_1 : decode cX6_isRing 1 = .ok (.iconst 0, 1) := by decide +kernel
theorem dX6_isRing_2 : decode cX6_isRing 2 = .ok (.aload_n 0, 1) := by decide +kernel
theorem dX6_isRing_3 : decode cX6_isRing 3 = .ok (.getfield 58, 3) := by decide +kernel
theorem dX6_isRing_6 : decode cX6_isRing 6 = .ok (.iconst 1, 1) := by decide +kernel
theorem dX6_isRing_7 : decode cX6_isRing 7 = .ok (.isub, 1) := by decide +kernel
theorem dX6_isRing_8 : decode cX6_isRing 8 = .ok (.invokestatic 62, 3) := by decide +kernel
theorem dX6_isRing_11 : decode cX6_isRing 11 = .ok (.ireturn, 1) := by decide +kernel
theorem dX6_isWheel_0 : decode cX6_isWheel 0 = .ok (.iload_n 1, 1) := by decide +kernel
theorem dX6_isWheel_1 : decode cX6_isWheel 1 = .ok (.iconst 0, 1) := by decide +kernel
theorem dX6_isWheel_2 : decode cX6_isWheel 2 = .ok (.aload_n 0, 1) := by decide +kernel
theorem dX6_isWheel_3 : decode cX6_isWheel 3 = .ok (.getfield 66, 3) := by decide +kernel
theorem dX6_isWheel_6 : decode cX6_isWheel 6 = .ok (.iconst 1, 1) := by decide +kernel
theorem dX6_isWheel_7 : decode cX6_isWheel 7 = .ok (.isub, 1) := by decide +kernel
theorem dX6_isWheel_8 : decode cX6_isWheel 8 = .ok (.invokestatic 62, 3) := by decide +kernel
theorem dX6_isWheel_11 : decode cX6_isWheel 11 = .ok (.ireturn, 1) := by decide +kernel
theorem dX6_isPen_0 : decode cX6_isPen 0 = .ok (.iload_n 1, 1) := by decide +kernel
theorem dX6_isPen_1 : decode cX6_isPen 1 = .ok (.iconst 0, 1) := by decide +kernel
theorem dX6_isPen_2 : decode cX6_isPen 2 = .ok (.aload_n 0, 1) := by decide +kernel
theorem dX6_isPen_3 : decode cX6_isPen 3 = .ok (.getfield 69, 3) := by decide +kernel
theorem dX6_isPen_6 : decode cX6_isPen 6 = .ok (.iconst 1, 1) := by decide +kernel
theorem dX6_isPen_7 : decode cX6_isPen 7 = .ok (.isub, 1) := by decide +kernel
theorem dX6_isPen_8 : decode cX6_isPen 8 = .ok (.invokestatic 62, 3) := by decide +kernel
theorem dX6_isPen_11 : decode cX6_isPen 11 = .ok (.ireturn, 1) := by decide +kernel
theorem dX6_isCurve_0 : decode cX6_isCurve 0 = .ok (.iload_n 1, 1) := by decide +kernel
theorem dX6_isCurve_1 : decode cX6_isCurve 1 = .ok (.iconst 0, 1) := by decide +kernel
theorem dX6_isCurve_2 : decode cX6_isCurve 2 = .ok (.aload_n 0, 1) := by decide +kernel
theorem dX6_isCurve_3 : decode cX6_isCurve 3 = .ok (.getfield 72, 3) := by decide +kernel
theorem dX6_isCurve_6 : decode cX6_isCurve 6 = .ok (.iconst 1, 1) := by decide +kernel
theorem dX6_isCurve_7 : decode cX6_isCurve 7 = .ok (.isub, 1) := by decide +kernel
theorem dX6_isCurve_8 : decode cX6_isCurve 8 = .ok (.invokestatic 62, 3) := by decide +kernel
theorem dX6_isCurve_11 : decode cX6_isCurve 11 = .ok (.ireturn, 1) := by decide +kernel
theorem dX6_type_0 : decode cX6_type 0 = .ok (.iload_n 1, 1) := by decide +kernel
theorem dX6_type_1 : decode cX6_type 1 = .ok (.iconst 0, 1) := by decide +kernel
theorem dX6_type_2 : decode cX6_type 2 = .ok (.sipush 255, 3) := by decide +kernel
theorem dX6_type_5 : decode cX6_type 5 = .ok (.invokestatic 62, 3) := by decide +kernel
theorem dX6_type_8 : decode cX6_type 8 = .ok (.ifCond .ne 5, 3) := by decide +kernel
theorem dX6_type_11 : decode cX6_type 11 = .ok (.iconst (-1), 1) := by decide +kernel
theorem dX6_type_12 : decode cX6_type 12 = .ok (.ireturn, 1) := by decide +kernel
theorem dX6_type_13 : decode cX6_type 13 = .ok (.aload_n 0, 1) := by decide +kernel
theorem dX6_type_14 : decode cX6_type 14 = .ok (.getfield 75, 3) := by decide +kernel
theorem dX6_type_17 : decode cX6_type 17 = .ok (.bipush 100, 2) := by decide +kernel
theorem dX6_type_19 : decode cX6_type 19 = .ok (.if_icmp .ne 6, 3) := by decide +kernel
theorem dX6_type_22 : decode cX6_type 22 = .ok (.bipush (-3), 2) := by decide +kernel
theorem dX6_type_24 : decode cX6_type 24 = .ok (.ireturn, 1) := by decide +kernel
theorem dX6_type_25 : decode cX6_type 25 = .ok (.aload_n 0, 1) := by decide +kernel
theorem dX6_type_26 : decode cX6_type 26 = .ok (.getfield 28, 3) := by decide +kernel
theorem dX6_type_29 : decode cX6_type 29 = .ok (.aload_n 0, 1) := by decide +kernel
theorem dX6_type_30 : decode cX6_type 30 = .ok (.getfield 75, 3) := by decide +kernel
theorem dX6_type_33 : decode cX6_type 33 = .ok (.iload_n 1, 1) := by decide +kernel
theorem dX6_type_34 : decode cX6_type 34 = .ok (.iastore, 1) := by decide +kernel
theorem dX6_type_35 : decode cX6_type 35 = .ok (.aload_n 0, 1) := by decide +kernel
theorem dX6_type_36 : decode cX6_type 36 = .ok (.dup, 1) := by decide +kernel
theorem dX6_type_37 : decode cX6_type 37 = .ok (.getfield 75, 3) := by decide +kernel
theorem dX6_type_40 : decode cX6_type 40 = .ok (.iconst 1, 1) := by decide +kernel
theorem dX6_type_41 : decode cX6_type 41 = .ok (.iadd, 1) := by decide +kernel
theorem dX6_type_42 : decode cX6_type 42 = .ok (.putfield 75, 3) := by decide +kernel
theorem dX6_type_45 : decode cX6_type 45 = .ok (.aload_n 0, 1) := by decide +kernel
theorem dX6_type_46 : decode cX6_type 46 = .ok (.getfield 75, 3) := by decide +kernel
theorem dX6_type_49 : decode cX6_type 49 = .ok (.ireturn, 1) := by decide +kernel
theorem dX6_clear_0 : decode cX6_clear 0 = .ok (.aload_n 0, 1) := by decide +kernel
theorem dX6_clear_1 : decode cX6_clear 1 = .ok (.getfield 75, 3) := by decide +kernel
theorem dX6_clear_4 : decode cX6_clear 4 = .ok (.istore_n 1, 1) := by decide +kernel
theorem dX6_clear_5 : decode cX6_clear 5 = .ok (.aload_n 0, 1) := by decide +kernel
theorem dX6_clear_6 : decode cX6_clear 6 = .ok (.iconst 0, 1) := by decide +kernel
theorem dX6_clear_7 : decode cX6_clear 7 = .ok (.putfield 75, 3) := by decide +kernel
theorem dX6_clear_10 : decode cX6_clear 10 = .ok (.iload_n 1, 1) := by decide +kernel
theorem dX6_clear_11 : decode cX6_clear 11 = .ok (.ireturn, 1) := by decide +kernel
theorem dX6_here_0 : decode cX6_here 0 = .ok (.aload_n 0, 1) := by decide +kernel
theorem dX6_here_1 : decode cX6_here 1 = .ok (.getfield 78, 3) := by decide +kernel
theorem dX6_here_4 : decode cX6_here 4 = .ok (.aload_n 0, 1) := by decide +kernel
theorem dX6_here_5 : decode cX6_here 5 = .ok (.getfield 75, 3) := by decide +kernel
theorem dX6_here_8 : decode cX6_here 8 = .ok (.if_icmp .ge 15, 3) := by decide +kernel
theorem dX6_here_11 : decode cX6_here 11 = .ok (.aload_n 0, 1) := by decide +kernel
theorem dX6_here_12 : decode cX6_here 12 = .ok (.getfield 28, 3) := by decide +kernel
theorem dX6_here_15 : decode cX6_here 15 = .ok (.aload_n 0, 1) := by decide +kernel
theorem dX6_here_16 : decode cX6_here 16 = .ok (.getfield 78, 3) := by decide +kernel
theorem dX6_here_19 : decode cX6_here 19 = .ok (.iaload, 1) := by decide +kernel
theorem dX6_here_20 : decode cX6_here 20 = .ok (.goto 5, 3) := by decide +kernel
theorem dX6_here_23 : decode cX6_here 23 = .ok (.bipush (-9), 2) := by decide +kernel
theorem dX6_here_25 : decode cX6_here 25 = .ok (.ireturn, 1) := by decide +kernel
theorem dX6_skip_0 : decode cX6_skip 0 = .ok (.aload_n 0, 1) := by decide +kernel
theorem dX6_skip_1 : decode cX6_skip 1 = .ok (.invokevirtual 81, 3) := by decide +kernel
theorem dX6_skip_4 : decode cX6_skip 4 = .ok (.bipush 32, 2) := by decide +kernel
theorem dX6_skip_6 : decode cX6_skip 6 = .ok (.if_icmp .ne 16, 3) := by decide +kernel
theorem dX6_skip_9 : decode cX6_skip 9 = .ok (.aload_n 0, 1) := by decide +kernel
theorem dX6_skip_10 : decode cX6_skip 10 = .ok (.dup, 1) := by decide +kernel
theorem dX6_skip_11 : decode cX6_skip 11 = .ok (.getfield 78, 3) := by decide +kernel
theorem dX6_skip_14 : decode cX6_skip 14 = .ok (.iconst 1, 1) := by decide +kernel
theorem dX6_skip_15 : decode cX6_skip 15 = .ok (.iadd, 1) := by decide +kernel
theorem dX6_skip_16 : decode cX6_skip 16 = .ok (.putfield 78, 3) := by decide +kernel
theorem dX6_skip_19 : decode cX6_skip 19 = .ok (.goto (-19), 3) := by decide +kernel
theorem dX6_skip_22 : decode cX6_skip 22 = .ok (.return_, 1) := by decide +kernel
theorem dX6_number_0 : decode cX6_number 0 = .ok (.aload_n 0, 1) := by decide +kernel
theorem dX6_number_1 : decode cX6_number 1 = .ok (.invokevirtual 85, 3) := by decide +kernel
theorem dX6_number_4 : decode cX6_number 4 = .ok (.iconst 0, 1) := by decide +kernel
theorem dX6_number_5 : decode cX6_number 5 = .ok (.istore_n 3, 1) := by decide +kernel
theorem dX6_number_6 : decode cX6_number 6 = .ok (.iconst 0, 1) := by decide +kernel
theorem dX6_number_7 : decode cX6_number 7 = .ok (.istore 4, 2) := by decide +kernel
theorem dX6_number_9 : decode cX6_number 9 = .ok (.aload_n 0, 1) := by decide +kernel
theorem dX6_number_10 : decode cX6_number 10 = .ok (.getfield 78, 3) := by decide +kernel
theorem dX6_number_13 : decode cX6_number 13 = .ok (.iload_n 3, 1) := by decide +kernel
theorem dX6_number_14 : decode cX6_number 14 = .ok (.iadd, 1) := by decide +kernel
theorem dX6_number_15 : decode cX6_number 15 = .ok (.aload_n 0, 1) := by decide +kernel
theorem dX6_number_16 : decode cX6_number 16 = .ok (.getfield 75, 3) := by decide +kernel
theorem dX6_number_19 : decode cX6_number 19 = .ok (.if_icmp .ge 62, 3) := by decide +kernel
theorem dX6_number_22 : decode cX6_number 22 = .ok (.aload_n 0, 1) := by decide +kernel
theorem dX6_number_23 : decode cX6_number 23 = .ok (.getfield 28, 3) := by decide +kernel
theorem dX6_number_26 : decode cX6_number 26 = .ok (.aload_n 0, 1) := by decide +kernel
theorem dX6_number_27 : decode cX6_number 27 = .ok (.getfield 78, 3) := by decide +kernel
theorem dX6_number_30 : decode cX6_number 30 = .ok (.iload_n 3, 1) := by decide +kernel
theorem dX6_number_31 : decode cX6_number 31 = .ok (.iadd, 1) := by decide +kernel
theorem dX6_number_32 : decode cX6_number 32 = .ok (.iaload, 1) := by decide +kernel
theorem dX6_number_33 : decode cX6_number 33 = .ok (.bipush 48, 2) := by decide +kernel
theorem dX6_number_35 : decode cX6_number 35 = .ok (.bipush 57, 2) := by decide +kernel
theorem dX6_number_37 : decode cX6_number 37 = .ok (.invokestatic 62, 3) := by decide +kernel
theorem dX6_number_40 : decode cX6_number 40 = .ok (.ifCond .eq 41, 3) := by decide +kernel
theorem dX6_number_43 : decode cX6_number 43 = .ok (.iload_n 3, 1) := by decide +kernel
theorem dX6_number_44 : decode cX6_number 44 = .ok (.iconst 3, 1) := by decide +kernel
theorem dX6_number_45 : decode cX6_number 45 = .ok (.if_icmp .ge 26, 3) := by decide +kernel
theorem dX6_number_48 : decode cX6_number 48 = .ok (.bipush 10, 2) := by decide +kernel
theorem dX6_number_50 : decode cX6_number 50 = .ok (.iload 4, 2) := by decide +kernel
theorem dX6_number_52 : decode cX6_number 52 = .ok (.imul, 1) := by decide +kernel
theorem dX6_number_53 : decode cX6_number 53 = .ok (.aload_n 0, 1) := by decide +kernel
theorem dX6_number_54 : decode cX6_number 54 = .ok (.getfield 28, 3) := by decide +kernel
theorem dX6_number_57 : decode cX6_number 57 = .ok (.aload_n 0, 1) := by decide +kernel
theorem dX6_number_58 : decode cX6_number 58 = .ok (.getfield 78, 3) := by decide +kernel
theorem dX6_number_61 : decode cX6_number 61 = .ok (.iload_n 3, 1) := by decide +kernel
theorem dX6_number_62 : decode cX6_number 62 = .ok (.iadd, 1) := by decide +kernel
theorem dX6_number_63 : decode cX6_number 63 = .ok (.iaload, 1) := by decide +kernel
theorem dX6_number_64 : decode cX6_number 64 = .ok (.iadd, 1) := by decide +kernel
theorem dX6_number_65 : decode cX6_number 65 = .ok (.bipush 48, 2) := by decide +kernel
theorem dX6_number_67 : decode cX6_number 67 = .ok (.isub, 1) := by decide +kernel
theorem dX6_number_68 : decode cX6_number 68 = .ok (.goto 5, 3) := by decide +kernel
theorem dX6_number_71 : decode cX6_number 71 = .ok (.iload 4, 2) := by decide +kernel
theorem dX6_number_73 : decode cX6_number 73 = .ok (.istore 4, 2) := by decide +kernel
theorem dX6_number_75 : decode cX6_number 75 = .ok (.iinc 3 1, 3) := by decide +kernel
theorem dX6_number_78 : decode cX6_number 78 = .ok (.goto (-69), 3) := by decide +kernel
theorem dX6_number_81 : decode cX6_number 81 = .ok (.iload_n 3, 1) := by decide +kernel
theorem dX6_number_82 : decode cX6_number 82 = .ok (.iconst 1, 1) := by decide +kernel
theorem dX6_number_83 : decode cX6_number 83 = .ok (.iconst 3, 1) := by decide +kernel
theorem dX6_number_84 : decode cX6_number 84 = .ok (.invokestatic 62, 3) := by decide +kernel
theorem dX6_number_87 : decode cX6_number 87 = .ok (.ifCond .eq 27, 3) := by decide +kernel
theorem dX6_number_90 : decode cX6_number 90 = .ok (.iload_n 3, 1) := by decide +kernel
theorem dX6_number_91 : decode cX6_number 91 = .ok (.iconst 1, 1) := by decide +kernel
theorem dX6_number_92 : decode cX6_number 92 = .ok (.if_icmp .le 12, 3) := by decide +kernel
theorem dX6_number_95 : decode cX6_number 95 = .ok (.aload_n 0, 1) := by decide +kernel
theorem dX6_number_96 : decode cX6_number 96 = .ok (.invokevirtual 81, 3) := by decide +kernel
theorem dX6_number_99 : decode cX6_number 99 = .ok (.bipush 48, 2) := by decide +kernel
theorem dX6_number_101 : decode cX6_number 101 = .ok (.if_icmp .eq 13, 3) := by decide +kernel
theorem dX6_number_104 : decode cX6_number 104 = .ok (.iload 4, 2) := by decide +kernel
theorem dX6_number_106 : decode cX6_number 106 = .ok (.iload_n 1, 1) := by decide +kernel
theorem dX6_number_107 : decode cX6_number 107 = .ok (.iload_n 2, 1) := by decide +kernel
theorem dX6_number_108 : decode cX6_number 108 = .ok (.invokestatic 62, 3) := by decide +kernel
theorem dX6_number_111 : decode cX6_number 111 = .ok (.ifCond .ne 5, 3) := by decide +kernel
theorem dX6_number_114 : decode cX6_number 114 = .ok (.iconst 0, 1) := by decide +kernel
theorem dX6_number_115 : decode cX6_number 115 = .ok (.ireturn, 1) := by decide +kernel
theorem dX6_number_116 : decode cX6_number 116 = .ok (.aload_n 0, 1) := by decide +kernel
theorem dX6_number_117 : decode cX6_number 117 = .ok (.iload 4, 2) := by decide +kernel
theorem dX6_number_119 : decode cX6_number 119 = .ok (.putfield 88, 3) := by decide +kernel
theorem dX6_number_122 : decode cX6_number 122 = .ok (.aload_n 0, 1) := by decide +kernel
theorem dX6_number_123 : decode cX6_number 123 = .ok (.dup, 1) := by decide +kernel
theorem dX6_number_124 : decode cX6_number 124 = .ok (.getfield 78, 3) := by decide +kernel
theorem dX6_number_127 : decode cX6_number 127 = .ok (.iload_n 3, 1) := by decide +kernel
theorem dX6_number_128 : decode cX6_number 128 = .ok (.iadd, 1) := by decide +kernel
theorem dX6_number_129 : decode cX6_number 129 = .ok (.putfield 78, 3) := by decide +kernel
theorem dX6_number_132 : decode cX6_number 132 = .ok (.iconst 1, 1) := by decide +kernel
theorem dX6_number_133 : decode cX6_number 133 = .ok (.ireturn, 1) := by decide +kernel
theorem dX6_ends_0 : decode cX6_ends 0 = .ok (.aload_n 0, 1) := by decide +kernel
theorem dX6_ends_1 : decode cX6_ends 1 = .ok (.invokevirtual 85, 3) := by decide +kernel
theorem dX6_ends_4 : decode cX6_ends 4 = .ok (.aload_n 0, 1) := by decide +kernel
theorem dX6_ends_5 : decode cX6_ends 5 = .ok (.invokevirtual 81, 3) := by decide +kernel
theorem dX6_ends_8 : decode cX6_ends 8 = .ok (.bipush 59, 2) := by decide +kernel
theorem dX6_ends_10 : decode cX6_ends 10 = .ok (.if_icmp .eq 5, 3) := by decide +kernel
theorem dX6_ends_13 : decode cX6_ends 13 = .ok (.iconst 0, 1) := by decide +kernel
theorem dX6_ends_14 : decode cX6_ends 14 = .ok (.ireturn, 1) := by decide +kernel
theorem dX6_ends_15 : decode cX6_ends 15 = .ok (.aload_n 0, 1) := by decide +kernel
theorem dX6_ends_16 : decode cX6_ends 16 = .ok (.dup, 1) := by decide +kernel
theorem dX6_ends_17 : decode cX6_ends 17 = .ok (.getfield 78, 3) := by decide +kernel
theorem dX6_ends_20 : decode cX6_ends 20 = .ok (.iconst 1, 1) := by decide +kernel
theorem dX6_ends_21 : decode cX6_ends 21 = .ok (.iadd, 1) := by decide +kernel
theorem dX6_ends_22 : decode cX6_ends 22 = .ok (.putfield 78, 3) := by decide +kernel
theorem dX6_ends_25 : decode cX6_ends 25 = .ok (.iconst 1, 1) := by decide +kernel
theorem dX6_ends_26 : decode cX6_ends 26 = .ok (.ireturn, 1) := by decide +kernel
theorem dX6_readsRing_0 : decode cX6_readsRing 0 = .ok (.aload_n 0, 1) := by decide +kernel
theorem dX6_readsRing_1 : decode cX6_readsRing 1 = .ok (.getfield 78, 3) := by decide +kernel
theorem dX6_readsRing_4 : decode cX6_readsRing 4 = .ok (.istore_n 1, 1) := by decide +kernel
theorem dX6_readsRing_5 : decode cX6_readsRing 5 = .ok (.aload_n 0, 1) := by decide +kernel
theorem dX6_readsRing_6 : decode cX6_readsRing 6 = .ok (.bipush 12, 2) := by decide +kernel
theorem dX6_readsRing_8 : decode cX6_readsRing 8 = .ok (.bipush 120, 2) := by decide +kernel
theorem dX6_readsRing_10 : decode cX6_readsRing 10 = .ok (.invokevirtual 91, 3) := by decide +kernel
theorem dX6_readsRing_13 : decode cX6_readsRing 13 = .ok (.ifCond .ne 5, 3) := by decide +kernel
theorem dX6_readsRing_16 : decode cX6_readsRing 16 = .ok (.iconst 0, 1) := by decide +kernel
theorem dX6_readsRing_17 : decode cX6_readsRing 17 = .ok (.ireturn, 1) := by decide +kernel
theorem dX6_readsRing_18 : decode cX6_readsRing 18 = .ok (.sipush 360, 3) := by decide +kernel
theorem dX6_readsRing_21 : decode cX6_readsRing 21 = .ok (.aload_n 0, 1) := by decide +kernel
theorem dX6_readsRing_22 : decode cX6_readsRing 22 = .ok (.getfield 88, 3) := by decide +kernel
theorem dX6_readsRing_25 : decode cX6_readsRing 25 = .ok (.irem, 1) := by decide +kernel
theorem dX6_readsRing_26 : decode cX6_readsRing 26 = .ok (.ifCond .eq 14, 3) := by decide +kernel
theorem dX6_readsRing_29 : decode cX6_readsRing 29 = .ok (.aload_n 0, 1) := by decide +kernel
theorem dX6_readsRing_30 : decode cX6_readsRing 30 = .ok (.iload_n 1, 1) := by decide +kernel
theorem dX6_readsRing_31 : decode cX6_readsRing 31 = .ok (.putfield 78, 3) := by decide +kernel
theorem dX6_readsRing_34 : decode cX6_readsRing 34 = .ok (.aload_n 0, 1) := by decide +kernel
theorem dX6_readsRing_35 : decode cX6_readsRing 35 = .ok (.invokevirtual 85, 3) := by decide +kernel
theorem dX6_readsRing_38 : decode cX6_readsRing 38 = .ok (.iconst 0, 1) := by decide +kernel
theorem dX6_readsRing_39 : decode cX6_readsRing 39 = .ok (.ireturn, 1) := by decide +kernel
theorem dX6_readsRing_40 : decode cX6_readsRing 40 = .ok (.aload_n 0, 1) := by decide +kernel
theorem dX6_readsRing_41 : decode cX6_readsRing 41 = .ok (.getfield 31, 3) := by decide +kernel
theorem dX6_readsRing_44 : decode cX6_readsRing 44 = .ok (.aload_n 0, 1) := by decide +kernel
theorem dX6_readsRing_45 : decode cX6_readsRing 45 = .ok (.getfield 95, 3) := by decide +kernel
theorem dX6_readsRing_48 : decode cX6_readsRing 48 = .ok (.aload_n 0, 1) := by decide +kernel
theorem dX6_readsRing_49 : decode cX6_readsRing 49 = .ok (.getfield 88, 3) := by decide +kernel
theorem dX6_readsRing_52 : decode cX6_readsRing 52 = .ok (.iastore, 1) := by decide +kernel
theorem dX6_readsRing_53 : decode cX6_readsRing 53 = .ok (.aload_n 0, 1) := by decide +kernel
theorem dX6_readsRing_54 : decode cX6_readsRing 54 = .ok (.dup, 1) := by decide +kernel
theorem dX6_readsRing_55 : decode cX6_readsRing 55 = .ok (.getfield 95, 3) := by decide +kernel
theorem dX6_readsRing_58 : decode cX6_readsRing 58 = .ok (.iconst 1, 1) := by decide +kernel
theorem dX6_readsRing_59 : decode cX6_readsRing 59 = .ok (.iadd, 1) := by decide +kernel
theorem dX6_readsRing_60 : decode cX6_readsRing 60 = .ok (.putfield 95, 3) := by decide +kernel
theorem dX6_readsRing_63 : decode cX6_readsRing 63 = .ok (.aload_n 0, 1) := by decide +kernel
theorem dX6_readsRing_64 : decode cX6_readsRing 64 = .ok (.invokevirtual 98, 3) := by decide +kernel
theorem dX6_readsRing_67 : decode cX6_readsRing 67 = .ok (.ireturn, 1) := by decide +kernel
theorem dX6_readsWheel_0 : decode cX6_readsWheel 0 = .ok (.aload_n 0, 1) := by decide +kernel
theorem dX6_readsWheel_1 : decode cX6_readsWheel 1 = .ok (.iconst 3, 1) := by decide +kernel
theorem dX6_readsWheel_2 : decode cX6_readsWheel 2 = .ok (.bipush 99, 2) := by decide +kernel
theorem dX6_readsWheel_4 : decode cX6_readsWheel 4 = .ok (.invokevirtual 91, 3) := by decide +kernel
theorem dX6_readsWheel_7 : decode cX6_readsWheel 7 = .ok (.ifCond .ne 5, 3) := by decide +kernel
theorem dX6_readsWheel_10 : decode cX6_readsWheel 10 = .ok (.iconst 0, 1) := by decide +kernel
theorem dX6_readsWheel_11 : decode cX6_readsWheel 11 = .ok (.ireturn, 1) := by decide +kernel
theorem dX6_readsWheel_12 : decode cX6_readsWheel 12 = .ok (.aload_n 0, 1) := by decide +kernel
theorem dX6_readsWheel_13 : decode cX6_readsWheel 13 = .ok (.getfield 34, 3) := by decide +kernel
theorem dX6_readsWheel_16 : decode cX6_readsWheel 16 = .ok (.aload_n 0, 1) := by decide +kernel
theorem dX6_readsWheel_17 : decode cX6_readsWheel 17 = .ok (.getfield 102, 3) := by decide +kernel
theorem dX6_readsWheel_20 : decode cX6_readsWheel 20 = .ok (.aload_n 0, 1) := by decide +kernel
theorem dX6_readsWheel_21 : decode cX6_readsWheel 21 = .ok (.getfield 88, 3) := by decide +kernel
theorem dX6_readsWheel_24 : decode cX6_readsWheel 24 = .ok (.iastore, 1) := by decide +kernel
end
section
theorem dX6_readsWheel_25 : decode cX6_readsWheel 25 = .ok (.aload_n 0, 1) := by decide +kernel
theorem dX6_readsWheel_26 : decode cX6_readsWheel 26 = .ok (.dup, 1) := by decide +kernel
theorem dX6_readsWheel_27 : decode cX6_readsWheel 27 = .ok (.getfield 102, 3) := by decide +kernel
theorem dX6_readsWheel_30 : decode cX6_readsWheel 30 = .ok (.iconst 1, 1) := by decide +kernel
theorem dX6_readsWheel_31 : decode cX6_readsWheel 31 = .ok (.iadd, 1) := by decide +kernel
theorem dX6_readsWheel_32 : decode cX6_readsWheel 32 = .ok (.putfield 102, 3) := by decide +kernel
theorem dX6_readsWheel_35 : decode cX6_readsWheel 35 = .ok (.aload_n 0, 1) := by decide +kernel
theorem dX6_readsWheel_36 : decode cX6_readsWheel 36 = .ok (.invokevirtual 98, 3) := by decide +kernel
theorem dX6_readsWheel_39 : decode cX6_readsWheel 39 = .ok (.ireturn, 1) := by decide +kernel
theorem dX6_readsPen_0 : decode cX6_readsPen 0 = .ok (.aload_n 0, 1) := by decide +kernel
theorem dX6_readsPen_1 : decode cX6_readsPen 1 = .ok (.iconst 0, 1) := by decide +kernel
theorem dX6_readsPen_2 : decode cX6_readsPen 2 = .ok (.sipush 999, 3) := by decide +kernel
theorem dX6_readsPen_5 : decode cX6_readsPen 5 = .ok (.invokevirtual 91, 3) := by decide +kernel
theorem dX6_readsPen_8 : decode cX6_readsPen 8 = .ok (.ifCond .ne 5, 3) := by decide +kernel
theorem dX6_readsPen_11 : decode cX6_readsPen 11 = .ok (.iconst 0, 1) := by decide +kernel
theorem dX6_readsPen_12 : decode cX6_readsPen 12 = .ok (.ireturn, 1) := by decide +kernel
theorem dX6_readsPen_13 : decode cX6_readsPen 13 = .ok (.aload_n 0, 1) := by decide +kernel
theorem dX6_readsPen_14 : decode cX6_readsPen 14 = .ok (.getfield 37, 3) := by decide +kernel
theorem dX6_readsPen_17 : decode cX6_readsPen 17 = .ok (.aload_n 0, 1) := by decide +kernel
theorem dX6_readsPen_18 : decode cX6_readsPen 18 = .ok (.getfield 105, 3) := by decide +kernel
theorem dX6_readsPen_21 : decode cX6_readsPen 21 = .ok (.aload_n 0, 1) := by decide +kernel
theorem dX6_readsPen_22 : decode cX6_readsPen 22 = .ok (.getfield 88, 3) := by decide +kernel
theorem dX6_readsPen_25 : decode cX6_readsPen 25 = .ok (.iastore, 1) := by decide +kernel
theorem dX6_readsPen_26 : decode cX6_readsPen 26 = .ok (.aload_n 0, 1) := by decide +kernel
theorem dX6_readsPen_27 : decode cX6_readsPen 27 = .ok (.dup, 1) := by decide +kernel
theorem dX6_readsPen_28 : decode cX6_readsPen 28 = .ok (.getfield 105, 3) := by decide +kernel
theorem dX6_readsPen_31 : decode cX6_readsPen 31 = .ok (.iconst 1, 1) := by decide +kernel
theorem dX6_readsPen_32 : decode cX6_readsPen 32 = .ok (.iadd, 1) := by decide +kernel
theorem dX6_readsPen_33 : decode cX6_readsPen 33 = .ok (.putfield 105, 3) := by decide +kernel
theorem dX6_readsPen_36 : decode cX6_readsPen 36 = .ok (.aload_n 0, 1) := by decide +kernel
theorem dX6_readsPen_37 : decode cX6_readsPen 37 = .ok (.invokevirtual 98, 3) := by decide +kernel
theorem dX6_readsPen_40 : decode cX6_readsPen 40 = .ok (.ireturn, 1) := by decide +kernel
theorem dX6_readsItem_0 : decode cX6_readsItem 0 = .ok (.aload_n 0, 1) := by decide +kernel
theorem dX6_readsItem_1 : decode cX6_readsItem 1 = .ok (.invokevirtual 81, 3) := by decide +kernel
theorem dX6_readsItem_4 : decode cX6_readsItem 4 = .ok (.istore_n 1, 1) := by decide +kernel
theorem dX6_readsItem_5 : decode cX6_readsItem 5 = .ok (.aload_n 0, 1) := by decide +kernel
theorem dX6_readsItem_6 : decode cX6_readsItem 6 = .ok (.getfield 78, 3) := by decide +kernel
theorem dX6_readsItem_9 : decode cX6_readsItem 9 = .ok (.iconst 1, 1) := by decide +kernel
theorem dX6_readsItem_10 : decode cX6_readsItem 10 = .ok (.iadd, 1) := by decide +kernel
theorem dX6_readsItem_11 : decode cX6_readsItem 11 = .ok (.aload_n 0, 1) := by decide +kernel
theorem dX6_readsItem_12 : decode cX6_readsItem 12 = .ok (.getfield 75, 3) := by decide +kernel
theorem dX6_readsItem_15 : decode cX6_readsItem 15 = .ok (.if_icmp .ge 24, 3) := by decide +kernel
theorem dX6_readsItem_18 : decode cX6_readsItem 18 = .ok (.aload_n 0, 1) := by decide +kernel
theorem dX6_readsItem_19 : decode cX6_readsItem 19 = .ok (.getfield 28, 3) := by decide +kernel
theorem dX6_readsItem_22 : decode cX6_readsItem 22 = .ok (.aload_n 0, 1) := by decide +kernel
theorem dX6_readsItem_23 : decode cX6_readsItem 23 = .ok (.getfield 78, 3) := by decide +kernel
theorem dX6_readsItem_26 : decode cX6_readsItem 26 = .ok (.iconst 1, 1) := by decide +kernel
theorem dX6_readsItem_27 : decode cX6_readsItem 27 = .ok (.iadd, 1) := by decide +kernel
theorem dX6_readsItem_28 : decode cX6_readsItem 28 = .ok (.iaload, 1) := by decide +kernel
theorem dX6_readsItem_29 : decode cX6_readsItem 29 = .ok (.bipush 97, 2) := by decide +kernel
theorem dX6_readsItem_31 : decode cX6_readsItem 31 = .ok (.bipush 122, 2) := by decide +kernel
theorem dX6_readsItem_33 : decode cX6_readsItem 33 = .ok (.invokestatic 62, 3) := by decide +kernel
theorem dX6_readsItem_36 : decode cX6_readsItem 36 = .ok (.ifCond .ne 7, 3) := by decide +kernel
theorem dX6_readsItem_39 : decode cX6_readsItem 39 = .ok (.iconst 1, 1) := by decide +kernel
theorem dX6_readsItem_40 : decode cX6_readsItem 40 = .ok (.goto 4, 3) := by decide +kernel
theorem dX6_readsItem_43 : decode cX6_readsItem 43 = .ok (.iconst 0, 1) := by decide +kernel
theorem dX6_readsItem_44 : decode cX6_readsItem 44 = .ok (.istore_n 2, 1) := by decide +kernel
theorem dX6_readsItem_45 : decode cX6_readsItem 45 = .ok (.iload_n 1, 1) := by decide +kernel
theorem dX6_readsItem_46 : decode cX6_readsItem 46 = .ok (.bipush 114, 2) := by decide +kernel
theorem dX6_readsItem_48 : decode cX6_readsItem 48 = .ok (.if_icmp .ne 19, 3) := by decide +kernel
theorem dX6_readsItem_51 : decode cX6_readsItem 51 = .ok (.aload_n 0, 1) := by decide +kernel
theorem dX6_readsItem_52 : decode cX6_readsItem 52 = .ok (.getfield 95, 3) := by decide +kernel
theorem dX6_readsItem_55 : decode cX6_readsItem 55 = .ok (.iconst 4, 1) := by decide +kernel
theorem dX6_readsItem_56 : decode cX6_readsItem 56 = .ok (.if_icmp .ge 7, 3) := by decide +kernel
theorem dX6_readsItem_59 : decode cX6_readsItem 59 = .ok (.iconst 1, 1) := by decide +kernel
theorem dX6_readsItem_60 : decode cX6_readsItem 60 = .ok (.goto 49, 3) := by decide +kernel
theorem dX6_readsItem_63 : decode cX6_readsItem 63 = .ok (.iconst 0, 1) := by decide +kernel
theorem dX6_readsItem_64 : decode cX6_readsItem 64 = .ok (.goto 45, 3) := by decide +kernel
theorem dX6_readsItem_67 : decode cX6_readsItem 67 = .ok (.iload_n 1, 1) := by decide +kernel
theorem dX6_readsItem_68 : decode cX6_readsItem 68 = .ok (.bipush 119, 2) := by decide +kernel
theorem dX6_readsItem_70 : decode cX6_readsItem 70 = .ok (.if_icmp .ne 20, 3) := by decide +kernel
theorem dX6_readsItem_73 : decode cX6_readsItem 73 = .ok (.aload_n 0, 1) := by decide +kernel
theorem dX6_readsItem_74 : decode cX6_readsItem 74 = .ok (.getfield 102, 3) := by decide +kernel
theorem dX6_readsItem_77 : decode cX6_readsItem 77 = .ok (.bipush 6, 2) := by decide +kernel
theorem dX6_readsItem_79 : decode cX6_readsItem 79 = .ok (.if_icmp .ge 7, 3) := by decide +kernel
theorem dX6_readsItem_82 : decode cX6_readsItem 82 = .ok (.iconst 1, 1) := by decide +kernel
theorem dX6_readsItem_83 : decode cX6_readsItem 83 = .ok (.goto 26, 3) := by decide +kernel
theorem dX6_readsItem_86 : decode cX6_readsItem 86 = .ok (.iconst 0, 1) := by decide +kernel
theorem dX6_readsItem_87 : decode cX6_readsItem 87 = .ok (.goto 22, 3) := by decide +kernel
theorem dX6_readsItem_90 : decode cX6_readsItem 90 = .ok (.iload_n 1, 1) := by decide +kernel
theorem dX6_readsItem_91 : decode cX6_readsItem 91 = .ok (.bipush 112, 2) := by decide +kernel
theorem dX6_readsItem_93 : decode cX6_readsItem 93 = .ok (.if_icmp .ne 15, 3) := by decide +kernel
theorem dX6_readsItem_96 : decode cX6_readsItem 96 = .ok (.aload_n 0, 1) := by decide +kernel
theorem dX6_readsItem_97 : decode cX6_readsItem 97 = .ok (.getfield 105, 3) := by decide +kernel
theorem dX6_readsItem_100 : decode cX6_readsItem 100 = .ok (.iconst 4, 1) := by decide +kernel
theorem dX6_readsItem_101 : decode cX6_readsItem 101 = .ok (.if_icmp .ge 7, 3) := by decide +kernel
theorem dX6_readsItem_104 : decode cX6_readsItem 104 = .ok (.iconst 1, 1) := by decide +kernel
theorem dX6_readsItem_105 : decode cX6_readsItem 105 = .ok (.goto 4, 3) := by decide +kernel
theorem dX6_readsItem_108 : decode cX6_readsItem 108 = .ok (.iconst 0, 1) := by decide +kernel
theorem dX6_readsItem_109 : decode cX6_readsItem 109 = .ok (.istore_n 3, 1) := by decide +kernel
theorem dX6_readsItem_110 : decode cX6_readsItem 110 = .ok (.iload_n 2, 1) := by decide +kernel
theorem dX6_readsItem_111 : decode cX6_readsItem 111 = .ok (.ifCond .eq 7, 3) := by decide +kernel
theorem dX6_readsItem_114 : decode cX6_readsItem 114 = .ok (.iload_n 3, 1) := by decide +kernel
theorem dX6_readsItem_115 : decode cX6_readsItem 115 = .ok (.ifCond .ne 5, 3) := by decide +kernel
theorem dX6_readsItem_118 : decode cX6_readsItem 118 = .ok (.iconst 0, 1) := by decide +kernel
theorem dX6_readsItem_119 : decode cX6_readsItem 119 = .ok (.ireturn, 1) := by decide +kernel
theorem dX6_readsItem_120 : decode cX6_readsItem 120 = .ok (.aload_n 0, 1) := by decide +kernel
theorem dX6_readsItem_121 : decode cX6_readsItem 121 = .ok (.dup, 1) := by decide +kernel
theorem dX6_readsItem_122 : decode cX6_readsItem 122 = .ok (.getfield 78, 3) := by decide +kernel
theorem dX6_readsItem_125 : decode cX6_readsItem 125 = .ok (.iconst 1, 1) := by decide +kernel
theorem dX6_readsItem_126 : decode cX6_readsItem 126 = .ok (.iadd, 1) := by decide +kernel
theorem dX6_readsItem_127 : decode cX6_readsItem 127 = .ok (.putfield 78, 3) := by decide +kernel
theorem dX6_readsItem_130 : decode cX6_readsItem 130 = .ok (.iload_n 1, 1) := by decide +kernel
theorem dX6_readsItem_131 : decode cX6_readsItem 131 = .ok (.bipush 114, 2) := by decide +kernel
theorem dX6_readsItem_133 : decode cX6_readsItem 133 = .ok (.if_icmp .ne 10, 3) := by decide +kernel
theorem dX6_readsItem_136 : decode cX6_readsItem 136 = .ok (.aload_n 0, 1) := by decide +kernel
theorem dX6_readsItem_137 : decode cX6_readsItem 137 = .ok (.invokevirtual 108, 3) := by decide +kernel
theorem dX6_readsItem_140 : decode cX6_readsItem 140 = .ok (.goto 20, 3) := by decide +kernel
theorem dX6_readsItem_143 : decode cX6_readsItem 143 = .ok (.iload_n 1, 1) := by decide +kernel
theorem dX6_readsItem_144 : decode cX6_readsItem 144 = .ok (.bipush 119, 2) := by decide +kernel
theorem dX6_readsItem_146 : decode cX6_readsItem 146 = .ok (.if_icmp .ne 10, 3) := by decide +kernel
theorem dX6_readsItem_149 : decode cX6_readsItem 149 = .ok (.aload_n 0, 1) := by decide +kernel
theorem dX6_readsItem_150 : decode cX6_readsItem 150 = .ok (.invokevirtual 111, 3) := by decide +kernel
theorem dX6_readsItem_153 : decode cX6_readsItem 153 = .ok (.goto 7, 3) := by decide +kernel
theorem dX6_readsItem_156 : decode cX6_readsItem 156 = .ok (.aload_n 0, 1) := by decide +kernel
theorem dX6_readsItem_157 : decode cX6_readsItem 157 = .ok (.invokevirtual 114, 3) := by decide +kernel
theorem dX6_readsItem_160 : decode cX6_readsItem 160 = .ok (.ireturn, 1) := by decide +kernel
theorem dX6_box_0 : decode cX6_box 0 = .ok (.aload_n 0, 1) := by decide +kernel
theorem dX6_box_1 : decode cX6_box 1 = .ok (.iconst 0, 1) := by decide +kernel
theorem dX6_box_2 : decode cX6_box 2 = .ok (.putfield 78, 3) := by decide +kernel
theorem dX6_box_5 : decode cX6_box 5 = .ok (.aload_n 0, 1) := by decide +kernel
theorem dX6_box_6 : decode cX6_box 6 = .ok (.iconst 0, 1) := by decide +kernel
theorem dX6_box_7 : decode cX6_box 7 = .ok (.putfield 95, 3) := by decide +kernel
theorem dX6_box_10 : decode cX6_box 10 = .ok (.aload_n 0, 1) := by decide +kernel
theorem dX6_box_11 : decode cX6_box 11 = .ok (.iconst 0, 1) := by decide +kernel
theorem dX6_box_12 : decode cX6_box 12 = .ok (.putfield 102, 3) := by decide +kernel
theorem dX6_box_15 : decode cX6_box 15 = .ok (.aload_n 0, 1) := by decide +kernel
theorem dX6_box_16 : decode cX6_box 16 = .ok (.iconst 0, 1) := by decide +kernel
theorem dX6_box_17 : decode cX6_box 17 = .ok (.putfield 105, 3) := by decide +kernel
theorem dX6_box_20 : decode cX6_box 20 = .ok (.iconst 0, 1) := by decide +kernel
theorem dX6_box_21 : decode cX6_box 21 = .ok (.istore_n 1, 1) := by decide +kernel
theorem dX6_box_22 : decode cX6_box 22 = .ok (.aload_n 0, 1) := by decide +kernel
theorem dX6_box_23 : decode cX6_box 23 = .ok (.invokevirtual 85, 3) := by decide +kernel
theorem dX6_box_26 : decode cX6_box 26 = .ok (.aload_n 0, 1) := by decide +kernel
theorem dX6_box_27 : decode cX6_box 27 = .ok (.getfield 78, 3) := by decide +kernel
theorem dX6_box_30 : decode cX6_box 30 = .ok (.aload_n 0, 1) := by decide +kernel
theorem dX6_box_31 : decode cX6_box 31 = .ok (.getfield 75, 3) := by decide +kernel
theorem dX6_box_34 : decode cX6_box 34 = .ok (.if_icmp .ge 28, 3) := by decide +kernel
theorem dX6_box_37 : decode cX6_box 37 = .ok (.aload_n 0, 1) := by decide +kernel
theorem dX6_box_38 : decode cX6_box 38 = .ok (.invokevirtual 117, 3) := by decide +kernel
theorem dX6_box_41 : decode cX6_box 41 = .ok (.ifCond .ne 11, 3) := by decide +kernel
theorem dX6_box_44 : decode cX6_box 44 = .ok (.bipush (-10), 2) := by decide +kernel
theorem dX6_box_46 : decode cX6_box 46 = .ok (.aload_n 0, 1) := by decide +kernel
theorem dX6_box_47 : decode cX6_box 47 = .ok (.getfield 78, 3) := by decide +kernel
theorem dX6_box_50 : decode cX6_box 50 = .ok (.isub, 1) := by decide +kernel
theorem dX6_box_51 : decode cX6_box 51 = .ok (.ireturn, 1) := by decide +kernel
theorem dX6_box_52 : decode cX6_box 52 = .ok (.iinc 1 1, 3) := by decide +kernel
theorem dX6_box_55 : decode cX6_box 55 = .ok (.aload_n 0, 1) := by decide +kernel
theorem dX6_box_56 : decode cX6_box 56 = .ok (.invokevirtual 85, 3) := by decide +kernel
theorem dX6_box_59 : decode cX6_box 59 = .ok (.goto (-33), 3) := by decide +kernel
theorem dX6_box_62 : decode cX6_box 62 = .ok (.aload_n 0, 1) := by decide +kernel
theorem dX6_box_63 : decode cX6_box 63 = .ok (.iconst 0, 1) := by decide +kernel
theorem dX6_box_64 : decode cX6_box 64 = .ok (.putfield 75, 3) := by decide +kernel
theorem dX6_box_67 : decode cX6_box 67 = .ok (.aload_n 0, 1) := by decide +kernel
theorem dX6_box_68 : decode cX6_box 68 = .ok (.aload_n 0, 1) := by decide +kernel
theorem dX6_box_69 : decode cX6_box 69 = .ok (.getfield 95, 3) := by decide +kernel
theorem dX6_box_72 : decode cX6_box 72 = .ok (.putfield 58, 3) := by decide +kernel
theorem dX6_box_75 : decode cX6_box 75 = .ok (.aload_n 0, 1) := by decide +kernel
theorem dX6_box_76 : decode cX6_box 76 = .ok (.aload_n 0, 1) := by decide +kernel
theorem dX6_box_77 : decode cX6_box 77 = .ok (.getfield 102, 3) := by decide +kernel
theorem dX6_box_80 : decode cX6_box 80 = .ok (.putfield 66, 3) := by decide +kernel
theorem dX6_box_83 : decode cX6_box 83 = .ok (.aload_n 0, 1) := by decide +kernel
theorem dX6_box_84 : decode cX6_box 84 = .ok (.aload_n 0, 1) := by decide +kernel
theorem dX6_box_85 : decode cX6_box 85 = .ok (.getfield 105, 3) := by decide +kernel
theorem dX6_box_88 : decode cX6_box 88 = .ok (.putfield 69, 3) := by decide +kernel
theorem dX6_box_91 : decode cX6_box 91 = .ok (.iconst 0, 1) := by decide +kernel
theorem dX6_box_92 : decode cX6_box 92 = .ok (.istore_n 2, 1) := by decide +kernel
theorem dX6_box_93 : decode cX6_box 93 = .ok (.iload_n 2, 1) := by decide +kernel
theorem dX6_box_94 : decode cX6_box 94 = .ok (.aload_n 0, 1) := by decide +kernel
theorem dX6_box_95 : decode cX6_box 95 = .ok (.getfield 58, 3) := by decide +kernel
theorem dX6_box_98 : decode cX6_box 98 = .ok (.if_icmp .ge 21, 3) := by decide +kernel
theorem dX6_box_101 : decode cX6_box 101 = .ok (.aload_n 0, 1) := by decide +kernel
theorem dX6_box_102 : decode cX6_box 102 = .ok (.getfield 7, 3) := by decide +kernel
theorem dX6_box_105 : decode cX6_box 105 = .ok (.iload_n 2, 1) := by decide +kernel
theorem dX6_box_106 : decode cX6_box 106 = .ok (.aload_n 0, 1) := by decide +kernel
theorem dX6_box_107 : decode cX6_box 107 = .ok (.getfield 31, 3) := by decide +kernel
theorem dX6_box_110 : decode cX6_box 110 = .ok (.iload_n 2, 1) := by decide +kernel
theorem dX6_box_111 : decode cX6_box 111 = .ok (.iaload, 1) := by decide +kernel
theorem dX6_box_112 : decode cX6_box 112 = .ok (.iastore, 1) := by decide +kernel
theorem dX6_box_113 : decode cX6_box 113 = .ok (.iinc 2 1, 3) := by decide +kernel
theorem dX6_box_116 : decode cX6_box 116 = .ok (.goto (-23), 3) := by decide +kernel
theorem dX6_box_119 : decode cX6_box 119 = .ok (.iconst 0, 1) := by decide +kernel
theorem dX6_box_120 : decode cX6_box 120 = .ok (.istore_n 2, 1) := by decide +kernel
theorem dX6_box_121 : decode cX6_box 121 = .ok (.iload_n 2, 1) := by decide +kernel
theorem dX6_box_122 : decode cX6_box 122 = .ok (.aload_n 0, 1) := by decide +kernel
theorem dX6_box_123 : decode cX6_box 123 = .ok (.getfield 66, 3) := by decide +kernel
theorem dX6_box_126 : decode cX6_box 126 = .ok (.if_icmp .ge 21, 3) := by decide +kernel
theorem dX6_box_129 : decode cX6_box 129 = .ok (.aload_n 0, 1) := by decide +kernel
theorem dX6_box_130 : decode cX6_box 130 = .ok (.getfield 13, 3) := by decide +kernel
theorem dX6_box_133 : decode cX6_box 133 = .ok (.iload_n 2, 1) := by decide +kernel
theorem dX6_box_134 : decode cX6_box 134 = .ok (.aload_n 0, 1) := by decide +kernel
theorem dX6_box_135 : decode cX6_box 135 = .ok (.getfield 34, 3) := by decide +kernel
theorem dX6_box_138 : decode cX6_box 138 = .ok (.iload_n 2, 1) := by decide +kernel
theorem dX6_box_139 : decode cX6_box 139 = .ok (.iaload, 1) := by decide +kernel
theorem dX6_box_140 : decode cX6_box 140 = .ok (.iastore, 1) := by decide +kernel
theorem dX6_box_141 : decode cX6_box 141 = .ok (.iinc 2 1, 3) := by decide +kernel
theorem dX6_box_144 : decode cX6_box 144 = .ok (.goto (-23), 3) := by decide +kernel
theorem dX6_box_147 : decode cX6_box 147 = .ok (.iconst 0, 1) := by decide +kernel
theorem dX6_box_148 : decode cX6_box 148 = .ok (.istore_n 2, 1) := by decide +kernel
theorem dX6_box_149 : decode cX6_box 149 = .ok (.iload_n 2, 1) := by decide +kernel
theorem dX6_box_150 : decode cX6_box 150 = .ok (.aload_n 0, 1) := by decide +kernel
theorem dX6_box_151 : decode cX6_box 151 = .ok (.getfield 69, 3) := by decide +kernel
theorem dX6_box_154 : decode cX6_box 154 = .ok (.if_icmp .ge 21, 3) := by decide +kernel
theorem dX6_box_157 : decode cX6_box 157 = .ok (.aload_n 0, 1) := by decide +kernel
theorem dX6_box_158 : decode cX6_box 158 = .ok (.getfield 16, 3) := by decide +kernel
theorem dX6_box_161 : decode cX6_box 161 = .ok (.iload_n 2, 1) := by decide +kernel
theorem dX6_box_162 : decode cX6_box 162 = .ok (.aload_n 0, 1) := by decide +kernel
theorem dX6_box_163 : decode cX6_box 163 = .ok (.getfield 37, 3) := by decide +kernel
theorem dX6_box_166 : decode cX6_box 166 = .ok (.iload_n 2, 1) := by decide +kernel
theorem dX6_box_167 : decode cX6_box 167 = .ok (.iaload, 1) := by decide +kernel
theorem dX6_box_168 : decode cX6_box 168 = .ok (.iastore, 1) := by decide +kernel
theorem dX6_box_169 : decode cX6_box 169 = .ok (.iinc 2 1, 3) := by decide +kernel
theorem dX6_box_172 : decode cX6_box 172 = .ok (.goto (-23), 3) := by decide +kernel
theorem dX6_box_175 : decode cX6_box 175 = .ok (.aload_n 0, 1) := by decide +kernel
theorem dX6_box_176 : decode cX6_box 176 = .ok (.iconst 0, 1) := by decide +kernel
theorem dX6_box_177 : decode cX6_box 177 = .ok (.putfield 120, 3) := by decide +kernel
theorem dX6_box_180 : decode cX6_box 180 = .ok (.aload_n 0, 1) := by decide +kernel
theorem dX6_box_181 : decode cX6_box 181 = .ok (.iconst 0, 1) := by decide +kernel
theorem dX6_box_182 : decode cX6_box 182 = .ok (.putfield 72, 3) := by decide +kernel
theorem dX6_box_185 : decode cX6_box 185 = .ok (.aload_n 0, 1) := by decide +kernel
theorem dX6_box_186 : decode cX6_box 186 = .ok (.iconst 0, 1) := by decide +kernel
theorem dX6_box_187 : decode cX6_box 187 = .ok (.putfield 123, 3) := by decide +kernel
theorem dX6_box_190 : decode cX6_box 190 = .ok (.aload_n 0, 1) := by decide +kernel
theorem dX6_box_191 : decode cX6_box 191 = .ok (.iconst 0, 1) := by decide +kernel
theorem dX6_box_192 : decode cX6_box 192 = .ok (.putfield 126, 3) := by decide +kernel
theorem dX6_box_195 : decode cX6_box 195 = .ok (.aload_n 0, 1) := by decide +kernel
theorem dX6_box_196 : decode cX6_box 196 = .ok (.getfield 55, 3) := by decide +kernel
theorem dX6_box_199 : decode cX6_box 199 = .ok (.iconst 0, 1) := by decide +kernel
theorem dX6_box_200 : decode cX6_box 200 = .ok (.iconst 0, 1) := by decide +kernel
theorem dX6_box_201 : decode cX6_box 201 = .ok (.iastore, 1) := by decide +kernel
theorem dX6_box_202 : decode cX6_box 202 = .ok (.aload_n 0, 1) := by decide +kernel
theorem dX6_box_203 : decode cX6_box 203 = .ok (.getfield 55, 3) := by decide +kernel
theorem dX6_box_206 : decode cX6_box 206 = .ok (.sipush 860, 3) := by decide +kernel
theorem dX6_box_209 : decode cX6_box 209 = .ok (.iconst 0, 1) := by decide +kernel
theorem dX6_box_210 : decode cX6_box 210 = .ok (.iastore, 1) := by decide +kernel
theorem dX6_box_211 : decode cX6_box 211 = .ok (.iload_n 1, 1) := by decide +kernel
theorem dX6_box_212 : decode cX6_box 212 = .ok (.ireturn, 1) := by decide +kernel
theorem dX6_fits_0 : decode cX6_fits 0 = .ok (.aload_n 0, 1) := by decide +kernel
theorem dX6_fits_1 : decode cX6_fits 1 = .ok (.getfield 13, 3) := by decide +kernel
theorem dX6_fits_4 : decode cX6_fits 4 = .ok (.iload_n 2, 1) := by decide +kernel
theorem dX6_fits_5 : decode cX6_fits 5 = .ok (.iaload, 1) := by decide +kernel
theorem dX6_fits_6 : decode cX6_fits 6 = .ok (.aload_n 0, 1) := by decide +kernel
theorem dX6_fits_7 : decode cX6_fits 7 = .ok (.getfield 7, 3) := by decide +kernel
theorem dX6_fits_10 : decode cX6_fits 10 = .ok (.iload_n 1, 1) := by decide +kernel
theorem dX6_fits_11 : decode cX6_fits 11 = .ok (.iaload, 1) := by decide +kernel
theorem dX6_fits_12 : decode cX6_fits 12 = .ok (.if_icmp .ge 7, 3) := by decide +kernel
theorem dX6_fits_15 : decode cX6_fits 15 = .ok (.iconst 1, 1) := by decide +kernel
theorem dX6_fits_16 : decode cX6_fits 16 = .ok (.goto 4, 3) := by decide +kernel
theorem dX6_fits_19 : decode cX6_fits 19 = .ok (.iconst 0, 1) := by decide +kernel
theorem dX6_fits_20 : decode cX6_fits 20 = .ok (.ireturn, 1) := by decide +kernel
theorem dX6_commonOf_0 : decode cX6_commonOf 0 = .ok (.aload_n 0, 1) := by decide +kernel
theorem dX6_commonOf_1 : decode cX6_commonOf 1 = .ok (.getfield 7, 3) := by decide +kernel
theorem dX6_commonOf_4 : decode cX6_commonOf 4 = .ok (.iload_n 1, 1) := by decide +kernel
theorem dX6_commonOf_5 : decode cX6_commonOf 5 = .ok (.iaload, 1) := by decide +kernel
theorem dX6_commonOf_6 : decode cX6_commonOf 6 = .ok (.aload_n 0, 1) := by decide +kernel
theorem dX6_commonOf_7 : decode cX6_commonOf 7 = .ok (.getfield 13, 3) := by decide +kernel
theorem dX6_commonOf_10 : decode cX6_commonOf 10 = .ok (.iload_n 2, 1) := by decide +kernel
theorem dX6_commonOf_11 : decode cX6_commonOf 11 = .ok (.iaload, 1) := by decide +kernel
theorem dX6_commonOf_12 : decode cX6_commonOf 12 = .ok (.invokestatic 129, 3) := by decide +kernel
theorem dX6_commonOf_15 : decode cX6_commonOf 15 = .ok (.ireturn, 1) := by decide +kernel
theorem dX6_petalsOf_0 : decode cX6_petalsOf 0 = .ok (.aload_n 0, 1) := by decide +kernel
theorem dX6_petalsOf_1 : decode cX6_petalsOf 1 = .ok (.getfield 7, 3) := by decide +kernel
theorem dX6_petalsOf_4 : decode cX6_petalsOf 4 = .ok (.iload_n 1, 1) := by decide +kernel
theorem dX6_petalsOf_5 : decode cX6_petalsOf 5 = .ok (.iaload, 1) := by decide +kernel
theorem dX6_petalsOf_6 : decode cX6_petalsOf 6 = .ok (.aload_n 0, 1) := by decide +kernel
theorem dX6_petalsOf_7 : decode cX6_petalsOf 7 = .ok (.iload_n 1, 1) := by decide +kernel
theorem dX6_petalsOf_8 : decode cX6_petalsOf 8 = .ok (.iload_n 2, 1) := by decide +kernel
theorem dX6_petalsOf_9 : decode cX6_petalsOf 9 = .ok (.invokevirtual 133, 3) := by decide +kernel
theorem dX6_petalsOf_12 : decode cX6_petalsOf 12 = .ok (.idiv, 1) := by decide +kernel
theorem dX6_petalsOf_13 : decode cX6_petalsOf 13 = .ok (.ireturn, 1) := by decide +kernel
theorem dX6_roundsOf_0 : decode cX6_roundsOf 0 = .ok (.aload_n 0, 1) := by decide +kernel
theorem dX6_roundsOf_1 : decode cX6_roundsOf 1 = .ok (.getfield 13, 3) := by decide +kernel
theorem dX6_roundsOf_4 : decode cX6_roundsOf 4 = .ok (.iload_n 2, 1) := by decide +kernel
theorem dX6_roundsOf_5 : decode cX6_roundsOf 5 = .ok (.iaload, 1) := by decide +kernel
theorem dX6_roundsOf_6 : decode cX6_roundsOf 6 = .ok (.aload_n 0, 1) := by decide +kernel
theorem dX6_roundsOf_7 : decode cX6_roundsOf 7 = .ok (.iload_n 1, 1) := by decide +kernel
theorem dX6_roundsOf_8 : decode cX6_roundsOf 8 = .ok (.iload_n 2, 1) := by decide +kernel
theorem dX6_roundsOf_9 : decode cX6_roundsOf 9 = .ok (.invokevirtual 133, 3) := by decide +kernel
theorem dX6_roundsOf_12 : decode cX6_roundsOf 12 = .ok (.idiv, 1) := by decide +kernel
theorem dX6_roundsOf_13 : decode cX6_roundsOf 13 = .ok (.ireturn, 1) := by decide +kernel
theorem dX6_longOf_0 : decode cX6_longOf 0 = .ok (.aload_n 0, 1) := by decide +kernel
theorem dX6_longOf_1 : decode cX6_longOf 1 = .ok (.getfield 7, 3) := by decide +kernel
theorem dX6_longOf_4 : decode cX6_longOf 4 = .ok (.iload_n 1, 1) := by decide +kernel
theorem dX6_longOf_5 : decode cX6_longOf 5 = .ok (.iaload, 1) := by decide +kernel
theorem dX6_longOf_6 : decode cX6_longOf 6 = .ok (.aload_n 0, 1) := by decide +kernel
theorem dX6_longOf_7 : decode cX6_longOf 7 = .ok (.iload_n 1, 1) := by decide +kernel
theorem dX6_longOf_8 : decode cX6_longOf 8 = .ok (.iload_n 2, 1) := by decide +kernel
theorem dX6_longOf_9 : decode cX6_longOf 9 = .ok (.invokevirtual 136, 3) := by decide +kernel
theorem dX6_longOf_12 : decode cX6_longOf 12 = .ok (.imul, 1) := by decide +kernel
theorem dX6_longOf_13 : decode cX6_longOf 13 = .ok (.ireturn, 1) := by decide +kernel
theorem dX6_ring_0 : decode cX6_ring 0 = .ok (.aload_n 0, 1) := by decide +kernel
theorem dX6_ring_1 : decode cX6_ring 1 = .ok (.iload_n 1, 1) := by decide +kernel
theorem dX6_ring_2 : decode cX6_ring 2 = .ok (.invokevirtual 139, 3) := by decide +kernel
theorem dX6_ring_5 : decode cX6_ring 5 = .ok (.ifCond .eq 12, 3) := by decide +kernel
theorem dX6_ring_8 : decode cX6_ring 8 = .ok (.aload_n 0, 1) := by decide +kernel
theorem dX6_ring_9 : decode cX6_ring 9 = .ok (.getfield 7, 3) := by decide +kernel
theorem dX6_ring_12 : decode cX6_ring 12 = .ok (.iload_n 1, 1) := by decide +kernel
theorem dX6_ring_13 : decode cX6_ring 13 = .ok (.iaload, 1) := by decide +kernel
theorem dX6_ring_14 : decode cX6_ring 14 = .ok (.goto 4, 3) := by decide +kernel
theorem dX6_ring_17 : decode cX6_ring 17 = .ok (.iconst (-1), 1) := by decide +kernel
theorem dX6_ring_18 : decode cX6_ring 18 = .ok (.ireturn, 1) := by decide +kernel
theorem dX6_wheel_0 : decode cX6_wheel 0 = .ok (.aload_n 0, 1) := by decide +kernel
theorem dX6_wheel_1 : decode cX6_wheel 1 = .ok (.iload_n 1, 1) := by decide +kernel
theorem dX6_wheel_2 : decode cX6_wheel 2 = .ok (.invokevirtual 139, 3) := by decide +kernel
theorem dX6_wheel_5 : decode cX6_wheel 5 = .ok (.ifCond .eq 20, 3) := by decide +kernel
theorem dX6_wheel_8 : decode cX6_wheel 8 = .ok (.aload_n 0, 1) := by decide +kernel
theorem dX6_wheel_9 : decode cX6_wheel 9 = .ok (.iload_n 2, 1) := by decide +kernel
theorem dX6_wheel_10 : decode cX6_wheel 10 = .ok (.invokevirtual 143, 3) := by decide +kernel
theorem dX6_wheel_13 : decode cX6_wheel 13 = .ok (.ifCond .eq 12, 3) := by decide +kernel
theorem dX6_wheel_16 : decode cX6_wheel 16 = .ok (.iload_n 3, 1) := by decide +kernel
theorem dX6_wheel_17 : decode cX6_wheel 17 = .ok (.iconst 0, 1) := by decide +kernel
theorem dX6_wheel_18 : decode cX6_wheel 18 = .ok (.iconst 3, 1) := by decide +kernel
theorem dX6_wheel_19 : decode cX6_wheel 19 = .ok (.invokestatic 62, 3) := by decide +kernel
theorem dX6_wheel_22 : decode cX6_wheel 22 = .ok (.ifCond .ne 5, 3) := by decide +kernel
theorem dX6_wheel_25 : decode cX6_wheel 25 = .ok (.iconst (-1), 1) := by decide +kernel
theorem dX6_wheel_26 : decode cX6_wheel 26 = .ok (.ireturn, 1) := by decide +kernel
theorem dX6_wheel_27 : decode cX6_wheel 27 = .ok (.iload_n 3, 1) := by decide +kernel
theorem dX6_wheel_28 : decode cX6_wheel 28 = .ok (.ifCond .ne 10, 3) := by decide +kernel
theorem dX6_wheel_31 : decode cX6_wheel 31 = .ok (.aload_n 0, 1) := by decide +kernel
theorem dX6_wheel_32 : decode cX6_wheel 32 = .ok (.getfield 13, 3) := by decide +kernel
theorem dX6_wheel_35 : decode cX6_wheel 35 = .ok (.iload_n 2, 1) := by decide +kernel
theorem dX6_wheel_36 : decode cX6_wheel 36 = .ok (.iaload, 1) := by decide +kernel
theorem dX6_wheel_37 : decode cX6_wheel 37 = .ok (.ireturn, 1) := by decide +kernel
theorem dX6_wheel_38 : decode cX6_wheel 38 = .ok (.aload_n 0, 1) := by decide +kernel
theorem dX6_wheel_39 : decode cX6_wheel 39 = .ok (.iload_n 1, 1) := by decide +kernel
theorem dX6_wheel_40 : decode cX6_wheel 40 = .ok (.iload_n 2, 1) := by decide +kernel
theorem dX6_wheel_41 : decode cX6_wheel 41 = .ok (.invokevirtual 146, 3) := by decide +kernel
theorem dX6_wheel_44 : decode cX6_wheel 44 = .ok (.ifCond .ne 6, 3) := by decide +kernel
theorem dX6_wheel_47 : decode cX6_wheel 47 = .ok (.bipush (-9), 2) := by decide +kernel
theorem dX6_wheel_49 : decode cX6_wheel 49 = .ok (.ireturn, 1) := by decide +kernel
theorem dX6_wheel_50 : decode cX6_wheel 50 = .ok (.iload_n 3, 1) := by decide +kernel
theorem dX6_wheel_51 : decode cX6_wheel 51 = .ok (.iconst 1, 1) := by decide +kernel
theorem dX6_wheel_52 : decode cX6_wheel 52 = .ok (.if_icmp .ne 12, 3) := by decide +kernel
theorem dX6_wheel_55 : decode cX6_wheel 55 = .ok (.aload_n 0, 1) := by decide +kernel
theorem dX6_wheel_56 : decode cX6_wheel 56 = .ok (.iload_n 1, 1) := by decide +kernel
theorem dX6_wheel_57 : decode cX6_wheel 57 = .ok (.iload_n 2, 1) := by decide +kernel
theorem dX6_wheel_58 : decode cX6_wheel 58 = .ok (.invokevirtual 149, 3) := by decide +kernel
theorem dX6_wheel_61 : decode cX6_wheel 61 = .ok (.goto 23, 3) := by decide +kernel
theorem dX6_wheel_64 : decode cX6_wheel 64 = .ok (.iload_n 3, 1) := by decide +kernel
theorem dX6_wheel_65 : decode cX6_wheel 65 = .ok (.iconst 2, 1) := by decide +kernel
theorem dX6_wheel_66 : decode cX6_wheel 66 = .ok (.if_icmp .ne 12, 3) := by decide +kernel
theorem dX6_wheel_69 : decode cX6_wheel 69 = .ok (.aload_n 0, 1) := by decide +kernel
theorem dX6_wheel_70 : decode cX6_wheel 70 = .ok (.iload_n 1, 1) := by decide +kernel
theorem dX6_wheel_71 : decode cX6_wheel 71 = .ok (.iload_n 2, 1) := by decide +kernel
theorem dX6_wheel_72 : decode cX6_wheel 72 = .ok (.invokevirtual 136, 3) := by decide +kernel
theorem dX6_wheel_75 : decode cX6_wheel 75 = .ok (.goto 9, 3) := by decide +kernel
theorem dX6_wheel_78 : decode cX6_wheel 78 = .ok (.aload_n 0, 1) := by decide +kernel
theorem dX6_wheel_79 : decode cX6_wheel 79 = .ok (.iload_n 1, 1) := by decide +kernel
theorem dX6_wheel_80 : decode cX6_wheel 80 = .ok (.iload_n 2, 1) := by decide +kernel
theorem dX6_wheel_81 : decode cX6_wheel 81 = .ok (.invokevirtual 152, 3) := by decide +kernel
theorem dX6_wheel_84 : decode cX6_wheel 84 = .ok (.ireturn, 1) := by decide +kernel
theorem dX6_toothAt_0 : decode cX6_toothAt 0 = .ok (.iload_n 3, 1) := by decide +kernel
theorem dX6_toothAt_1 : decode cX6_toothAt 1 = .ok (.iload_n 2, 1) := by decide +kernel
theorem dX6_toothAt_2 : decode cX6_toothAt 2 = .ok (.isub, 1) := by decide +kernel
theorem dX6_toothAt_3 : decode cX6_toothAt 3 = .ok (.sipush 360, 3) := by decide +kernel
theorem dX6_toothAt_6 : decode cX6_toothAt 6 = .ok (.iadd, 1) := by decide +kernel
theorem dX6_toothAt_7 : decode cX6_toothAt 7 = .ok (.sipush 360, 3) := by decide +kernel
theorem dX6_toothAt_10 : decode cX6_toothAt 10 = .ok (.irem, 1) := by decide +kernel
theorem dX6_toothAt_11 : decode cX6_toothAt 11 = .ok (.istore 4, 2) := by decide +kernel
theorem dX6_toothAt_13 : decode cX6_toothAt 13 = .ok (.sipush 360, 3) := by decide +kernel
theorem dX6_toothAt_16 : decode cX6_toothAt 16 = .ok (.aload_n 0, 1) := by decide +kernel
theorem dX6_toothAt_17 : decode cX6_toothAt 17 = .ok (.getfield 7, 3) := by decide +kernel
theorem dX6_toothAt_20 : decode cX6_toothAt 20 = .ok (.iload_n 1, 1) := by decide +kernel
theorem dX6_toothAt_21 : decode cX6_toothAt 21 = .ok (.iaload, 1) := by decide +kernel
theorem dX6_toothAt_22 : decode cX6_toothAt 22 = .ok (.idiv, 1) := by decide +kernel
theorem dX6_toothAt_23 : decode cX6_toothAt 23 = .ok (.istore 5, 2) := by decide +kernel
theorem dX6_toothAt_25 : decode cX6_toothAt 25 = .ok (.iload 4, 2) := by decide +kernel
theorem dX6_toothAt_27 : decode cX6_toothAt 27 = .ok (.iload 5, 2) := by decide +kernel
theorem dX6_toothAt_29 : decode cX6_toothAt 29 = .ok (.irem, 1) := by decide +kernel
theorem dX6_toothAt_30 : decode cX6_toothAt 30 = .ok (.ifCond .ne 11, 3) := by decide +kernel
theorem dX6_toothAt_33 : decode cX6_toothAt 33 = .ok (.iload 4, 2) := by decide +kernel
theorem dX6_toothAt_35 : decode cX6_toothAt 35 = .ok (.iload 5, 2) := by decide +kernel
theorem dX6_toothAt_37 : decode cX6_toothAt 37 = .ok (.idiv, 1) := by decide +kernel
theorem dX6_toothAt_38 : decode cX6_toothAt 38 = .ok (.goto 5, 3) := by decide +kernel
theorem dX6_toothAt_41 : decode cX6_toothAt 41 = .ok (.bipush (-9), 2) := by decide +kernel
theorem dX6_toothAt_43 : decode cX6_toothAt 43 = .ok (.ireturn, 1) := by decide +kernel
theorem dX6_pointOf_0 : decode cX6_pointOf 0 = .ok (.sipush 360, 3) := by decide +kernel
theorem dX6_pointOf_3 : decode cX6_pointOf 3 = .ok (.aload_n 0, 1) := by decide +kernel
theorem dX6_pointOf_4 : decode cX6_pointOf 4 = .ok (.getfield 7, 3) := by decide +kernel
theorem dX6_pointOf_7 : decode cX6_pointOf 7 = .ok (.iload_n 1, 1) := by decide +kernel
theorem dX6_pointOf_8 : decode cX6_pointOf 8 = .ok (.iaload, 1) := by decide +kernel
theorem dX6_pointOf_9 : decode cX6_pointOf 9 = .ok (.idiv, 1) := by decide +kernel
theorem dX6_pointOf_10 : decode cX6_pointOf 10 = .ok (.iload_n 3, 1) := by decide +kernel
theorem dX6_pointOf_11 : decode cX6_pointOf 11 = .ok (.imul, 1) := by decide +kernel
theorem dX6_pointOf_12 : decode cX6_pointOf 12 = .ok (.iload_n 2, 1) := by decide +kernel
theorem dX6_pointOf_13 : decode cX6_pointOf 13 = .ok (.iadd, 1) := by decide +kernel
theorem dX6_pointOf_14 : decode cX6_pointOf 14 = .ok (.sipush 360, 3) := by decide +kernel
theorem dX6_pointOf_17 : decode cX6_pointOf 17 = .ok (.irem, 1) := by decide +kernel
theorem dX6_pointOf_18 : decode cX6_pointOf 18 = .ok (.ireturn, 1) := by decide +kernel
theorem dX6_isTip_0 : decode cX6_isTip 0 = .ok (.iload_n 1, 1) := by decide +kernel
theorem dX6_isTip_1 : decode cX6_isTip 1 = .ok (.iload_n 2, 1) := by decide +kernel
theorem dX6_isTip_2 : decode cX6_isTip 2 = .ok (.isub, 1) := by decide +kernel
theorem dX6_isTip_3 : decode cX6_isTip 3 = .ok (.iload_n 0, 1) := by decide +kernel
theorem dX6_isTip_4 : decode cX6_isTip 4 = .ok (.irem, 1) := by decide +kernel
theorem dX6_isTip_5 : decode cX6_isTip 5 = .ok (.ifCond .ne 7, 3) := by decide +kernel
theorem dX6_isTip_8 : decode cX6_isTip 8 = .ok (.iconst 1, 1) := by decide +kernel
theorem dX6_isTip_9 : decode cX6_isTip 9 = .ok (.goto 4, 3) := by decide +kernel
theorem dX6_isTip_12 : decode cX6_isTip 12 = .ok (.iconst 0, 1) := by decide +kernel
theorem dX6_isTip_13 : decode cX6_isTip 13 = .ok (.ireturn, 1) := by decide +kernel
theorem dX6_hasTip_0 : decode cX6_hasTip 0 = .ok (.bipush 6, 2) := by decide +kernel
theorem dX6_hasTip_2 : decode cX6_hasTip 2 = .ok (.iload_n 1, 1) := by decide +kernel
theorem dX6_hasTip_3 : decode cX6_hasTip 3 = .ok (.imul, 1) := by decide +kernel
theorem dX6_hasTip_4 : decode cX6_hasTip 4 = .ok (.istore 4, 2) := by decide +kernel
theorem dX6_hasTip_6 : decode cX6_hasTip 6 = .ok (.aload_n 0, 1) := by decide +kernel
theorem dX6_hasTip_7 : decode cX6_hasTip 7 = .ok (.getfield 19, 3) := by decide +kernel
theorem dX6_hasTip_10 : decode cX6_hasTip 10 = .ok (.iload 4, 2) := by decide +kernel
theorem dX6_hasTip_12 : decode cX6_hasTip 12 = .ok (.iaload, 1) := by decide +kernel
theorem dX6_hasTip_13 : decode cX6_hasTip 13 = .ok (.istore 5, 2) := by decide +kernel
theorem dX6_hasTip_15 : decode cX6_hasTip 15 = .ok (.aload_n 0, 1) := by decide +kernel
theorem dX6_hasTip_16 : decode cX6_hasTip 16 = .ok (.getfield 19, 3) := by decide +kernel
theorem dX6_hasTip_19 : decode cX6_hasTip 19 = .ok (.iload 4, 2) := by decide +kernel
theorem dX6_hasTip_21 : decode cX6_hasTip 21 = .ok (.iconst 2, 1) := by decide +kernel
theorem dX6_hasTip_22 : decode cX6_hasTip 22 = .ok (.iadd, 1) := by decide +kernel
theorem dX6_hasTip_23 : decode cX6_hasTip 23 = .ok (.iaload, 1) := by decide +kernel
theorem dX6_hasTip_24 : decode cX6_hasTip 24 = .ok (.iload_n 3, 1) := by decide +kernel
theorem dX6_hasTip_25 : decode cX6_hasTip 25 = .ok (.if_icmp .eq 5, 3) := by decide +kernel
theorem dX6_hasTip_28 : decode cX6_hasTip 28 = .ok (.iconst 0, 1) := by decide +kernel
theorem dX6_hasTip_29 : decode cX6_hasTip 29 = .ok (.ireturn, 1) := by decide +kernel
theorem dX6_hasTip_30 : decode cX6_hasTip 30 = .ok (.aload_n 0, 1) := by decide +kernel
theorem dX6_hasTip_31 : decode cX6_hasTip 31 = .ok (.iload 5, 2) := by decide +kernel
theorem dX6_hasTip_33 : decode cX6_hasTip 33 = .ok (.aload_n 0, 1) := by decide +kernel
theorem dX6_hasTip_34 : decode cX6_hasTip 34 = .ok (.getfield 19, 3) := by decide +kernel
theorem dX6_hasTip_37 : decode cX6_hasTip 37 = .ok (.iload 4, 2) := by decide +kernel
theorem dX6_hasTip_39 : decode cX6_hasTip 39 = .ok (.iconst 5, 1) := by decide +kernel
theorem dX6_hasTip_40 : decode cX6_hasTip 40 = .ok (.iadd, 1) := by decide +kernel
theorem dX6_hasTip_41 : decode cX6_hasTip 41 = .ok (.iaload, 1) := by decide +kernel
theorem dX6_hasTip_42 : decode cX6_hasTip 42 = .ok (.iload_n 2, 1) := by decide +kernel
theorem dX6_hasTip_43 : decode cX6_hasTip 43 = .ok (.invokevirtual 155, 3) := by decide +kernel
theorem dX6_hasTip_46 : decode cX6_hasTip 46 = .ok (.istore 6, 2) := by decide +kernel
theorem dX6_hasTip_48 : decode cX6_hasTip 48 = .ok (.iload 6, 2) := by decide +kernel
theorem dX6_hasTip_50 : decode cX6_hasTip 50 = .ok (.bipush (-9), 2) := by decide +kernel
theorem dX6_hasTip_52 : decode cX6_hasTip 52 = .ok (.if_icmp .eq 39, 3) := by decide +kernel
theorem dX6_hasTip_55 : decode cX6_hasTip 55 = .ok (.aload_n 0, 1) := by decide +kernel
theorem dX6_hasTip_56 : decode cX6_hasTip 56 = .ok (.iload 5, 2) := by decide +kernel
theorem dX6_hasTip_58 : decode cX6_hasTip 58 = .ok (.aload_n 0, 1) := by decide +kernel
theorem dX6_hasTip_59 : decode cX6_hasTip 59 = .ok (.getfield 19, 3) := by decide +kernel
theorem dX6_hasTip_62 : decode cX6_hasTip 62 = .ok (.iload 4, 2) := by decide +kernel
theorem dX6_hasTip_64 : decode cX6_hasTip 64 = .ok (.iconst 1, 1) := by decide +kernel
theorem dX6_hasTip_65 : decode cX6_hasTip 65 = .ok (.iadd, 1) := by decide +kernel
theorem dX6_hasTip_66 : decode cX6_hasTip 66 = .ok (.iaload, 1) := by decide +kernel
theorem dX6_hasTip_67 : decode cX6_hasTip 67 = .ok (.invokevirtual 133, 3) := by decide +kernel
theorem dX6_hasTip_70 : decode cX6_hasTip 70 = .ok (.iload 6, 2) := by decide +kernel
theorem dX6_hasTip_72 : decode cX6_hasTip 72 = .ok (.aload_n 0, 1) := by decide +kernel
theorem dX6_hasTip_73 : decode cX6_hasTip 73 = .ok (.getfield 19, 3) := by decide +kernel
theorem dX6_hasTip_76 : decode cX6_hasTip 76 = .ok (.iload 4, 2) := by decide +kernel
theorem dX6_hasTip_78 : decode cX6_hasTip 78 = .ok (.iconst 3, 1) := by decide +kernel
theorem dX6_hasTip_79 : decode cX6_hasTip 79 = .ok (.iadd, 1) := by decide +kernel
theorem dX6_hasTip_80 : decode cX6_hasTip 80 = .ok (.iaload, 1) := by decide +kernel
theorem dX6_hasTip_81 : decode cX6_hasTip 81 = .ok (.invokestatic 159, 3) := by decide +kernel
theorem dX6_hasTip_84 : decode cX6_hasTip 84 = .ok (.ifCond .eq 7, 3) := by decide +kernel
theorem dX6_hasTip_87 : decode cX6_hasTip 87 = .ok (.iconst 1, 1) := by decide +kernel
theorem dX6_hasTip_88 : decode cX6_hasTip 88 = .ok (.goto 4, 3) := by decide +kernel
theorem dX6_hasTip_91 : decode cX6_hasTip 91 = .ok (.iconst 0, 1) := by decide +kernel
theorem dX6_hasTip_92 : decode cX6_hasTip 92 = .ok (.ireturn, 1) := by decide +kernel
theorem dX6_shownAt_0 : decode cX6_shownAt 0 = .ok (.aload_n 0, 1) := by decide +kernel
theorem dX6_shownAt_1 : decode cX6_shownAt 1 = .ok (.getfield 72, 3) := by decide +kernel
theorem dX6_shownAt_4 : decode cX6_shownAt 4 = .ok (.iconst 1, 1) := by decide +kernel
theorem dX6_shownAt_5 : decode cX6_shownAt 5 = .ok (.isub, 1) := by decide +kernel
theorem dX6_shownAt_6 : decode cX6_shownAt 6 = .ok (.istore_n 3, 1) := by decide +kernel
theorem dX6_shownAt_7 : decode cX6_shownAt 7 = .ok (.iload_n 3, 1) := by decide +kernel
theorem dX6_shownAt_8 : decode cX6_shownAt 8 = .ok (.ifCond .lt 19, 3) := by decide +kernel
theorem dX6_shownAt_11 : decode cX6_shownAt 11 = .ok (.aload_n 0, 1) := by decide +kernel
theorem dX6_shownAt_12 : decode cX6_shownAt 12 = .ok (.iload_n 3, 1) := by decide +kernel
theorem dX6_shownAt_13 : decode cX6_shownAt 13 = .ok (.iload_n 1, 1) := by decide +kernel
theorem dX6_shownAt_14 : decode cX6_shownAt 14 = .ok (.iload_n 2, 1) := by decide +kernel
theorem dX6_shownAt_15 : decode cX6_shownAt 15 = .ok (.invokevirtual 162, 3) := by decide +kernel
theorem dX6_shownAt_18 : decode cX6_shownAt 18 = .ok (.ifCond .ne 9, 3) := by decide +kernel
theorem dX6_shownAt_21 : decode cX6_shownAt 21 = .ok (.iinc 3 (-1), 3) := by decide +kernel
theorem dX6_shownAt_24 : decode cX6_shownAt 24 = .ok (.goto (-17), 3) := by decide +kernel
theorem dX6_shownAt_27 : decode cX6_shownAt 27 = .ok (.iload_n 3, 1) := by decide +kernel
theorem dX6_shownAt_28 : decode cX6_shownAt 28 = .ok (.ifCond .ge 8, 3) := by decide +kernel
theorem dX6_shownAt_31 : decode cX6_shownAt 31 = .ok (.bipush (-9), 2) := by decide +kernel
theorem dX6_shownAt_33 : decode cX6_shownAt 33 = .ok (.goto 4, 3) := by decide +kernel
theorem dX6_shownAt_36 : decode cX6_shownAt 36 = .ok (.iload_n 3, 1) := by decide +kernel
theorem dX6_shownAt_37 : decode cX6_shownAt 37 = .ok (.ireturn, 1) := by decide +kernel
theorem dX6_penAt_0 : decode cX6_penAt 0 = .ok (.aload_n 0, 1) := by decide +kernel
theorem dX6_penAt_1 : decode cX6_penAt 1 = .ok (.iload_n 1, 1) := by decide +kernel
theorem dX6_penAt_2 : decode cX6_penAt 2 = .ok (.iload_n 2, 1) := by decide +kernel
theorem dX6_penAt_3 : decode cX6_penAt 3 = .ok (.invokevirtual 165, 3) := by decide +kernel
theorem dX6_penAt_6 : decode cX6_penAt 6 = .ok (.istore_n 3, 1) := by decide +kernel
theorem dX6_penAt_7 : decode cX6_penAt 7 = .ok (.iload_n 3, 1) := by decide +kernel
theorem dX6_penAt_8 : decode cX6_penAt 8 = .ok (.bipush (-9), 2) := by decide +kernel
theorem dX6_penAt_10 : decode cX6_penAt 10 = .ok (.if_icmp .ne 8, 3) := by decide +kernel
theorem dX6_penAt_13 : decode cX6_penAt 13 = .ok (.bipush (-9), 2) := by decide +kernel
theorem dX6_penAt_15 : decode cX6_penAt 15 = .ok (.goto 14, 3) := by decide +kernel
theorem dX6_penAt_18 : decode cX6_penAt 18 = .ok (.aload_n 0, 1) := by decide +kernel
theorem dX6_penAt_19 : decode cX6_penAt 19 = .ok (.getfield 19, 3) := by decide +kernel
theorem dX6_penAt_22 : decode cX6_penAt 22 = .ok (.bipush 6, 2) := by decide +kernel
theorem dX6_penAt_24 : decode cX6_penAt 24 = .ok (.iload_n 3, 1) := by decide +kernel
theorem dX6_penAt_25 : decode cX6_penAt 25 = .ok (.imul, 1) := by decide +kernel
theorem dX6_penAt_26 : decode cX6_penAt 26 = .ok (.iconst 4, 1) := by decide +kernel
theorem dX6_penAt_27 : decode cX6_penAt 27 = .ok (.iadd, 1) := by decide +kernel
theorem dX6_penAt_28 : decode cX6_penAt 28 = .ok (.iaload, 1) := by decide +kernel
theorem dX6_penAt_29 : decode cX6_penAt 29 = .ok (.ireturn, 1) := by decide +kernel
theorem dX6_penShown_0 : decode cX6_penShown 0 = .ok (.iconst 0, 1) := by decide +kernel
theorem dX6_penShown_1 : decode cX6_penShown 1 = .ok (.istore_n 2, 1) := by decide +kernel
theorem dX6_penShown_2 : decode cX6_penShown 2 = .ok (.iconst 0, 1) := by decide +kernel
theorem dX6_penShown_3 : decode cX6_penShown 3 = .ok (.istore_n 3, 1) := by decide +kernel
theorem dX6_penShown_4 : decode cX6_penShown 4 = .ok (.iload_n 3, 1) := by decide +kernel
theorem dX6_penShown_5 : decode cX6_penShown 5 = .ok (.sipush 360, 3) := by decide +kernel
theorem dX6_penShown_8 : decode cX6_penShown 8 = .ok (.if_icmp .ge 44, 3) := by decide +kernel
theorem dX6_penShown_11 : decode cX6_penShown 11 = .ok (.iconst 1, 1) := by decide +kernel
theorem dX6_penShown_12 : decode cX6_penShown 12 = .ok (.istore 4, 2) := by decide +kernel
theorem dX6_penShown_14 : decode cX6_penShown 14 = .ok (.iload 4, 2) := by decide +kernel
theorem dX6_penShown_16 : decode cX6_penShown 16 = .ok (.bipush 9, 2) := by decide +kernel
theorem dX6_penShown_18 : decode cX6_penShown 18 = .ok (.if_icmp .gt 28, 3) := by decide +kernel
theorem dX6_penShown_21 : decode cX6_penShown 21 = .ok (.iload_n 2, 1) := by decide +kernel
theorem dX6_penShown_22 : decode cX6_penShown 22 = .ok (.aload_n 0, 1) := by decide +kernel
theorem dX6_penShown_23 : decode cX6_penShown 23 = .ok (.iload_n 3, 1) := by decide +kernel
theorem dX6_penShown_24 : decode cX6_penShown 24 = .ok (.iload 4, 2) := by decide +kernel
theorem dX6_penShown_26 : decode cX6_penShown 26 = .ok (.invokevirtual 168, 3) := by decide +kernel
theorem dX6_penShown_29 : decode cX6_penShown 29 = .ok (.iload_n 1, 1) := by decide +kernel
theorem dX6_penShown_30 : decode cX6_penShown 30 = .ok (.if_icmp .ne 7, 3) := by decide +kernel
theorem dX6_penShown_33 : decode cX6_penShown 33 = .ok (.iconst 1, 1) := by decide +kernel
theorem dX6_penShown_34 : decode cX6_penShown 34 = .ok (.goto 4, 3) := by decide +kernel
theorem dX6_penShown_37 : decode cX6_penShown 37 = .ok (.iconst 0, 1) := by decide +kernel
theorem dX6_penShown_38 : decode cX6_penShown 38 = .ok (.iadd, 1) := by decide +kernel
theorem dX6_penShown_39 : decode cX6_penShown 39 = .ok (.istore_n 2, 1) := by decide +kernel
theorem dX6_penShown_40 : decode cX6_penShown 40 = .ok (.iinc 4 1, 3) := by decide +kernel
theorem dX6_penShown_43 : decode cX6_penShown 43 = .ok (.goto (-29), 3) := by decide +kernel
theorem dX6_penShown_46 : decode cX6_penShown 46 = .ok (.iinc 3 1, 3) := by decide +kernel
theorem dX6_penShown_49 : decode cX6_penShown 49 = .ok (.goto (-45), 3) := by decide +kernel
theorem dX6_penShown_52 : decode cX6_penShown 52 = .ok (.iload_n 2, 1) := by decide +kernel
theorem dX6_penShown_53 : decode cX6_penShown 53 = .ok (.ireturn, 1) := by decide +kernel
theorem dX6_pen_0 : decode cX6_pen 0 = .ok (.aload_n 0, 1) := by decide +kernel
theorem dX6_pen_1 : decode cX6_pen 1 = .ok (.iload_n 1, 1) := by decide +kernel
theorem dX6_pen_2 : decode cX6_pen 2 = .ok (.invokevirtual 171, 3) := by decide +kernel
theorem dX6_pen_5 : decode cX6_pen 5 = .ok (.ifCond .eq 12, 3) := by decide +kernel
theorem dX6_pen_8 : decode cX6_pen 8 = .ok (.iload_n 2, 1) := by decide +kernel
theorem dX6_pen_9 : decode cX6_pen 9 = .ok (.iconst 0, 1) := by decide +kernel
theorem dX6_pen_10 : decode cX6_pen 10 = .ok (.iconst 1, 1) := by decide +kernel
theorem dX6_pen_11 : decode cX6_pen 11 = .ok (.invokestatic 62, 3) := by decide +kernel
theorem dX6_pen_14 : decode cX6_pen 14 = .ok (.ifCond .ne 5, 3) := by decide +kernel
theorem dX6_pen_17 : decode cX6_pen 17 = .ok (.iconst (-1), 1) := by decide +kernel
theorem dX6_pen_18 : decode cX6_pen 18 = .ok (.ireturn, 1) := by decide +kernel
theorem dX6_pen_19 : decode cX6_pen 19 = .ok (.iload_n 2, 1) := by decide +kernel
theorem dX6_pen_20 : decode cX6_pen 20 = .ok (.ifCond .ne 12, 3) := by decide +kernel
theorem dX6_pen_23 : decode cX6_pen 23 = .ok (.aload_n 0, 1) := by decide +kernel
theorem dX6_pen_24 : decode cX6_pen 24 = .ok (.getfield 16, 3) := by decide +kernel
theorem dX6_pen_27 : decode cX6_pen 27 = .ok (.iload_n 1, 1) := by decide +kernel
theorem dX6_pen_28 : decode cX6_pen 28 = .ok (.iaload, 1) := by decide +kernel
theorem dX6_pen_29 : decode cX6_pen 29 = .ok (.goto 8, 3) := by decide +kernel
theorem dX6_pen_32 : decode cX6_pen 32 = .ok (.aload_n 0, 1) := by decide +kernel
theorem dX6_pen_33 : decode cX6_pen 33 = .ok (.iload_n 1, 1) := by decide +kernel
theorem dX6_pen_34 : decode cX6_pen 34 = .ok (.invokevirtual 174, 3) := by decide +kernel
theorem dX6_pen_37 : decode cX6_pen 37 = .ok (.ireturn, 1) := by decide +kernel
theorem dX6_curveShown_0 : decode cX6_curveShown 0 = .ok (.iconst 0, 1) := by decide +kernel
theorem dX6_curveShown_1 : decode cX6_curveShown 1 = .ok (.istore_n 2, 1) := by decide +kernel
theorem dX6_curveShown_2 : decode cX6_curveShown 2 = .ok (.iconst 0, 1) := by decide +kernel
theorem dX6_curveShown_3 : decode cX6_curveShown 3 = .ok (.istore_n 3, 1) := by decide +kernel
theorem dX6_curveShown_4 : decode cX6_curveShown 4 = .ok (.iload_n 3, 1) := by decide +kernel
theorem dX6_curveShown_5 : decode cX6_curveShown 5 = .ok (.sipush 360, 3) := by decide +kernel
theorem dX6_curveShown_8 : decode cX6_curveShown 8 = .ok (.if_icmp .ge 37, 3) := by decide +kernel
theorem dX6_curveShown_11 : decode cX6_curveShown 11 = .ok (.iload_n 2, 1) := by decide +kernel
theorem dX6_curveShown_12 : decode cX6_curveShown 12 = .ok (.aload_n 0, 1) := by decide +kernel
theorem dX6_curveShown_13 : decode cX6_curveShown 13 = .ok (.iload_n 3, 1) := by decide +kernel
theorem dX6_curveShown_14 : decode cX6_curveShown 14 = .ok (.aload_n 0, 1) := by decide +kernel
theorem dX6_curveShown_15 : decode cX6_curveShown 15 = .ok (.getfield 19, 3) := by decide +kernel
theorem dX6_curveShown_18 : decode cX6_curveShown 18 = .ok (.bipush 6, 2) := by decide +kernel
theorem dX6_curveShown_20 : decode cX6_curveShown 20 = .ok (.iload_n 1, 1) := by decide +kernel
theorem dX6_curveShown_21 : decode cX6_curveShown 21 = .ok (.imul, 1) := by decide +kernel
theorem dX6_curveShown_22 : decode cX6_curveShown 22 = .ok (.iconst 2, 1) := by decide +kernel
theorem dX6_curveShown_23 : decode cX6_curveShown 23 = .ok (.iadd, 1) := by decide +kernel
theorem dX6_curveShown_24 : decode cX6_curveShown 24 = .ok (.iaload, 1) := by decide +kernel
theorem dX6_curveShown_25 : decode cX6_curveShown 25 = .ok (.invokevirtual 165, 3) := by decide +kernel
theorem dX6_curveShown_28 : decode cX6_curveShown 28 = .ok (.iload_n 1, 1) := by decide +kernel
theorem dX6_curveShown_29 : decode cX6_curveShown 29 = .ok (.if_icmp .ne 7, 3) := by decide +kernel
theorem dX6_curveShown_32 : decode cX6_curveShown 32 = .ok (.iconst 1, 1) := by decide +kernel
theorem dX6_curveShown_33 : decode cX6_curveShown 33 = .ok (.goto 4, 3) := by decide +kernel
theorem dX6_curveShown_36 : decode cX6_curveShown 36 = .ok (.iconst 0, 1) := by decide +kernel
theorem dX6_curveShown_37 : decode cX6_curveShown 37 = .ok (.iadd, 1) := by decide +kernel
theorem dX6_curveShown_38 : decode cX6_curveShown 38 = .ok (.istore_n 2, 1) := by decide +kernel
theorem dX6_curveShown_39 : decode cX6_curveShown 39 = .ok (.iinc 3 1, 3) := by decide +kernel
theorem dX6_curveShown_42 : decode cX6_curveShown 42 = .ok (.goto (-38), 3) := by decide +kernel
theorem dX6_curveShown_45 : decode cX6_curveShown 45 = .ok (.iload_n 2, 1) := by decide +kernel
theorem dX6_curveShown_46 : decode cX6_curveShown 46 = .ok (.ireturn, 1) := by decide +kernel
theorem dX6_curve_0 : decode cX6_curve 0 = .ok (.aload_n 0, 1) := by decide +kernel
theorem dX6_curve_1 : decode cX6_curve 1 = .ok (.iload_n 1, 1) := by decide +kernel
theorem dX6_curve_2 : decode cX6_curve 2 = .ok (.invokevirtual 178, 3) := by decide +kernel
theorem dX6_curve_5 : decode cX6_curve 5 = .ok (.ifCond .eq 13, 3) := by decide +kernel
theorem dX6_curve_8 : decode cX6_curve 8 = .ok (.iload_n 2, 1) := by decide +kernel
theorem dX6_curve_9 : decode cX6_curve 9 = .ok (.iconst 0, 1) := by decide +kernel
theorem dX6_curve_10 : decode cX6_curve 10 = .ok (.bipush 6, 2) := by decide +kernel
theorem dX6_curve_12 : decode cX6_curve 12 = .ok (.invokestatic 62, 3) := by decide +kernel
theorem dX6_curve_15 : decode cX6_curve 15 = .ok (.ifCond .ne 5, 3) := by decide +kernel
theorem dX6_curve_18 : decode cX6_curve 18 = .ok (.iconst (-1), 1) := by decide +kernel
theorem dX6_curve_19 : decode cX6_curve 19 = .ok (.ireturn, 1) := by decide +kernel
theorem dX6_curve_20 : decode cX6_curve 20 = .ok (.iload_n 2, 1) := by decide +kernel
theorem dX6_curve_21 : decode cX6_curve 21 = .ok (.bipush 6, 2) := by decide +kernel
theorem dX6_curve_23 : decode cX6_curve 23 = .ok (.if_icmp .ge 17, 3) := by decide +kernel
theorem dX6_curve_26 : decode cX6_curve 26 = .ok (.aload_n 0, 1) := by decide +kernel
theorem dX6_curve_27 : decode cX6_curve 27 = .ok (.getfield 19, 3) := by decide +kernel
theorem dX6_curve_30 : decode cX6_curve 30 = .ok (.bipush 6, 2) := by decide +kernel
theorem dX6_curve_32 : decode cX6_curve 32 = .ok (.iload_n 1, 1) := by decide +kernel
theorem dX6_curve_33 : decode cX6_curve 33 = .ok (.imul, 1) := by decide +kernel
theorem dX6_curve_34 : decode cX6_curve 34 = .ok (.iload_n 2, 1) := by decide +kernel
theorem dX6_curve_35 : decode cX6_curve 35 = .ok (.iadd, 1) := by decide +kernel
theorem dX6_curve_36 : decode cX6_curve 36 = .ok (.iaload, 1) := by decide +kernel
theorem dX6_curve_37 : decode cX6_curve 37 = .ok (.goto 8, 3) := by decide +kernel
theorem dX6_curve_40 : decode cX6_curve 40 = .ok (.aload_n 0, 1) := by decide +kernel
theorem dX6_curve_41 : decode cX6_curve 41 = .ok (.iload_n 1, 1) := by decide +kernel
theorem dX6_curve_42 : decode cX6_curve 42 = .ok (.invokevirtual 181, 3) := by decide +kernel
theorem dX6_curve_45 : decode cX6_curve 45 = .ok (.ireturn, 1) := by decide +kernel
theorem dX6_lays_0 : decode cX6_lays 0 = .ok (.aload_n 1, 1) := by decide +kernel
theorem dX6_lays_1 : decode cX6_lays 1 = .ok (.iload_n 2, 1) := by decide +kernel
theorem dX6_lays_2 : decode cX6_lays 2 = .ok (.aload_n 0, 1) := by decide +kernel
theorem dX6_lays_3 : decode cX6_lays 3 = .ok (.getfield 120, 3) := by decide +kernel
theorem dX6_lays_6 : decode cX6_lays 6 = .ok (.iastore, 1) := by decide +kernel
theorem dX6_lays_7 : decode cX6_lays 7 = .ok (.aload_n 1, 1) := by decide +kernel
theorem dX6_lays_8 : decode cX6_lays 8 = .ok (.iload_n 2, 1) := by decide +kernel
theorem dX6_lays_9 : decode cX6_lays 9 = .ok (.iconst 1, 1) := by decide +kernel
theorem dX6_lays_10 : decode cX6_lays 10 = .ok (.iadd, 1) := by decide +kernel
theorem dX6_lays_11 : decode cX6_lays 11 = .ok (.aload_n 0, 1) := by decide +kernel
theorem dX6_lays_12 : decode cX6_lays 12 = .ok (.getfield 72, 3) := by decide +kernel
theorem dX6_lays_15 : decode cX6_lays 15 = .ok (.iastore, 1) := by decide +kernel
theorem dX6_lays_16 : decode cX6_lays 16 = .ok (.iconst 0, 1) := by decide +kernel
theorem dX6_lays_17 : decode cX6_lays 17 = .ok (.istore_n 3, 1) := by decide +kernel
theorem dX6_lays_18 : decode cX6_lays 18 = .ok (.iload_n 3, 1) := by decide +kernel
theorem dX6_lays_19 : decode cX6_lays 19 = .ok (.iconst 4, 1) := by decide +kernel
theorem dX6_lays_20 : decode cX6_lays 20 = .ok (.if_icmp .ge 22, 3) := by decide +kernel
theorem dX6_lays_23 : decode cX6_lays 23 = .ok (.aload_n 1, 1) := by decide +kernel
theorem dX6_lays_24 : decode cX6_lays 24 = .ok (.iload_n 2, 1) := by decide +kernel
theorem dX6_lays_25 : decode cX6_lays 25 = .ok (.iconst 2, 1) := by decide +kernel
theorem dX6_lays_26 : decode cX6_lays 26 = .ok (.iadd, 1) := by decide +kernel
theorem dX6_lays_27 : decode cX6_lays 27 = .ok (.iload_n 3, 1) := by decide +kernel
theorem dX6_lays_28 : decode cX6_lays 28 = .ok (.iadd, 1) := by decide +kernel
theorem dX6_lays_29 : decode cX6_lays 29 = .ok (.aload_n 0, 1) := by decide +kernel
theorem dX6_lays_30 : decode cX6_lays 30 = .ok (.getfield 16, 3) := by decide +kernel
theorem dX6_lays_33 : decode cX6_lays 33 = .ok (.iload_n 3, 1) := by decide +kernel
theorem dX6_lays_34 : decode cX6_lays 34 = .ok (.iaload, 1) := by decide +kernel
theorem dX6_lays_35 : decode cX6_lays 35 = .ok (.iastore, 1) := by decide +kernel
theorem dX6_lays_36 : decode cX6_lays 36 = .ok (.iinc 3 1, 3) := by decide +kernel
theorem dX6_lays_39 : decode cX6_lays 39 = .ok (.goto (-21), 3) := by decide +kernel
theorem dX6_lays_42 : decode cX6_lays 42 = .ok (.iconst 0, 1) := by decide +kernel
theorem dX6_lays_43 : decode cX6_lays 43 = .ok (.istore_n 3, 1) := by decide +kernel
theorem dX6_lays_44 : decode cX6_lays 44 = .ok (.iload_n 3, 1) := by decide +kernel
theorem dX6_lays_45 : decode cX6_lays 45 = .ok (.bipush 72, 2) := by decide +kernel
theorem dX6_lays_47 : decode cX6_lays 47 = .ok (.if_icmp .ge 23, 3) := by decide +kernel
theorem dX6_lays_50 : decode cX6_lays 50 = .ok (.aload_n 1, 1) := by decide +kernel
theorem dX6_lays_51 : decode cX6_lays 51 = .ok (.iload_n 2, 1) := by decide +kernel
theorem dX6_lays_52 : decode cX6_lays 52 = .ok (.bipush 6, 2) := by decide +kernel
theorem dX6_lays_54 : decode cX6_lays 54 = .ok (.iadd, 1) := by decide +kernel
theorem dX6_lays_55 : decode cX6_lays 55 = .ok (.iload_n 3, 1) := by decide +kernel
theorem dX6_lays_56 : decode cX6_lays 56 = .ok (.iadd, 1) := by decide +kernel
theorem dX6_lays_57 : decode cX6_lays 57 = .ok (.aload_n 0, 1) := by decide +kernel
theorem dX6_lays_58 : decode cX6_lays 58 = .ok (.getfield 19, 3) := by decide +kernel
theorem dX6_lays_61 : decode cX6_lays 61 = .ok (.iload_n 3, 1) := by decide +kernel
theorem dX6_lays_62 : decode cX6_lays 62 = .ok (.iaload, 1) := by decide +kernel
theorem dX6_lays_63 : decode cX6_lays 63 = .ok (.iastore, 1) := by decide +kernel
theorem dX6_lays_64 : decode cX6_lays 64 = .ok (.iinc 3 1, 3) := by decide +kernel
theorem dX6_lays_67 : decode cX6_lays 67 = .ok (.goto (-23), 3) := by decide +kernel
theorem dX6_lays_70 : decode cX6_lays 70 = .ok (.return_, 1) := by decide +kernel
theorem dX6_takes_0 : decode cX6_takes 0 = .ok (.aload_n 0, 1) := by decide +kernel
theorem dX6_takes_1 : decode cX6_takes 1 = .ok (.aload_n 1, 1) := by decide +kernel
theorem dX6_takes_2 : decode cX6_takes 2 = .ok (.iload_n 2, 1) := by decide +kernel
theorem dX6_takes_3 : decode cX6_takes 3 = .ok (.iaload, 1) := by decide +kernel
theorem dX6_takes_4 : decode cX6_takes 4 = .ok (.putfield 120, 3) := by decide +kernel
theorem dX6_takes_7 : decode cX6_takes 7 = .ok (.aload_n 0, 1) := by decide +kernel
theorem dX6_takes_8 : decode cX6_takes 8 = .ok (.aload_n 1, 1) := by decide +kernel
theorem dX6_takes_9 : decode cX6_takes 9 = .ok (.iload_n 2, 1) := by decide +kernel
theorem dX6_takes_10 : decode cX6_takes 10 = .ok (.iconst 1, 1) := by decide +kernel
theorem dX6_takes_11 : decode cX6_takes 11 = .ok (.iadd, 1) := by decide +kernel
theorem dX6_takes_12 : decode cX6_takes 12 = .ok (.iaload, 1) := by decide +kernel
theorem dX6_takes_13 : decode cX6_takes 13 = .ok (.putfield 72, 3) := by decide +kernel
theorem dX6_takes_16 : decode cX6_takes 16 = .ok (.iconst 0, 1) := by decide +kernel
theorem dX6_takes_17 : decode cX6_takes 17 = .ok (.istore_n 3, 1) := by decide +kernel
theorem dX6_takes_18 : decode cX6_takes 18 = .ok (.iload_n 3, 1) := by decide +kernel
theorem dX6_takes_19 : decode cX6_takes 19 = .ok (.iconst 4, 1) := by decide +kernel
theorem dX6_takes_20 : decode cX6_takes 20 = .ok (.if_icmp .ge 22, 3) := by decide +kernel
theorem dX6_takes_23 : decode cX6_takes 23 = .ok (.aload_n 0, 1) := by decide +kernel
theorem dX6_takes_24 : decode cX6_takes 24 = .ok (.getfield 16, 3) := by decide +kernel
theorem dX6_takes_27 : decode cX6_takes 27 = .ok (.iload_n 3, 1) := by decide +kernel
theorem dX6_takes_28 : decode cX6_takes 28 = .ok (.aload_n 1, 1) := by decide +kernel
theorem dX6_takes_29 : decode cX6_takes 29 = .ok (.iload_n 2, 1) := by decide +kernel
theorem dX6_takes_30 : decode cX6_takes 30 = .ok (.iconst 2, 1) := by decide +kernel
theorem dX6_takes_31 : decode cX6_takes 31 = .ok (.iadd, 1) := by decide +kernel
theorem dX6_takes_32 : decode cX6_takes 32 = .ok (.iload_n 3, 1) := by decide +kernel
theorem dX6_takes_33 : decode cX6_takes 33 = .ok (.iadd, 1) := by decide +kernel
theorem dX6_takes_34 : decode cX6_takes 34 = .ok (.iaload, 1) := by decide +kernel
theorem dX6_takes_35 : decode cX6_takes 35 = .ok (.iastore, 1) := by decide +kernel
theorem dX6_takes_36 : decode cX6_takes 36 = .ok (.iinc 3 1, 3) := by decide +kernel
theorem dX6_takes_39 : decode cX6_takes 39 = .ok (.goto (-21), 3) := by decide +kernel
theorem dX6_takes_42 : decode cX6_takes 42 = .ok (.iconst 0, 1) := by decide +kernel
theorem dX6_takes_43 : decode cX6_takes 43 = .ok (.istore_n 3, 1) := by decide +kernel
theorem dX6_takes_44 : decode cX6_takes 44 = .ok (.iload_n 3, 1) := by decide +kernel
theorem dX6_takes_45 : decode cX6_takes 45 = .ok (.bipush 72, 2) := by decide +kernel
theorem dX6_takes_47 : decode cX6_takes 47 = .ok (.if_icmp .ge 23, 3) := by decide +kernel
theorem dX6_takes_50 : decode cX6_takes 50 = .ok (.aload_n 0, 1) := by decide +kernel
theorem dX6_takes_51 : decode cX6_takes 51 = .ok (.getfield 19, 3) := by decide +kernel
theorem dX6_takes_54 : decode cX6_takes 54 = .ok (.iload_n 3, 1) := by decide +kernel
theorem dX6_takes_55 : decode cX6_takes 55 = .ok (.aload_n 1, 1) := by decide +kernel
theorem dX6_takes_56 : decode cX6_takes 56 = .ok (.iload_n 2, 1) := by decide +kernel
theorem dX6_takes_57 : decode cX6_takes 57 = .ok (.bipush 6, 2) := by decide +kernel
theorem dX6_takes_59 : decode cX6_takes 59 = .ok (.iadd, 1) := by decide +kernel
theorem dX6_takes_60 : decode cX6_takes 60 = .ok (.iload_n 3, 1) := by decide +kernel
theorem dX6_takes_61 : decode cX6_takes 61 = .ok (.iadd, 1) := by decide +kernel
theorem dX6_takes_62 : decode cX6_takes 62 = .ok (.iaload, 1) := by decide +kernel
theorem dX6_takes_63 : decode cX6_takes 63 = .ok (.iastore, 1) := by decide +kernel
theorem dX6_takes_64 : decode cX6_takes 64 = .ok (.iinc 3 1, 3) := by decide +kernel
theorem dX6_takes_67 : decode cX6_takes 67 = .ok (.goto (-23), 3) := by decide +kernel
theorem dX6_takes_70 : decode cX6_takes 70 = .ok (.return_, 1) := by decide +kernel
theorem dX6_notes_0 : decode cX6_notes 0 = .ok (.aload_n 0, 1) := by decide +kernel
theorem dX6_notes_1 : decode cX6_notes 1 = .ok (.getfield 126, 3) := by decide +kernel
theorem dX6_notes_4 : decode cX6_notes 4 = .ok (.bipush 10, 2) := by decide +kernel
theorem dX6_notes_6 : decode cX6_notes 6 = .ok (.if_icmp .ne 43, 3) := by decide +kernel
theorem dX6_notes_9 : decode cX6_notes 9 = .ok (.iconst 0, 1) := by decide +kernel
theorem dX6_notes_10 : decode cX6_notes 10 = .ok (.istore_n 1, 1) := by decide +kernel
theorem dX6_notes_11 : decode cX6_notes 11 = .ok (.iload_n 1, 1) := by decide +kernel
theorem dX6_notes_12 : decode cX6_notes 12 = .ok (.sipush 702, 3) := by decide +kernel
theorem dX6_notes_15 : decode cX6_notes 15 = .ok (.if_icmp .ge 24, 3) := by decide +kernel
theorem dX6_notes_18 : decode cX6_notes 18 = .ok (.aload_n 0, 1) := by decide +kernel
theorem dX6_notes_19 : decode cX6_notes 19 = .ok (.getfield 40, 3) := by decide +kernel
theorem dX6_notes_22 : decode cX6_notes 22 = .ok (.iload_n 1, 1) := by decide +kernel
theorem dX6_notes_23 : decode cX6_notes 23 = .ok (.aload_n 0, 1) := by decide +kernel
theorem dX6_notes_24 : decode cX6_notes 24 = .ok (.getfield 40, 3) := by decide +kernel
theorem dX6_notes_27 : decode cX6_notes 27 = .ok (.iload_n 1, 1) := by decide +kernel
theorem dX6_notes_28 : decode cX6_notes 28 = .ok (.bipush 78, 2) := by decide +kernel
theorem dX6_notes_30 : decode cX6_notes 30 = .ok (.iadd, 1) := by decide +kernel
theorem dX6_notes_31 : decode cX6_notes 31 = .ok (.iaload, 1) := by decide +kernel
theorem dX6_notes_32 : decode cX6_notes 32 = .ok (.iastore, 1) := by decide +kernel
theorem dX6_notes_33 : decode cX6_notes 33 = .ok (.iinc 1 1, 3) := by decide +kernel
theorem dX6_notes_36 : decode cX6_notes 36 = .ok (.goto (-25), 3) := by decide +kernel
theorem dX6_notes_39 : decode cX6_notes 39 = .ok (.aload_n 0, 1) := by decide +kernel
theorem dX6_notes_40 : decode cX6_notes 40 = .ok (.dup, 1) := by decide +kernel
theorem dX6_notes_41 : decode cX6_notes 41 = .ok (.getfield 126, 3) := by decide +kernel
theorem dX6_notes_44 : decode cX6_notes 44 = .ok (.iconst 1, 1) := by decide +kernel
theorem dX6_notes_45 : decode cX6_notes 45 = .ok (.isub, 1) := by decide +kernel
theorem dX6_notes_46 : decode cX6_notes 46 = .ok (.putfield 126, 3) := by decide +kernel
theorem dX6_notes_49 : decode cX6_notes 49 = .ok (.aload_n 0, 1) := by decide +kernel
theorem dX6_notes_50 : decode cX6_notes 50 = .ok (.aload_n 0, 1) := by decide +kernel
theorem dX6_notes_51 : decode cX6_notes 51 = .ok (.getfield 40, 3) := by decide +kernel
theorem dX6_notes_54 : decode cX6_notes 54 = .ok (.bipush 78, 2) := by decide +kernel
theorem dX6_notes_56 : decode cX6_notes 56 = .ok (.aload_n 0, 1) := by decide +kernel
theorem dX6_notes_57 : decode cX6_notes 57 = .ok (.getfield 126, 3) := by decide +kernel
theorem dX6_notes_60 : decode cX6_notes 60 = .ok (.imul, 1) := by decide +kernel
theorem dX6_notes_61 : decode cX6_notes 61 = .ok (.invokevirtual 184, 3) := by decide +kernel
theorem dX6_notes_64 : decode cX6_notes 64 = .ok (.aload_n 0, 1) := by decide +kernel
theorem dX6_notes_65 : decode cX6_notes 65 = .ok (.dup, 1) := by decide +kernel
theorem dX6_notes_66 : decode cX6_notes 66 = .ok (.getfield 126, 3) := by decide +kernel
theorem dX6_notes_69 : decode cX6_notes 69 = .ok (.iconst 1, 1) := by decide +kernel
theorem dX6_notes_70 : decode cX6_notes 70 = .ok (.iadd, 1) := by decide +kernel
theorem dX6_notes_71 : decode cX6_notes 71 = .ok (.putfield 126, 3) := by decide +kernel
theorem dX6_notes_74 : decode cX6_notes 74 = .ok (.return_, 1) := by decide +kernel
theorem dX6_draws_0 : decode cX6_draws 0 = .ok (.aload_n 0, 1) := by decide +kernel
theorem dX6_draws_1 : decode cX6_draws 1 = .ok (.iload_n 1, 1) := by decide +kernel
theorem dX6_draws_2 : decode cX6_draws 2 = .ok (.invokevirtual 139, 3) := by decide +kernel
theorem dX6_draws_5 : decode cX6_draws 5 = .ok (.ifCond .eq 47, 3) := by decide +kernel
theorem dX6_draws_8 : decode cX6_draws 8 = .ok (.aload_n 0, 1) := by decide +kernel
theorem dX6_draws_9 : decode cX6_draws 9 = .ok (.iload_n 2, 1) := by decide +kernel
theorem dX6_draws_10 : decode cX6_draws 10 = .ok (.invokevirtual 143, 3) := by decide +kernel
theorem dX6_draws_13 : decode cX6_draws 13 = .ok (.ifCond .eq 39, 3) := by decide +kernel
theorem dX6_draws_16 : decode cX6_draws 16 = .ok (.iload_n 3, 1) := by decide +kernel
theorem dX6_draws_17 : decode cX6_draws 17 = .ok (.iconst 1, 1) := by decide +kernel
theorem dX6_draws_18 : decode cX6_draws 18 = .ok (.bipush 9, 2) := by decide +kernel
theorem dX6_draws_20 : decode cX6_draws 20 = .ok (.invokestatic 62, 3) := by decide +kernel
theorem dX6_draws_23 : decode cX6_draws 23 = .ok (.ifCond .eq 29, 3) := by decide +kernel
theorem dX6_draws_26 : decode cX6_draws 26 = .ok (.iload 4, 2) := by decide +kernel
theorem dX6_draws_28 : decode cX6_draws 28 = .ok (.iconst 0, 1) := by decide +kernel
theorem dX6_draws_29 : decode cX6_draws 29 = .ok (.aload_n 0, 1) := by decide +kernel
theorem dX6_draws_30 : decode cX6_draws 30 = .ok (.getfield 7, 3) := by decide +kernel
theorem dX6_draws_33 : decode cX6_draws 33 = .ok (.iload_n 1, 1) := by decide +kernel
theorem dX6_draws_34 : decode cX6_draws 34 = .ok (.iaload, 1) := by decide +kernel
theorem dX6_draws_35 : decode cX6_draws 35 = .ok (.iconst 1, 1) := by decide +kernel
theorem dX6_draws_36 : decode cX6_draws 36 = .ok (.isub, 1) := by decide +kernel
theorem dX6_draws_37 : decode cX6_draws 37 = .ok (.invokestatic 62, 3) := by decide +kernel
theorem dX6_draws_40 : decode cX6_draws 40 = .ok (.ifCond .eq 12, 3) := by decide +kernel
theorem dX6_draws_43 : decode cX6_draws 43 = .ok (.aload_n 0, 1) := by decide +kernel
theorem dX6_draws_44 : decode cX6_draws 44 = .ok (.iload 5, 2) := by decide +kernel
theorem dX6_draws_46 : decode cX6_draws 46 = .ok (.invokevirtual 171, 3) := by decide +kernel
theorem dX6_draws_49 : decode cX6_draws 49 = .ok (.ifCond .ne 5, 3) := by decide +kernel
theorem dX6_draws_52 : decode cX6_draws 52 = .ok (.iconst (-1), 1) := by decide +kernel
theorem dX6_draws_53 : decode cX6_draws 53 = .ok (.ireturn, 1) := by decide +kernel
theorem dX6_draws_54 : decode cX6_draws 54 = .ok (.aload_n 0, 1) := by decide +kernel
theorem dX6_draws_55 : decode cX6_draws 55 = .ok (.iload_n 1, 1) := by decide +kernel
theorem dX6_draws_56 : decode cX6_draws 56 = .ok (.iload_n 2, 1) := by decide +kernel
theorem dX6_draws_57 : decode cX6_draws 57 = .ok (.invokevirtual 146, 3) := by decide +kernel
theorem dX6_draws_60 : decode cX6_draws 60 = .ok (.ifCond .eq 19, 3) := by decide +kernel
theorem dX6_draws_63 : decode cX6_draws 63 = .ok (.aload_n 0, 1) := by decide +kernel
theorem dX6_draws_64 : decode cX6_draws 64 = .ok (.iload_n 1, 1) := by decide +kernel
theorem dX6_draws_65 : decode cX6_draws 65 = .ok (.iload_n 2, 1) := by decide +kernel
theorem dX6_draws_66 : decode cX6_draws 66 = .ok (.invokevirtual 152, 3) := by decide +kernel
theorem dX6_draws_69 : decode cX6_draws 69 = .ok (.aload_n 0, 1) := by decide +kernel
theorem dX6_draws_70 : decode cX6_draws 70 = .ok (.getfield 16, 3) := by decide +kernel
theorem dX6_draws_73 : decode cX6_draws 73 = .ok (.iload 5, 2) := by decide +kernel
theorem dX6_draws_75 : decode cX6_draws 75 = .ok (.iaload, 1) := by decide +kernel
theorem dX6_draws_76 : decode cX6_draws 76 = .ok (.if_icmp .le 6, 3) := by decide +kernel
theorem dX6_draws_79 : decode cX6_draws 79 = .ok (.bipush (-2), 2) := by decide +kernel
theorem dX6_draws_81 : decode cX6_draws 81 = .ok (.ireturn, 1) := by decide +kernel
theorem dX6_draws_82 : decode cX6_draws 82 = .ok (.aload_n 0, 1) := by decide +kernel
theorem dX6_draws_83 : decode cX6_draws 83 = .ok (.getfield 72, 3) := by decide +kernel
theorem dX6_draws_86 : decode cX6_draws 86 = .ok (.bipush 12, 2) := by decide +kernel
theorem dX6_draws_88 : decode cX6_draws 88 = .ok (.if_icmp .ne 6, 3) := by decide +kernel
theorem dX6_draws_91 : decode cX6_draws 91 = .ok (.bipush (-3), 2) := by decide +kernel
theorem dX6_draws_93 : decode cX6_draws 93 = .ok (.ireturn, 1) := by decide +kernel
theorem dX6_draws_94 : decode cX6_draws 94 = .ok (.aload_n 0, 1) := by decide +kernel
theorem dX6_draws_95 : decode cX6_draws 95 = .ok (.invokevirtual 188, 3) := by decide +kernel
theorem dX6_draws_98 : decode cX6_draws 98 = .ok (.bipush 6, 2) := by decide +kernel
theorem dX6_draws_100 : decode cX6_draws 100 = .ok (.aload_n 0, 1) := by decide +kernel
theorem dX6_draws_101 : decode cX6_draws 101 = .ok (.getfield 72, 3) := by decide +kernel
theorem dX6_draws_104 : decode cX6_draws 104 = .ok (.imul, 1) := by decide +kernel
theorem dX6_draws_105 : decode cX6_draws 105 = .ok (.istore 6, 2) := by decide +kernel
theorem dX6_draws_107 : decode cX6_draws 107 = .ok (.aload_n 0, 1) := by decide +kernel
theorem dX6_draws_108 : decode cX6_draws 108 = .ok (.getfield 19, 3) := by decide +kernel
theorem dX6_draws_111 : decode cX6_draws 111 = .ok (.iload 6, 2) := by decide +kernel
theorem dX6_draws_113 : decode cX6_draws 113 = .ok (.iload_n 1, 1) := by decide +kernel
theorem dX6_draws_114 : decode cX6_draws 114 = .ok (.iastore, 1) := by decide +kernel
theorem dX6_draws_115 : decode cX6_draws 115 = .ok (.aload_n 0, 1) := by decide +kernel
theorem dX6_draws_116 : decode cX6_draws 116 = .ok (.getfield 19, 3) := by decide +kernel
theorem dX6_draws_119 : decode cX6_draws 119 = .ok (.iload 6, 2) := by decide +kernel
theorem dX6_draws_121 : decode cX6_draws 121 = .ok (.iconst 1, 1) := by decide +kernel
theorem dX6_draws_122 : decode cX6_draws 122 = .ok (.iadd, 1) := by decide +kernel
theorem dX6_draws_123 : decode cX6_draws 123 = .ok (.iload_n 2, 1) := by decide +kernel
theorem dX6_draws_124 : decode cX6_draws 124 = .ok (.iastore, 1) := by decide +kernel
theorem dX6_draws_125 : decode cX6_draws 125 = .ok (.aload_n 0, 1) := by decide +kernel
theorem dX6_draws_126 : decode cX6_draws 126 = .ok (.getfield 19, 3) := by decide +kernel
theorem dX6_draws_129 : decode cX6_draws 129 = .ok (.iload 6, 2) := by decide +kernel
theorem dX6_draws_131 : decode cX6_draws 131 = .ok (.iconst 2, 1) := by decide +kernel
theorem dX6_draws_132 : decode cX6_draws 132 = .ok (.iadd, 1) := by decide +kernel
theorem dX6_draws_133 : decode cX6_draws 133 = .ok (.iload_n 3, 1) := by decide +kernel
theorem dX6_draws_134 : decode cX6_draws 134 = .ok (.iastore, 1) := by decide +kernel
theorem dX6_draws_135 : decode cX6_draws 135 = .ok (.aload_n 0, 1) := by decide +kernel
theorem dX6_draws_136 : decode cX6_draws 136 = .ok (.getfield 19, 3) := by decide +kernel
theorem dX6_draws_139 : decode cX6_draws 139 = .ok (.iload 6, 2) := by decide +kernel
theorem dX6_draws_141 : decode cX6_draws 141 = .ok (.iconst 3, 1) := by decide +kernel
theorem dX6_draws_142 : decode cX6_draws 142 = .ok (.iadd, 1) := by decide +kernel
theorem dX6_draws_143 : decode cX6_draws 143 = .ok (.iload 4, 2) := by decide +kernel
theorem dX6_draws_145 : decode cX6_draws 145 = .ok (.iastore, 1) := by decide +kernel
theorem dX6_draws_146 : decode cX6_draws 146 = .ok (.aload_n 0, 1) := by decide +kernel
theorem dX6_draws_147 : decode cX6_draws 147 = .ok (.getfield 19, 3) := by decide +kernel
theorem dX6_draws_150 : decode cX6_draws 150 = .ok (.iload 6, 2) := by decide +kernel
theorem dX6_draws_152 : decode cX6_draws 152 = .ok (.iconst 4, 1) := by decide +kernel
theorem dX6_draws_153 : decode cX6_draws 153 = .ok (.iadd, 1) := by decide +kernel
theorem dX6_draws_154 : decode cX6_draws 154 = .ok (.iload 5, 2) := by decide +kernel
theorem dX6_draws_156 : decode cX6_draws 156 = .ok (.iastore, 1) := by decide +kernel
theorem dX6_draws_157 : decode cX6_draws 157 = .ok (.aload_n 0, 1) := by decide +kernel
theorem dX6_draws_158 : decode cX6_draws 158 = .ok (.getfield 19, 3) := by decide +kernel
theorem dX6_draws_161 : decode cX6_draws 161 = .ok (.iload 6, 2) := by decide +kernel
theorem dX6_draws_163 : decode cX6_draws 163 = .ok (.iconst 5, 1) := by decide +kernel
theorem dX6_draws_164 : decode cX6_draws 164 = .ok (.iadd, 1) := by decide +kernel
theorem dX6_draws_165 : decode cX6_draws 165 = .ok (.aload_n 0, 1) := by decide +kernel
theorem dX6_draws_166 : decode cX6_draws 166 = .ok (.getfield 120, 3) := by decide +kernel
theorem dX6_draws_169 : decode cX6_draws 169 = .ok (.iastore, 1) := by decide +kernel
theorem dX6_draws_170 : decode cX6_draws 170 = .ok (.aload_n 0, 1) := by decide +kernel
theorem dX6_draws_171 : decode cX6_draws 171 = .ok (.getfield 16, 3) := by decide +kernel
theorem dX6_draws_174 : decode cX6_draws 174 = .ok (.iload 5, 2) := by decide +kernel
theorem dX6_draws_176 : decode cX6_draws 176 = .ok (.dup2, 1) := by decide +kernel
theorem dX6_draws_177 : decode cX6_draws 177 = .ok (.iaload, 1) := by decide +kernel
theorem dX6_draws_178 : decode cX6_draws 178 = .ok (.aload_n 0, 1) := by decide +kernel
theorem dX6_draws_179 : decode cX6_draws 179 = .ok (.iload_n 1, 1) := by decide +kernel
theorem dX6_draws_180 : decode cX6_draws 180 = .ok (.iload_n 2, 1) := by decide +kernel
theorem dX6_draws_181 : decode cX6_draws 181 = .ok (.invokevirtual 152, 3) := by decide +kernel
theorem dX6_draws_184 : decode cX6_draws 184 = .ok (.isub, 1) := by decide +kernel
theorem dX6_draws_185 : decode cX6_draws 185 = .ok (.iastore, 1) := by decide +kernel
theorem dX6_draws_186 : decode cX6_draws 186 = .ok (.aload_n 0, 1) := by decide +kernel
theorem dX6_draws_187 : decode cX6_draws 187 = .ok (.dup, 1) := by decide +kernel
theorem dX6_draws_188 : decode cX6_draws 188 = .ok (.getfield 72, 3) := by decide +kernel
theorem dX6_draws_191 : decode cX6_draws 191 = .ok (.iconst 1, 1) := by decide +kernel
theorem dX6_draws_192 : decode cX6_draws 192 = .ok (.iadd, 1) := by decide +kernel
theorem dX6_draws_193 : decode cX6_draws 193 = .ok (.putfield 72, 3) := by decide +kernel
theorem dX6_draws_196 : decode cX6_draws 196 = .ok (.aload_n 0, 1) := by decide +kernel
theorem dX6_draws_197 : decode cX6_draws 197 = .ok (.getfield 72, 3) := by decide +kernel
theorem dX6_draws_200 : decode cX6_draws 200 = .ok (.iconst 1, 1) := by decide +kernel
theorem dX6_draws_201 : decode cX6_draws 201 = .ok (.isub, 1) := by decide +kernel
theorem dX6_draws_202 : decode cX6_draws 202 = .ok (.ireturn, 1) := by decide +kernel
theorem dX6_rubs_0 : decode cX6_rubs 0 = .ok (.aload_n 0, 1) := by decide +kernel
theorem dX6_rubs_1 : decode cX6_rubs 1 = .ok (.iload_n 1, 1) := by decide +kernel
theorem dX6_rubs_2 : decode cX6_rubs 2 = .ok (.invokevirtual 178, 3) := by decide +kernel
theorem dX6_rubs_5 : decode cX6_rubs 5 = .ok (.ifCond .ne 5, 3) := by decide +kernel
theorem dX6_rubs_8 : decode cX6_rubs 8 = .ok (.iconst (-1), 1) := by decide +kernel
theorem dX6_rubs_9 : decode cX6_rubs 9 = .ok (.ireturn, 1) := by decide +kernel
theorem dX6_rubs_10 : decode cX6_rubs 10 = .ok (.aload_n 0, 1) := by decide +kernel
theorem dX6_rubs_11 : decode cX6_rubs 11 = .ok (.invokevirtual 188, 3) := by decide +kernel
theorem dX6_rubs_14 : decode cX6_rubs 14 = .ok (.aload_n 0, 1) := by decide +kernel
theorem dX6_rubs_15 : decode cX6_rubs 15 = .ok (.dup, 1) := by decide +kernel
theorem dX6_rubs_16 : decode cX6_rubs 16 = .ok (.getfield 72, 3) := by decide +kernel
theorem dX6_rubs_19 : decode cX6_rubs 19 = .ok (.iconst 1, 1) := by decide +kernel
theorem dX6_rubs_20 : decode cX6_rubs 20 = .ok (.isub, 1) := by decide +kernel
theorem dX6_rubs_21 : decode cX6_rubs 21 = .ok (.putfield 72, 3) := by decide +kernel
theorem dX6_rubs_24 : decode cX6_rubs 24 = .ok (.bipush 6, 2) := by decide +kernel
theorem dX6_rubs_26 : decode cX6_rubs 26 = .ok (.iload_n 1, 1) := by decide +kernel
theorem dX6_rubs_27 : decode cX6_rubs 27 = .ok (.imul, 1) := by decide +kernel
theorem dX6_rubs_28 : decode cX6_rubs 28 = .ok (.istore_n 2, 1) := by decide +kernel
theorem dX6_rubs_29 : decode cX6_rubs 29 = .ok (.iload_n 2, 1) := by decide +kernel
theorem dX6_rubs_30 : decode cX6_rubs 30 = .ok (.bipush 6, 2) := by decide +kernel
theorem dX6_rubs_32 : decode cX6_rubs 32 = .ok (.aload_n 0, 1) := by decide +kernel
theorem dX6_rubs_33 : decode cX6_rubs 33 = .ok (.getfield 72, 3) := by decide +kernel
theorem dX6_rubs_36 : decode cX6_rubs 36 = .ok (.imul, 1) := by decide +kernel
theorem dX6_rubs_37 : decode cX6_rubs 37 = .ok (.if_icmp .ge 24, 3) := by decide +kernel
theorem dX6_rubs_40 : decode cX6_rubs 40 = .ok (.aload_n 0, 1) := by decide +kernel
theorem dX6_rubs_41 : decode cX6_rubs 41 = .ok (.getfield 19, 3) := by decide +kernel
theorem dX6_rubs_44 : decode cX6_rubs 44 = .ok (.iload_n 2, 1) := by decide +kernel
theorem dX6_rubs_45 : decode cX6_rubs 45 = .ok (.aload_n 0, 1) := by decide +kernel
theorem dX6_rubs_46 : decode cX6_rubs 46 = .ok (.getfield 19, 3) := by decide +kernel
theorem dX6_rubs_49 : decode cX6_rubs 49 = .ok (.iload_n 2, 1) := by decide +kernel
theorem dX6_rubs_50 : decode cX6_rubs 50 = .ok (.bipush 6, 2) := by decide +kernel
theorem dX6_rubs_52 : decode cX6_rubs 52 = .ok (.iadd, 1) := by decide +kernel
theorem dX6_rubs_53 : decode cX6_rubs 53 = .ok (.iaload, 1) := by decide +kernel
theorem dX6_rubs_54 : decode cX6_rubs 54 = .ok (.iastore, 1) := by decide +kernel
theorem dX6_rubs_55 : decode cX6_rubs 55 = .ok (.iinc 2 1, 3) := by decide +kernel
theorem dX6_rubs_58 : decode cX6_rubs 58 = .ok (.goto (-29), 3) := by decide +kernel
theorem dX6_rubs_61 : decode cX6_rubs 61 = .ok (.aload_n 0, 1) := by decide +kernel
theorem dX6_rubs_62 : decode cX6_rubs 62 = .ok (.getfield 72, 3) := by decide +kernel
theorem dX6_rubs_65 : decode cX6_rubs 65 = .ok (.ireturn, 1) := by decide +kernel
theorem dX6_spins_0 : decode cX6_spins 0 = .ok (.iload_n 1, 1) := by decide +kernel
theorem dX6_spins_1 : decode cX6_spins 1 = .ok (.iconst 1, 1) := by decide +kernel
theorem dX6_spins_2 : decode cX6_spins 2 = .ok (.sipush 359, 3) := by decide +kernel
theorem dX6_spins_5 : decode cX6_spins 5 = .ok (.invokestatic 62, 3) := by decide +kernel
theorem dX6_spins_8 : decode cX6_spins 8 = .ok (.ifCond .ne 5, 3) := by decide +kernel
theorem dX6_spins_11 : decode cX6_spins 11 = .ok (.iconst (-1), 1) := by decide +kernel
theorem dX6_spins_12 : decode cX6_spins 12 = .ok (.ireturn, 1) := by decide +kernel
theorem dX6_spins_13 : decode cX6_spins 13 = .ok (.aload_n 0, 1) := by decide +kernel
theorem dX6_spins_14 : decode cX6_spins 14 = .ok (.invokevirtual 188, 3) := by decide +kernel
theorem dX6_spins_17 : decode cX6_spins 17 = .ok (.aload_n 0, 1) := by decide +kernel
theorem dX6_spins_18 : decode cX6_spins 18 = .ok (.aload_n 0, 1) := by decide +kernel
theorem dX6_spins_19 : decode cX6_spins 19 = .ok (.getfield 120, 3) := by decide +kernel
theorem dX6_spins_22 : decode cX6_spins 22 = .ok (.iload_n 1, 1) := by decide +kernel
theorem dX6_spins_23 : decode cX6_spins 23 = .ok (.iadd, 1) := by decide +kernel
theorem dX6_spins_24 : decode cX6_spins 24 = .ok (.sipush 360, 3) := by decide +kernel
theorem dX6_spins_27 : decode cX6_spins 27 = .ok (.irem, 1) := by decide +kernel
theorem dX6_spins_28 : decode cX6_spins 28 = .ok (.putfield 120, 3) := by decide +kernel
theorem dX6_spins_31 : decode cX6_spins 31 = .ok (.aload_n 0, 1) := by decide +kernel
theorem dX6_spins_32 : decode cX6_spins 32 = .ok (.getfield 120, 3) := by decide +kernel
theorem dX6_spins_35 : decode cX6_spins 35 = .ok (.ireturn, 1) := by decide +kernel
theorem dX6_fills_0 : decode cX6_fills 0 = .ok (.aload_n 0, 1) := by decide +kernel
theorem dX6_fills_1 : decode cX6_fills 1 = .ok (.iload_n 1, 1) := by decide +kernel
theorem dX6_fills_2 : decode cX6_fills 2 = .ok (.invokevirtual 171, 3) := by decide +kernel
theorem dX6_fills_5 : decode cX6_fills 5 = .ok (.ifCond .eq 14, 3) := by decide +kernel
theorem dX6_fills_8 : decode cX6_fills 8 = .ok (.iload_n 2, 1) := by decide +kernel
theorem dX6_fills_9 : decode cX6_fills 9 = .ok (.iconst 1, 1) := by decide +kernel
theorem dX6_fills_10 : decode cX6_fills 10 = .ok (.sipush 999, 3) := by decide +kernel
theorem dX6_fills_13 : decode cX6_fills 13 = .ok (.invokestatic 62, 3) := by decide +kernel
theorem dX6_fills_16 : decode cX6_fills 16 = .ok (.ifCond .ne 5, 3) := by decide +kernel
theorem dX6_fills_19 : decode cX6_fills 19 = .ok (.iconst (-1), 1) := by decide +kernel
theorem dX6_fills_20 : decode cX6_fills 20 = .ok (.ireturn, 1) := by decide +kernel
theorem dX6_fills_21 : decode cX6_fills 21 = .ok (.aload_n 0, 1) := by decide +kernel
theorem dX6_fills_22 : decode cX6_fills 22 = .ok (.getfield 16, 3) := by decide +kernel
theorem dX6_fills_25 : decode cX6_fills 25 = .ok (.iload_n 1, 1) := by decide +kernel
theorem dX6_fills_26 : decode cX6_fills 26 = .ok (.iaload, 1) := by decide +kernel
theorem dX6_fills_27 : decode cX6_fills 27 = .ok (.sipush 999, 3) := by decide +kernel
theorem dX6_fills_30 : decode cX6_fills 30 = .ok (.if_icmp .ne 6, 3) := by decide +kernel
theorem dX6_fills_33 : decode cX6_fills 33 = .ok (.bipush (-2), 2) := by decide +kernel
theorem dX6_fills_35 : decode cX6_fills 35 = .ok (.ireturn, 1) := by decide +kernel
theorem dX6_fills_36 : decode cX6_fills 36 = .ok (.aload_n 0, 1) := by decide +kernel
theorem dX6_fills_37 : decode cX6_fills 37 = .ok (.invokevirtual 188, 3) := by decide +kernel
theorem dX6_fills_40 : decode cX6_fills 40 = .ok (.aload_n 0, 1) := by decide +kernel
theorem dX6_fills_41 : decode cX6_fills 41 = .ok (.getfield 16, 3) := by decide +kernel
theorem dX6_fills_44 : decode cX6_fills 44 = .ok (.iload_n 1, 1) := by decide +kernel
theorem dX6_fills_45 : decode cX6_fills 45 = .ok (.aload_n 0, 1) := by decide +kernel
theorem dX6_fills_46 : decode cX6_fills 46 = .ok (.getfield 16, 3) := by decide +kernel
theorem dX6_fills_49 : decode cX6_fills 49 = .ok (.iload_n 1, 1) := by decide +kernel
theorem dX6_fills_50 : decode cX6_fills 50 = .ok (.iaload, 1) := by decide +kernel
theorem dX6_fills_51 : decode cX6_fills 51 = .ok (.iload_n 2, 1) := by decide +kernel
theorem dX6_fills_52 : decode cX6_fills 52 = .ok (.iadd, 1) := by decide +kernel
theorem dX6_fills_53 : decode cX6_fills 53 = .ok (.sipush 999, 3) := by decide +kernel
theorem dX6_fills_56 : decode cX6_fills 56 = .ok (.if_icmp .le 9, 3) := by decide +kernel
theorem dX6_fills_59 : decode cX6_fills 59 = .ok (.sipush 999, 3) := by decide +kernel
theorem dX6_fills_62 : decode cX6_fills 62 = .ok (.goto 11, 3) := by decide +kernel
theorem dX6_fills_65 : decode cX6_fills 65 = .ok (.aload_n 0, 1) := by decide +kernel
theorem dX6_fills_66 : decode cX6_fills 66 = .ok (.getfield 16, 3) := by decide +kernel
theorem dX6_fills_69 : decode cX6_fills 69 = .ok (.iload_n 1, 1) := by decide +kernel
theorem dX6_fills_70 : decode cX6_fills 70 = .ok (.iaload, 1) := by decide +kernel
theorem dX6_fills_71 : decode cX6_fills 71 = .ok (.iload_n 2, 1) := by decide +kernel
theorem dX6_fills_72 : decode cX6_fills 72 = .ok (.iadd, 1) := by decide +kernel
theorem dX6_fills_73 : decode cX6_fills 73 = .ok (.iastore, 1) := by decide +kernel
theorem dX6_fills_74 : decode cX6_fills 74 = .ok (.aload_n 0, 1) := by decide +kernel
theorem dX6_fills_75 : decode cX6_fills 75 = .ok (.getfield 16, 3) := by decide +kernel
theorem dX6_fills_78 : decode cX6_fills 78 = .ok (.iload_n 1, 1) := by decide +kernel
theorem dX6_fills_79 : decode cX6_fills 79 = .ok (.iaload, 1) := by decide +kernel
theorem dX6_fills_80 : decode cX6_fills 80 = .ok (.ireturn, 1) := by decide +kernel
theorem dX6_undo_0 : decode cX6_undo 0 = .ok (.aload_n 0, 1) := by decide +kernel
theorem dX6_undo_1 : decode cX6_undo 1 = .ok (.getfield 126, 3) := by decide +kernel
theorem dX6_undo_4 : decode cX6_undo 4 = .ok (.ifCond .ne 6, 3) := by decide +kernel
theorem dX6_undo_7 : decode cX6_undo 7 = .ok (.bipush (-2), 2) := by decide +kernel
theorem dX6_undo_9 : decode cX6_undo 9 = .ok (.ireturn, 1) := by decide +kernel
theorem dX6_undo_10 : decode cX6_undo 10 = .ok (.aload_n 0, 1) := by decide +kernel
theorem dX6_undo_11 : decode cX6_undo 11 = .ok (.dup, 1) := by decide +kernel
theorem dX6_undo_12 : decode cX6_undo 12 = .ok (.getfield 126, 3) := by decide +kernel
theorem dX6_undo_15 : decode cX6_undo 15 = .ok (.iconst 1, 1) := by decide +kernel
theorem dX6_undo_16 : decode cX6_undo 16 = .ok (.isub, 1) := by decide +kernel
theorem dX6_undo_17 : decode cX6_undo 17 = .ok (.putfield 126, 3) := by decide +kernel
theorem dX6_undo_20 : decode cX6_undo 20 = .ok (.aload_n 0, 1) := by decide +kernel
theorem dX6_undo_21 : decode cX6_undo 21 = .ok (.aload_n 0, 1) := by decide +kernel
theorem dX6_undo_22 : decode cX6_undo 22 = .ok (.getfield 40, 3) := by decide +kernel
theorem dX6_undo_25 : decode cX6_undo 25 = .ok (.bipush 78, 2) := by decide +kernel
theorem dX6_undo_27 : decode cX6_undo 27 = .ok (.aload_n 0, 1) := by decide +kernel
theorem dX6_undo_28 : decode cX6_undo 28 = .ok (.getfield 126, 3) := by decide +kernel
theorem dX6_undo_31 : decode cX6_undo 31 = .ok (.imul, 1) := by decide +kernel
theorem dX6_undo_32 : decode cX6_undo 32 = .ok (.invokevirtual 191, 3) := by decide +kernel
theorem dX6_undo_35 : decode cX6_undo 35 = .ok (.aload_n 0, 1) := by decide +kernel
theorem dX6_undo_36 : decode cX6_undo 36 = .ok (.getfield 126, 3) := by decide +kernel
theorem dX6_undo_39 : decode cX6_undo 39 = .ok (.ireturn, 1) := by decide +kernel
theorem dX6_shownMany_0 : decode cX6_shownMany 0 = .ok (.iconst 0, 1) := by decide +kernel
theorem dX6_shownMany_1 : decode cX6_shownMany 1 = .ok (.istore_n 1, 1) := by decide +kernel
theorem dX6_shownMany_2 : decode cX6_shownMany 2 = .ok (.iconst 0, 1) := by decide +kernel
theorem dX6_shownMany_3 : decode cX6_shownMany 3 = .ok (.istore_n 2, 1) := by decide +kernel
theorem dX6_shownMany_4 : decode cX6_shownMany 4 = .ok (.iload_n 2, 1) := by decide +kernel
theorem dX6_shownMany_5 : decode cX6_shownMany 5 = .ok (.sipush 360, 3) := by decide +kernel
theorem dX6_shownMany_8 : decode cX6_shownMany 8 = .ok (.if_icmp .ge 42, 3) := by decide +kernel
theorem dX6_shownMany_11 : decode cX6_shownMany 11 = .ok (.iconst 1, 1) := by decide +kernel
theorem dX6_shownMany_12 : decode cX6_shownMany 12 = .ok (.istore_n 3, 1) := by decide +kernel
end
section
theorem dX6_shownMany_13 : decode cX6_shownMany 13 = .ok (.iload_n 3, 1) := by decide +kernel
theorem dX6_shownMany_14 : decode cX6_shownMany 14 = .ok (.bipush 9, 2) := by decide +kernel
theorem dX6_shownMany_16 : decode cX6_shownMany 16 = .ok (.if_icmp .gt 28, 3) := by decide +kernel
theorem dX6_shownMany_19 : decode cX6_shownMany 19 = .ok (.iload_n 1, 1) := by decide +kernel
theorem dX6_shownMany_20 : decode cX6_shownMany 20 = .ok (.aload_n 0, 1) := by decide +kernel
theorem dX6_shownMany_21 : decode cX6_shownMany 21 = .ok (.iload_n 2, 1) := by decide +kernel
theorem dX6_shownMany_22 : decode cX6_shownMany 22 = .ok (.iload_n 3, 1) := by decide +kernel
theorem dX6_shownMany_23 : decode cX6_shownMany 23 = .ok (.invokevirtual 165, 3) := by decide +kernel
theorem dX6_shownMany_26 : decode cX6_shownMany 26 = .ok (.bipush (-9), 2) := by decide +kernel
theorem dX6_shownMany_28 : decode cX6_shownMany 28 = .ok (.if_icmp .ne 7, 3) := by decide +kernel
theorem dX6_shownMany_31 : decode cX6_shownMany 31 = .ok (.iconst 0, 1) := by decide +kernel
theorem dX6_shownMany_32 : decode cX6_shownMany 32 = .ok (.goto 4, 3) := by decide +kernel
theorem dX6_shownMany_35 : decode cX6_shownMany 35 = .ok (.iconst 1, 1) := by decide +kernel
theorem dX6_shownMany_36 : decode cX6_shownMany 36 = .ok (.iadd, 1) := by decide +kernel
theorem dX6_shownMany_37 : decode cX6_shownMany 37 = .ok (.istore_n 1, 1) := by decide +kernel
theorem dX6_shownMany_38 : decode cX6_shownMany 38 = .ok (.iinc 3 1, 3) := by decide +kernel
theorem dX6_shownMany_41 : decode cX6_shownMany 41 = .ok (.goto (-28), 3) := by decide +kernel
theorem dX6_shownMany_44 : decode cX6_shownMany 44 = .ok (.iinc 2 1, 3) := by decide +kernel
theorem dX6_shownMany_47 : decode cX6_shownMany 47 = .ok (.goto (-43), 3) := by decide +kernel
theorem dX6_shownMany_50 : decode cX6_shownMany 50 = .ok (.iload_n 1, 1) := by decide +kernel
theorem dX6_shownMany_51 : decode cX6_shownMany 51 = .ok (.ireturn, 1) := by decide +kernel
theorem dX6_isLike_0 : decode cX6_isLike 0 = .ok (.iconst 1, 1) := by decide +kernel
theorem dX6_isLike_1 : decode cX6_isLike 1 = .ok (.istore_n 2, 1) := by decide +kernel
theorem dX6_isLike_2 : decode cX6_isLike 2 = .ok (.iconst 0, 1) := by decide +kernel
theorem dX6_isLike_3 : decode cX6_isLike 3 = .ok (.istore_n 3, 1) := by decide +kernel
theorem dX6_isLike_4 : decode cX6_isLike 4 = .ok (.iload_n 3, 1) := by decide +kernel
theorem dX6_isLike_5 : decode cX6_isLike 5 = .ok (.sipush 360, 3) := by decide +kernel
theorem dX6_isLike_8 : decode cX6_isLike 8 = .ok (.if_icmp .ge 72, 3) := by decide +kernel
theorem dX6_isLike_11 : decode cX6_isLike 11 = .ok (.iload_n 3, 1) := by decide +kernel
theorem dX6_isLike_12 : decode cX6_isLike 12 = .ok (.iload_n 1, 1) := by decide +kernel
theorem dX6_isLike_13 : decode cX6_isLike 13 = .ok (.iadd, 1) := by decide +kernel
theorem dX6_isLike_14 : decode cX6_isLike 14 = .ok (.sipush 360, 3) := by decide +kernel
theorem dX6_isLike_17 : decode cX6_isLike 17 = .ok (.irem, 1) := by decide +kernel
theorem dX6_isLike_18 : decode cX6_isLike 18 = .ok (.istore 4, 2) := by decide +kernel
theorem dX6_isLike_20 : decode cX6_isLike 20 = .ok (.iconst 0, 1) := by decide +kernel
theorem dX6_isLike_21 : decode cX6_isLike 21 = .ok (.istore 5, 2) := by decide +kernel
theorem dX6_isLike_23 : decode cX6_isLike 23 = .ok (.iload 5, 2) := by decide +kernel
theorem dX6_isLike_25 : decode cX6_isLike 25 = .ok (.bipush 9, 2) := by decide +kernel
theorem dX6_isLike_27 : decode cX6_isLike 27 = .ok (.if_icmp .ge 47, 3) := by decide +kernel
theorem dX6_isLike_30 : decode cX6_isLike 30 = .ok (.iload_n 2, 1) := by decide +kernel
theorem dX6_isLike_31 : decode cX6_isLike 31 = .ok (.ifCond .eq 35, 3) := by decide +kernel
theorem dX6_isLike_34 : decode cX6_isLike 34 = .ok (.aload_n 0, 1) := by decide +kernel
theorem dX6_isLike_35 : decode cX6_isLike 35 = .ok (.getfield 43, 3) := by decide +kernel
theorem dX6_isLike_38 : decode cX6_isLike 38 = .ok (.bipush 9, 2) := by decide +kernel
theorem dX6_isLike_40 : decode cX6_isLike 40 = .ok (.iload_n 3, 1) := by decide +kernel
theorem dX6_isLike_41 : decode cX6_isLike 41 = .ok (.imul, 1) := by decide +kernel
theorem dX6_isLike_42 : decode cX6_isLike 42 = .ok (.iload 5, 2) := by decide +kernel
theorem dX6_isLike_44 : decode cX6_isLike 44 = .ok (.iadd, 1) := by decide +kernel
theorem dX6_isLike_45 : decode cX6_isLike 45 = .ok (.iaload, 1) := by decide +kernel
theorem dX6_isLike_46 : decode cX6_isLike 46 = .ok (.aload_n 0, 1) := by decide +kernel
theorem dX6_isLike_47 : decode cX6_isLike 47 = .ok (.getfield 43, 3) := by decide +kernel
theorem dX6_isLike_50 : decode cX6_isLike 50 = .ok (.bipush 9, 2) := by decide +kernel
theorem dX6_isLike_52 : decode cX6_isLike 52 = .ok (.iload 4, 2) := by decide +kernel
theorem dX6_isLike_54 : decode cX6_isLike 54 = .ok (.imul, 1) := by decide +kernel
theorem dX6_isLike_55 : decode cX6_isLike 55 = .ok (.iload 5, 2) := by decide +kernel
theorem dX6_isLike_57 : decode cX6_isLike 57 = .ok (.iadd, 1) := by decide +kernel
theorem dX6_isLike_58 : decode cX6_isLike 58 = .ok (.iaload, 1) := by decide +kernel
theorem dX6_isLike_59 : decode cX6_isLike 59 = .ok (.if_icmp .ne 7, 3) := by decide +kernel
theorem dX6_isLike_62 : decode cX6_isLike 62 = .ok (.iconst 1, 1) := by decide +kernel
theorem dX6_isLike_63 : decode cX6_isLike 63 = .ok (.goto 4, 3) := by decide +kernel
theorem dX6_isLike_66 : decode cX6_isLike 66 = .ok (.iconst 0, 1) := by decide +kernel
theorem dX6_isLike_67 : decode cX6_isLike 67 = .ok (.istore_n 2, 1) := by decide +kernel
theorem dX6_isLike_68 : decode cX6_isLike 68 = .ok (.iinc 5 1, 3) := by decide +kernel
theorem dX6_isLike_71 : decode cX6_isLike 71 = .ok (.goto (-48), 3) := by decide +kernel
theorem dX6_isLike_74 : decode cX6_isLike 74 = .ok (.iinc 3 1, 3) := by decide +kernel
theorem dX6_isLike_77 : decode cX6_isLike 77 = .ok (.goto (-73), 3) := by decide +kernel
theorem dX6_isLike_80 : decode cX6_isLike 80 = .ok (.iload_n 2, 1) := by decide +kernel
theorem dX6_isLike_81 : decode cX6_isLike 81 = .ok (.ireturn, 1) := by decide +kernel
theorem dX6_like_0 : decode cX6_like 0 = .ok (.iconst 0, 1) := by decide +kernel
theorem dX6_like_1 : decode cX6_like 1 = .ok (.istore_n 1, 1) := by decide +kernel
theorem dX6_like_2 : decode cX6_like 2 = .ok (.iload_n 1, 1) := by decide +kernel
theorem dX6_like_3 : decode cX6_like 3 = .ok (.sipush 360, 3) := by decide +kernel
theorem dX6_like_6 : decode cX6_like 6 = .ok (.if_icmp .ge 42, 3) := by decide +kernel
theorem dX6_like_9 : decode cX6_like 9 = .ok (.iconst 0, 1) := by decide +kernel
theorem dX6_like_10 : decode cX6_like 10 = .ok (.istore_n 2, 1) := by decide +kernel
theorem dX6_like_11 : decode cX6_like 11 = .ok (.iload_n 2, 1) := by decide +kernel
theorem dX6_like_12 : decode cX6_like 12 = .ok (.bipush 9, 2) := by decide +kernel
theorem dX6_like_14 : decode cX6_like 14 = .ok (.if_icmp .ge 28, 3) := by decide +kernel
theorem dX6_like_17 : decode cX6_like 17 = .ok (.aload_n 0, 1) := by decide +kernel
theorem dX6_like_18 : decode cX6_like 18 = .ok (.getfield 43, 3) := by decide +kernel
theorem dX6_like_21 : decode cX6_like 21 = .ok (.bipush 9, 2) := by decide +kernel
theorem dX6_like_23 : decode cX6_like 23 = .ok (.iload_n 1, 1) := by decide +kernel
theorem dX6_like_24 : decode cX6_like 24 = .ok (.imul, 1) := by decide +kernel
theorem dX6_like_25 : decode cX6_like 25 = .ok (.iload_n 2, 1) := by decide +kernel
theorem dX6_like_26 : decode cX6_like 26 = .ok (.iadd, 1) := by decide +kernel
theorem dX6_like_27 : decode cX6_like 27 = .ok (.aload_n 0, 1) := by decide +kernel
theorem dX6_like_28 : decode cX6_like 28 = .ok (.iload_n 1, 1) := by decide +kernel
theorem dX6_like_29 : decode cX6_like 29 = .ok (.iload_n 2, 1) := by decide +kernel
theorem dX6_like_30 : decode cX6_like 30 = .ok (.iconst 1, 1) := by decide +kernel
theorem dX6_like_31 : decode cX6_like 31 = .ok (.iadd, 1) := by decide +kernel
theorem dX6_like_32 : decode cX6_like 32 = .ok (.invokevirtual 168, 3) := by decide +kernel
theorem dX6_like_35 : decode cX6_like 35 = .ok (.iastore, 1) := by decide +kernel
theorem dX6_like_36 : decode cX6_like 36 = .ok (.iinc 2 1, 3) := by decide +kernel
theorem dX6_like_39 : decode cX6_like 39 = .ok (.goto (-28), 3) := by decide +kernel
theorem dX6_like_42 : decode cX6_like 42 = .ok (.iinc 1 1, 3) := by decide +kernel
theorem dX6_like_45 : decode cX6_like 45 = .ok (.goto (-43), 3) := by decide +kernel
theorem dX6_like_48 : decode cX6_like 48 = .ok (.sipush 360, 3) := by decide +kernel
theorem dX6_like_51 : decode cX6_like 51 = .ok (.istore_n 1, 1) := by decide +kernel
theorem dX6_like_52 : decode cX6_like 52 = .ok (.sipush 360, 3) := by decide +kernel
theorem dX6_like_55 : decode cX6_like 55 = .ok (.iload_n 1, 1) := by decide +kernel
theorem dX6_like_56 : decode cX6_like 56 = .ok (.irem, 1) := by decide +kernel
theorem dX6_like_57 : decode cX6_like 57 = .ok (.ifCond .ne 15, 3) := by decide +kernel
theorem dX6_like_60 : decode cX6_like 60 = .ok (.aload_n 0, 1) := by decide +kernel
theorem dX6_like_61 : decode cX6_like 61 = .ok (.sipush 360, 3) := by decide +kernel
theorem dX6_like_64 : decode cX6_like 64 = .ok (.iload_n 1, 1) := by decide +kernel
theorem dX6_like_65 : decode cX6_like 65 = .ok (.idiv, 1) := by decide +kernel
theorem dX6_like_66 : decode cX6_like 66 = .ok (.invokevirtual 194, 3) := by decide +kernel
theorem dX6_like_69 : decode cX6_like 69 = .ok (.ifCond .ne 9, 3) := by decide +kernel
theorem dX6_like_72 : decode cX6_like 72 = .ok (.iinc 1 (-1), 3) := by decide +kernel
theorem dX6_like_75 : decode cX6_like 75 = .ok (.goto (-23), 3) := by decide +kernel
theorem dX6_like_78 : decode cX6_like 78 = .ok (.iload_n 1, 1) := by decide +kernel
theorem dX6_like_79 : decode cX6_like 79 = .ok (.ireturn, 1) := by decide +kernel
theorem dX6_now_0 : decode cX6_now 0 = .ok (.iload_n 1, 1) := by decide +kernel
theorem dX6_now_1 : decode cX6_now 1 = .ok (.iconst 0, 1) := by decide +kernel
theorem dX6_now_2 : decode cX6_now 2 = .ok (.iconst 3, 1) := by decide +kernel
theorem dX6_now_3 : decode cX6_now 3 = .ok (.invokestatic 62, 3) := by decide +kernel
theorem dX6_now_6 : decode cX6_now 6 = .ok (.ifCond .ne 5, 3) := by decide +kernel
theorem dX6_now_9 : decode cX6_now 9 = .ok (.iconst (-1), 1) := by decide +kernel
theorem dX6_now_10 : decode cX6_now 10 = .ok (.ireturn, 1) := by decide +kernel
theorem dX6_now_11 : decode cX6_now 11 = .ok (.iload_n 1, 1) := by decide +kernel
theorem dX6_now_12 : decode cX6_now 12 = .ok (.ifCond .ne 10, 3) := by decide +kernel
theorem dX6_now_15 : decode cX6_now 15 = .ok (.aload_n 0, 1) := by decide +kernel
theorem dX6_now_16 : decode cX6_now 16 = .ok (.getfield 120, 3) := by decide +kernel
theorem dX6_now_19 : decode cX6_now 19 = .ok (.goto 31, 3) := by decide +kernel
theorem dX6_now_22 : decode cX6_now 22 = .ok (.iload_n 1, 1) := by decide +kernel
theorem dX6_now_23 : decode cX6_now 23 = .ok (.iconst 1, 1) := by decide +kernel
theorem dX6_now_24 : decode cX6_now 24 = .ok (.if_icmp .ne 10, 3) := by decide +kernel
theorem dX6_now_27 : decode cX6_now 27 = .ok (.aload_n 0, 1) := by decide +kernel
theorem dX6_now_28 : decode cX6_now 28 = .ok (.getfield 72, 3) := by decide +kernel
theorem dX6_now_31 : decode cX6_now 31 = .ok (.goto 19, 3) := by decide +kernel
theorem dX6_now_34 : decode cX6_now 34 = .ok (.iload_n 1, 1) := by decide +kernel
theorem dX6_now_35 : decode cX6_now 35 = .ok (.iconst 2, 1) := by decide +kernel
theorem dX6_now_36 : decode cX6_now 36 = .ok (.if_icmp .ne 10, 3) := by decide +kernel
theorem dX6_now_39 : decode cX6_now 39 = .ok (.aload_n 0, 1) := by decide +kernel
theorem dX6_now_40 : decode cX6_now 40 = .ok (.invokevirtual 197, 3) := by decide +kernel
theorem dX6_now_43 : decode cX6_now 43 = .ok (.goto 7, 3) := by decide +kernel
theorem dX6_now_46 : decode cX6_now 46 = .ok (.aload_n 0, 1) := by decide +kernel
theorem dX6_now_47 : decode cX6_now 47 = .ok (.invokevirtual 200, 3) := by decide +kernel
theorem dX6_now_50 : decode cX6_now 50 = .ok (.ireturn, 1) := by decide +kernel
theorem dX6_shown_0 : decode cX6_shown 0 = .ok (.iload_n 1, 1) := by decide +kernel
theorem dX6_shown_1 : decode cX6_shown 1 = .ok (.iconst 0, 1) := by decide +kernel
theorem dX6_shown_2 : decode cX6_shown 2 = .ok (.sipush 359, 3) := by decide +kernel
theorem dX6_shown_5 : decode cX6_shown 5 = .ok (.invokestatic 62, 3) := by decide +kernel
theorem dX6_shown_8 : decode cX6_shown 8 = .ok (.ifCond .eq 22, 3) := by decide +kernel
theorem dX6_shown_11 : decode cX6_shown 11 = .ok (.iload_n 2, 1) := by decide +kernel
theorem dX6_shown_12 : decode cX6_shown 12 = .ok (.iconst 1, 1) := by decide +kernel
theorem dX6_shown_13 : decode cX6_shown 13 = .ok (.bipush 9, 2) := by decide +kernel
theorem dX6_shown_15 : decode cX6_shown 15 = .ok (.invokestatic 62, 3) := by decide +kernel
theorem dX6_shown_18 : decode cX6_shown 18 = .ok (.ifCond .eq 12, 3) := by decide +kernel
theorem dX6_shown_21 : decode cX6_shown 21 = .ok (.aload_n 0, 1) := by decide +kernel
theorem dX6_shown_22 : decode cX6_shown 22 = .ok (.iload_n 1, 1) := by decide +kernel
theorem dX6_shown_23 : decode cX6_shown 23 = .ok (.iload_n 2, 1) := by decide +kernel
theorem dX6_shown_24 : decode cX6_shown 24 = .ok (.invokevirtual 165, 3) := by decide +kernel
theorem dX6_shown_27 : decode cX6_shown 27 = .ok (.goto 4, 3) := by decide +kernel
theorem dX6_shown_30 : decode cX6_shown 30 = .ok (.iconst (-1), 1) := by decide +kernel
theorem dX6_shown_31 : decode cX6_shown 31 = .ok (.ireturn, 1) := by decide +kernel
theorem dX6_petals_0 : decode cX6_petals 0 = .ok (.aload_n 0, 1) := by decide +kernel
theorem dX6_petals_1 : decode cX6_petals 1 = .ok (.iload_n 1, 1) := by decide +kernel
theorem dX6_petals_2 : decode cX6_petals 2 = .ok (.invokevirtual 139, 3) := by decide +kernel
theorem dX6_petals_5 : decode cX6_petals 5 = .ok (.ifCond .eq 13, 3) := by decide +kernel
theorem dX6_petals_8 : decode cX6_petals 8 = .ok (.iload_n 2, 1) := by decide +kernel
theorem dX6_petals_9 : decode cX6_petals 9 = .ok (.iconst 1, 1) := by decide +kernel
theorem dX6_petals_10 : decode cX6_petals 10 = .ok (.bipush 120, 2) := by decide +kernel
theorem dX6_petals_12 : decode cX6_petals 12 = .ok (.invokestatic 62, 3) := by decide +kernel
theorem dX6_petals_15 : decode cX6_petals 15 = .ok (.ifCond .ne 5, 3) := by decide +kernel
theorem dX6_petals_18 : decode cX6_petals 18 = .ok (.iconst (-1), 1) := by decide +kernel
theorem dX6_petals_19 : decode cX6_petals 19 = .ok (.ireturn, 1) := by decide +kernel
theorem dX6_petals_20 : decode cX6_petals 20 = .ok (.iconst 0, 1) := by decide +kernel
theorem dX6_petals_21 : decode cX6_petals 21 = .ok (.istore_n 3, 1) := by decide +kernel
theorem dX6_petals_22 : decode cX6_petals 22 = .ok (.iload_n 3, 1) := by decide +kernel
theorem dX6_petals_23 : decode cX6_petals 23 = .ok (.aload_n 0, 1) := by decide +kernel
theorem dX6_petals_24 : decode cX6_petals 24 = .ok (.getfield 66, 3) := by decide +kernel
theorem dX6_petals_27 : decode cX6_petals 27 = .ok (.if_icmp .ge 30, 3) := by decide +kernel
theorem dX6_petals_30 : decode cX6_petals 30 = .ok (.aload_n 0, 1) := by decide +kernel
theorem dX6_petals_31 : decode cX6_petals 31 = .ok (.iload_n 1, 1) := by decide +kernel
theorem dX6_petals_32 : decode cX6_petals 32 = .ok (.iload_n 3, 1) := by decide +kernel
theorem dX6_petals_33 : decode cX6_petals 33 = .ok (.invokevirtual 146, 3) := by decide +kernel
theorem dX6_petals_36 : decode cX6_petals 36 = .ok (.ifCond .eq 15, 3) := by decide +kernel
theorem dX6_petals_39 : decode cX6_petals 39 = .ok (.aload_n 0, 1) := by decide +kernel
theorem dX6_petals_40 : decode cX6_petals 40 = .ok (.iload_n 1, 1) := by decide +kernel
theorem dX6_petals_41 : decode cX6_petals 41 = .ok (.iload_n 3, 1) := by decide +kernel
theorem dX6_petals_42 : decode cX6_petals 42 = .ok (.invokevirtual 149, 3) := by decide +kernel
theorem dX6_petals_45 : decode cX6_petals 45 = .ok (.iload_n 2, 1) := by decide +kernel
theorem dX6_petals_46 : decode cX6_petals 46 = .ok (.if_icmp .ne 5, 3) := by decide +kernel
theorem dX6_petals_49 : decode cX6_petals 49 = .ok (.iload_n 3, 1) := by decide +kernel
theorem dX6_petals_50 : decode cX6_petals 50 = .ok (.ireturn, 1) := by decide +kernel
theorem dX6_petals_51 : decode cX6_petals 51 = .ok (.iinc 3 1, 3) := by decide +kernel
theorem dX6_petals_54 : decode cX6_petals 54 = .ok (.goto (-32), 3) := by decide +kernel
theorem dX6_petals_57 : decode cX6_petals 57 = .ok (.bipush (-9), 2) := by decide +kernel
theorem dX6_petals_59 : decode cX6_petals 59 = .ok (.ireturn, 1) := by decide +kernel
theorem dX6_openMany_0 : decode cX6_openMany 0 = .ok (.iconst 0, 1) := by decide +kernel
theorem dX6_openMany_1 : decode cX6_openMany 1 = .ok (.istore_n 2, 1) := by decide +kernel
theorem dX6_openMany_2 : decode cX6_openMany 2 = .ok (.iconst 0, 1) := by decide +kernel
theorem dX6_openMany_3 : decode cX6_openMany 3 = .ok (.istore_n 3, 1) := by decide +kernel
theorem dX6_openMany_4 : decode cX6_openMany 4 = .ok (.iload_n 3, 1) := by decide +kernel
theorem dX6_openMany_5 : decode cX6_openMany 5 = .ok (.aload_n 0, 1) := by decide +kernel
theorem dX6_openMany_6 : decode cX6_openMany 6 = .ok (.getfield 7, 3) := by decide +kernel
theorem dX6_openMany_9 : decode cX6_openMany 9 = .ok (.iload_n 1, 1) := by decide +kernel
theorem dX6_openMany_10 : decode cX6_openMany 10 = .ok (.iaload, 1) := by decide +kernel
theorem dX6_openMany_11 : decode cX6_openMany 11 = .ok (.if_icmp .ge 26, 3) := by decide +kernel
theorem dX6_openMany_14 : decode cX6_openMany 14 = .ok (.iload_n 2, 1) := by decide +kernel
theorem dX6_openMany_15 : decode cX6_openMany 15 = .ok (.aload_n 0, 1) := by decide +kernel
theorem dX6_openMany_16 : decode cX6_openMany 16 = .ok (.getfield 46, 3) := by decide +kernel
theorem dX6_openMany_19 : decode cX6_openMany 19 = .ok (.iload_n 3, 1) := by decide +kernel
theorem dX6_openMany_20 : decode cX6_openMany 20 = .ok (.iaload, 1) := by decide +kernel
theorem dX6_openMany_21 : decode cX6_openMany 21 = .ok (.ifCond .ne 7, 3) := by decide +kernel
theorem dX6_openMany_24 : decode cX6_openMany 24 = .ok (.iconst 1, 1) := by decide +kernel
theorem dX6_openMany_25 : decode cX6_openMany 25 = .ok (.goto 4, 3) := by decide +kernel
theorem dX6_openMany_28 : decode cX6_openMany 28 = .ok (.iconst 0, 1) := by decide +kernel
theorem dX6_openMany_29 : decode cX6_openMany 29 = .ok (.iadd, 1) := by decide +kernel
theorem dX6_openMany_30 : decode cX6_openMany 30 = .ok (.istore_n 2, 1) := by decide +kernel
theorem dX6_openMany_31 : decode cX6_openMany 31 = .ok (.iinc 3 1, 3) := by decide +kernel
theorem dX6_openMany_34 : decode cX6_openMany 34 = .ok (.goto (-30), 3) := by decide +kernel
theorem dX6_openMany_37 : decode cX6_openMany 37 = .ok (.iload_n 2, 1) := by decide +kernel
theorem dX6_openMany_38 : decode cX6_openMany 38 = .ok (.ireturn, 1) := by decide +kernel
theorem dX6_openRests_0 : decode cX6_openRests 0 = .ok (.iconst 0, 1) := by decide +kernel
theorem dX6_openRests_1 : decode cX6_openRests 1 = .ok (.istore_n 3, 1) := by decide +kernel
theorem dX6_openRests_2 : decode cX6_openRests 2 = .ok (.iconst 0, 1) := by decide +kernel
theorem dX6_openRests_3 : decode cX6_openRests 3 = .ok (.istore 4, 2) := by decide +kernel
theorem dX6_openRests_5 : decode cX6_openRests 5 = .ok (.iload 4, 2) := by decide +kernel
theorem dX6_openRests_7 : decode cX6_openRests 7 = .ok (.iload_n 2, 1) := by decide +kernel
theorem dX6_openRests_8 : decode cX6_openRests 8 = .ok (.if_icmp .ge 71, 3) := by decide +kernel
theorem dX6_openRests_11 : decode cX6_openRests 11 = .ok (.iconst 0, 1) := by decide +kernel
theorem dX6_openRests_12 : decode cX6_openRests 12 = .ok (.istore 5, 2) := by decide +kernel
theorem dX6_openRests_14 : decode cX6_openRests 14 = .ok (.iload 4, 2) := by decide +kernel
theorem dX6_openRests_16 : decode cX6_openRests 16 = .ok (.istore 6, 2) := by decide +kernel
theorem dX6_openRests_18 : decode cX6_openRests 18 = .ok (.iload 6, 2) := by decide +kernel
theorem dX6_openRests_20 : decode cX6_openRests 20 = .ok (.aload_n 0, 1) := by decide +kernel
theorem dX6_openRests_21 : decode cX6_openRests 21 = .ok (.getfield 7, 3) := by decide +kernel
theorem dX6_openRests_24 : decode cX6_openRests 24 = .ok (.iload_n 1, 1) := by decide +kernel
theorem dX6_openRests_25 : decode cX6_openRests 25 = .ok (.iaload, 1) := by decide +kernel
theorem dX6_openRests_26 : decode cX6_openRests 26 = .ok (.if_icmp .ge 34, 3) := by decide +kernel
theorem dX6_openRests_29 : decode cX6_openRests 29 = .ok (.iload 5, 2) := by decide +kernel
theorem dX6_openRests_31 : decode cX6_openRests 31 = .ok (.ifCond .ne 13, 3) := by decide +kernel
theorem dX6_openRests_34 : decode cX6_openRests 34 = .ok (.aload_n 0, 1) := by decide +kernel
theorem dX6_openRests_35 : decode cX6_openRests 35 = .ok (.getfield 46, 3) := by decide +kernel
theorem dX6_openRests_38 : decode cX6_openRests 38 = .ok (.iload 6, 2) := by decide +kernel
theorem dX6_openRests_40 : decode cX6_openRests 40 = .ok (.iaload, 1) := by decide +kernel
theorem dX6_openRests_41 : decode cX6_openRests 41 = .ok (.ifCond .ne 7, 3) := by decide +kernel
theorem dX6_openRests_44 : decode cX6_openRests 44 = .ok (.iconst 1, 1) := by decide +kernel
theorem dX6_openRests_45 : decode cX6_openRests 45 = .ok (.goto 4, 3) := by decide +kernel
theorem dX6_openRests_48 : decode cX6_openRests 48 = .ok (.iconst 0, 1) := by decide +kernel
theorem dX6_openRests_49 : decode cX6_openRests 49 = .ok (.istore 5, 2) := by decide +kernel
theorem dX6_openRests_51 : decode cX6_openRests 51 = .ok (.iload 6, 2) := by decide +kernel
theorem dX6_openRests_53 : decode cX6_openRests 53 = .ok (.iload_n 2, 1) := by decide +kernel
theorem dX6_openRests_54 : decode cX6_openRests 54 = .ok (.iadd, 1) := by decide +kernel
theorem dX6_openRests_55 : decode cX6_openRests 55 = .ok (.istore 6, 2) := by decide +kernel
theorem dX6_openRests_57 : decode cX6_openRests 57 = .ok (.goto (-39), 3) := by decide +kernel
theorem dX6_openRests_60 : decode cX6_openRests 60 = .ok (.iload_n 3, 1) := by decide +kernel
theorem dX6_openRests_61 : decode cX6_openRests 61 = .ok (.iload 5, 2) := by decide +kernel
theorem dX6_openRests_63 : decode cX6_openRests 63 = .ok (.ifCond .eq 7, 3) := by decide +kernel
theorem dX6_openRests_66 : decode cX6_openRests 66 = .ok (.iconst 1, 1) := by decide +kernel
theorem dX6_openRests_67 : decode cX6_openRests 67 = .ok (.goto 4, 3) := by decide +kernel
theorem dX6_openRests_70 : decode cX6_openRests 70 = .ok (.iconst 0, 1) := by decide +kernel
theorem dX6_openRests_71 : decode cX6_openRests 71 = .ok (.iadd, 1) := by decide +kernel
theorem dX6_openRests_72 : decode cX6_openRests 72 = .ok (.istore_n 3, 1) := by decide +kernel
theorem dX6_openRests_73 : decode cX6_openRests 73 = .ok (.iinc 4 1, 3) := by decide +kernel
theorem dX6_openRests_76 : decode cX6_openRests 76 = .ok (.goto (-71), 3) := by decide +kernel
theorem dX6_openRests_79 : decode cX6_openRests 79 = .ok (.iload_n 3, 1) := by decide +kernel
theorem dX6_openRests_80 : decode cX6_openRests 80 = .ok (.ireturn, 1) := by decide +kernel
theorem dX6_closes_0 : decode cX6_closes 0 = .ok (.aload_n 0, 1) := by decide +kernel
theorem dX6_closes_1 : decode cX6_closes 1 = .ok (.iload_n 1, 1) := by decide +kernel
theorem dX6_closes_2 : decode cX6_closes 2 = .ok (.invokevirtual 139, 3) := by decide +kernel
theorem dX6_closes_5 : decode cX6_closes 5 = .ok (.ifCond .eq 22, 3) := by decide +kernel
theorem dX6_closes_8 : decode cX6_closes 8 = .ok (.iload_n 2, 1) := by decide +kernel
theorem dX6_closes_9 : decode cX6_closes 9 = .ok (.iconst 1, 1) := by decide +kernel
theorem dX6_closes_10 : decode cX6_closes 10 = .ok (.bipush 9, 2) := by decide +kernel
theorem dX6_closes_12 : decode cX6_closes 12 = .ok (.invokestatic 62, 3) := by decide +kernel
theorem dX6_closes_15 : decode cX6_closes 15 = .ok (.ifCond .eq 12, 3) := by decide +kernel
theorem dX6_closes_18 : decode cX6_closes 18 = .ok (.iload_n 3, 1) := by decide +kernel
theorem dX6_closes_19 : decode cX6_closes 19 = .ok (.iconst 0, 1) := by decide +kernel
theorem dX6_closes_20 : decode cX6_closes 20 = .ok (.iconst 1, 1) := by decide +kernel
theorem dX6_closes_21 : decode cX6_closes 21 = .ok (.invokestatic 62, 3) := by decide +kernel
theorem dX6_closes_24 : decode cX6_closes 24 = .ok (.ifCond .ne 5, 3) := by decide +kernel
theorem dX6_closes_27 : decode cX6_closes 27 = .ok (.iconst (-1), 1) := by decide +kernel
theorem dX6_closes_28 : decode cX6_closes 28 = .ok (.ireturn, 1) := by decide +kernel
theorem dX6_closes_29 : decode cX6_closes 29 = .ok (.iconst 0, 1) := by decide +kernel
theorem dX6_closes_30 : decode cX6_closes 30 = .ok (.istore 4, 2) := by decide +kernel
theorem dX6_closes_32 : decode cX6_closes 32 = .ok (.iload 4, 2) := by decide +kernel
theorem dX6_closes_34 : decode cX6_closes 34 = .ok (.aload_n 0, 1) := by decide +kernel
theorem dX6_closes_35 : decode cX6_closes 35 = .ok (.getfield 7, 3) := by decide +kernel
theorem dX6_closes_38 : decode cX6_closes 38 = .ok (.iload_n 1, 1) := by decide +kernel
theorem dX6_closes_39 : decode cX6_closes 39 = .ok (.iaload, 1) := by decide +kernel
theorem dX6_closes_40 : decode cX6_closes 40 = .ok (.if_icmp .ge 42, 3) := by decide +kernel
theorem dX6_closes_43 : decode cX6_closes 43 = .ok (.aload_n 0, 1) := by decide +kernel
theorem dX6_closes_44 : decode cX6_closes 44 = .ok (.getfield 46, 3) := by decide +kernel
theorem dX6_closes_47 : decode cX6_closes 47 = .ok (.iload 4, 2) := by decide +kernel
theorem dX6_closes_49 : decode cX6_closes 49 = .ok (.aload_n 0, 1) := by decide +kernel
theorem dX6_closes_50 : decode cX6_closes 50 = .ok (.aload_n 0, 1) := by decide +kernel
theorem dX6_closes_51 : decode cX6_closes 51 = .ok (.iload_n 1, 1) := by decide +kernel
theorem dX6_closes_52 : decode cX6_closes 52 = .ok (.aload_n 0, 1) := by decide +kernel
theorem dX6_closes_53 : decode cX6_closes 53 = .ok (.getfield 120, 3) := by decide +kernel
theorem dX6_closes_56 : decode cX6_closes 56 = .ok (.iload 4, 2) := by decide +kernel
theorem dX6_closes_58 : decode cX6_closes 58 = .ok (.invokevirtual 203, 3) := by decide +kernel
theorem dX6_closes_61 : decode cX6_closes 61 = .ok (.iload_n 2, 1) := by decide +kernel
theorem dX6_closes_62 : decode cX6_closes 62 = .ok (.invokevirtual 165, 3) := by decide +kernel
theorem dX6_closes_65 : decode cX6_closes 65 = .ok (.bipush (-9), 2) := by decide +kernel
theorem dX6_closes_67 : decode cX6_closes 67 = .ok (.if_icmp .ne 7, 3) := by decide +kernel
theorem dX6_closes_70 : decode cX6_closes 70 = .ok (.iconst 0, 1) := by decide +kernel
theorem dX6_closes_71 : decode cX6_closes 71 = .ok (.goto 4, 3) := by decide +kernel
theorem dX6_closes_74 : decode cX6_closes 74 = .ok (.iconst 1, 1) := by decide +kernel
theorem dX6_closes_75 : decode cX6_closes 75 = .ok (.iastore, 1) := by decide +kernel
theorem dX6_closes_76 : decode cX6_closes 76 = .ok (.iinc 4 1, 3) := by decide +kernel
theorem dX6_closes_79 : decode cX6_closes 79 = .ok (.goto (-47), 3) := by decide +kernel
theorem dX6_closes_82 : decode cX6_closes 82 = .ok (.aload_n 0, 1) := by decide +kernel
theorem dX6_closes_83 : decode cX6_closes 83 = .ok (.iload_n 1, 1) := by decide +kernel
theorem dX6_closes_84 : decode cX6_closes 84 = .ok (.invokevirtual 206, 3) := by decide +kernel
theorem dX6_closes_87 : decode cX6_closes 87 = .ok (.ifCond .ne 14, 3) := by decide +kernel
theorem dX6_closes_90 : decode cX6_closes 90 = .ok (.iload_n 3, 1) := by decide +kernel
theorem dX6_closes_91 : decode cX6_closes 91 = .ok (.ifCond .ne 7, 3) := by decide +kernel
theorem dX6_closes_94 : decode cX6_closes 94 = .ok (.iconst 0, 1) := by decide +kernel
theorem dX6_closes_95 : decode cX6_closes 95 = .ok (.goto 5, 3) := by decide +kernel
theorem dX6_closes_98 : decode cX6_closes 98 = .ok (.bipush (-9), 2) := by decide +kernel
theorem dX6_closes_100 : decode cX6_closes 100 = .ok (.ireturn, 1) := by decide +kernel
theorem dX6_closes_101 : decode cX6_closes 101 = .ok (.bipush (-9), 2) := by decide +kernel
theorem dX6_closes_103 : decode cX6_closes 103 = .ok (.istore 4, 2) := by decide +kernel
theorem dX6_closes_105 : decode cX6_closes 105 = .ok (.ldc 209, 2) := by decide +kernel
theorem dX6_closes_107 : decode cX6_closes 107 = .ok (.istore 5, 2) := by decide +kernel
theorem dX6_closes_109 : decode cX6_closes 109 = .ok (.iconst 0, 1) := by decide +kernel
theorem dX6_closes_110 : decode cX6_closes 110 = .ok (.istore 6, 2) := by decide +kernel
theorem dX6_closes_112 : decode cX6_closes 112 = .ok (.iload 6, 2) := by decide +kernel
theorem dX6_closes_114 : decode cX6_closes 114 = .ok (.aload_n 0, 1) := by decide +kernel
theorem dX6_closes_115 : decode cX6_closes 115 = .ok (.getfield 66, 3) := by decide +kernel
theorem dX6_closes_118 : decode cX6_closes 118 = .ok (.if_icmp .ge 70, 3) := by decide +kernel
theorem dX6_closes_121 : decode cX6_closes 121 = .ok (.aload_n 0, 1) := by decide +kernel
theorem dX6_closes_122 : decode cX6_closes 122 = .ok (.iload_n 1, 1) := by decide +kernel
theorem dX6_closes_123 : decode cX6_closes 123 = .ok (.iload 6, 2) := by decide +kernel
theorem dX6_closes_125 : decode cX6_closes 125 = .ok (.invokevirtual 146, 3) := by decide +kernel
theorem dX6_closes_128 : decode cX6_closes 128 = .ok (.ifCond .eq 18, 3) := by decide +kernel
theorem dX6_closes_131 : decode cX6_closes 131 = .ok (.aload_n 0, 1) := by decide +kernel
theorem dX6_closes_132 : decode cX6_closes 132 = .ok (.iload_n 1, 1) := by decide +kernel
theorem dX6_closes_133 : decode cX6_closes 133 = .ok (.aload_n 0, 1) := by decide +kernel
theorem dX6_closes_134 : decode cX6_closes 134 = .ok (.iload_n 1, 1) := by decide +kernel
theorem dX6_closes_135 : decode cX6_closes 135 = .ok (.iload 6, 2) := by decide +kernel
theorem dX6_closes_137 : decode cX6_closes 137 = .ok (.invokevirtual 133, 3) := by decide +kernel
theorem dX6_closes_140 : decode cX6_closes 140 = .ok (.invokevirtual 210, 3) := by decide +kernel
theorem dX6_closes_143 : decode cX6_closes 143 = .ok (.goto 5, 3) := by decide +kernel
theorem dX6_closes_146 : decode cX6_closes 146 = .ok (.ldc 209, 2) := by decide +kernel
theorem dX6_closes_148 : decode cX6_closes 148 = .ok (.istore 7, 2) := by decide +kernel
theorem dX6_closes_150 : decode cX6_closes 150 = .ok (.iload 7, 2) := by decide +kernel
theorem dX6_closes_152 : decode cX6_closes 152 = .ok (.iload 5, 2) := by decide +kernel
theorem dX6_closes_154 : decode cX6_closes 154 = .ok (.if_icmp .ge 8, 3) := by decide +kernel
theorem dX6_closes_157 : decode cX6_closes 157 = .ok (.iload 6, 2) := by decide +kernel
theorem dX6_closes_159 : decode cX6_closes 159 = .ok (.goto 5, 3) := by decide +kernel
theorem dX6_closes_162 : decode cX6_closes 162 = .ok (.iload 4, 2) := by decide +kernel
theorem dX6_closes_164 : decode cX6_closes 164 = .ok (.istore 4, 2) := by decide +kernel
theorem dX6_closes_166 : decode cX6_closes 166 = .ok (.iload 7, 2) := by decide +kernel
theorem dX6_closes_168 : decode cX6_closes 168 = .ok (.iload 5, 2) := by decide +kernel
theorem dX6_closes_170 : decode cX6_closes 170 = .ok (.if_icmp .ge 8, 3) := by decide +kernel
theorem dX6_closes_173 : decode cX6_closes 173 = .ok (.iload 7, 2) := by decide +kernel
theorem dX6_closes_175 : decode cX6_closes 175 = .ok (.goto 5, 3) := by decide +kernel
theorem dX6_closes_178 : decode cX6_closes 178 = .ok (.iload 5, 2) := by decide +kernel
theorem dX6_closes_180 : decode cX6_closes 180 = .ok (.istore 5, 2) := by decide +kernel
theorem dX6_closes_182 : decode cX6_closes 182 = .ok (.iinc 6 1, 3) := by decide +kernel
theorem dX6_closes_185 : decode cX6_closes 185 = .ok (.goto (-73), 3) := by decide +kernel
theorem dX6_closes_188 : decode cX6_closes 188 = .ok (.iload 4, 2) := by decide +kernel
theorem dX6_closes_190 : decode cX6_closes 190 = .ok (.bipush (-9), 2) := by decide +kernel
theorem dX6_closes_192 : decode cX6_closes 192 = .ok (.if_icmp .eq 8, 3) := by decide +kernel
theorem dX6_closes_195 : decode cX6_closes 195 = .ok (.iload_n 3, 1) := by decide +kernel
theorem dX6_closes_196 : decode cX6_closes 196 = .ok (.iconst 1, 1) := by decide +kernel
theorem dX6_closes_197 : decode cX6_closes 197 = .ok (.if_icmp .ne 8, 3) := by decide +kernel
theorem dX6_closes_200 : decode cX6_closes 200 = .ok (.iload 4, 2) := by decide +kernel
theorem dX6_closes_202 : decode cX6_closes 202 = .ok (.goto 5, 3) := by decide +kernel
theorem dX6_closes_205 : decode cX6_closes 205 = .ok (.iload 5, 2) := by decide +kernel
theorem dX6_closes_207 : decode cX6_closes 207 = .ok (.ireturn, 1) := by decide +kernel
theorem dX6_comesTwo_0 : decode cX6_comesTwo 0 = .ok (.iload_n 3, 1) := by decide +kernel
theorem dX6_comesTwo_1 : decode cX6_comesTwo 1 = .ok (.istore 4, 2) := by decide +kernel
theorem dX6_comesTwo_3 : decode cX6_comesTwo 3 = .ok (.iload 4, 2) := by decide +kernel
theorem dX6_comesTwo_5 : decode cX6_comesTwo 5 = .ok (.iload_n 2, 1) := by decide +kernel
theorem dX6_comesTwo_6 : decode cX6_comesTwo 6 = .ok (.if_icmp .lt 50, 3) := by decide +kernel
theorem dX6_comesTwo_9 : decode cX6_comesTwo 9 = .ok (.aload_n 0, 1) := by decide +kernel
theorem dX6_comesTwo_10 : decode cX6_comesTwo 10 = .ok (.getfield 49, 3) := by decide +kernel
theorem dX6_comesTwo_13 : decode cX6_comesTwo 13 = .ok (.iload 4, 2) := by decide +kernel
theorem dX6_comesTwo_15 : decode cX6_comesTwo 15 = .ok (.iload_n 2, 1) := by decide +kernel
theorem dX6_comesTwo_16 : decode cX6_comesTwo 16 = .ok (.isub, 1) := by decide +kernel
theorem dX6_comesTwo_17 : decode cX6_comesTwo 17 = .ok (.iaload, 1) := by decide +kernel
theorem dX6_comesTwo_18 : decode cX6_comesTwo 18 = .ok (.istore 5, 2) := by decide +kernel
theorem dX6_comesTwo_20 : decode cX6_comesTwo 20 = .ok (.iload 5, 2) := by decide +kernel
theorem dX6_comesTwo_22 : decode cX6_comesTwo 22 = .ok (.ifCond .lt 28, 3) := by decide +kernel
theorem dX6_comesTwo_25 : decode cX6_comesTwo 25 = .ok (.iload 5, 2) := by decide +kernel
theorem dX6_comesTwo_27 : decode cX6_comesTwo 27 = .ok (.iload_n 1, 1) := by decide +kernel
theorem dX6_comesTwo_28 : decode cX6_comesTwo 28 = .ok (.iadd, 1) := by decide +kernel
theorem dX6_comesTwo_29 : decode cX6_comesTwo 29 = .ok (.aload_n 0, 1) := by decide +kernel
theorem dX6_comesTwo_30 : decode cX6_comesTwo 30 = .ok (.getfield 49, 3) := by decide +kernel
theorem dX6_comesTwo_33 : decode cX6_comesTwo 33 = .ok (.iload 4, 2) := by decide +kernel
theorem dX6_comesTwo_35 : decode cX6_comesTwo 35 = .ok (.iaload, 1) := by decide +kernel
theorem dX6_comesTwo_36 : decode cX6_comesTwo 36 = .ok (.if_icmp .le 14, 3) := by decide +kernel
theorem dX6_comesTwo_39 : decode cX6_comesTwo 39 = .ok (.aload_n 0, 1) := by decide +kernel
theorem dX6_comesTwo_40 : decode cX6_comesTwo 40 = .ok (.getfield 49, 3) := by decide +kernel
theorem dX6_comesTwo_43 : decode cX6_comesTwo 43 = .ok (.iload 4, 2) := by decide +kernel
theorem dX6_comesTwo_45 : decode cX6_comesTwo 45 = .ok (.iload 5, 2) := by decide +kernel
theorem dX6_comesTwo_47 : decode cX6_comesTwo 47 = .ok (.iload_n 1, 1) := by decide +kernel
theorem dX6_comesTwo_48 : decode cX6_comesTwo 48 = .ok (.iadd, 1) := by decide +kernel
theorem dX6_comesTwo_49 : decode cX6_comesTwo 49 = .ok (.iastore, 1) := by decide +kernel
theorem dX6_comesTwo_50 : decode cX6_comesTwo 50 = .ok (.iinc 4 (-1), 3) := by decide +kernel
theorem dX6_comesTwo_53 : decode cX6_comesTwo 53 = .ok (.goto (-50), 3) := by decide +kernel
theorem dX6_comesTwo_56 : decode cX6_comesTwo 56 = .ok (.return_, 1) := by decide +kernel
theorem dX6_best_0 : decode cX6_best 0 = .ok (.aload_n 0, 1) := by decide +kernel
theorem dX6_best_1 : decode cX6_best 1 = .ok (.iload_n 1, 1) := by decide +kernel
theorem dX6_best_2 : decode cX6_best 2 = .ok (.invokevirtual 171, 3) := by decide +kernel
theorem dX6_best_5 : decode cX6_best 5 = .ok (.ifCond .eq 12, 3) := by decide +kernel
theorem dX6_best_8 : decode cX6_best 8 = .ok (.iload_n 2, 1) := by decide +kernel
theorem dX6_best_9 : decode cX6_best 9 = .ok (.iconst 0, 1) := by decide +kernel
theorem dX6_best_10 : decode cX6_best 10 = .ok (.iconst 1, 1) := by decide +kernel
theorem dX6_best_11 : decode cX6_best 11 = .ok (.invokestatic 62, 3) := by decide +kernel
theorem dX6_best_14 : decode cX6_best 14 = .ok (.ifCond .ne 5, 3) := by decide +kernel
theorem dX6_best_17 : decode cX6_best 17 = .ok (.iconst (-1), 1) := by decide +kernel
theorem dX6_best_18 : decode cX6_best 18 = .ok (.ireturn, 1) := by decide +kernel
theorem dX6_best_19 : decode cX6_best 19 = .ok (.aload_n 0, 1) := by decide +kernel
theorem dX6_best_20 : decode cX6_best 20 = .ok (.getfield 49, 3) := by decide +kernel
theorem dX6_best_23 : decode cX6_best 23 = .ok (.iconst 0, 1) := by decide +kernel
theorem dX6_best_24 : decode cX6_best 24 = .ok (.iconst 0, 1) := by decide +kernel
theorem dX6_best_25 : decode cX6_best 25 = .ok (.iastore, 1) := by decide +kernel
theorem dX6_best_26 : decode cX6_best 26 = .ok (.iconst 1, 1) := by decide +kernel
theorem dX6_best_27 : decode cX6_best 27 = .ok (.istore_n 3, 1) := by decide +kernel
theorem dX6_best_28 : decode cX6_best 28 = .ok (.iload_n 3, 1) := by decide +kernel
theorem dX6_best_29 : decode cX6_best 29 = .ok (.sipush 999, 3) := by decide +kernel
theorem dX6_best_32 : decode cX6_best 32 = .ok (.if_icmp .gt 16, 3) := by decide +kernel
theorem dX6_best_35 : decode cX6_best 35 = .ok (.aload_n 0, 1) := by decide +kernel
theorem dX6_best_36 : decode cX6_best 36 = .ok (.getfield 49, 3) := by decide +kernel
theorem dX6_best_39 : decode cX6_best 39 = .ok (.iload_n 3, 1) := by decide +kernel
theorem dX6_best_40 : decode cX6_best 40 = .ok (.iconst (-1), 1) := by decide +kernel
theorem dX6_best_41 : decode cX6_best 41 = .ok (.iastore, 1) := by decide +kernel
theorem dX6_best_42 : decode cX6_best 42 = .ok (.iinc 3 1, 3) := by decide +kernel
theorem dX6_best_45 : decode cX6_best 45 = .ok (.goto (-17), 3) := by decide +kernel
theorem dX6_best_48 : decode cX6_best 48 = .ok (.iconst 0, 1) := by decide +kernel
theorem dX6_best_49 : decode cX6_best 49 = .ok (.istore_n 3, 1) := by decide +kernel
theorem dX6_best_50 : decode cX6_best 50 = .ok (.iload_n 3, 1) := by decide +kernel
theorem dX6_best_51 : decode cX6_best 51 = .ok (.aload_n 0, 1) := by decide +kernel
theorem dX6_best_52 : decode cX6_best 52 = .ok (.getfield 58, 3) := by decide +kernel
theorem dX6_best_55 : decode cX6_best 55 = .ok (.if_icmp .ge 61, 3) := by decide +kernel
theorem dX6_best_58 : decode cX6_best 58 = .ok (.iconst 0, 1) := by decide +kernel
theorem dX6_best_59 : decode cX6_best 59 = .ok (.istore 4, 2) := by decide +kernel
theorem dX6_best_61 : decode cX6_best 61 = .ok (.iload 4, 2) := by decide +kernel
theorem dX6_best_63 : decode cX6_best 63 = .ok (.aload_n 0, 1) := by decide +kernel
theorem dX6_best_64 : decode cX6_best 64 = .ok (.getfield 66, 3) := by decide +kernel
theorem dX6_best_67 : decode cX6_best 67 = .ok (.if_icmp .ge 43, 3) := by decide +kernel
theorem dX6_best_70 : decode cX6_best 70 = .ok (.aload_n 0, 1) := by decide +kernel
theorem dX6_best_71 : decode cX6_best 71 = .ok (.iload_n 3, 1) := by decide +kernel
theorem dX6_best_72 : decode cX6_best 72 = .ok (.iload 4, 2) := by decide +kernel
theorem dX6_best_74 : decode cX6_best 74 = .ok (.invokevirtual 146, 3) := by decide +kernel
theorem dX6_best_77 : decode cX6_best 77 = .ok (.ifCond .eq 27, 3) := by decide +kernel
theorem dX6_best_80 : decode cX6_best 80 = .ok (.aload_n 0, 1) := by decide +kernel
theorem dX6_best_81 : decode cX6_best 81 = .ok (.aload_n 0, 1) := by decide +kernel
theorem dX6_best_82 : decode cX6_best 82 = .ok (.iload_n 3, 1) := by decide +kernel
theorem dX6_best_83 : decode cX6_best 83 = .ok (.iload 4, 2) := by decide +kernel
theorem dX6_best_85 : decode cX6_best 85 = .ok (.invokevirtual 149, 3) := by decide +kernel
theorem dX6_best_88 : decode cX6_best 88 = .ok (.aload_n 0, 1) := by decide +kernel
theorem dX6_best_89 : decode cX6_best 89 = .ok (.iload_n 3, 1) := by decide +kernel
theorem dX6_best_90 : decode cX6_best 90 = .ok (.iload 4, 2) := by decide +kernel
theorem dX6_best_92 : decode cX6_best 92 = .ok (.invokevirtual 152, 3) := by decide +kernel
theorem dX6_best_95 : decode cX6_best 95 = .ok (.aload_n 0, 1) := by decide +kernel
theorem dX6_best_96 : decode cX6_best 96 = .ok (.getfield 16, 3) := by decide +kernel
theorem dX6_best_99 : decode cX6_best 99 = .ok (.iload_n 1, 1) := by decide +kernel
theorem dX6_best_100 : decode cX6_best 100 = .ok (.iaload, 1) := by decide +kernel
theorem dX6_best_101 : decode cX6_best 101 = .ok (.invokevirtual 213, 3) := by decide +kernel
theorem dX6_best_104 : decode cX6_best 104 = .ok (.iinc 4 1, 3) := by decide +kernel
theorem dX6_best_107 : decode cX6_best 107 = .ok (.goto (-46), 3) := by decide +kernel
theorem dX6_best_110 : decode cX6_best 110 = .ok (.iinc 3 1, 3) := by decide +kernel
theorem dX6_best_113 : decode cX6_best 113 = .ok (.goto (-63), 3) := by decide +kernel
theorem dX6_best_116 : decode cX6_best 116 = .ok (.iconst 0, 1) := by decide +kernel
theorem dX6_best_117 : decode cX6_best 117 = .ok (.istore_n 3, 1) := by decide +kernel
theorem dX6_best_118 : decode cX6_best 118 = .ok (.iconst 1, 1) := by decide +kernel
theorem dX6_best_119 : decode cX6_best 119 = .ok (.istore 4, 2) := by decide +kernel
theorem dX6_best_121 : decode cX6_best 121 = .ok (.iload 4, 2) := by decide +kernel
theorem dX6_best_123 : decode cX6_best 123 = .ok (.aload_n 0, 1) := by decide +kernel
theorem dX6_best_124 : decode cX6_best 124 = .ok (.getfield 16, 3) := by decide +kernel
theorem dX6_best_127 : decode cX6_best 127 = .ok (.iload_n 1, 1) := by decide +kernel
theorem dX6_best_128 : decode cX6_best 128 = .ok (.iaload, 1) := by decide +kernel
theorem dX6_best_129 : decode cX6_best 129 = .ok (.if_icmp .gt 32, 3) := by decide +kernel
theorem dX6_best_132 : decode cX6_best 132 = .ok (.aload_n 0, 1) := by decide +kernel
theorem dX6_best_133 : decode cX6_best 133 = .ok (.getfield 49, 3) := by decide +kernel
theorem dX6_best_136 : decode cX6_best 136 = .ok (.iload 4, 2) := by decide +kernel
theorem dX6_best_138 : decode cX6_best 138 = .ok (.iaload, 1) := by decide +kernel
theorem dX6_best_139 : decode cX6_best 139 = .ok (.aload_n 0, 1) := by decide +kernel
theorem dX6_best_140 : decode cX6_best 140 = .ok (.getfield 49, 3) := by decide +kernel
theorem dX6_best_143 : decode cX6_best 143 = .ok (.iload_n 3, 1) := by decide +kernel
theorem dX6_best_144 : decode cX6_best 144 = .ok (.iaload, 1) := by decide +kernel
theorem dX6_best_145 : decode cX6_best 145 = .ok (.if_icmp .le 8, 3) := by decide +kernel
theorem dX6_best_148 : decode cX6_best 148 = .ok (.iload 4, 2) := by decide +kernel
theorem dX6_best_150 : decode cX6_best 150 = .ok (.goto 4, 3) := by decide +kernel
theorem dX6_best_153 : decode cX6_best 153 = .ok (.iload_n 3, 1) := by decide +kernel
theorem dX6_best_154 : decode cX6_best 154 = .ok (.istore_n 3, 1) := by decide +kernel
theorem dX6_best_155 : decode cX6_best 155 = .ok (.iinc 4 1, 3) := by decide +kernel
theorem dX6_best_158 : decode cX6_best 158 = .ok (.goto (-37), 3) := by decide +kernel
theorem dX6_best_161 : decode cX6_best 161 = .ok (.iload_n 2, 1) := by decide +kernel
theorem dX6_best_162 : decode cX6_best 162 = .ok (.ifCond .ne 12, 3) := by decide +kernel
theorem dX6_best_165 : decode cX6_best 165 = .ok (.aload_n 0, 1) := by decide +kernel
theorem dX6_best_166 : decode cX6_best 166 = .ok (.getfield 49, 3) := by decide +kernel
theorem dX6_best_169 : decode cX6_best 169 = .ok (.iload_n 3, 1) := by decide +kernel
theorem dX6_best_170 : decode cX6_best 170 = .ok (.iaload, 1) := by decide +kernel
theorem dX6_best_171 : decode cX6_best 171 = .ok (.goto 4, 3) := by decide +kernel
theorem dX6_best_174 : decode cX6_best 174 = .ok (.iload_n 3, 1) := by decide +kernel
theorem dX6_best_175 : decode cX6_best 175 = .ok (.ireturn, 1) := by decide +kernel
theorem dX6_meet_0 : decode cX6_meet 0 = .ok (.aload_n 0, 1) := by decide +kernel
theorem dX6_meet_1 : decode cX6_meet 1 = .ok (.iload_n 1, 1) := by decide +kernel
theorem dX6_meet_2 : decode cX6_meet 2 = .ok (.invokevirtual 178, 3) := by decide +kernel
theorem dX6_meet_5 : decode cX6_meet 5 = .ok (.ifCond .eq 16, 3) := by decide +kernel
theorem dX6_meet_8 : decode cX6_meet 8 = .ok (.aload_n 0, 1) := by decide +kernel
theorem dX6_meet_9 : decode cX6_meet 9 = .ok (.iload_n 2, 1) := by decide +kernel
theorem dX6_meet_10 : decode cX6_meet 10 = .ok (.invokevirtual 178, 3) := by decide +kernel
theorem dX6_meet_13 : decode cX6_meet 13 = .ok (.ifCond .eq 8, 3) := by decide +kernel
theorem dX6_meet_16 : decode cX6_meet 16 = .ok (.iload_n 1, 1) := by decide +kernel
theorem dX6_meet_17 : decode cX6_meet 17 = .ok (.iload_n 2, 1) := by decide +kernel
theorem dX6_meet_18 : decode cX6_meet 18 = .ok (.if_icmp .ne 5, 3) := by decide +kernel
theorem dX6_meet_21 : decode cX6_meet 21 = .ok (.iconst (-1), 1) := by decide +kernel
theorem dX6_meet_22 : decode cX6_meet 22 = .ok (.ireturn, 1) := by decide +kernel
theorem dX6_meet_23 : decode cX6_meet 23 = .ok (.aload_n 0, 1) := by decide +kernel
theorem dX6_meet_24 : decode cX6_meet 24 = .ok (.getfield 19, 3) := by decide +kernel
theorem dX6_meet_27 : decode cX6_meet 27 = .ok (.bipush 6, 2) := by decide +kernel
theorem dX6_meet_29 : decode cX6_meet 29 = .ok (.iload_n 1, 1) := by decide +kernel
theorem dX6_meet_30 : decode cX6_meet 30 = .ok (.imul, 1) := by decide +kernel
theorem dX6_meet_31 : decode cX6_meet 31 = .ok (.iconst 2, 1) := by decide +kernel
theorem dX6_meet_32 : decode cX6_meet 32 = .ok (.iadd, 1) := by decide +kernel
theorem dX6_meet_33 : decode cX6_meet 33 = .ok (.iaload, 1) := by decide +kernel
theorem dX6_meet_34 : decode cX6_meet 34 = .ok (.istore_n 3, 1) := by decide +kernel
theorem dX6_meet_35 : decode cX6_meet 35 = .ok (.iconst 0, 1) := by decide +kernel
theorem dX6_meet_36 : decode cX6_meet 36 = .ok (.istore 4, 2) := by decide +kernel
theorem dX6_meet_38 : decode cX6_meet 38 = .ok (.iconst 0, 1) := by decide +kernel
theorem dX6_meet_39 : decode cX6_meet 39 = .ok (.istore 5, 2) := by decide +kernel
theorem dX6_meet_41 : decode cX6_meet 41 = .ok (.iload 5, 2) := by decide +kernel
theorem dX6_meet_43 : decode cX6_meet 43 = .ok (.sipush 360, 3) := by decide +kernel
theorem dX6_meet_46 : decode cX6_meet 46 = .ok (.if_icmp .ge 41, 3) := by decide +kernel
theorem dX6_meet_49 : decode cX6_meet 49 = .ok (.iload 4, 2) := by decide +kernel
theorem dX6_meet_51 : decode cX6_meet 51 = .ok (.aload_n 0, 1) := by decide +kernel
theorem dX6_meet_52 : decode cX6_meet 52 = .ok (.iload_n 1, 1) := by decide +kernel
theorem dX6_meet_53 : decode cX6_meet 53 = .ok (.iload 5, 2) := by decide +kernel
theorem dX6_meet_55 : decode cX6_meet 55 = .ok (.iload_n 3, 1) := by decide +kernel
theorem dX6_meet_56 : decode cX6_meet 56 = .ok (.invokevirtual 162, 3) := by decide +kernel
theorem dX6_meet_59 : decode cX6_meet 59 = .ok (.ifCond .eq 18, 3) := by decide +kernel
theorem dX6_meet_62 : decode cX6_meet 62 = .ok (.aload_n 0, 1) := by decide +kernel
theorem dX6_meet_63 : decode cX6_meet 63 = .ok (.iload_n 2, 1) := by decide +kernel
theorem dX6_meet_64 : decode cX6_meet 64 = .ok (.iload 5, 2) := by decide +kernel
theorem dX6_meet_66 : decode cX6_meet 66 = .ok (.iload_n 3, 1) := by decide +kernel
theorem dX6_meet_67 : decode cX6_meet 67 = .ok (.invokevirtual 162, 3) := by decide +kernel
theorem dX6_meet_70 : decode cX6_meet 70 = .ok (.ifCond .eq 7, 3) := by decide +kernel
theorem dX6_meet_73 : decode cX6_meet 73 = .ok (.iconst 1, 1) := by decide +kernel
theorem dX6_meet_74 : decode cX6_meet 74 = .ok (.goto 4, 3) := by decide +kernel
theorem dX6_meet_77 : decode cX6_meet 77 = .ok (.iconst 0, 1) := by decide +kernel
theorem dX6_meet_78 : decode cX6_meet 78 = .ok (.iadd, 1) := by decide +kernel
theorem dX6_meet_79 : decode cX6_meet 79 = .ok (.istore 4, 2) := by decide +kernel
theorem dX6_meet_81 : decode cX6_meet 81 = .ok (.iinc 5 1, 3) := by decide +kernel
theorem dX6_meet_84 : decode cX6_meet 84 = .ok (.goto (-43), 3) := by decide +kernel
theorem dX6_meet_87 : decode cX6_meet 87 = .ok (.iload 4, 2) := by decide +kernel
theorem dX6_meet_89 : decode cX6_meet 89 = .ok (.ireturn, 1) := by decide +kernel
theorem dX6_odds_0 : decode cX6_odds 0 = .ok (.aload_n 0, 1) := by decide +kernel
theorem dX6_odds_1 : decode cX6_odds 1 = .ok (.iload_n 1, 1) := by decide +kernel
theorem dX6_odds_2 : decode cX6_odds 2 = .ok (.invokevirtual 139, 3) := by decide +kernel
theorem dX6_odds_5 : decode cX6_odds 5 = .ok (.ifCond .eq 32, 3) := by decide +kernel
theorem dX6_odds_8 : decode cX6_odds 8 = .ok (.aload_n 0, 1) := by decide +kernel
theorem dX6_odds_9 : decode cX6_odds 9 = .ok (.iload_n 2, 1) := by decide +kernel
theorem dX6_odds_10 : decode cX6_odds 10 = .ok (.invokevirtual 143, 3) := by decide +kernel
theorem dX6_odds_13 : decode cX6_odds 13 = .ok (.ifCond .eq 24, 3) := by decide +kernel
theorem dX6_odds_16 : decode cX6_odds 16 = .ok (.iload_n 3, 1) := by decide +kernel
theorem dX6_odds_17 : decode cX6_odds 17 = .ok (.iconst 0, 1) := by decide +kernel
theorem dX6_odds_18 : decode cX6_odds 18 = .ok (.sipush 359, 3) := by decide +kernel
theorem dX6_odds_21 : decode cX6_odds 21 = .ok (.invokestatic 62, 3) := by decide +kernel
theorem dX6_odds_24 : decode cX6_odds 24 = .ok (.ifCond .eq 13, 3) := by decide +kernel
theorem dX6_odds_27 : decode cX6_odds 27 = .ok (.iload 4, 2) := by decide +kernel
theorem dX6_odds_29 : decode cX6_odds 29 = .ok (.iconst 0, 1) := by decide +kernel
theorem dX6_odds_30 : decode cX6_odds 30 = .ok (.iconst 1, 1) := by decide +kernel
theorem dX6_odds_31 : decode cX6_odds 31 = .ok (.invokestatic 62, 3) := by decide +kernel
theorem dX6_odds_34 : decode cX6_odds 34 = .ok (.ifCond .ne 5, 3) := by decide +kernel
theorem dX6_odds_37 : decode cX6_odds 37 = .ok (.iconst (-1), 1) := by decide +kernel
theorem dX6_odds_38 : decode cX6_odds 38 = .ok (.ireturn, 1) := by decide +kernel
theorem dX6_odds_39 : decode cX6_odds 39 = .ok (.aload_n 0, 1) := by decide +kernel
theorem dX6_odds_40 : decode cX6_odds 40 = .ok (.iload_n 1, 1) := by decide +kernel
theorem dX6_odds_41 : decode cX6_odds 41 = .ok (.iload_n 2, 1) := by decide +kernel
theorem dX6_odds_42 : decode cX6_odds 42 = .ok (.invokevirtual 146, 3) := by decide +kernel
theorem dX6_odds_45 : decode cX6_odds 45 = .ok (.ifCond .ne 6, 3) := by decide +kernel
theorem dX6_odds_48 : decode cX6_odds 48 = .ok (.bipush (-2), 2) := by decide +kernel
theorem dX6_odds_50 : decode cX6_odds 50 = .ok (.ireturn, 1) := by decide +kernel
theorem dX6_odds_51 : decode cX6_odds 51 = .ok (.aload_n 0, 1) := by decide +kernel
theorem dX6_odds_52 : decode cX6_odds 52 = .ok (.iload_n 1, 1) := by decide +kernel
theorem dX6_odds_53 : decode cX6_odds 53 = .ok (.aload_n 0, 1) := by decide +kernel
theorem dX6_odds_54 : decode cX6_odds 54 = .ok (.getfield 120, 3) := by decide +kernel
theorem dX6_odds_57 : decode cX6_odds 57 = .ok (.iload_n 3, 1) := by decide +kernel
theorem dX6_odds_58 : decode cX6_odds 58 = .ok (.invokevirtual 155, 3) := by decide +kernel
theorem dX6_odds_61 : decode cX6_odds 61 = .ok (.bipush (-9), 2) := by decide +kernel
theorem dX6_odds_63 : decode cX6_odds 63 = .ok (.if_icmp .eq 7, 3) := by decide +kernel
theorem dX6_odds_66 : decode cX6_odds 66 = .ok (.iconst 1, 1) := by decide +kernel
theorem dX6_odds_67 : decode cX6_odds 67 = .ok (.goto 4, 3) := by decide +kernel
theorem dX6_odds_70 : decode cX6_odds 70 = .ok (.iconst 0, 1) := by decide +kernel
theorem dX6_odds_71 : decode cX6_odds 71 = .ok (.istore 5, 2) := by decide +kernel
theorem dX6_odds_73 : decode cX6_odds 73 = .ok (.iload 4, 2) := by decide +kernel
theorem dX6_odds_75 : decode cX6_odds 75 = .ok (.ifCond .ne 16, 3) := by decide +kernel
theorem dX6_odds_78 : decode cX6_odds 78 = .ok (.iload 5, 2) := by decide +kernel
theorem dX6_odds_80 : decode cX6_odds 80 = .ok (.ifCond .eq 7, 3) := by decide +kernel
theorem dX6_odds_83 : decode cX6_odds 83 = .ok (.iconst 1, 1) := by decide +kernel
theorem dX6_odds_84 : decode cX6_odds 84 = .ok (.goto 22, 3) := by decide +kernel
theorem dX6_odds_87 : decode cX6_odds 87 = .ok (.iconst 0, 1) := by decide +kernel
theorem dX6_odds_88 : decode cX6_odds 88 = .ok (.goto 18, 3) := by decide +kernel
theorem dX6_odds_91 : decode cX6_odds 91 = .ok (.iload 5, 2) := by decide +kernel
theorem dX6_odds_93 : decode cX6_odds 93 = .ok (.ifCond .eq 12, 3) := by decide +kernel
theorem dX6_odds_96 : decode cX6_odds 96 = .ok (.aload_n 0, 1) := by decide +kernel
theorem dX6_odds_97 : decode cX6_odds 97 = .ok (.iload_n 1, 1) := by decide +kernel
theorem dX6_odds_98 : decode cX6_odds 98 = .ok (.iload_n 2, 1) := by decide +kernel
theorem dX6_odds_99 : decode cX6_odds 99 = .ok (.invokevirtual 133, 3) := by decide +kernel
theorem dX6_odds_102 : decode cX6_odds 102 = .ok (.goto 4, 3) := by decide +kernel
theorem dX6_odds_105 : decode cX6_odds 105 = .ok (.iconst 1, 1) := by decide +kernel
theorem dX6_odds_106 : decode cX6_odds 106 = .ok (.ireturn, 1) := by decide +kernel
theorem dX6_sees_0 : decode cX6_sees 0 = .ok (.iload_n 1, 1) := by decide +kernel
theorem dX6_sees_1 : decode cX6_sees 1 = .ok (.iconst 0, 1) := by decide +kernel
theorem dX6_sees_2 : decode cX6_sees 2 = .ok (.bipush 119, 2) := by decide +kernel
theorem dX6_sees_4 : decode cX6_sees 4 = .ok (.invokestatic 62, 3) := by decide +kernel
theorem dX6_sees_7 : decode cX6_sees 7 = .ok (.ifCond .eq 12, 3) := by decide +kernel
theorem dX6_sees_10 : decode cX6_sees 10 = .ok (.iload_n 2, 1) := by decide +kernel
theorem dX6_sees_11 : decode cX6_sees 11 = .ok (.iconst 0, 1) := by decide +kernel
theorem dX6_sees_12 : decode cX6_sees 12 = .ok (.iconst 1, 1) := by decide +kernel
theorem dX6_sees_13 : decode cX6_sees 13 = .ok (.invokestatic 62, 3) := by decide +kernel
theorem dX6_sees_16 : decode cX6_sees 16 = .ok (.ifCond .ne 5, 3) := by decide +kernel
theorem dX6_sees_19 : decode cX6_sees 19 = .ok (.iconst (-1), 1) := by decide +kernel
theorem dX6_sees_20 : decode cX6_sees 20 = .ok (.ireturn, 1) := by decide +kernel
theorem dX6_sees_21 : decode cX6_sees 21 = .ok (.aload_n 0, 1) := by decide +kernel
theorem dX6_sees_22 : decode cX6_sees 22 = .ok (.getfield 123, 3) := by decide +kernel
theorem dX6_sees_25 : decode cX6_sees 25 = .ok (.bipush 6, 2) := by decide +kernel
theorem dX6_sees_27 : decode cX6_sees 27 = .ok (.if_icmp .ne 6, 3) := by decide +kernel
theorem dX6_sees_30 : decode cX6_sees 30 = .ok (.bipush (-3), 2) := by decide +kernel
theorem dX6_sees_32 : decode cX6_sees 32 = .ok (.ireturn, 1) := by decide +kernel
theorem dX6_sees_33 : decode cX6_sees 33 = .ok (.aload_n 0, 1) := by decide +kernel
theorem dX6_sees_34 : decode cX6_sees 34 = .ok (.getfield 22, 3) := by decide +kernel
theorem dX6_sees_37 : decode cX6_sees 37 = .ok (.aload_n 0, 1) := by decide +kernel
theorem dX6_sees_38 : decode cX6_sees 38 = .ok (.getfield 123, 3) := by decide +kernel
theorem dX6_sees_41 : decode cX6_sees 41 = .ok (.iload_n 1, 1) := by decide +kernel
theorem dX6_sees_42 : decode cX6_sees 42 = .ok (.iastore, 1) := by decide +kernel
theorem dX6_sees_43 : decode cX6_sees 43 = .ok (.aload_n 0, 1) := by decide +kernel
theorem dX6_sees_44 : decode cX6_sees 44 = .ok (.getfield 25, 3) := by decide +kernel
theorem dX6_sees_47 : decode cX6_sees 47 = .ok (.aload_n 0, 1) := by decide +kernel
theorem dX6_sees_48 : decode cX6_sees 48 = .ok (.getfield 123, 3) := by decide +kernel
theorem dX6_sees_51 : decode cX6_sees 51 = .ok (.iload_n 2, 1) := by decide +kernel
theorem dX6_sees_52 : decode cX6_sees 52 = .ok (.iastore, 1) := by decide +kernel
theorem dX6_sees_53 : decode cX6_sees 53 = .ok (.aload_n 0, 1) := by decide +kernel
theorem dX6_sees_54 : decode cX6_sees 54 = .ok (.dup, 1) := by decide +kernel
theorem dX6_sees_55 : decode cX6_sees 55 = .ok (.getfield 123, 3) := by decide +kernel
theorem dX6_sees_58 : decode cX6_sees 58 = .ok (.iconst 1, 1) := by decide +kernel
theorem dX6_sees_59 : decode cX6_sees 59 = .ok (.iadd, 1) := by decide +kernel
theorem dX6_sees_60 : decode cX6_sees 60 = .ok (.putfield 123, 3) := by decide +kernel
theorem dX6_sees_63 : decode cX6_sees 63 = .ok (.aload_n 0, 1) := by decide +kernel
theorem dX6_sees_64 : decode cX6_sees 64 = .ok (.getfield 123, 3) := by decide +kernel
theorem dX6_sees_67 : decode cX6_sees 67 = .ok (.ireturn, 1) := by decide +kernel
theorem dX6_forget_0 : decode cX6_forget 0 = .ok (.aload_n 0, 1) := by decide +kernel
theorem dX6_forget_1 : decode cX6_forget 1 = .ok (.getfield 123, 3) := by decide +kernel
theorem dX6_forget_4 : decode cX6_forget 4 = .ok (.istore_n 1, 1) := by decide +kernel
theorem dX6_forget_5 : decode cX6_forget 5 = .ok (.aload_n 0, 1) := by decide +kernel
theorem dX6_forget_6 : decode cX6_forget 6 = .ok (.iconst 0, 1) := by decide +kernel
theorem dX6_forget_7 : decode cX6_forget 7 = .ok (.putfield 123, 3) := by decide +kernel
theorem dX6_forget_10 : decode cX6_forget 10 = .ok (.iload_n 1, 1) := by decide +kernel
theorem dX6_forget_11 : decode cX6_forget 11 = .ok (.ireturn, 1) := by decide +kernel
theorem dX6_isSo_0 : decode cX6_isSo 0 = .ok (.iconst 1, 1) := by decide +kernel
theorem dX6_isSo_1 : decode cX6_isSo 1 = .ok (.istore 4, 2) := by decide +kernel
theorem dX6_isSo_3 : decode cX6_isSo 3 = .ok (.iconst 0, 1) := by decide +kernel
theorem dX6_isSo_4 : decode cX6_isSo 4 = .ok (.istore 5, 2) := by decide +kernel
theorem dX6_isSo_6 : decode cX6_isSo 6 = .ok (.iload 5, 2) := by decide +kernel
theorem dX6_isSo_8 : decode cX6_isSo 8 = .ok (.aload_n 0, 1) := by decide +kernel
theorem dX6_isSo_9 : decode cX6_isSo 9 = .ok (.getfield 123, 3) := by decide +kernel
theorem dX6_isSo_12 : decode cX6_isSo 12 = .ok (.if_icmp .ge 85, 3) := by decide +kernel
theorem dX6_isSo_15 : decode cX6_isSo 15 = .ok (.aload_n 0, 1) := by decide +kernel
theorem dX6_isSo_16 : decode cX6_isSo 16 = .ok (.getfield 22, 3) := by decide +kernel
theorem dX6_isSo_19 : decode cX6_isSo 19 = .ok (.iload 5, 2) := by decide +kernel
theorem dX6_isSo_21 : decode cX6_isSo 21 = .ok (.iaload, 1) := by decide +kernel
theorem dX6_isSo_22 : decode cX6_isSo 22 = .ok (.aload_n 0, 1) := by decide +kernel
theorem dX6_isSo_23 : decode cX6_isSo 23 = .ok (.getfield 7, 3) := by decide +kernel
theorem dX6_isSo_26 : decode cX6_isSo 26 = .ok (.iload_n 1, 1) := by decide +kernel
theorem dX6_isSo_27 : decode cX6_isSo 27 = .ok (.iaload, 1) := by decide +kernel
theorem dX6_isSo_28 : decode cX6_isSo 28 = .ok (.if_icmp .ge 27, 3) := by decide +kernel
theorem dX6_isSo_31 : decode cX6_isSo 31 = .ok (.aload_n 0, 1) := by decide +kernel
theorem dX6_isSo_32 : decode cX6_isSo 32 = .ok (.iload_n 1, 1) := by decide +kernel
theorem dX6_isSo_33 : decode cX6_isSo 33 = .ok (.iload_n 2, 1) := by decide +kernel
theorem dX6_isSo_34 : decode cX6_isSo 34 = .ok (.invokevirtual 133, 3) := by decide +kernel
theorem dX6_isSo_37 : decode cX6_isSo 37 = .ok (.aload_n 0, 1) := by decide +kernel
theorem dX6_isSo_38 : decode cX6_isSo 38 = .ok (.getfield 22, 3) := by decide +kernel
theorem dX6_isSo_41 : decode cX6_isSo 41 = .ok (.iload 5, 2) := by decide +kernel
theorem dX6_isSo_43 : decode cX6_isSo 43 = .ok (.iaload, 1) := by decide +kernel
theorem dX6_isSo_44 : decode cX6_isSo 44 = .ok (.iload_n 3, 1) := by decide +kernel
theorem dX6_isSo_45 : decode cX6_isSo 45 = .ok (.invokestatic 159, 3) := by decide +kernel
theorem dX6_isSo_48 : decode cX6_isSo 48 = .ok (.ifCond .eq 7, 3) := by decide +kernel
theorem dX6_isSo_51 : decode cX6_isSo 51 = .ok (.iconst 1, 1) := by decide +kernel
theorem dX6_isSo_52 : decode cX6_isSo 52 = .ok (.goto 4, 3) := by decide +kernel
theorem dX6_isSo_55 : decode cX6_isSo 55 = .ok (.iconst 0, 1) := by decide +kernel
theorem dX6_isSo_56 : decode cX6_isSo 56 = .ok (.istore 6, 2) := by decide +kernel
theorem dX6_isSo_58 : decode cX6_isSo 58 = .ok (.iload 4, 2) := by decide +kernel
theorem dX6_isSo_60 : decode cX6_isSo 60 = .ok (.ifCond .eq 28, 3) := by decide +kernel
theorem dX6_isSo_63 : decode cX6_isSo 63 = .ok (.iload 6, 2) := by decide +kernel
theorem dX6_isSo_65 : decode cX6_isSo 65 = .ok (.aload_n 0, 1) := by decide +kernel
theorem dX6_isSo_66 : decode cX6_isSo 66 = .ok (.getfield 25, 3) := by decide +kernel
theorem dX6_isSo_69 : decode cX6_isSo 69 = .ok (.iload 5, 2) := by decide +kernel
theorem dX6_isSo_71 : decode cX6_isSo 71 = .ok (.iaload, 1) := by decide +kernel
theorem dX6_isSo_72 : decode cX6_isSo 72 = .ok (.iconst 1, 1) := by decide +kernel
theorem dX6_isSo_73 : decode cX6_isSo 73 = .ok (.if_icmp .ne 7, 3) := by decide +kernel
theorem dX6_isSo_76 : decode cX6_isSo 76 = .ok (.iconst 1, 1) := by decide +kernel
theorem dX6_isSo_77 : decode cX6_isSo 77 = .ok (.goto 4, 3) := by decide +kernel
theorem dX6_isSo_80 : decode cX6_isSo 80 = .ok (.iconst 0, 1) := by decide +kernel
theorem dX6_isSo_81 : decode cX6_isSo 81 = .ok (.if_icmp .ne 7, 3) := by decide +kernel
theorem dX6_isSo_84 : decode cX6_isSo 84 = .ok (.iconst 1, 1) := by decide +kernel
theorem dX6_isSo_85 : decode cX6_isSo 85 = .ok (.goto 4, 3) := by decide +kernel
theorem dX6_isSo_88 : decode cX6_isSo 88 = .ok (.iconst 0, 1) := by decide +kernel
theorem dX6_isSo_89 : decode cX6_isSo 89 = .ok (.istore 4, 2) := by decide +kernel
theorem dX6_isSo_91 : decode cX6_isSo 91 = .ok (.iinc 5 1, 3) := by decide +kernel
theorem dX6_isSo_94 : decode cX6_isSo 94 = .ok (.goto (-88), 3) := by decide +kernel
theorem dX6_isSo_97 : decode cX6_isSo 97 = .ok (.iload 4, 2) := by decide +kernel
theorem dX6_isSo_99 : decode cX6_isSo 99 = .ok (.ireturn, 1) := by decide +kernel
theorem dX6_guess_0 : decode cX6_guess 0 = .ok (.aload_n 0, 1) := by decide +kernel
theorem dX6_guess_1 : decode cX6_guess 1 = .ok (.iload_n 1, 1) := by decide +kernel
theorem dX6_guess_2 : decode cX6_guess 2 = .ok (.invokevirtual 139, 3) := by decide +kernel
theorem dX6_guess_5 : decode cX6_guess 5 = .ok (.ifCond .eq 12, 3) := by decide +kernel
theorem dX6_guess_8 : decode cX6_guess 8 = .ok (.iload_n 2, 1) := by decide +kernel
theorem dX6_guess_9 : decode cX6_guess 9 = .ok (.iconst 0, 1) := by decide +kernel
theorem dX6_guess_10 : decode cX6_guess 10 = .ok (.iconst 1, 1) := by decide +kernel
theorem dX6_guess_11 : decode cX6_guess 11 = .ok (.invokestatic 62, 3) := by decide +kernel
theorem dX6_guess_14 : decode cX6_guess 14 = .ok (.ifCond .ne 5, 3) := by decide +kernel
theorem dX6_guess_17 : decode cX6_guess 17 = .ok (.iconst (-1), 1) := by decide +kernel
theorem dX6_guess_18 : decode cX6_guess 18 = .ok (.ireturn, 1) := by decide +kernel
theorem dX6_guess_19 : decode cX6_guess 19 = .ok (.iconst 0, 1) := by decide +kernel
theorem dX6_guess_20 : decode cX6_guess 20 = .ok (.istore_n 3, 1) := by decide +kernel
theorem dX6_guess_21 : decode cX6_guess 21 = .ok (.bipush (-9), 2) := by decide +kernel
theorem dX6_guess_23 : decode cX6_guess 23 = .ok (.istore 4, 2) := by decide +kernel
theorem dX6_guess_25 : decode cX6_guess 25 = .ok (.aload_n 0, 1) := by decide +kernel
theorem dX6_guess_26 : decode cX6_guess 26 = .ok (.getfield 66, 3) := by decide +kernel
theorem dX6_guess_29 : decode cX6_guess 29 = .ok (.iconst 1, 1) := by decide +kernel
theorem dX6_guess_30 : decode cX6_guess 30 = .ok (.isub, 1) := by decide +kernel
theorem dX6_guess_31 : decode cX6_guess 31 = .ok (.istore 5, 2) := by decide +kernel
theorem dX6_guess_33 : decode cX6_guess 33 = .ok (.iload 5, 2) := by decide +kernel
theorem dX6_guess_35 : decode cX6_guess 35 = .ok (.ifCond .lt 66, 3) := by decide +kernel
theorem dX6_guess_38 : decode cX6_guess 38 = .ok (.aload_n 0, 1) := by decide +kernel
theorem dX6_guess_39 : decode cX6_guess 39 = .ok (.getfield 7, 3) := by decide +kernel
theorem dX6_guess_42 : decode cX6_guess 42 = .ok (.iload_n 1, 1) := by decide +kernel
theorem dX6_guess_43 : decode cX6_guess 43 = .ok (.iaload, 1) := by decide +kernel
theorem dX6_guess_44 : decode cX6_guess 44 = .ok (.iconst 1, 1) := by decide +kernel
theorem dX6_guess_45 : decode cX6_guess 45 = .ok (.isub, 1) := by decide +kernel
theorem dX6_guess_46 : decode cX6_guess 46 = .ok (.istore 6, 2) := by decide +kernel
theorem dX6_guess_48 : decode cX6_guess 48 = .ok (.iload 6, 2) := by decide +kernel
theorem dX6_guess_50 : decode cX6_guess 50 = .ok (.ifCond .lt 45, 3) := by decide +kernel
theorem dX6_guess_53 : decode cX6_guess 53 = .ok (.aload_n 0, 1) := by decide +kernel
theorem dX6_guess_54 : decode cX6_guess 54 = .ok (.iload_n 1, 1) := by decide +kernel
theorem dX6_guess_55 : decode cX6_guess 55 = .ok (.iload 5, 2) := by decide +kernel
theorem dX6_guess_57 : decode cX6_guess 57 = .ok (.invokevirtual 146, 3) := by decide +kernel
theorem dX6_guess_60 : decode cX6_guess 60 = .ok (.ifCond .eq 29, 3) := by decide +kernel
theorem dX6_guess_63 : decode cX6_guess 63 = .ok (.aload_n 0, 1) := by decide +kernel
theorem dX6_guess_64 : decode cX6_guess 64 = .ok (.iload_n 1, 1) := by decide +kernel
theorem dX6_guess_65 : decode cX6_guess 65 = .ok (.iload 5, 2) := by decide +kernel
theorem dX6_guess_67 : decode cX6_guess 67 = .ok (.iload 6, 2) := by decide +kernel
theorem dX6_guess_69 : decode cX6_guess 69 = .ok (.invokevirtual 217, 3) := by decide +kernel
theorem dX6_guess_72 : decode cX6_guess 72 = .ok (.ifCond .eq 17, 3) := by decide +kernel
theorem dX6_guess_75 : decode cX6_guess 75 = .ok (.iinc 3 1, 3) := by decide +kernel
theorem dX6_guess_78 : decode cX6_guess 78 = .ok (.sipush 1000, 3) := by decide +kernel
theorem dX6_guess_81 : decode cX6_guess 81 = .ok (.iload 5, 2) := by decide +kernel
theorem dX6_guess_83 : decode cX6_guess 83 = .ok (.imul, 1) := by decide +kernel
theorem dX6_guess_84 : decode cX6_guess 84 = .ok (.iload 6, 2) := by decide +kernel
theorem dX6_guess_86 : decode cX6_guess 86 = .ok (.iadd, 1) := by decide +kernel
theorem dX6_guess_87 : decode cX6_guess 87 = .ok (.istore 4, 2) := by decide +kernel
theorem dX6_guess_89 : decode cX6_guess 89 = .ok (.iinc 6 (-1), 3) := by decide +kernel
theorem dX6_guess_92 : decode cX6_guess 92 = .ok (.goto (-44), 3) := by decide +kernel
theorem dX6_guess_95 : decode cX6_guess 95 = .ok (.iinc 5 (-1), 3) := by decide +kernel
theorem dX6_guess_98 : decode cX6_guess 98 = .ok (.goto (-65), 3) := by decide +kernel
theorem dX6_guess_101 : decode cX6_guess 101 = .ok (.iload_n 2, 1) := by decide +kernel
theorem dX6_guess_102 : decode cX6_guess 102 = .ok (.ifCond .ne 7, 3) := by decide +kernel
theorem dX6_guess_105 : decode cX6_guess 105 = .ok (.iload_n 3, 1) := by decide +kernel
theorem dX6_guess_106 : decode cX6_guess 106 = .ok (.goto 5, 3) := by decide +kernel
theorem dX6_guess_109 : decode cX6_guess 109 = .ok (.iload 4, 2) := by decide +kernel
theorem dX6_guess_111 : decode cX6_guess 111 = .ok (.ireturn, 1) := by decide +kernel
theorem dX6_look_0 : decode cX6_look 0 = .ok (.aload_n 0, 1) := by decide +kernel
theorem dX6_look_1 : decode cX6_look 1 = .ok (.iload_n 1, 1) := by decide +kernel
theorem dX6_look_2 : decode cX6_look 2 = .ok (.invokevirtual 139, 3) := by decide +kernel
theorem dX6_look_5 : decode cX6_look 5 = .ok (.ifCond .ne 5, 3) := by decide +kernel
theorem dX6_look_8 : decode cX6_look 8 = .ok (.iconst (-1), 1) := by decide +kernel
theorem dX6_look_9 : decode cX6_look 9 = .ok (.ireturn, 1) := by decide +kernel
theorem dX6_look_10 : decode cX6_look 10 = .ok (.iconst 0, 1) := by decide +kernel
theorem dX6_look_11 : decode cX6_look 11 = .ok (.istore_n 2, 1) := by decide +kernel
theorem dX6_look_12 : decode cX6_look 12 = .ok (.iconst 0, 1) := by decide +kernel
theorem dX6_look_13 : decode cX6_look 13 = .ok (.istore_n 3, 1) := by decide +kernel
theorem dX6_look_14 : decode cX6_look 14 = .ok (.iload_n 3, 1) := by decide +kernel
theorem dX6_look_15 : decode cX6_look 15 = .ok (.aload_n 0, 1) := by decide +kernel
theorem dX6_look_16 : decode cX6_look 16 = .ok (.getfield 7, 3) := by decide +kernel
theorem dX6_look_19 : decode cX6_look 19 = .ok (.iload_n 1, 1) := by decide +kernel
theorem dX6_look_20 : decode cX6_look 20 = .ok (.iaload, 1) := by decide +kernel
theorem dX6_look_21 : decode cX6_look 21 = .ok (.if_icmp .ge 16, 3) := by decide +kernel
theorem dX6_look_24 : decode cX6_look 24 = .ok (.aload_n 0, 1) := by decide +kernel
theorem dX6_look_25 : decode cX6_look 25 = .ok (.getfield 52, 3) := by decide +kernel
theorem dX6_look_28 : decode cX6_look 28 = .ok (.iload_n 3, 1) := by decide +kernel
theorem dX6_look_29 : decode cX6_look 29 = .ok (.iconst 0, 1) := by decide +kernel
theorem dX6_look_30 : decode cX6_look 30 = .ok (.iastore, 1) := by decide +kernel
theorem dX6_look_31 : decode cX6_look 31 = .ok (.iinc 3 1, 3) := by decide +kernel
theorem dX6_look_34 : decode cX6_look 34 = .ok (.goto (-20), 3) := by decide +kernel
theorem dX6_look_37 : decode cX6_look 37 = .ok (.iconst 0, 1) := by decide +kernel
theorem dX6_look_38 : decode cX6_look 38 = .ok (.istore_n 3, 1) := by decide +kernel
theorem dX6_look_39 : decode cX6_look 39 = .ok (.iload_n 3, 1) := by decide +kernel
theorem dX6_look_40 : decode cX6_look 40 = .ok (.aload_n 0, 1) := by decide +kernel
theorem dX6_look_41 : decode cX6_look 41 = .ok (.getfield 66, 3) := by decide +kernel
theorem dX6_look_44 : decode cX6_look 44 = .ok (.if_icmp .ge 99, 3) := by decide +kernel
theorem dX6_look_47 : decode cX6_look 47 = .ok (.iconst 0, 1) := by decide +kernel
theorem dX6_look_48 : decode cX6_look 48 = .ok (.istore 4, 2) := by decide +kernel
theorem dX6_look_50 : decode cX6_look 50 = .ok (.iload 4, 2) := by decide +kernel
theorem dX6_look_52 : decode cX6_look 52 = .ok (.aload_n 0, 1) := by decide +kernel
theorem dX6_look_53 : decode cX6_look 53 = .ok (.getfield 7, 3) := by decide +kernel
theorem dX6_look_56 : decode cX6_look 56 = .ok (.iload_n 1, 1) := by decide +kernel
theorem dX6_look_57 : decode cX6_look 57 = .ok (.iaload, 1) := by decide +kernel
theorem dX6_look_58 : decode cX6_look 58 = .ok (.if_icmp .ge 79, 3) := by decide +kernel
theorem dX6_look_61 : decode cX6_look 61 = .ok (.aload_n 0, 1) := by decide +kernel
theorem dX6_look_62 : decode cX6_look 62 = .ok (.iload_n 1, 1) := by decide +kernel
theorem dX6_look_63 : decode cX6_look 63 = .ok (.iload_n 3, 1) := by decide +kernel
theorem dX6_look_64 : decode cX6_look 64 = .ok (.invokevirtual 146, 3) := by decide +kernel
theorem dX6_look_67 : decode cX6_look 67 = .ok (.ifCond .eq 64, 3) := by decide +kernel
theorem dX6_look_70 : decode cX6_look 70 = .ok (.aload_n 0, 1) := by decide +kernel
theorem dX6_look_71 : decode cX6_look 71 = .ok (.iload_n 1, 1) := by decide +kernel
theorem dX6_look_72 : decode cX6_look 72 = .ok (.iload_n 3, 1) := by decide +kernel
theorem dX6_look_73 : decode cX6_look 73 = .ok (.iload 4, 2) := by decide +kernel
theorem dX6_look_75 : decode cX6_look 75 = .ok (.invokevirtual 217, 3) := by decide +kernel
theorem dX6_look_78 : decode cX6_look 78 = .ok (.ifCond .eq 53, 3) := by decide +kernel
theorem dX6_look_81 : decode cX6_look 81 = .ok (.iinc 2 1, 3) := by decide +kernel
theorem dX6_look_84 : decode cX6_look 84 = .ok (.iload 4, 2) := by decide +kernel
theorem dX6_look_86 : decode cX6_look 86 = .ok (.aload_n 0, 1) := by decide +kernel
theorem dX6_look_87 : decode cX6_look 87 = .ok (.iload_n 1, 1) := by decide +kernel
theorem dX6_look_88 : decode cX6_look 88 = .ok (.iload_n 3, 1) := by decide +kernel
theorem dX6_look_89 : decode cX6_look 89 = .ok (.invokevirtual 133, 3) := by decide +kernel
theorem dX6_look_92 : decode cX6_look 92 = .ok (.irem, 1) := by decide +kernel
theorem dX6_look_93 : decode cX6_look 93 = .ok (.istore 5, 2) := by decide +kernel
theorem dX6_look_95 : decode cX6_look 95 = .ok (.iload 5, 2) := by decide +kernel
theorem dX6_look_97 : decode cX6_look 97 = .ok (.aload_n 0, 1) := by decide +kernel
theorem dX6_look_98 : decode cX6_look 98 = .ok (.getfield 7, 3) := by decide +kernel
theorem dX6_look_101 : decode cX6_look 101 = .ok (.iload_n 1, 1) := by decide +kernel
theorem dX6_look_102 : decode cX6_look 102 = .ok (.iaload, 1) := by decide +kernel
theorem dX6_look_103 : decode cX6_look 103 = .ok (.if_icmp .ge 28, 3) := by decide +kernel
theorem dX6_look_106 : decode cX6_look 106 = .ok (.aload_n 0, 1) := by decide +kernel
theorem dX6_look_107 : decode cX6_look 107 = .ok (.getfield 52, 3) := by decide +kernel
theorem dX6_look_110 : decode cX6_look 110 = .ok (.iload 5, 2) := by decide +kernel
theorem dX6_look_112 : decode cX6_look 112 = .ok (.dup2, 1) := by decide +kernel
theorem dX6_look_113 : decode cX6_look 113 = .ok (.iaload, 1) := by decide +kernel
theorem dX6_look_114 : decode cX6_look 114 = .ok (.iconst 1, 1) := by decide +kernel
theorem dX6_look_115 : decode cX6_look 115 = .ok (.iadd, 1) := by decide +kernel
theorem dX6_look_116 : decode cX6_look 116 = .ok (.iastore, 1) := by decide +kernel
theorem dX6_look_117 : decode cX6_look 117 = .ok (.iload 5, 2) := by decide +kernel
theorem dX6_look_119 : decode cX6_look 119 = .ok (.aload_n 0, 1) := by decide +kernel
theorem dX6_look_120 : decode cX6_look 120 = .ok (.iload_n 1, 1) := by decide +kernel
theorem dX6_look_121 : decode cX6_look 121 = .ok (.iload_n 3, 1) := by decide +kernel
theorem dX6_look_122 : decode cX6_look 122 = .ok (.invokevirtual 133, 3) := by decide +kernel
theorem dX6_look_125 : decode cX6_look 125 = .ok (.iadd, 1) := by decide +kernel
theorem dX6_look_126 : decode cX6_look 126 = .ok (.istore 5, 2) := by decide +kernel
theorem dX6_look_128 : decode cX6_look 128 = .ok (.goto (-33), 3) := by decide +kernel
theorem dX6_look_131 : decode cX6_look 131 = .ok (.iinc 4 1, 3) := by decide +kernel
theorem dX6_look_134 : decode cX6_look 134 = .ok (.goto (-84), 3) := by decide +kernel
theorem dX6_look_137 : decode cX6_look 137 = .ok (.iinc 3 1, 3) := by decide +kernel
theorem dX6_look_140 : decode cX6_look 140 = .ok (.goto (-101), 3) := by decide +kernel
theorem dX6_look_143 : decode cX6_look 143 = .ok (.bipush (-9), 2) := by decide +kernel
theorem dX6_look_145 : decode cX6_look 145 = .ok (.istore_n 3, 1) := by decide +kernel
theorem dX6_look_146 : decode cX6_look 146 = .ok (.iload_n 2, 1) := by decide +kernel
theorem dX6_look_147 : decode cX6_look 147 = .ok (.istore 4, 2) := by decide +kernel
theorem dX6_look_149 : decode cX6_look 149 = .ok (.iconst 0, 1) := by decide +kernel
theorem dX6_look_150 : decode cX6_look 150 = .ok (.istore 5, 2) := by decide +kernel
theorem dX6_look_152 : decode cX6_look 152 = .ok (.iload 5, 2) := by decide +kernel
theorem dX6_look_154 : decode cX6_look 154 = .ok (.aload_n 0, 1) := by decide +kernel
theorem dX6_look_155 : decode cX6_look 155 = .ok (.getfield 7, 3) := by decide +kernel
theorem dX6_look_158 : decode cX6_look 158 = .ok (.iload_n 1, 1) := by decide +kernel
theorem dX6_look_159 : decode cX6_look 159 = .ok (.iaload, 1) := by decide +kernel
theorem dX6_look_160 : decode cX6_look 160 = .ok (.if_icmp .ge 79, 3) := by decide +kernel
theorem dX6_look_163 : decode cX6_look 163 = .ok (.aload_n 0, 1) := by decide +kernel
theorem dX6_look_164 : decode cX6_look 164 = .ok (.getfield 52, 3) := by decide +kernel
theorem dX6_look_167 : decode cX6_look 167 = .ok (.iload 5, 2) := by decide +kernel
theorem dX6_look_169 : decode cX6_look 169 = .ok (.iaload, 1) := by decide +kernel
theorem dX6_look_170 : decode cX6_look 170 = .ok (.iload_n 2, 1) := by decide +kernel
theorem dX6_look_171 : decode cX6_look 171 = .ok (.aload_n 0, 1) := by decide +kernel
theorem dX6_look_172 : decode cX6_look 172 = .ok (.getfield 52, 3) := by decide +kernel
theorem dX6_look_175 : decode cX6_look 175 = .ok (.iload 5, 2) := by decide +kernel
theorem dX6_look_177 : decode cX6_look 177 = .ok (.iaload, 1) := by decide +kernel
theorem dX6_look_178 : decode cX6_look 178 = .ok (.isub, 1) := by decide +kernel
theorem dX6_look_179 : decode cX6_look 179 = .ok (.if_icmp .le 13, 3) := by decide +kernel
theorem dX6_look_182 : decode cX6_look 182 = .ok (.aload_n 0, 1) := by decide +kernel
theorem dX6_look_183 : decode cX6_look 183 = .ok (.getfield 52, 3) := by decide +kernel
theorem dX6_look_186 : decode cX6_look 186 = .ok (.iload 5, 2) := by decide +kernel
theorem dX6_look_188 : decode cX6_look 188 = .ok (.iaload, 1) := by decide +kernel
theorem dX6_look_189 : decode cX6_look 189 = .ok (.goto 12, 3) := by decide +kernel
theorem dX6_look_192 : decode cX6_look 192 = .ok (.iload_n 2, 1) := by decide +kernel
theorem dX6_look_193 : decode cX6_look 193 = .ok (.aload_n 0, 1) := by decide +kernel
theorem dX6_look_194 : decode cX6_look 194 = .ok (.getfield 52, 3) := by decide +kernel
theorem dX6_look_197 : decode cX6_look 197 = .ok (.iload 5, 2) := by decide +kernel
theorem dX6_look_199 : decode cX6_look 199 = .ok (.iaload, 1) := by decide +kernel
theorem dX6_look_200 : decode cX6_look 200 = .ok (.isub, 1) := by decide +kernel
theorem dX6_look_201 : decode cX6_look 201 = .ok (.istore 6, 2) := by decide +kernel
theorem dX6_look_203 : decode cX6_look 203 = .ok (.iload 6, 2) := by decide +kernel
theorem dX6_look_205 : decode cX6_look 205 = .ok (.iload 4, 2) := by decide +kernel
theorem dX6_look_207 : decode cX6_look 207 = .ok (.if_icmp .ge 8, 3) := by decide +kernel
theorem dX6_look_210 : decode cX6_look 210 = .ok (.iload 5, 2) := by decide +kernel
theorem dX6_look_212 : decode cX6_look 212 = .ok (.goto 4, 3) := by decide +kernel
theorem dX6_look_215 : decode cX6_look 215 = .ok (.iload_n 3, 1) := by decide +kernel
theorem dX6_look_216 : decode cX6_look 216 = .ok (.istore_n 3, 1) := by decide +kernel
theorem dX6_look_217 : decode cX6_look 217 = .ok (.iload 6, 2) := by decide +kernel
theorem dX6_look_219 : decode cX6_look 219 = .ok (.iload 4, 2) := by decide +kernel
theorem dX6_look_221 : decode cX6_look 221 = .ok (.if_icmp .ge 8, 3) := by decide +kernel
theorem dX6_look_224 : decode cX6_look 224 = .ok (.iload 6, 2) := by decide +kernel
theorem dX6_look_226 : decode cX6_look 226 = .ok (.goto 5, 3) := by decide +kernel
theorem dX6_look_229 : decode cX6_look 229 = .ok (.iload 4, 2) := by decide +kernel
theorem dX6_look_231 : decode cX6_look 231 = .ok (.istore 4, 2) := by decide +kernel
theorem dX6_look_233 : decode cX6_look 233 = .ok (.iinc 5 1, 3) := by decide +kernel
theorem dX6_look_236 : decode cX6_look 236 = .ok (.goto (-84), 3) := by decide +kernel
theorem dX6_look_239 : decode cX6_look 239 = .ok (.iload_n 3, 1) := by decide +kernel
theorem dX6_look_240 : decode cX6_look 240 = .ok (.ireturn, 1) := by decide +kernel
theorem dX6_marked_0 : decode cX6_marked 0 = .ok (.bipush 6, 2) := by decide +kernel
theorem dX6_marked_2 : decode cX6_marked 2 = .ok (.iload_n 2, 1) := by decide +kernel
theorem dX6_marked_3 : decode cX6_marked 3 = .ok (.imul, 1) := by decide +kernel
theorem dX6_marked_4 : decode cX6_marked 4 = .ok (.istore_n 3, 1) := by decide +kernel
theorem dX6_marked_5 : decode cX6_marked 5 = .ok (.aload_n 0, 1) := by decide +kernel
theorem dX6_marked_6 : decode cX6_marked 6 = .ok (.aload_n 0, 1) := by decide +kernel
theorem dX6_marked_7 : decode cX6_marked 7 = .ok (.getfield 19, 3) := by decide +kernel
theorem dX6_marked_10 : decode cX6_marked 10 = .ok (.iload_n 3, 1) := by decide +kernel
theorem dX6_marked_11 : decode cX6_marked 11 = .ok (.iaload, 1) := by decide +kernel
theorem dX6_marked_12 : decode cX6_marked 12 = .ok (.aload_n 0, 1) := by decide +kernel
theorem dX6_marked_13 : decode cX6_marked 13 = .ok (.getfield 19, 3) := by decide +kernel
theorem dX6_marked_16 : decode cX6_marked 16 = .ok (.iload_n 3, 1) := by decide +kernel
theorem dX6_marked_17 : decode cX6_marked 17 = .ok (.iconst 1, 1) := by decide +kernel
theorem dX6_marked_18 : decode cX6_marked 18 = .ok (.iadd, 1) := by decide +kernel
theorem dX6_marked_19 : decode cX6_marked 19 = .ok (.iaload, 1) := by decide +kernel
theorem dX6_marked_20 : decode cX6_marked 20 = .ok (.invokevirtual 149, 3) := by decide +kernel
theorem dX6_marked_23 : decode cX6_marked 23 = .ok (.istore 4, 2) := by decide +kernel
theorem dX6_marked_25 : decode cX6_marked 25 = .ok (.aload_n 0, 1) := by decide +kernel
theorem dX6_marked_26 : decode cX6_marked 26 = .ok (.dup, 1) := by decide +kernel
theorem dX6_marked_27 : decode cX6_marked 27 = .ok (.getfield 220, 3) := by decide +kernel
theorem dX6_marked_30 : decode cX6_marked 30 = .ok (.lconst 1, 1) := by decide +kernel
theorem dX6_marked_31 : decode cX6_marked 31 = .ok (.ladd, 1) := by decide +kernel
theorem dX6_marked_32 : decode cX6_marked 32 = .ok (.putfield 220, 3) := by decide +kernel
theorem dX6_marked_35 : decode cX6_marked 35 = .ok (.iload_n 1, 1) := by decide +kernel
theorem dX6_marked_36 : decode cX6_marked 36 = .ok (.iconst 1, 1) := by decide +kernel
theorem dX6_marked_37 : decode cX6_marked 37 = .ok (.if_icmp .eq 8, 3) := by decide +kernel
theorem dX6_marked_40 : decode cX6_marked 40 = .ok (.iload_n 1, 1) := by decide +kernel
theorem dX6_marked_41 : decode cX6_marked 41 = .ok (.iconst 3, 1) := by decide +kernel
theorem dX6_marked_42 : decode cX6_marked 42 = .ok (.if_icmp .ne 28, 3) := by decide +kernel
theorem dX6_marked_45 : decode cX6_marked 45 = .ok (.iload 4, 2) := by decide +kernel
theorem dX6_marked_47 : decode cX6_marked 47 = .ok (.aload_n 0, 1) := by decide +kernel
theorem dX6_marked_48 : decode cX6_marked 48 = .ok (.getfield 19, 3) := by decide +kernel
theorem dX6_marked_51 : decode cX6_marked 51 = .ok (.iload_n 3, 1) := by decide +kernel
theorem dX6_marked_52 : decode cX6_marked 52 = .ok (.iconst 2, 1) := by decide +kernel
theorem dX6_marked_53 : decode cX6_marked 53 = .ok (.iadd, 1) := by decide +kernel
theorem dX6_marked_54 : decode cX6_marked 54 = .ok (.iaload, 1) := by decide +kernel
theorem dX6_marked_55 : decode cX6_marked 55 = .ok (.iadd, 1) := by decide +kernel
theorem dX6_marked_56 : decode cX6_marked 56 = .ok (.istore 4, 2) := by decide +kernel
theorem dX6_marked_58 : decode cX6_marked 58 = .ok (.aload_n 0, 1) := by decide +kernel
theorem dX6_marked_59 : decode cX6_marked 59 = .ok (.dup, 1) := by decide +kernel
theorem dX6_marked_60 : decode cX6_marked 60 = .ok (.getfield 220, 3) := by decide +kernel
theorem dX6_marked_63 : decode cX6_marked 63 = .ok (.ldc2_w 224, 3) := by decide +kernel
theorem dX6_marked_66 : decode cX6_marked 66 = .ok (.ladd, 1) := by decide +kernel
theorem dX6_marked_67 : decode cX6_marked 67 = .ok (.putfield 220, 3) := by decide +kernel
theorem dX6_marked_70 : decode cX6_marked 70 = .ok (.iload_n 1, 1) := by decide +kernel
theorem dX6_marked_71 : decode cX6_marked 71 = .ok (.iconst 2, 1) := by decide +kernel
theorem dX6_marked_72 : decode cX6_marked 72 = .ok (.if_icmp .eq 8, 3) := by decide +kernel
theorem dX6_marked_75 : decode cX6_marked 75 = .ok (.iload_n 1, 1) := by decide +kernel
theorem dX6_marked_76 : decode cX6_marked 76 = .ok (.iconst 4, 1) := by decide +kernel
theorem dX6_marked_77 : decode cX6_marked 77 = .ok (.if_icmp .ne 38, 3) := by decide +kernel
theorem dX6_marked_80 : decode cX6_marked 80 = .ok (.iload 4, 2) := by decide +kernel
theorem dX6_marked_82 : decode cX6_marked 82 = .ok (.aload_n 0, 1) := by decide +kernel
theorem dX6_marked_83 : decode cX6_marked 83 = .ok (.aload_n 0, 1) := by decide +kernel
theorem dX6_marked_84 : decode cX6_marked 84 = .ok (.getfield 19, 3) := by decide +kernel
theorem dX6_marked_87 : decode cX6_marked 87 = .ok (.iload_n 3, 1) := by decide +kernel
theorem dX6_marked_88 : decode cX6_marked 88 = .ok (.iaload, 1) := by decide +kernel
theorem dX6_marked_89 : decode cX6_marked 89 = .ok (.aload_n 0, 1) := by decide +kernel
theorem dX6_marked_90 : decode cX6_marked 90 = .ok (.getfield 19, 3) := by decide +kernel
theorem dX6_marked_93 : decode cX6_marked 93 = .ok (.iload_n 3, 1) := by decide +kernel
theorem dX6_marked_94 : decode cX6_marked 94 = .ok (.iconst 1, 1) := by decide +kernel
theorem dX6_marked_95 : decode cX6_marked 95 = .ok (.iadd, 1) := by decide +kernel
theorem dX6_marked_96 : decode cX6_marked 96 = .ok (.iaload, 1) := by decide +kernel
theorem dX6_marked_97 : decode cX6_marked 97 = .ok (.invokevirtual 136, 3) := by decide +kernel
theorem dX6_marked_100 : decode cX6_marked 100 = .ok (.isub, 1) := by decide +kernel
theorem dX6_marked_101 : decode cX6_marked 101 = .ok (.istore 4, 2) := by decide +kernel
theorem dX6_marked_103 : decode cX6_marked 103 = .ok (.aload_n 0, 1) := by decide +kernel
theorem dX6_marked_104 : decode cX6_marked 104 = .ok (.dup, 1) := by decide +kernel
theorem dX6_marked_105 : decode cX6_marked 105 = .ok (.getfield 220, 3) := by decide +kernel
theorem dX6_marked_108 : decode cX6_marked 108 = .ok (.ldc2_w 226, 3) := by decide +kernel
theorem dX6_marked_111 : decode cX6_marked 111 = .ok (.ladd, 1) := by decide +kernel
theorem dX6_marked_112 : decode cX6_marked 112 = .ok (.putfield 220, 3) := by decide +kernel
theorem dX6_marked_115 : decode cX6_marked 115 = .ok (.iload_n 1, 1) := by decide +kernel
theorem dX6_marked_116 : decode cX6_marked 116 = .ok (.iconst 3, 1) := by decide +kernel
theorem dX6_marked_117 : decode cX6_marked 117 = .ok (.if_icmp .ne 21, 3) := by decide +kernel
theorem dX6_marked_120 : decode cX6_marked 120 = .ok (.iload 4, 2) := by decide +kernel
theorem dX6_marked_122 : decode cX6_marked 122 = .ok (.iconst 2, 1) := by decide +kernel
theorem dX6_marked_123 : decode cX6_marked 123 = .ok (.imul, 1) := by decide +kernel
theorem dX6_marked_124 : decode cX6_marked 124 = .ok (.istore 4, 2) := by decide +kernel
theorem dX6_marked_126 : decode cX6_marked 126 = .ok (.aload_n 0, 1) := by decide +kernel
theorem dX6_marked_127 : decode cX6_marked 127 = .ok (.dup, 1) := by decide +kernel
theorem dX6_marked_128 : decode cX6_marked 128 = .ok (.getfield 220, 3) := by decide +kernel
theorem dX6_marked_131 : decode cX6_marked 131 = .ok (.ldc2_w 228, 3) := by decide +kernel
theorem dX6_marked_134 : decode cX6_marked 134 = .ok (.ladd, 1) := by decide +kernel
theorem dX6_marked_135 : decode cX6_marked 135 = .ok (.putfield 220, 3) := by decide +kernel
theorem dX6_marked_138 : decode cX6_marked 138 = .ok (.iload_n 1, 1) := by decide +kernel
theorem dX6_marked_139 : decode cX6_marked 139 = .ok (.iconst 4, 1) := by decide +kernel
theorem dX6_marked_140 : decode cX6_marked 140 = .ok (.if_icmp .ne 21, 3) := by decide +kernel
theorem dX6_marked_143 : decode cX6_marked 143 = .ok (.iload 4, 2) := by decide +kernel
theorem dX6_marked_145 : decode cX6_marked 145 = .ok (.iload_n 2, 1) := by decide +kernel
theorem dX6_marked_146 : decode cX6_marked 146 = .ok (.iadd, 1) := by decide +kernel
theorem dX6_marked_147 : decode cX6_marked 147 = .ok (.istore 4, 2) := by decide +kernel
theorem dX6_marked_149 : decode cX6_marked 149 = .ok (.aload_n 0, 1) := by decide +kernel
theorem dX6_marked_150 : decode cX6_marked 150 = .ok (.dup, 1) := by decide +kernel
theorem dX6_marked_151 : decode cX6_marked 151 = .ok (.getfield 220, 3) := by decide +kernel
theorem dX6_marked_154 : decode cX6_marked 154 = .ok (.ldc2_w 230, 3) := by decide +kernel
theorem dX6_marked_157 : decode cX6_marked 157 = .ok (.ladd, 1) := by decide +kernel
theorem dX6_marked_158 : decode cX6_marked 158 = .ok (.putfield 220, 3) := by decide +kernel
theorem dX6_marked_161 : decode cX6_marked 161 = .ok (.iload_n 1, 1) := by decide +kernel
theorem dX6_marked_162 : decode cX6_marked 162 = .ok (.iconst 5, 1) := by decide +kernel
theorem dX6_marked_163 : decode cX6_marked 163 = .ok (.if_icmp .ne 28, 3) := by decide +kernel
theorem dX6_marked_166 : decode cX6_marked 166 = .ok (.iload 4, 2) := by decide +kernel
theorem dX6_marked_168 : decode cX6_marked 168 = .ok (.aload_n 0, 1) := by decide +kernel
theorem dX6_marked_169 : decode cX6_marked 169 = .ok (.getfield 19, 3) := by decide +kernel
theorem dX6_marked_172 : decode cX6_marked 172 = .ok (.iload_n 3, 1) := by decide +kernel
theorem dX6_marked_173 : decode cX6_marked 173 = .ok (.iconst 3, 1) := by decide +kernel
end
section
theorem dX6_marked_174 : decode cX6_marked 174 = .ok (.iadd, 1) := by decide +kernel
theorem dX6_marked_175 : decode cX6_marked 175 = .ok (.iaload, 1) := by decide +kernel
theorem dX6_marked_176 : decode cX6_marked 176 = .ok (.iadd, 1) := by decide +kernel
theorem dX6_marked_177 : decode cX6_marked 177 = .ok (.istore 4, 2) := by decide +kernel
theorem dX6_marked_179 : decode cX6_marked 179 = .ok (.aload_n 0, 1) := by decide +kernel
theorem dX6_marked_180 : decode cX6_marked 180 = .ok (.dup, 1) := by decide +kernel
theorem dX6_marked_181 : decode cX6_marked 181 = .ok (.getfield 220, 3) := by decide +kernel
theorem dX6_marked_184 : decode cX6_marked 184 = .ok (.ldc2_w 232, 3) := by decide +kernel
theorem dX6_marked_187 : decode cX6_marked 187 = .ok (.ladd, 1) := by decide +kernel
theorem dX6_marked_188 : decode cX6_marked 188 = .ok (.putfield 220, 3) := by decide +kernel
theorem dX6_marked_191 : decode cX6_marked 191 = .ok (.iload 4, 2) := by decide +kernel
theorem dX6_marked_193 : decode cX6_marked 193 = .ok (.ireturn, 1) := by decide +kernel
theorem dX6_mark_0 : decode cX6_mark 0 = .ok (.iload_n 1, 1) := by decide +kernel
theorem dX6_mark_1 : decode cX6_mark 1 = .ok (.iconst 0, 1) := by decide +kernel
theorem dX6_mark_2 : decode cX6_mark 2 = .ok (.iconst 5, 1) := by decide +kernel
theorem dX6_mark_3 : decode cX6_mark 3 = .ok (.invokestatic 62, 3) := by decide +kernel
theorem dX6_mark_6 : decode cX6_mark 6 = .ok (.ifCond .eq 20, 3) := by decide +kernel
theorem dX6_mark_9 : decode cX6_mark 9 = .ok (.aload_n 0, 1) := by decide +kernel
theorem dX6_mark_10 : decode cX6_mark 10 = .ok (.iload_n 2, 1) := by decide +kernel
theorem dX6_mark_11 : decode cX6_mark 11 = .ok (.invokevirtual 178, 3) := by decide +kernel
theorem dX6_mark_14 : decode cX6_mark 14 = .ok (.ifCond .eq 12, 3) := by decide +kernel
theorem dX6_mark_17 : decode cX6_mark 17 = .ok (.aload_n 0, 1) := by decide +kernel
theorem dX6_mark_18 : decode cX6_mark 18 = .ok (.iload_n 1, 1) := by decide +kernel
theorem dX6_mark_19 : decode cX6_mark 19 = .ok (.iload_n 2, 1) := by decide +kernel
theorem dX6_mark_20 : decode cX6_mark 20 = .ok (.invokevirtual 234, 3) := by decide +kernel
theorem dX6_mark_23 : decode cX6_mark 23 = .ok (.goto 5, 3) := by decide +kernel
theorem dX6_mark_26 : decode cX6_mark 26 = .ok (.ldc 237, 2) := by decide +kernel
theorem dX6_mark_28 : decode cX6_mark 28 = .ok (.ireturn, 1) := by decide +kernel
theorem dX6_keep_0 : decode cX6_keep 0 = .ok (.iload_n 1, 1) := by decide +kernel
theorem dX6_keep_1 : decode cX6_keep 1 = .ok (.iconst 0, 1) := by decide +kernel
theorem dX6_keep_2 : decode cX6_keep 2 = .ok (.iconst 1, 1) := by decide +kernel
theorem dX6_keep_3 : decode cX6_keep 3 = .ok (.invokestatic 62, 3) := by decide +kernel
theorem dX6_keep_6 : decode cX6_keep 6 = .ok (.ifCond .ne 5, 3) := by decide +kernel
theorem dX6_keep_9 : decode cX6_keep 9 = .ok (.iconst (-1), 1) := by decide +kernel
theorem dX6_keep_10 : decode cX6_keep 10 = .ok (.ireturn, 1) := by decide +kernel
theorem dX6_keep_11 : decode cX6_keep 11 = .ok (.sipush 860, 3) := by decide +kernel
theorem dX6_keep_14 : decode cX6_keep 14 = .ok (.iload_n 1, 1) := by decide +kernel
theorem dX6_keep_15 : decode cX6_keep 15 = .ok (.imul, 1) := by decide +kernel
theorem dX6_keep_16 : decode cX6_keep 16 = .ok (.istore_n 2, 1) := by decide +kernel
theorem dX6_keep_17 : decode cX6_keep 17 = .ok (.aload_n 0, 1) := by decide +kernel
theorem dX6_keep_18 : decode cX6_keep 18 = .ok (.getfield 55, 3) := by decide +kernel
theorem dX6_keep_21 : decode cX6_keep 21 = .ok (.iload_n 2, 1) := by decide +kernel
theorem dX6_keep_22 : decode cX6_keep 22 = .ok (.iconst 1, 1) := by decide +kernel
theorem dX6_keep_23 : decode cX6_keep 23 = .ok (.iastore, 1) := by decide +kernel
theorem dX6_keep_24 : decode cX6_keep 24 = .ok (.aload_n 0, 1) := by decide +kernel
theorem dX6_keep_25 : decode cX6_keep 25 = .ok (.getfield 55, 3) := by decide +kernel
theorem dX6_keep_28 : decode cX6_keep 28 = .ok (.iload_n 2, 1) := by decide +kernel
theorem dX6_keep_29 : decode cX6_keep 29 = .ok (.iconst 1, 1) := by decide +kernel
theorem dX6_keep_30 : decode cX6_keep 30 = .ok (.iadd, 1) := by decide +kernel
theorem dX6_keep_31 : decode cX6_keep 31 = .ok (.aload_n 0, 1) := by decide +kernel
theorem dX6_keep_32 : decode cX6_keep 32 = .ok (.getfield 126, 3) := by decide +kernel
theorem dX6_keep_35 : decode cX6_keep 35 = .ok (.iastore, 1) := by decide +kernel
theorem dX6_keep_36 : decode cX6_keep 36 = .ok (.aload_n 0, 1) := by decide +kernel
theorem dX6_keep_37 : decode cX6_keep 37 = .ok (.aload_n 0, 1) := by decide +kernel
theorem dX6_keep_38 : decode cX6_keep 38 = .ok (.getfield 55, 3) := by decide +kernel
theorem dX6_keep_41 : decode cX6_keep 41 = .ok (.iload_n 2, 1) := by decide +kernel
theorem dX6_keep_42 : decode cX6_keep 42 = .ok (.iconst 2, 1) := by decide +kernel
theorem dX6_keep_43 : decode cX6_keep 43 = .ok (.iadd, 1) := by decide +kernel
theorem dX6_keep_44 : decode cX6_keep 44 = .ok (.invokevirtual 184, 3) := by decide +kernel
theorem dX6_keep_47 : decode cX6_keep 47 = .ok (.iconst 0, 1) := by decide +kernel
theorem dX6_keep_48 : decode cX6_keep 48 = .ok (.istore_n 3, 1) := by decide +kernel
theorem dX6_keep_49 : decode cX6_keep 49 = .ok (.iload_n 3, 1) := by decide +kernel
theorem dX6_keep_50 : decode cX6_keep 50 = .ok (.sipush 780, 3) := by decide +kernel
theorem dX6_keep_53 : decode cX6_keep 53 = .ok (.if_icmp .ge 26, 3) := by decide +kernel
theorem dX6_keep_56 : decode cX6_keep 56 = .ok (.aload_n 0, 1) := by decide +kernel
theorem dX6_keep_57 : decode cX6_keep 57 = .ok (.getfield 55, 3) := by decide +kernel
theorem dX6_keep_60 : decode cX6_keep 60 = .ok (.iload_n 2, 1) := by decide +kernel
theorem dX6_keep_61 : decode cX6_keep 61 = .ok (.bipush 80, 2) := by decide +kernel
theorem dX6_keep_63 : decode cX6_keep 63 = .ok (.iadd, 1) := by decide +kernel
theorem dX6_keep_64 : decode cX6_keep 64 = .ok (.iload_n 3, 1) := by decide +kernel
theorem dX6_keep_65 : decode cX6_keep 65 = .ok (.iadd, 1) := by decide +kernel
theorem dX6_keep_66 : decode cX6_keep 66 = .ok (.aload_n 0, 1) := by decide +kernel
theorem dX6_keep_67 : decode cX6_keep 67 = .ok (.getfield 40, 3) := by decide +kernel
theorem dX6_keep_70 : decode cX6_keep 70 = .ok (.iload_n 3, 1) := by decide +kernel
theorem dX6_keep_71 : decode cX6_keep 71 = .ok (.iaload, 1) := by decide +kernel
theorem dX6_keep_72 : decode cX6_keep 72 = .ok (.iastore, 1) := by decide +kernel
theorem dX6_keep_73 : decode cX6_keep 73 = .ok (.iinc 3 1, 3) := by decide +kernel
theorem dX6_keep_76 : decode cX6_keep 76 = .ok (.goto (-27), 3) := by decide +kernel
theorem dX6_keep_79 : decode cX6_keep 79 = .ok (.aload_n 0, 1) := by decide +kernel
theorem dX6_keep_80 : decode cX6_keep 80 = .ok (.getfield 72, 3) := by decide +kernel
theorem dX6_keep_83 : decode cX6_keep 83 = .ok (.ireturn, 1) := by decide +kernel
theorem dX6_back_0 : decode cX6_back 0 = .ok (.iload_n 1, 1) := by decide +kernel
theorem dX6_back_1 : decode cX6_back 1 = .ok (.iconst 0, 1) := by decide +kernel
theorem dX6_back_2 : decode cX6_back 2 = .ok (.iconst 1, 1) := by decide +kernel
theorem dX6_back_3 : decode cX6_back 3 = .ok (.invokestatic 62, 3) := by decide +kernel
theorem dX6_back_6 : decode cX6_back 6 = .ok (.ifCond .ne 5, 3) := by decide +kernel
theorem dX6_back_9 : decode cX6_back 9 = .ok (.iconst (-1), 1) := by decide +kernel
theorem dX6_back_10 : decode cX6_back 10 = .ok (.ireturn, 1) := by decide +kernel
theorem dX6_back_11 : decode cX6_back 11 = .ok (.sipush 860, 3) := by decide +kernel
theorem dX6_back_14 : decode cX6_back 14 = .ok (.iload_n 1, 1) := by decide +kernel
theorem dX6_back_15 : decode cX6_back 15 = .ok (.imul, 1) := by decide +kernel
theorem dX6_back_16 : decode cX6_back 16 = .ok (.istore_n 2, 1) := by decide +kernel
theorem dX6_back_17 : decode cX6_back 17 = .ok (.aload_n 0, 1) := by decide +kernel
theorem dX6_back_18 : decode cX6_back 18 = .ok (.getfield 55, 3) := by decide +kernel
theorem dX6_back_21 : decode cX6_back 21 = .ok (.iload_n 2, 1) := by decide +kernel
theorem dX6_back_22 : decode cX6_back 22 = .ok (.iaload, 1) := by decide +kernel
theorem dX6_back_23 : decode cX6_back 23 = .ok (.ifCond .ne 6, 3) := by decide +kernel
theorem dX6_back_26 : decode cX6_back 26 = .ok (.bipush (-2), 2) := by decide +kernel
theorem dX6_back_28 : decode cX6_back 28 = .ok (.ireturn, 1) := by decide +kernel
theorem dX6_back_29 : decode cX6_back 29 = .ok (.aload_n 0, 1) := by decide +kernel
theorem dX6_back_30 : decode cX6_back 30 = .ok (.aload_n 0, 1) := by decide +kernel
theorem dX6_back_31 : decode cX6_back 31 = .ok (.getfield 55, 3) := by decide +kernel
theorem dX6_back_34 : decode cX6_back 34 = .ok (.iload_n 2, 1) := by decide +kernel
theorem dX6_back_35 : decode cX6_back 35 = .ok (.iconst 1, 1) := by decide +kernel
theorem dX6_back_36 : decode cX6_back 36 = .ok (.iadd, 1) := by decide +kernel
theorem dX6_back_37 : decode cX6_back 37 = .ok (.iaload, 1) := by decide +kernel
theorem dX6_back_38 : decode cX6_back 38 = .ok (.putfield 126, 3) := by decide +kernel
theorem dX6_back_41 : decode cX6_back 41 = .ok (.aload_n 0, 1) := by decide +kernel
theorem dX6_back_42 : decode cX6_back 42 = .ok (.aload_n 0, 1) := by decide +kernel
theorem dX6_back_43 : decode cX6_back 43 = .ok (.getfield 55, 3) := by decide +kernel
theorem dX6_back_46 : decode cX6_back 46 = .ok (.iload_n 2, 1) := by decide +kernel
theorem dX6_back_47 : decode cX6_back 47 = .ok (.iconst 2, 1) := by decide +kernel
theorem dX6_back_48 : decode cX6_back 48 = .ok (.iadd, 1) := by decide +kernel
theorem dX6_back_49 : decode cX6_back 49 = .ok (.invokevirtual 191, 3) := by decide +kernel
theorem dX6_back_52 : decode cX6_back 52 = .ok (.iconst 0, 1) := by decide +kernel
theorem dX6_back_53 : decode cX6_back 53 = .ok (.istore_n 3, 1) := by decide +kernel
theorem dX6_back_54 : decode cX6_back 54 = .ok (.iload_n 3, 1) := by decide +kernel
theorem dX6_back_55 : decode cX6_back 55 = .ok (.sipush 780, 3) := by decide +kernel
theorem dX6_back_58 : decode cX6_back 58 = .ok (.if_icmp .ge 26, 3) := by decide +kernel
theorem dX6_back_61 : decode cX6_back 61 = .ok (.aload_n 0, 1) := by decide +kernel
theorem dX6_back_62 : decode cX6_back 62 = .ok (.getfield 40, 3) := by decide +kernel
theorem dX6_back_65 : decode cX6_back 65 = .ok (.iload_n 3, 1) := by decide +kernel
theorem dX6_back_66 : decode cX6_back 66 = .ok (.aload_n 0, 1) := by decide +kernel
theorem dX6_back_67 : decode cX6_back 67 = .ok (.getfield 55, 3) := by decide +kernel
theorem dX6_back_70 : decode cX6_back 70 = .ok (.iload_n 2, 1) := by decide +kernel
theorem dX6_back_71 : decode cX6_back 71 = .ok (.bipush 80, 2) := by decide +kernel
theorem dX6_back_73 : decode cX6_back 73 = .ok (.iadd, 1) := by decide +kernel
theorem dX6_back_74 : decode cX6_back 74 = .ok (.iload_n 3, 1) := by decide +kernel
theorem dX6_back_75 : decode cX6_back 75 = .ok (.iadd, 1) := by decide +kernel
theorem dX6_back_76 : decode cX6_back 76 = .ok (.iaload, 1) := by decide +kernel
theorem dX6_back_77 : decode cX6_back 77 = .ok (.iastore, 1) := by decide +kernel
theorem dX6_back_78 : decode cX6_back 78 = .ok (.iinc 3 1, 3) := by decide +kernel
theorem dX6_back_81 : decode cX6_back 81 = .ok (.goto (-27), 3) := by decide +kernel
theorem dX6_back_84 : decode cX6_back 84 = .ok (.aload_n 0, 1) := by decide +kernel
theorem dX6_back_85 : decode cX6_back 85 = .ok (.getfield 72, 3) := by decide +kernel
theorem dX6_back_88 : decode cX6_back 88 = .ok (.ireturn, 1) := by decide +kernel
theorem dX6_count_0 : decode cX6_count 0 = .ok (.iload_n 1, 1) := by decide +kernel
theorem dX6_count_1 : decode cX6_count 1 = .ok (.iconst 0, 1) := by decide +kernel
theorem dX6_count_2 : decode cX6_count 2 = .ok (.iconst 5, 1) := by decide +kernel
theorem dX6_count_3 : decode cX6_count 3 = .ok (.invokestatic 62, 3) := by decide +kernel
theorem dX6_count_6 : decode cX6_count 6 = .ok (.ifCond .ne 5, 3) := by decide +kernel
theorem dX6_count_9 : decode cX6_count 9 = .ok (.iconst (-1), 1) := by decide +kernel
theorem dX6_count_10 : decode cX6_count 10 = .ok (.ireturn, 1) := by decide +kernel
theorem dX6_count_11 : decode cX6_count 11 = .ok (.iload_n 1, 1) := by decide +kernel
theorem dX6_count_12 : decode cX6_count 12 = .ok (.ifCond .ne 10, 3) := by decide +kernel
theorem dX6_count_15 : decode cX6_count 15 = .ok (.aload_n 0, 1) := by decide +kernel
theorem dX6_count_16 : decode cX6_count 16 = .ok (.getfield 58, 3) := by decide +kernel
theorem dX6_count_19 : decode cX6_count 19 = .ok (.goto 55, 3) := by decide +kernel
theorem dX6_count_22 : decode cX6_count 22 = .ok (.iload_n 1, 1) := by decide +kernel
theorem dX6_count_23 : decode cX6_count 23 = .ok (.iconst 1, 1) := by decide +kernel
theorem dX6_count_24 : decode cX6_count 24 = .ok (.if_icmp .ne 10, 3) := by decide +kernel
theorem dX6_count_27 : decode cX6_count 27 = .ok (.aload_n 0, 1) := by decide +kernel
theorem dX6_count_28 : decode cX6_count 28 = .ok (.getfield 66, 3) := by decide +kernel
theorem dX6_count_31 : decode cX6_count 31 = .ok (.goto 43, 3) := by decide +kernel
theorem dX6_count_34 : decode cX6_count 34 = .ok (.iload_n 1, 1) := by decide +kernel
theorem dX6_count_35 : decode cX6_count 35 = .ok (.iconst 2, 1) := by decide +kernel
theorem dX6_count_36 : decode cX6_count 36 = .ok (.if_icmp .ne 10, 3) := by decide +kernel
theorem dX6_count_39 : decode cX6_count 39 = .ok (.aload_n 0, 1) := by decide +kernel
theorem dX6_count_40 : decode cX6_count 40 = .ok (.getfield 69, 3) := by decide +kernel
theorem dX6_count_43 : decode cX6_count 43 = .ok (.goto 31, 3) := by decide +kernel
theorem dX6_count_46 : decode cX6_count 46 = .ok (.iload_n 1, 1) := by decide +kernel
theorem dX6_count_47 : decode cX6_count 47 = .ok (.iconst 3, 1) := by decide +kernel
theorem dX6_count_48 : decode cX6_count 48 = .ok (.if_icmp .ne 10, 3) := by decide +kernel
theorem dX6_count_51 : decode cX6_count 51 = .ok (.aload_n 0, 1) := by decide +kernel
theorem dX6_count_52 : decode cX6_count 52 = .ok (.getfield 123, 3) := by decide +kernel
theorem dX6_count_55 : decode cX6_count 55 = .ok (.goto 19, 3) := by decide +kernel
theorem dX6_count_58 : decode cX6_count 58 = .ok (.iload_n 1, 1) := by decide +kernel
theorem dX6_count_59 : decode cX6_count 59 = .ok (.iconst 4, 1) := by decide +kernel
theorem dX6_count_60 : decode cX6_count 60 = .ok (.if_icmp .ne 10, 3) := by decide +kernel
theorem dX6_count_63 : decode cX6_count 63 = .ok (.aload_n 0, 1) := by decide +kernel
theorem dX6_count_64 : decode cX6_count 64 = .ok (.getfield 126, 3) := by decide +kernel
theorem dX6_count_67 : decode cX6_count 67 = .ok (.goto 7, 3) := by decide +kernel
theorem dX6_count_70 : decode cX6_count 70 = .ok (.aload_n 0, 1) := by decide +kernel
theorem dX6_count_71 : decode cX6_count 71 = .ok (.getfield 75, 3) := by decide +kernel
theorem dX6_count_74 : decode cX6_count 74 = .ok (.ireturn, 1) := by decide +kernel
theorem dX6_trace_0 : decode cX6_trace 0 = .ok (.aload_n 0, 1) := by decide +kernel
theorem dX6_trace_1 : decode cX6_trace 1 = .ok (.getfield 220, 3) := by decide +kernel
theorem dX6_trace_4 : decode cX6_trace 4 = .ok (.lreturn, 1) := by decide +kernel
theorem dJ9_floorMod_7cf53_0 : decode cJ9_floorMod_7cf53 0 = .ok (.iload_n 0, 1) := by decide +kernel
theorem dJ9_floorMod_7cf53_1 : decode cJ9_floorMod_7cf53 1 = .ok (.iload_n 1, 1) := by decide +kernel
theorem dJ9_floorMod_7cf53_2 : decode cJ9_floorMod_7cf53 2 = .ok (.irem, 1) := by decide +kernel
theorem dJ9_floorMod_7cf53_3 : decode cJ9_floorMod_7cf53 3 = .ok (.istore_n 2, 1) := by decide +kernel
theorem dJ9_floorMod_7cf53_4 : decode cJ9_floorMod_7cf53 4 = .ok (.iload_n 0, 1) := by decide +kernel
theorem dJ9_floorMod_7cf53_5 : decode cJ9_floorMod_7cf53 5 = .ok (.iload_n 1, 1) := by decide +kernel
theorem dJ9_floorMod_7cf53_6 : decode cJ9_floorMod_7cf53 6 = .ok (.ixor, 1) := by decide +kernel
theorem dJ9_floorMod_7cf53_7 : decode cJ9_floorMod_7cf53 7 = .ok (.ifCond .ge 11, 3) := by decide +kernel
theorem dJ9_floorMod_7cf53_10 : decode cJ9_floorMod_7cf53 10 = .ok (.iload_n 2, 1) := by decide +kernel
theorem dJ9_floorMod_7cf53_11 : decode cJ9_floorMod_7cf53 11 = .ok (.ifCond .eq 7, 3) := by decide +kernel
theorem dJ9_floorMod_7cf53_14 : decode cJ9_floorMod_7cf53 14 = .ok (.iload_n 2, 1) := by decide +kernel
theorem dJ9_floorMod_7cf53_15 : decode cJ9_floorMod_7cf53 15 = .ok (.iload_n 1, 1) := by decide +kernel
theorem dJ9_floorMod_7cf53_16 : decode cJ9_floorMod_7cf53 16 = .ok (.iadd, 1) := by decide +kernel
theorem dJ9_floorMod_7cf53_17 : decode cJ9_floorMod_7cf53 17 = .ok (.ireturn, 1) := by decide +kernel
theorem dJ9_floorMod_7cf53_18 : decode cJ9_floorMod_7cf53 18 = .ok (.iload_n 2, 1) := by decide +kernel
theorem dJ9_floorMod_7cf53_19 : decode cJ9_floorMod_7cf53 19 = .ok (.ireturn, 1) := by decide +kernel
theorem dJ9_max_7cf53_0 : decode cJ9_max_7cf53 0 = .ok (.iload_n 0, 1) := by decide +kernel
theorem dJ9_max_7cf53_1 : decode cJ9_max_7cf53 1 = .ok (.iload_n 1, 1) := by decide +kernel
theorem dJ9_max_7cf53_2 : decode cJ9_max_7cf53 2 = .ok (.if_icmp .lt 7, 3) := by decide +kernel
theorem dJ9_max_7cf53_5 : decode cJ9_max_7cf53 5 = .ok (.iload_n 0, 1) := by decide +kernel
theorem dJ9_max_7cf53_6 : decode cJ9_max_7cf53 6 = .ok (.goto 4, 3) := by decide +kernel
theorem dJ9_max_7cf53_9 : decode cJ9_max_7cf53 9 = .ok (.iload_n 1, 1) := by decide +kernel
theorem dJ9_max_7cf53_10 : decode cJ9_max_7cf53 10 = .ok (.ireturn, 1) := by decide +kernel
theorem dJ9_min_7cf53_0 : decode cJ9_min_7cf53 0 = .ok (.iload_n 0, 1) := by decide +kernel
theorem dJ9_min_7cf53_1 : decode cJ9_min_7cf53 1 = .ok (.iload_n 1, 1) := by decide +kernel
theorem dJ9_min_7cf53_2 : decode cJ9_min_7cf53 2 = .ok (.if_icmp .gt 7, 3) := by decide +kernel
theorem dJ9_min_7cf53_5 : decode cJ9_min_7cf53 5 = .ok (.iload_n 0, 1) := by decide +kernel
theorem dJ9_min_7cf53_6 : decode cJ9_min_7cf53 6 = .ok (.goto 4, 3) := by decide +kernel
theorem dJ9_min_7cf53_9 : decode cJ9_min_7cf53 9 = .ok (.iload_n 1, 1) := by decide +kernel
theorem dJ9_min_7cf53_10 : decode cJ9_min_7cf53 10 = .ok (.ireturn, 1) := by decide +kernel
theorem dJ7_fill_53178_0 : decode cJ7_fill_53178 0 = .ok (.iconst 0, 1) := by decide +kernel
theorem dJ7_fill_53178_1 : decode cJ7_fill_53178 1 = .ok (.istore_n 2, 1) := by decide +kernel
theorem dJ7_fill_53178_2 : decode cJ7_fill_53178 2 = .ok (.aload_n 0, 1) := by decide +kernel
theorem dJ7_fill_53178_3 : decode cJ7_fill_53178 3 = .ok (.arraylength, 1) := by decide +kernel
theorem dJ7_fill_53178_4 : decode cJ7_fill_53178 4 = .ok (.istore_n 3, 1) := by decide +kernel
theorem dJ7_fill_53178_5 : decode cJ7_fill_53178 5 = .ok (.iload_n 2, 1) := by decide +kernel
theorem dJ7_fill_53178_6 : decode cJ7_fill_53178 6 = .ok (.iload_n 3, 1) := by decide +kernel
theorem dJ7_fill_53178_7 : decode cJ7_fill_53178 7 = .ok (.if_icmp .ge 13, 3) := by decide +kernel
theorem dJ7_fill_53178_10 : decode cJ7_fill_53178 10 = .ok (.aload_n 0, 1) := by decide +kernel
theorem dJ7_fill_53178_11 : decode cJ7_fill_53178 11 = .ok (.iload_n 2, 1) := by decide +kernel
theorem dJ7_fill_53178_12 : decode cJ7_fill_53178 12 = .ok (.iload_n 1, 1) := by decide +kernel
theorem dJ7_fill_53178_13 : decode cJ7_fill_53178 13 = .ok (.iastore, 1) := by decide +kernel
theorem dJ7_fill_53178_14 : decode cJ7_fill_53178 14 = .ok (.iinc 2 1, 3) := by decide +kernel
theorem dJ7_fill_53178_17 : decode cJ7_fill_53178 17 = .ok (.goto (-12), 3) := by decide +kernel
theorem dJ7_fill_53178_20 : decode cJ7_fill_53178 20 = .ok (.return_, 1) := by decide +kernel
theorem dJ7_copyOf_59c91_0 : decode cJ7_copyOf_59c91 0 = .ok (.iload_n 1, 1) := by decide +kernel
theorem dJ7_copyOf_59c91_1 : decode cJ7_copyOf_59c91 1 = .ok (.aload_n 0, 1) := by decide +kernel
theorem dJ7_copyOf_59c91_2 : decode cJ7_copyOf_59c91 2 = .ok (.arraylength, 1) := by decide +kernel
theorem dJ7_copyOf_59c91_3 : decode cJ7_copyOf_59c91 3 = .ok (.if_icmp .ne 11, 3) := by decide +kernel
theorem dJ7_copyOf_59c91_6 : decode cJ7_copyOf_59c91 6 = .ok (.aload_n 0, 1) := by decide +kernel
theorem dJ7_copyOf_59c91_7 : decode cJ7_copyOf_59c91 7 = .ok (.invokevirtual 316, 3) := by decide +kernel
theorem dJ7_copyOf_59c91_10 : decode cJ7_copyOf_59c91 10 = .ok (.checkcast 317, 3) := by decide +kernel
theorem dJ7_copyOf_59c91_13 : decode cJ7_copyOf_59c91 13 = .ok (.areturn, 1) := by decide +kernel
theorem dJ7_copyOf_59c91_14 : decode cJ7_copyOf_59c91 14 = .ok (.iload_n 1, 1) := by decide +kernel
theorem dJ7_copyOf_59c91_15 : decode cJ7_copyOf_59c91 15 = .ok (.newarray .int, 2) := by decide +kernel
theorem dJ7_copyOf_59c91_17 : decode cJ7_copyOf_59c91 17 = .ok (.astore_n 2, 1) := by decide +kernel
theorem dJ7_copyOf_59c91_18 : decode cJ7_copyOf_59c91 18 = .ok (.aload_n 0, 1) := by decide +kernel
theorem dJ7_copyOf_59c91_19 : decode cJ7_copyOf_59c91 19 = .ok (.iconst 0, 1) := by decide +kernel
theorem dJ7_copyOf_59c91_20 : decode cJ7_copyOf_59c91 20 = .ok (.aload_n 2, 1) := by decide +kernel
theorem dJ7_copyOf_59c91_21 : decode cJ7_copyOf_59c91 21 = .ok (.iconst 0, 1) := by decide +kernel
theorem dJ7_copyOf_59c91_22 : decode cJ7_copyOf_59c91 22 = .ok (.aload_n 0, 1) := by decide +kernel
theorem dJ7_copyOf_59c91_23 : decode cJ7_copyOf_59c91 23 = .ok (.arraylength, 1) := by decide +kernel
theorem dJ7_copyOf_59c91_24 : decode cJ7_copyOf_59c91 24 = .ok (.iload_n 1, 1) := by decide +kernel
theorem dJ7_copyOf_59c91_25 : decode cJ7_copyOf_59c91 25 = .ok (.invokestatic 304, 3) := by decide +kernel
theorem dJ7_copyOf_59c91_28 : decode cJ7_copyOf_59c91 28 = .ok (.invokestatic 150, 3) := by decide +kernel
theorem dJ7_copyOf_59c91_31 : decode cJ7_copyOf_59c91 31 = .ok (.aload_n 2, 1) := by decide +kernel
theorem dJ7_copyOf_59c91_32 : decode cJ7_copyOf_59c91 32 = .ok (.areturn, 1) := by decide +kernel
theorem dL_law_0 : decode cL_law 0 = .ok (.new 7, 3) := by decide +kernel
theorem dL_law_3 : decode cL_law 3 = .ok (.dup, 1) := by decide +kernel
theorem dL_law_4 : decode cL_law 4 = .ok (.invokespecial 9, 3) := by decide +kernel
theorem dL_law_7 : decode cL_law 7 = .ok (.astore_n 1, 1) := by decide +kernel
theorem dL_law_8 : decode cL_law 8 = .ok (.new 10, 3) := by decide +kernel
theorem dL_law_11 : decode cL_law 11 = .ok (.dup, 1) := by decide +kernel
theorem dL_law_12 : decode cL_law 12 = .ok (.invokespecial 12, 3) := by decide +kernel
theorem dL_law_15 : decode cL_law 15 = .ok (.astore_n 2, 1) := by decide +kernel
theorem dL_law_16 : decode cL_law 16 = .ok (.iconst 0, 1) := by decide +kernel
theorem dL_law_17 : decode cL_law 17 = .ok (.istore_n 3, 1) := by decide +kernel
theorem dL_law_18 : decode cL_law 18 = .ok (.iload_n 3, 1) := by decide +kernel
theorem dL_law_19 : decode cL_law 19 = .ok (.aload_n 0, 1) := by decide +kernel
theorem dL_law_20 : decode cL_law 20 = .ok (.arraylength, 1) := by decide +kernel
theorem dL_law_21 : decode cL_law 21 = .ok (.bipush 6, 2) := by decide +kernel
theorem dL_law_23 : decode cL_law 23 = .ok (.isub, 1) := by decide +kernel
theorem dL_law_24 : decode cL_law 24 = .ok (.if_icmp .gt 947, 3) := by decide +kernel
theorem dL_law_27 : decode cL_law 27 = .ok (.aload_n 0, 1) := by decide +kernel
theorem dL_law_28 : decode cL_law 28 = .ok (.iload_n 3, 1) := by decide +kernel
theorem dL_law_29 : decode cL_law 29 = .ok (.iaload, 1) := by decide +kernel
theorem dL_law_30 : decode cL_law 30 = .ok (.bipush 31, 2) := by decide +kernel
theorem dL_law_32 : decode cL_law 32 = .ok (.iand, 1) := by decide +kernel
theorem dL_law_33 : decode cL_law 33 = .ok (.tableswitch 932 0 27 #[127, 150, 163, 176, 199, 242, 275, 308, 371, 394, 417, 450, 463, 486, 519, 552, 595, 628, 661, 714, 747, 760, 793, 816, 849, 872, 895, 918], 127) := by decide +kernel
theorem dL_law_160 : decode cL_law 160 = .ok (.aload_n 1, 1) := by decide +kernel
theorem dL_law_161 : decode cL_law 161 = .ok (.aload_n 0, 1) := by decide +kernel
theorem dL_law_162 : decode cL_law 162 = .ok (.iload_n 3, 1) := by decide +kernel
theorem dL_law_163 : decode cL_law 163 = .ok (.iconst 1, 1) := by decide +kernel
theorem dL_law_164 : decode cL_law 164 = .ok (.iadd, 1) := by decide +kernel
theorem dL_law_165 : decode cL_law 165 = .ok (.iaload, 1) := by decide +kernel
theorem dL_law_166 : decode cL_law 166 = .ok (.invokevirtual 13, 3) := by decide +kernel
theorem dL_law_169 : decode cL_law 169 = .ok (.aload_n 2, 1) := by decide +kernel
theorem dL_law_170 : decode cL_law 170 = .ok (.aload_n 0, 1) := by decide +kernel
theorem dL_law_171 : decode cL_law 171 = .ok (.iload_n 3, 1) := by decide +kernel
theorem dL_law_172 : decode cL_law 172 = .ok (.iconst 1, 1) := by decide +kernel
theorem dL_law_173 : decode cL_law 173 = .ok (.iadd, 1) := by decide +kernel
theorem dL_law_174 : decode cL_law 174 = .ok (.iaload, 1) := by decide +kernel
theorem dL_law_175 : decode cL_law 175 = .ok (.invokevirtual 17, 3) := by decide +kernel
theorem dL_law_178 : decode cL_law 178 = .ok (.if_icmp .eq 787, 3) := by decide +kernel
theorem dL_law_181 : decode cL_law 181 = .ok (.iconst 0, 1) := by decide +kernel
theorem dL_law_182 : decode cL_law 182 = .ok (.ireturn, 1) := by decide +kernel
theorem dL_law_183 : decode cL_law 183 = .ok (.aload_n 1, 1) := by decide +kernel
theorem dL_law_184 : decode cL_law 184 = .ok (.invokevirtual 18, 3) := by decide +kernel
theorem dL_law_187 : decode cL_law 187 = .ok (.aload_n 2, 1) := by decide +kernel
theorem dL_law_188 : decode cL_law 188 = .ok (.invokevirtual 22, 3) := by decide +kernel
theorem dL_law_191 : decode cL_law 191 = .ok (.if_icmp .eq 774, 3) := by decide +kernel
theorem dL_law_194 : decode cL_law 194 = .ok (.iconst 0, 1) := by decide +kernel
theorem dL_law_195 : decode cL_law 195 = .ok (.ireturn, 1) := by decide +kernel
theorem dL_law_196 : decode cL_law 196 = .ok (.aload_n 1, 1) := by decide +kernel
theorem dL_law_197 : decode cL_law 197 = .ok (.invokevirtual 23, 3) := by decide +kernel
theorem dL_law_200 : decode cL_law 200 = .ok (.aload_n 2, 1) := by decide +kernel
theorem dL_law_201 : decode cL_law 201 = .ok (.invokevirtual 26, 3) := by decide +kernel
theorem dL_law_204 : decode cL_law 204 = .ok (.if_icmp .eq 761, 3) := by decide +kernel
theorem dL_law_207 : decode cL_law 207 = .ok (.iconst 0, 1) := by decide +kernel
theorem dL_law_208 : decode cL_law 208 = .ok (.ireturn, 1) := by decide +kernel
theorem dL_law_209 : decode cL_law 209 = .ok (.aload_n 1, 1) := by decide +kernel
theorem dL_law_210 : decode cL_law 210 = .ok (.aload_n 0, 1) := by decide +kernel
theorem dL_law_211 : decode cL_law 211 = .ok (.iload_n 3, 1) := by decide +kernel
theorem dL_law_212 : decode cL_law 212 = .ok (.iconst 1, 1) := by decide +kernel
theorem dL_law_213 : decode cL_law 213 = .ok (.iadd, 1) := by decide +kernel
theorem dL_law_214 : decode cL_law 214 = .ok (.iaload, 1) := by decide +kernel
theorem dL_law_215 : decode cL_law 215 = .ok (.invokevirtual 27, 3) := by decide +kernel
theorem dL_law_218 : decode cL_law 218 = .ok (.aload_n 2, 1) := by decide +kernel
theorem dL_law_219 : decode cL_law 219 = .ok (.aload_n 0, 1) := by decide +kernel
theorem dL_law_220 : decode cL_law 220 = .ok (.iload_n 3, 1) := by decide +kernel
theorem dL_law_221 : decode cL_law 221 = .ok (.iconst 1, 1) := by decide +kernel
theorem dL_law_222 : decode cL_law 222 = .ok (.iadd, 1) := by decide +kernel
theorem dL_law_223 : decode cL_law 223 = .ok (.iaload, 1) := by decide +kernel
theorem dL_law_224 : decode cL_law 224 = .ok (.invokevirtual 30, 3) := by decide +kernel
theorem dL_law_227 : decode cL_law 227 = .ok (.if_icmp .eq 738, 3) := by decide +kernel
theorem dL_law_230 : decode cL_law 230 = .ok (.iconst 0, 1) := by decide +kernel
theorem dL_law_231 : decode cL_law 231 = .ok (.ireturn, 1) := by decide +kernel
theorem dL_law_232 : decode cL_law 232 = .ok (.aload_n 1, 1) := by decide +kernel
theorem dL_law_233 : decode cL_law 233 = .ok (.aload_n 0, 1) := by decide +kernel
theorem dL_law_234 : decode cL_law 234 = .ok (.iload_n 3, 1) := by decide +kernel
theorem dL_law_235 : decode cL_law 235 = .ok (.iconst 1, 1) := by decide +kernel
theorem dL_law_236 : decode cL_law 236 = .ok (.iadd, 1) := by decide +kernel
theorem dL_law_237 : decode cL_law 237 = .ok (.iaload, 1) := by decide +kernel
theorem dL_law_238 : decode cL_law 238 = .ok (.aload_n 0, 1) := by decide +kernel
theorem dL_law_239 : decode cL_law 239 = .ok (.iload_n 3, 1) := by decide +kernel
theorem dL_law_240 : decode cL_law 240 = .ok (.iconst 2, 1) := by decide +kernel
theorem dL_law_241 : decode cL_law 241 = .ok (.iadd, 1) := by decide +kernel
theorem dL_law_242 : decode cL_law 242 = .ok (.iaload, 1) := by decide +kernel
theorem dL_law_243 : decode cL_law 243 = .ok (.aload_n 0, 1) := by decide +kernel
theorem dL_law_244 : decode cL_law 244 = .ok (.iload_n 3, 1) := by decide +kernel
theorem dL_law_245 : decode cL_law 245 = .ok (.iconst 3, 1) := by decide +kernel
theorem dL_law_246 : decode cL_law 246 = .ok (.iadd, 1) := by decide +kernel
theorem dL_law_247 : decode cL_law 247 = .ok (.iaload, 1) := by decide +kernel
theorem dL_law_248 : decode cL_law 248 = .ok (.invokevirtual 31, 3) := by decide +kernel
theorem dL_law_251 : decode cL_law 251 = .ok (.aload_n 2, 1) := by decide +kernel
theorem dL_law_252 : decode cL_law 252 = .ok (.aload_n 0, 1) := by decide +kernel
theorem dL_law_253 : decode cL_law 253 = .ok (.iload_n 3, 1) := by decide +kernel
theorem dL_law_254 : decode cL_law 254 = .ok (.iconst 1, 1) := by decide +kernel
theorem dL_law_255 : decode cL_law 255 = .ok (.iadd, 1) := by decide +kernel
theorem dL_law_256 : decode cL_law 256 = .ok (.iaload, 1) := by decide +kernel
theorem dL_law_257 : decode cL_law 257 = .ok (.aload_n 0, 1) := by decide +kernel
theorem dL_law_258 : decode cL_law 258 = .ok (.iload_n 3, 1) := by decide +kernel
theorem dL_law_259 : decode cL_law 259 = .ok (.iconst 2, 1) := by decide +kernel
theorem dL_law_260 : decode cL_law 260 = .ok (.iadd, 1) := by decide +kernel
theorem dL_law_261 : decode cL_law 261 = .ok (.iaload, 1) := by decide +kernel
theorem dL_law_262 : decode cL_law 262 = .ok (.aload_n 0, 1) := by decide +kernel
theorem dL_law_263 : decode cL_law 263 = .ok (.iload_n 3, 1) := by decide +kernel
theorem dL_law_264 : decode cL_law 264 = .ok (.iconst 3, 1) := by decide +kernel
theorem dL_law_265 : decode cL_law 265 = .ok (.iadd, 1) := by decide +kernel
theorem dL_law_266 : decode cL_law 266 = .ok (.iaload, 1) := by decide +kernel
theorem dL_law_267 : decode cL_law 267 = .ok (.invokevirtual 35, 3) := by decide +kernel
theorem dL_law_270 : decode cL_law 270 = .ok (.if_icmp .eq 695, 3) := by decide +kernel
theorem dL_law_273 : decode cL_law 273 = .ok (.iconst 0, 1) := by decide +kernel
theorem dL_law_274 : decode cL_law 274 = .ok (.ireturn, 1) := by decide +kernel
theorem dL_law_275 : decode cL_law 275 = .ok (.aload_n 1, 1) := by decide +kernel
theorem dL_law_276 : decode cL_law 276 = .ok (.aload_n 0, 1) := by decide +kernel
theorem dL_law_277 : decode cL_law 277 = .ok (.iload_n 3, 1) := by decide +kernel
theorem dL_law_278 : decode cL_law 278 = .ok (.iconst 1, 1) := by decide +kernel
theorem dL_law_279 : decode cL_law 279 = .ok (.iadd, 1) := by decide +kernel
theorem dL_law_280 : decode cL_law 280 = .ok (.iaload, 1) := by decide +kernel
theorem dL_law_281 : decode cL_law 281 = .ok (.aload_n 0, 1) := by decide +kernel
theorem dL_law_282 : decode cL_law 282 = .ok (.iload_n 3, 1) := by decide +kernel
theorem dL_law_283 : decode cL_law 283 = .ok (.iconst 2, 1) := by decide +kernel
theorem dL_law_284 : decode cL_law 284 = .ok (.iadd, 1) := by decide +kernel
theorem dL_law_285 : decode cL_law 285 = .ok (.iaload, 1) := by decide +kernel
theorem dL_law_286 : decode cL_law 286 = .ok (.invokevirtual 36, 3) := by decide +kernel
theorem dL_law_289 : decode cL_law 289 = .ok (.aload_n 2, 1) := by decide +kernel
theorem dL_law_290 : decode cL_law 290 = .ok (.aload_n 0, 1) := by decide +kernel
theorem dL_law_291 : decode cL_law 291 = .ok (.iload_n 3, 1) := by decide +kernel
theorem dL_law_292 : decode cL_law 292 = .ok (.iconst 1, 1) := by decide +kernel
theorem dL_law_293 : decode cL_law 293 = .ok (.iadd, 1) := by decide +kernel
theorem dL_law_294 : decode cL_law 294 = .ok (.iaload, 1) := by decide +kernel
theorem dL_law_295 : decode cL_law 295 = .ok (.aload_n 0, 1) := by decide +kernel
theorem dL_law_296 : decode cL_law 296 = .ok (.iload_n 3, 1) := by decide +kernel
theorem dL_law_297 : decode cL_law 297 = .ok (.iconst 2, 1) := by decide +kernel
theorem dL_law_298 : decode cL_law 298 = .ok (.iadd, 1) := by decide +kernel
theorem dL_law_299 : decode cL_law 299 = .ok (.iaload, 1) := by decide +kernel
theorem dL_law_300 : decode cL_law 300 = .ok (.invokevirtual 40, 3) := by decide +kernel
theorem dL_law_303 : decode cL_law 303 = .ok (.if_icmp .eq 662, 3) := by decide +kernel
theorem dL_law_306 : decode cL_law 306 = .ok (.iconst 0, 1) := by decide +kernel
theorem dL_law_307 : decode cL_law 307 = .ok (.ireturn, 1) := by decide +kernel
theorem dL_law_308 : decode cL_law 308 = .ok (.aload_n 1, 1) := by decide +kernel
theorem dL_law_309 : decode cL_law 309 = .ok (.aload_n 0, 1) := by decide +kernel
theorem dL_law_310 : decode cL_law 310 = .ok (.iload_n 3, 1) := by decide +kernel
theorem dL_law_311 : decode cL_law 311 = .ok (.iconst 1, 1) := by decide +kernel
theorem dL_law_312 : decode cL_law 312 = .ok (.iadd, 1) := by decide +kernel
theorem dL_law_313 : decode cL_law 313 = .ok (.iaload, 1) := by decide +kernel
theorem dL_law_314 : decode cL_law 314 = .ok (.aload_n 0, 1) := by decide +kernel
theorem dL_law_315 : decode cL_law 315 = .ok (.iload_n 3, 1) := by decide +kernel
theorem dL_law_316 : decode cL_law 316 = .ok (.iconst 2, 1) := by decide +kernel
theorem dL_law_317 : decode cL_law 317 = .ok (.iadd, 1) := by decide +kernel
theorem dL_law_318 : decode cL_law 318 = .ok (.iaload, 1) := by decide +kernel
theorem dL_law_319 : decode cL_law 319 = .ok (.invokevirtual 41, 3) := by decide +kernel
theorem dL_law_322 : decode cL_law 322 = .ok (.aload_n 2, 1) := by decide +kernel
theorem dL_law_323 : decode cL_law 323 = .ok (.aload_n 0, 1) := by decide +kernel
theorem dL_law_324 : decode cL_law 324 = .ok (.iload_n 3, 1) := by decide +kernel
theorem dL_law_325 : decode cL_law 325 = .ok (.iconst 1, 1) := by decide +kernel
theorem dL_law_326 : decode cL_law 326 = .ok (.iadd, 1) := by decide +kernel
theorem dL_law_327 : decode cL_law 327 = .ok (.iaload, 1) := by decide +kernel
theorem dL_law_328 : decode cL_law 328 = .ok (.aload_n 0, 1) := by decide +kernel
theorem dL_law_329 : decode cL_law 329 = .ok (.iload_n 3, 1) := by decide +kernel
theorem dL_law_330 : decode cL_law 330 = .ok (.iconst 2, 1) := by decide +kernel
theorem dL_law_331 : decode cL_law 331 = .ok (.iadd, 1) := by decide +kernel
theorem dL_law_332 : decode cL_law 332 = .ok (.iaload, 1) := by decide +kernel
theorem dL_law_333 : decode cL_law 333 = .ok (.invokevirtual 44, 3) := by decide +kernel
theorem dL_law_336 : decode cL_law 336 = .ok (.if_icmp .eq 629, 3) := by decide +kernel
theorem dL_law_339 : decode cL_law 339 = .ok (.iconst 0, 1) := by decide +kernel
theorem dL_law_340 : decode cL_law 340 = .ok (.ireturn, 1) := by decide +kernel
theorem dL_law_341 : decode cL_law 341 = .ok (.aload_n 1, 1) := by decide +kernel
theorem dL_law_342 : decode cL_law 342 = .ok (.aload_n 0, 1) := by decide +kernel
theorem dL_law_343 : decode cL_law 343 = .ok (.iload_n 3, 1) := by decide +kernel
theorem dL_law_344 : decode cL_law 344 = .ok (.iconst 1, 1) := by decide +kernel
theorem dL_law_345 : decode cL_law 345 = .ok (.iadd, 1) := by decide +kernel
theorem dL_law_346 : decode cL_law 346 = .ok (.iaload, 1) := by decide +kernel
theorem dL_law_347 : decode cL_law 347 = .ok (.aload_n 0, 1) := by decide +kernel
theorem dL_law_348 : decode cL_law 348 = .ok (.iload_n 3, 1) := by decide +kernel
theorem dL_law_349 : decode cL_law 349 = .ok (.iconst 2, 1) := by decide +kernel
theorem dL_law_350 : decode cL_law 350 = .ok (.iadd, 1) := by decide +kernel
theorem dL_law_351 : decode cL_law 351 = .ok (.iaload, 1) := by decide +kernel
theorem dL_law_352 : decode cL_law 352 = .ok (.aload_n 0, 1) := by decide +kernel
theorem dL_law_353 : decode cL_law 353 = .ok (.iload_n 3, 1) := by decide +kernel
theorem dL_law_354 : decode cL_law 354 = .ok (.iconst 3, 1) := by decide +kernel
theorem dL_law_355 : decode cL_law 355 = .ok (.iadd, 1) := by decide +kernel
theorem dL_law_356 : decode cL_law 356 = .ok (.iaload, 1) := by decide +kernel
theorem dL_law_357 : decode cL_law 357 = .ok (.aload_n 0, 1) := by decide +kernel
theorem dL_law_358 : decode cL_law 358 = .ok (.iload_n 3, 1) := by decide +kernel
theorem dL_law_359 : decode cL_law 359 = .ok (.iconst 4, 1) := by decide +kernel
theorem dL_law_360 : decode cL_law 360 = .ok (.iadd, 1) := by decide +kernel
theorem dL_law_361 : decode cL_law 361 = .ok (.iaload, 1) := by decide +kernel
theorem dL_law_362 : decode cL_law 362 = .ok (.aload_n 0, 1) := by decide +kernel
theorem dL_law_363 : decode cL_law 363 = .ok (.iload_n 3, 1) := by decide +kernel
theorem dL_law_364 : decode cL_law 364 = .ok (.iconst 5, 1) := by decide +kernel
theorem dL_law_365 : decode cL_law 365 = .ok (.iadd, 1) := by decide +kernel
theorem dL_law_366 : decode cL_law 366 = .ok (.iaload, 1) := by decide +kernel
theorem dL_law_367 : decode cL_law 367 = .ok (.invokevirtual 45, 3) := by decide +kernel
theorem dL_law_370 : decode cL_law 370 = .ok (.aload_n 2, 1) := by decide +kernel
theorem dL_law_371 : decode cL_law 371 = .ok (.aload_n 0, 1) := by decide +kernel
theorem dL_law_372 : decode cL_law 372 = .ok (.iload_n 3, 1) := by decide +kernel
theorem dL_law_373 : decode cL_law 373 = .ok (.iconst 1, 1) := by decide +kernel
theorem dL_law_374 : decode cL_law 374 = .ok (.iadd, 1) := by decide +kernel
theorem dL_law_375 : decode cL_law 375 = .ok (.iaload, 1) := by decide +kernel
theorem dL_law_376 : decode cL_law 376 = .ok (.aload_n 0, 1) := by decide +kernel
theorem dL_law_377 : decode cL_law 377 = .ok (.iload_n 3, 1) := by decide +kernel
theorem dL_law_378 : decode cL_law 378 = .ok (.iconst 2, 1) := by decide +kernel
theorem dL_law_379 : decode cL_law 379 = .ok (.iadd, 1) := by decide +kernel
theorem dL_law_380 : decode cL_law 380 = .ok (.iaload, 1) := by decide +kernel
theorem dL_law_381 : decode cL_law 381 = .ok (.aload_n 0, 1) := by decide +kernel
theorem dL_law_382 : decode cL_law 382 = .ok (.iload_n 3, 1) := by decide +kernel
theorem dL_law_383 : decode cL_law 383 = .ok (.iconst 3, 1) := by decide +kernel
theorem dL_law_384 : decode cL_law 384 = .ok (.iadd, 1) := by decide +kernel
theorem dL_law_385 : decode cL_law 385 = .ok (.iaload, 1) := by decide +kernel
theorem dL_law_386 : decode cL_law 386 = .ok (.aload_n 0, 1) := by decide +kernel
theorem dL_law_387 : decode cL_law 387 = .ok (.iload_n 3, 1) := by decide +kernel
theorem dL_law_388 : decode cL_law 388 = .ok (.iconst 4, 1) := by decide +kernel
theorem dL_law_389 : decode cL_law 389 = .ok (.iadd, 1) := by decide +kernel
theorem dL_law_390 : decode cL_law 390 = .ok (.iaload, 1) := by decide +kernel
theorem dL_law_391 : decode cL_law 391 = .ok (.aload_n 0, 1) := by decide +kernel
theorem dL_law_392 : decode cL_law 392 = .ok (.iload_n 3, 1) := by decide +kernel
theorem dL_law_393 : decode cL_law 393 = .ok (.iconst 5, 1) := by decide +kernel
theorem dL_law_394 : decode cL_law 394 = .ok (.iadd, 1) := by decide +kernel
theorem dL_law_395 : decode cL_law 395 = .ok (.iaload, 1) := by decide +kernel
theorem dL_law_396 : decode cL_law 396 = .ok (.invokevirtual 49, 3) := by decide +kernel
theorem dL_law_399 : decode cL_law 399 = .ok (.if_icmp .eq 566, 3) := by decide +kernel
theorem dL_law_402 : decode cL_law 402 = .ok (.iconst 0, 1) := by decide +kernel
theorem dL_law_403 : decode cL_law 403 = .ok (.ireturn, 1) := by decide +kernel
theorem dL_law_404 : decode cL_law 404 = .ok (.aload_n 1, 1) := by decide +kernel
theorem dL_law_405 : decode cL_law 405 = .ok (.aload_n 0, 1) := by decide +kernel
theorem dL_law_406 : decode cL_law 406 = .ok (.iload_n 3, 1) := by decide +kernel
theorem dL_law_407 : decode cL_law 407 = .ok (.iconst 1, 1) := by decide +kernel
theorem dL_law_408 : decode cL_law 408 = .ok (.iadd, 1) := by decide +kernel
theorem dL_law_409 : decode cL_law 409 = .ok (.iaload, 1) := by decide +kernel
theorem dL_law_410 : decode cL_law 410 = .ok (.invokevirtual 50, 3) := by decide +kernel
theorem dL_law_413 : decode cL_law 413 = .ok (.aload_n 2, 1) := by decide +kernel
theorem dL_law_414 : decode cL_law 414 = .ok (.aload_n 0, 1) := by decide +kernel
theorem dL_law_415 : decode cL_law 415 = .ok (.iload_n 3, 1) := by decide +kernel
theorem dL_law_416 : decode cL_law 416 = .ok (.iconst 1, 1) := by decide +kernel
theorem dL_law_417 : decode cL_law 417 = .ok (.iadd, 1) := by decide +kernel
theorem dL_law_418 : decode cL_law 418 = .ok (.iaload, 1) := by decide +kernel
theorem dL_law_419 : decode cL_law 419 = .ok (.invokevirtual 53, 3) := by decide +kernel
theorem dL_law_422 : decode cL_law 422 = .ok (.if_icmp .eq 543, 3) := by decide +kernel
theorem dL_law_425 : decode cL_law 425 = .ok (.iconst 0, 1) := by decide +kernel
theorem dL_law_426 : decode cL_law 426 = .ok (.ireturn, 1) := by decide +kernel
theorem dL_law_427 : decode cL_law 427 = .ok (.aload_n 1, 1) := by decide +kernel
theorem dL_law_428 : decode cL_law 428 = .ok (.aload_n 0, 1) := by decide +kernel
theorem dL_law_429 : decode cL_law 429 = .ok (.iload_n 3, 1) := by decide +kernel
theorem dL_law_430 : decode cL_law 430 = .ok (.iconst 1, 1) := by decide +kernel
theorem dL_law_431 : decode cL_law 431 = .ok (.iadd, 1) := by decide +kernel
theorem dL_law_432 : decode cL_law 432 = .ok (.iaload, 1) := by decide +kernel
theorem dL_law_433 : decode cL_law 433 = .ok (.invokevirtual 54, 3) := by decide +kernel
theorem dL_law_436 : decode cL_law 436 = .ok (.aload_n 2, 1) := by decide +kernel
theorem dL_law_437 : decode cL_law 437 = .ok (.aload_n 0, 1) := by decide +kernel
theorem dL_law_438 : decode cL_law 438 = .ok (.iload_n 3, 1) := by decide +kernel
theorem dL_law_439 : decode cL_law 439 = .ok (.iconst 1, 1) := by decide +kernel
theorem dL_law_440 : decode cL_law 440 = .ok (.iadd, 1) := by decide +kernel
theorem dL_law_441 : decode cL_law 441 = .ok (.iaload, 1) := by decide +kernel
theorem dL_law_442 : decode cL_law 442 = .ok (.invokevirtual 57, 3) := by decide +kernel
theorem dL_law_445 : decode cL_law 445 = .ok (.if_icmp .eq 520, 3) := by decide +kernel
theorem dL_law_448 : decode cL_law 448 = .ok (.iconst 0, 1) := by decide +kernel
theorem dL_law_449 : decode cL_law 449 = .ok (.ireturn, 1) := by decide +kernel
theorem dL_law_450 : decode cL_law 450 = .ok (.aload_n 1, 1) := by decide +kernel
theorem dL_law_451 : decode cL_law 451 = .ok (.aload_n 0, 1) := by decide +kernel
theorem dL_law_452 : decode cL_law 452 = .ok (.iload_n 3, 1) := by decide +kernel
theorem dL_law_453 : decode cL_law 453 = .ok (.iconst 1, 1) := by decide +kernel
theorem dL_law_454 : decode cL_law 454 = .ok (.iadd, 1) := by decide +kernel
theorem dL_law_455 : decode cL_law 455 = .ok (.iaload, 1) := by decide +kernel
theorem dL_law_456 : decode cL_law 456 = .ok (.aload_n 0, 1) := by decide +kernel
theorem dL_law_457 : decode cL_law 457 = .ok (.iload_n 3, 1) := by decide +kernel
theorem dL_law_458 : decode cL_law 458 = .ok (.iconst 2, 1) := by decide +kernel
theorem dL_law_459 : decode cL_law 459 = .ok (.iadd, 1) := by decide +kernel
theorem dL_law_460 : decode cL_law 460 = .ok (.iaload, 1) := by decide +kernel
theorem dL_law_461 : decode cL_law 461 = .ok (.invokevirtual 58, 3) := by decide +kernel
theorem dL_law_464 : decode cL_law 464 = .ok (.aload_n 2, 1) := by decide +kernel
theorem dL_law_465 : decode cL_law 465 = .ok (.aload_n 0, 1) := by decide +kernel
theorem dL_law_466 : decode cL_law 466 = .ok (.iload_n 3, 1) := by decide +kernel
theorem dL_law_467 : decode cL_law 467 = .ok (.iconst 1, 1) := by decide +kernel
theorem dL_law_468 : decode cL_law 468 = .ok (.iadd, 1) := by decide +kernel
theorem dL_law_469 : decode cL_law 469 = .ok (.iaload, 1) := by decide +kernel
theorem dL_law_470 : decode cL_law 470 = .ok (.aload_n 0, 1) := by decide +kernel
theorem dL_law_471 : decode cL_law 471 = .ok (.iload_n 3, 1) := by decide +kernel
theorem dL_law_472 : decode cL_law 472 = .ok (.iconst 2, 1) := by decide +kernel
theorem dL_law_473 : decode cL_law 473 = .ok (.iadd, 1) := by decide +kernel
theorem dL_law_474 : decode cL_law 474 = .ok (.iaload, 1) := by decide +kernel
theorem dL_law_475 : decode cL_law 475 = .ok (.invokevirtual 61, 3) := by decide +kernel
theorem dL_law_478 : decode cL_law 478 = .ok (.if_icmp .eq 487, 3) := by decide +kernel
theorem dL_law_481 : decode cL_law 481 = .ok (.iconst 0, 1) := by decide +kernel
theorem dL_law_482 : decode cL_law 482 = .ok (.ireturn, 1) := by decide +kernel
theorem dL_law_483 : decode cL_law 483 = .ok (.aload_n 1, 1) := by decide +kernel
theorem dL_law_484 : decode cL_law 484 = .ok (.invokevirtual 62, 3) := by decide +kernel
theorem dL_law_487 : decode cL_law 487 = .ok (.aload_n 2, 1) := by decide +kernel
theorem dL_law_488 : decode cL_law 488 = .ok (.invokevirtual 65, 3) := by decide +kernel
theorem dL_law_491 : decode cL_law 491 = .ok (.if_icmp .eq 474, 3) := by decide +kernel
theorem dL_law_494 : decode cL_law 494 = .ok (.iconst 0, 1) := by decide +kernel
theorem dL_law_495 : decode cL_law 495 = .ok (.ireturn, 1) := by decide +kernel
theorem dL_law_496 : decode cL_law 496 = .ok (.aload_n 1, 1) := by decide +kernel
theorem dL_law_497 : decode cL_law 497 = .ok (.aload_n 0, 1) := by decide +kernel
theorem dL_law_498 : decode cL_law 498 = .ok (.iload_n 3, 1) := by decide +kernel
theorem dL_law_499 : decode cL_law 499 = .ok (.iconst 1, 1) := by decide +kernel
theorem dL_law_500 : decode cL_law 500 = .ok (.iadd, 1) := by decide +kernel
theorem dL_law_501 : decode cL_law 501 = .ok (.iaload, 1) := by decide +kernel
theorem dL_law_502 : decode cL_law 502 = .ok (.invokevirtual 66, 3) := by decide +kernel
theorem dL_law_505 : decode cL_law 505 = .ok (.aload_n 2, 1) := by decide +kernel
theorem dL_law_506 : decode cL_law 506 = .ok (.aload_n 0, 1) := by decide +kernel
theorem dL_law_507 : decode cL_law 507 = .ok (.iload_n 3, 1) := by decide +kernel
theorem dL_law_508 : decode cL_law 508 = .ok (.iconst 1, 1) := by decide +kernel
theorem dL_law_509 : decode cL_law 509 = .ok (.iadd, 1) := by decide +kernel
theorem dL_law_510 : decode cL_law 510 = .ok (.iaload, 1) := by decide +kernel
theorem dL_law_511 : decode cL_law 511 = .ok (.invokevirtual 69, 3) := by decide +kernel
theorem dL_law_514 : decode cL_law 514 = .ok (.if_icmp .eq 451, 3) := by decide +kernel
theorem dL_law_517 : decode cL_law 517 = .ok (.iconst 0, 1) := by decide +kernel
theorem dL_law_518 : decode cL_law 518 = .ok (.ireturn, 1) := by decide +kernel
theorem dL_law_519 : decode cL_law 519 = .ok (.aload_n 1, 1) := by decide +kernel
theorem dL_law_520 : decode cL_law 520 = .ok (.aload_n 0, 1) := by decide +kernel
theorem dL_law_521 : decode cL_law 521 = .ok (.iload_n 3, 1) := by decide +kernel
theorem dL_law_522 : decode cL_law 522 = .ok (.iconst 1, 1) := by decide +kernel
theorem dL_law_523 : decode cL_law 523 = .ok (.iadd, 1) := by decide +kernel
theorem dL_law_524 : decode cL_law 524 = .ok (.iaload, 1) := by decide +kernel
theorem dL_law_525 : decode cL_law 525 = .ok (.aload_n 0, 1) := by decide +kernel
theorem dL_law_526 : decode cL_law 526 = .ok (.iload_n 3, 1) := by decide +kernel
theorem dL_law_527 : decode cL_law 527 = .ok (.iconst 2, 1) := by decide +kernel
theorem dL_law_528 : decode cL_law 528 = .ok (.iadd, 1) := by decide +kernel
theorem dL_law_529 : decode cL_law 529 = .ok (.iaload, 1) := by decide +kernel
theorem dL_law_530 : decode cL_law 530 = .ok (.invokevirtual 70, 3) := by decide +kernel
theorem dL_law_533 : decode cL_law 533 = .ok (.aload_n 2, 1) := by decide +kernel
theorem dL_law_534 : decode cL_law 534 = .ok (.aload_n 0, 1) := by decide +kernel
theorem dL_law_535 : decode cL_law 535 = .ok (.iload_n 3, 1) := by decide +kernel
theorem dL_law_536 : decode cL_law 536 = .ok (.iconst 1, 1) := by decide +kernel
theorem dL_law_537 : decode cL_law 537 = .ok (.iadd, 1) := by decide +kernel
theorem dL_law_538 : decode cL_law 538 = .ok (.iaload, 1) := by decide +kernel
theorem dL_law_539 : decode cL_law 539 = .ok (.aload_n 0, 1) := by decide +kernel
theorem dL_law_540 : decode cL_law 540 = .ok (.iload_n 3, 1) := by decide +kernel
theorem dL_law_541 : decode cL_law 541 = .ok (.iconst 2, 1) := by decide +kernel
theorem dL_law_542 : decode cL_law 542 = .ok (.iadd, 1) := by decide +kernel
theorem dL_law_543 : decode cL_law 543 = .ok (.iaload, 1) := by decide +kernel
theorem dL_law_544 : decode cL_law 544 = .ok (.invokevirtual 73, 3) := by decide +kernel
theorem dL_law_547 : decode cL_law 547 = .ok (.if_icmp .eq 418, 3) := by decide +kernel
theorem dL_law_550 : decode cL_law 550 = .ok (.iconst 0, 1) := by decide +kernel
theorem dL_law_551 : decode cL_law 551 = .ok (.ireturn, 1) := by decide +kernel
theorem dL_law_552 : decode cL_law 552 = .ok (.aload_n 1, 1) := by decide +kernel
theorem dL_law_553 : decode cL_law 553 = .ok (.aload_n 0, 1) := by decide +kernel
theorem dL_law_554 : decode cL_law 554 = .ok (.iload_n 3, 1) := by decide +kernel
theorem dL_law_555 : decode cL_law 555 = .ok (.iconst 1, 1) := by decide +kernel
theorem dL_law_556 : decode cL_law 556 = .ok (.iadd, 1) := by decide +kernel
theorem dL_law_557 : decode cL_law 557 = .ok (.iaload, 1) := by decide +kernel
theorem dL_law_558 : decode cL_law 558 = .ok (.aload_n 0, 1) := by decide +kernel
theorem dL_law_559 : decode cL_law 559 = .ok (.iload_n 3, 1) := by decide +kernel
theorem dL_law_560 : decode cL_law 560 = .ok (.iconst 2, 1) := by decide +kernel
theorem dL_law_561 : decode cL_law 561 = .ok (.iadd, 1) := by decide +kernel
theorem dL_law_562 : decode cL_law 562 = .ok (.iaload, 1) := by decide +kernel
theorem dL_law_563 : decode cL_law 563 = .ok (.invokevirtual 74, 3) := by decide +kernel
theorem dL_law_566 : decode cL_law 566 = .ok (.aload_n 2, 1) := by decide +kernel
theorem dL_law_567 : decode cL_law 567 = .ok (.aload_n 0, 1) := by decide +kernel
theorem dL_law_568 : decode cL_law 568 = .ok (.iload_n 3, 1) := by decide +kernel
theorem dL_law_569 : decode cL_law 569 = .ok (.iconst 1, 1) := by decide +kernel
theorem dL_law_570 : decode cL_law 570 = .ok (.iadd, 1) := by decide +kernel
theorem dL_law_571 : decode cL_law 571 = .ok (.iaload, 1) := by decide +kernel
theorem dL_law_572 : decode cL_law 572 = .ok (.aload_n 0, 1) := by decide +kernel
theorem dL_law_573 : decode cL_law 573 = .ok (.iload_n 3, 1) := by decide +kernel
theorem dL_law_574 : decode cL_law 574 = .ok (.iconst 2, 1) := by decide +kernel
theorem dL_law_575 : decode cL_law 575 = .ok (.iadd, 1) := by decide +kernel
theorem dL_law_576 : decode cL_law 576 = .ok (.iaload, 1) := by decide +kernel
theorem dL_law_577 : decode cL_law 577 = .ok (.invokevirtual 77, 3) := by decide +kernel
theorem dL_law_580 : decode cL_law 580 = .ok (.if_icmp .eq 385, 3) := by decide +kernel
theorem dL_law_583 : decode cL_law 583 = .ok (.iconst 0, 1) := by decide +kernel
theorem dL_law_584 : decode cL_law 584 = .ok (.ireturn, 1) := by decide +kernel
theorem dL_law_585 : decode cL_law 585 = .ok (.aload_n 1, 1) := by decide +kernel
theorem dL_law_586 : decode cL_law 586 = .ok (.aload_n 0, 1) := by decide +kernel
theorem dL_law_587 : decode cL_law 587 = .ok (.iload_n 3, 1) := by decide +kernel
theorem dL_law_588 : decode cL_law 588 = .ok (.iconst 1, 1) := by decide +kernel
theorem dL_law_589 : decode cL_law 589 = .ok (.iadd, 1) := by decide +kernel
theorem dL_law_590 : decode cL_law 590 = .ok (.iaload, 1) := by decide +kernel
theorem dL_law_591 : decode cL_law 591 = .ok (.aload_n 0, 1) := by decide +kernel
theorem dL_law_592 : decode cL_law 592 = .ok (.iload_n 3, 1) := by decide +kernel
theorem dL_law_593 : decode cL_law 593 = .ok (.iconst 2, 1) := by decide +kernel
theorem dL_law_594 : decode cL_law 594 = .ok (.iadd, 1) := by decide +kernel
theorem dL_law_595 : decode cL_law 595 = .ok (.iaload, 1) := by decide +kernel
theorem dL_law_596 : decode cL_law 596 = .ok (.aload_n 0, 1) := by decide +kernel
theorem dL_law_597 : decode cL_law 597 = .ok (.iload_n 3, 1) := by decide +kernel
theorem dL_law_598 : decode cL_law 598 = .ok (.iconst 3, 1) := by decide +kernel
theorem dL_law_599 : decode cL_law 599 = .ok (.iadd, 1) := by decide +kernel
theorem dL_law_600 : decode cL_law 600 = .ok (.iaload, 1) := by decide +kernel
theorem dL_law_601 : decode cL_law 601 = .ok (.invokevirtual 78, 3) := by decide +kernel
theorem dL_law_604 : decode cL_law 604 = .ok (.aload_n 2, 1) := by decide +kernel
theorem dL_law_605 : decode cL_law 605 = .ok (.aload_n 0, 1) := by decide +kernel
theorem dL_law_606 : decode cL_law 606 = .ok (.iload_n 3, 1) := by decide +kernel
theorem dL_law_607 : decode cL_law 607 = .ok (.iconst 1, 1) := by decide +kernel
theorem dL_law_608 : decode cL_law 608 = .ok (.iadd, 1) := by decide +kernel
theorem dL_law_609 : decode cL_law 609 = .ok (.iaload, 1) := by decide +kernel
theorem dL_law_610 : decode cL_law 610 = .ok (.aload_n 0, 1) := by decide +kernel
theorem dL_law_611 : decode cL_law 611 = .ok (.iload_n 3, 1) := by decide +kernel
theorem dL_law_612 : decode cL_law 612 = .ok (.iconst 2, 1) := by decide +kernel
theorem dL_law_613 : decode cL_law 613 = .ok (.iadd, 1) := by decide +kernel
theorem dL_law_614 : decode cL_law 614 = .ok (.iaload, 1) := by decide +kernel
theorem dL_law_615 : decode cL_law 615 = .ok (.aload_n 0, 1) := by decide +kernel
theorem dL_law_616 : decode cL_law 616 = .ok (.iload_n 3, 1) := by decide +kernel
theorem dL_law_617 : decode cL_law 617 = .ok (.iconst 3, 1) := by decide +kernel
theorem dL_law_618 : decode cL_law 618 = .ok (.iadd, 1) := by decide +kernel
theorem dL_law_619 : decode cL_law 619 = .ok (.iaload, 1) := by decide +kernel
theorem dL_law_620 : decode cL_law 620 = .ok (.invokevirtual 81, 3) := by decide +kernel
theorem dL_law_623 : decode cL_law 623 = .ok (.if_icmp .eq 342, 3) := by decide +kernel
theorem dL_law_626 : decode cL_law 626 = .ok (.iconst 0, 1) := by decide +kernel
theorem dL_law_627 : decode cL_law 627 = .ok (.ireturn, 1) := by decide +kernel
theorem dL_law_628 : decode cL_law 628 = .ok (.aload_n 1, 1) := by decide +kernel
theorem dL_law_629 : decode cL_law 629 = .ok (.aload_n 0, 1) := by decide +kernel
theorem dL_law_630 : decode cL_law 630 = .ok (.iload_n 3, 1) := by decide +kernel
theorem dL_law_631 : decode cL_law 631 = .ok (.iconst 1, 1) := by decide +kernel
theorem dL_law_632 : decode cL_law 632 = .ok (.iadd, 1) := by decide +kernel
theorem dL_law_633 : decode cL_law 633 = .ok (.iaload, 1) := by decide +kernel
theorem dL_law_634 : decode cL_law 634 = .ok (.aload_n 0, 1) := by decide +kernel
theorem dL_law_635 : decode cL_law 635 = .ok (.iload_n 3, 1) := by decide +kernel
theorem dL_law_636 : decode cL_law 636 = .ok (.iconst 2, 1) := by decide +kernel
theorem dL_law_637 : decode cL_law 637 = .ok (.iadd, 1) := by decide +kernel
theorem dL_law_638 : decode cL_law 638 = .ok (.iaload, 1) := by decide +kernel
theorem dL_law_639 : decode cL_law 639 = .ok (.invokevirtual 82, 3) := by decide +kernel
theorem dL_law_642 : decode cL_law 642 = .ok (.aload_n 2, 1) := by decide +kernel
theorem dL_law_643 : decode cL_law 643 = .ok (.aload_n 0, 1) := by decide +kernel
theorem dL_law_644 : decode cL_law 644 = .ok (.iload_n 3, 1) := by decide +kernel
theorem dL_law_645 : decode cL_law 645 = .ok (.iconst 1, 1) := by decide +kernel
theorem dL_law_646 : decode cL_law 646 = .ok (.iadd, 1) := by decide +kernel
theorem dL_law_647 : decode cL_law 647 = .ok (.iaload, 1) := by decide +kernel
theorem dL_law_648 : decode cL_law 648 = .ok (.aload_n 0, 1) := by decide +kernel
theorem dL_law_649 : decode cL_law 649 = .ok (.iload_n 3, 1) := by decide +kernel
theorem dL_law_650 : decode cL_law 650 = .ok (.iconst 2, 1) := by decide +kernel
theorem dL_law_651 : decode cL_law 651 = .ok (.iadd, 1) := by decide +kernel
theorem dL_law_652 : decode cL_law 652 = .ok (.iaload, 1) := by decide +kernel
theorem dL_law_653 : decode cL_law 653 = .ok (.invokevirtual 85, 3) := by decide +kernel
theorem dL_law_656 : decode cL_law 656 = .ok (.if_icmp .eq 309, 3) := by decide +kernel
theorem dL_law_659 : decode cL_law 659 = .ok (.iconst 0, 1) := by decide +kernel
theorem dL_law_660 : decode cL_law 660 = .ok (.ireturn, 1) := by decide +kernel
theorem dL_law_661 : decode cL_law 661 = .ok (.aload_n 1, 1) := by decide +kernel
theorem dL_law_662 : decode cL_law 662 = .ok (.aload_n 0, 1) := by decide +kernel
theorem dL_law_663 : decode cL_law 663 = .ok (.iload_n 3, 1) := by decide +kernel
theorem dL_law_664 : decode cL_law 664 = .ok (.iconst 1, 1) := by decide +kernel
theorem dL_law_665 : decode cL_law 665 = .ok (.iadd, 1) := by decide +kernel
theorem dL_law_666 : decode cL_law 666 = .ok (.iaload, 1) := by decide +kernel
theorem dL_law_667 : decode cL_law 667 = .ok (.aload_n 0, 1) := by decide +kernel
theorem dL_law_668 : decode cL_law 668 = .ok (.iload_n 3, 1) := by decide +kernel
theorem dL_law_669 : decode cL_law 669 = .ok (.iconst 2, 1) := by decide +kernel
theorem dL_law_670 : decode cL_law 670 = .ok (.iadd, 1) := by decide +kernel
theorem dL_law_671 : decode cL_law 671 = .ok (.iaload, 1) := by decide +kernel
theorem dL_law_672 : decode cL_law 672 = .ok (.invokevirtual 86, 3) := by decide +kernel
theorem dL_law_675 : decode cL_law 675 = .ok (.aload_n 2, 1) := by decide +kernel
theorem dL_law_676 : decode cL_law 676 = .ok (.aload_n 0, 1) := by decide +kernel
theorem dL_law_677 : decode cL_law 677 = .ok (.iload_n 3, 1) := by decide +kernel
theorem dL_law_678 : decode cL_law 678 = .ok (.iconst 1, 1) := by decide +kernel
theorem dL_law_679 : decode cL_law 679 = .ok (.iadd, 1) := by decide +kernel
theorem dL_law_680 : decode cL_law 680 = .ok (.iaload, 1) := by decide +kernel
theorem dL_law_681 : decode cL_law 681 = .ok (.aload_n 0, 1) := by decide +kernel
theorem dL_law_682 : decode cL_law 682 = .ok (.iload_n 3, 1) := by decide +kernel
theorem dL_law_683 : decode cL_law 683 = .ok (.iconst 2, 1) := by decide +kernel
theorem dL_law_684 : decode cL_law 684 = .ok (.iadd, 1) := by decide +kernel
theorem dL_law_685 : decode cL_law 685 = .ok (.iaload, 1) := by decide +kernel
theorem dL_law_686 : decode cL_law 686 = .ok (.invokevirtual 89, 3) := by decide +kernel
theorem dL_law_689 : decode cL_law 689 = .ok (.if_icmp .eq 276, 3) := by decide +kernel
theorem dL_law_692 : decode cL_law 692 = .ok (.iconst 0, 1) := by decide +kernel
theorem dL_law_693 : decode cL_law 693 = .ok (.ireturn, 1) := by decide +kernel
theorem dL_law_694 : decode cL_law 694 = .ok (.aload_n 1, 1) := by decide +kernel
theorem dL_law_695 : decode cL_law 695 = .ok (.aload_n 0, 1) := by decide +kernel
theorem dL_law_696 : decode cL_law 696 = .ok (.iload_n 3, 1) := by decide +kernel
theorem dL_law_697 : decode cL_law 697 = .ok (.iconst 1, 1) := by decide +kernel
theorem dL_law_698 : decode cL_law 698 = .ok (.iadd, 1) := by decide +kernel
theorem dL_law_699 : decode cL_law 699 = .ok (.iaload, 1) := by decide +kernel
theorem dL_law_700 : decode cL_law 700 = .ok (.aload_n 0, 1) := by decide +kernel
theorem dL_law_701 : decode cL_law 701 = .ok (.iload_n 3, 1) := by decide +kernel
theorem dL_law_702 : decode cL_law 702 = .ok (.iconst 2, 1) := by decide +kernel
theorem dL_law_703 : decode cL_law 703 = .ok (.iadd, 1) := by decide +kernel
theorem dL_law_704 : decode cL_law 704 = .ok (.iaload, 1) := by decide +kernel
theorem dL_law_705 : decode cL_law 705 = .ok (.aload_n 0, 1) := by decide +kernel
theorem dL_law_706 : decode cL_law 706 = .ok (.iload_n 3, 1) := by decide +kernel
theorem dL_law_707 : decode cL_law 707 = .ok (.iconst 3, 1) := by decide +kernel
theorem dL_law_708 : decode cL_law 708 = .ok (.iadd, 1) := by decide +kernel
theorem dL_law_709 : decode cL_law 709 = .ok (.iaload, 1) := by decide +kernel
theorem dL_law_710 : decode cL_law 710 = .ok (.aload_n 0, 1) := by decide +kernel
theorem dL_law_711 : decode cL_law 711 = .ok (.iload_n 3, 1) := by decide +kernel
theorem dL_law_712 : decode cL_law 712 = .ok (.iconst 4, 1) := by decide +kernel
theorem dL_law_713 : decode cL_law 713 = .ok (.iadd, 1) := by decide +kernel
theorem dL_law_714 : decode cL_law 714 = .ok (.iaload, 1) := by decide +kernel
theorem dL_law_715 : decode cL_law 715 = .ok (.invokevirtual 90, 3) := by decide +kernel
theorem dL_law_718 : decode cL_law 718 = .ok (.aload_n 2, 1) := by decide +kernel
theorem dL_law_719 : decode cL_law 719 = .ok (.aload_n 0, 1) := by decide +kernel
theorem dL_law_720 : decode cL_law 720 = .ok (.iload_n 3, 1) := by decide +kernel
theorem dL_law_721 : decode cL_law 721 = .ok (.iconst 1, 1) := by decide +kernel
theorem dL_law_722 : decode cL_law 722 = .ok (.iadd, 1) := by decide +kernel
theorem dL_law_723 : decode cL_law 723 = .ok (.iaload, 1) := by decide +kernel
theorem dL_law_724 : decode cL_law 724 = .ok (.aload_n 0, 1) := by decide +kernel
theorem dL_law_725 : decode cL_law 725 = .ok (.iload_n 3, 1) := by decide +kernel
theorem dL_law_726 : decode cL_law 726 = .ok (.iconst 2, 1) := by decide +kernel
theorem dL_law_727 : decode cL_law 727 = .ok (.iadd, 1) := by decide +kernel
theorem dL_law_728 : decode cL_law 728 = .ok (.iaload, 1) := by decide +kernel
theorem dL_law_729 : decode cL_law 729 = .ok (.aload_n 0, 1) := by decide +kernel
theorem dL_law_730 : decode cL_law 730 = .ok (.iload_n 3, 1) := by decide +kernel
theorem dL_law_731 : decode cL_law 731 = .ok (.iconst 3, 1) := by decide +kernel
theorem dL_law_732 : decode cL_law 732 = .ok (.iadd, 1) := by decide +kernel
theorem dL_law_733 : decode cL_law 733 = .ok (.iaload, 1) := by decide +kernel
theorem dL_law_734 : decode cL_law 734 = .ok (.aload_n 0, 1) := by decide +kernel
theorem dL_law_735 : decode cL_law 735 = .ok (.iload_n 3, 1) := by decide +kernel
theorem dL_law_736 : decode cL_law 736 = .ok (.iconst 4, 1) := by decide +kernel
theorem dL_law_737 : decode cL_law 737 = .ok (.iadd, 1) := by decide +kernel
theorem dL_law_738 : decode cL_law 738 = .ok (.iaload, 1) := by decide +kernel
theorem dL_law_739 : decode cL_law 739 = .ok (.invokevirtual 94, 3) := by decide +kernel
theorem dL_law_742 : decode cL_law 742 = .ok (.if_icmp .eq 223, 3) := by decide +kernel
theorem dL_law_745 : decode cL_law 745 = .ok (.iconst 0, 1) := by decide +kernel
theorem dL_law_746 : decode cL_law 746 = .ok (.ireturn, 1) := by decide +kernel
theorem dL_law_747 : decode cL_law 747 = .ok (.aload_n 1, 1) := by decide +kernel
theorem dL_law_748 : decode cL_law 748 = .ok (.aload_n 0, 1) := by decide +kernel
theorem dL_law_749 : decode cL_law 749 = .ok (.iload_n 3, 1) := by decide +kernel
theorem dL_law_750 : decode cL_law 750 = .ok (.iconst 1, 1) := by decide +kernel
theorem dL_law_751 : decode cL_law 751 = .ok (.iadd, 1) := by decide +kernel
theorem dL_law_752 : decode cL_law 752 = .ok (.iaload, 1) := by decide +kernel
theorem dL_law_753 : decode cL_law 753 = .ok (.aload_n 0, 1) := by decide +kernel
theorem dL_law_754 : decode cL_law 754 = .ok (.iload_n 3, 1) := by decide +kernel
theorem dL_law_755 : decode cL_law 755 = .ok (.iconst 2, 1) := by decide +kernel
theorem dL_law_756 : decode cL_law 756 = .ok (.iadd, 1) := by decide +kernel
theorem dL_law_757 : decode cL_law 757 = .ok (.iaload, 1) := by decide +kernel
theorem dL_law_758 : decode cL_law 758 = .ok (.invokevirtual 95, 3) := by decide +kernel
theorem dL_law_761 : decode cL_law 761 = .ok (.aload_n 2, 1) := by decide +kernel
theorem dL_law_762 : decode cL_law 762 = .ok (.aload_n 0, 1) := by decide +kernel
theorem dL_law_763 : decode cL_law 763 = .ok (.iload_n 3, 1) := by decide +kernel
theorem dL_law_764 : decode cL_law 764 = .ok (.iconst 1, 1) := by decide +kernel
theorem dL_law_765 : decode cL_law 765 = .ok (.iadd, 1) := by decide +kernel
theorem dL_law_766 : decode cL_law 766 = .ok (.iaload, 1) := by decide +kernel
theorem dL_law_767 : decode cL_law 767 = .ok (.aload_n 0, 1) := by decide +kernel
theorem dL_law_768 : decode cL_law 768 = .ok (.iload_n 3, 1) := by decide +kernel
theorem dL_law_769 : decode cL_law 769 = .ok (.iconst 2, 1) := by decide +kernel
theorem dL_law_770 : decode cL_law 770 = .ok (.iadd, 1) := by decide +kernel
theorem dL_law_771 : decode cL_law 771 = .ok (.iaload, 1) := by decide +kernel
theorem dL_law_772 : decode cL_law 772 = .ok (.invokevirtual 98, 3) := by decide +kernel
theorem dL_law_775 : decode cL_law 775 = .ok (.if_icmp .eq 190, 3) := by decide +kernel
theorem dL_law_778 : decode cL_law 778 = .ok (.iconst 0, 1) := by decide +kernel
theorem dL_law_779 : decode cL_law 779 = .ok (.ireturn, 1) := by decide +kernel
theorem dL_law_780 : decode cL_law 780 = .ok (.aload_n 1, 1) := by decide +kernel
theorem dL_law_781 : decode cL_law 781 = .ok (.invokevirtual 99, 3) := by decide +kernel
theorem dL_law_784 : decode cL_law 784 = .ok (.aload_n 2, 1) := by decide +kernel
theorem dL_law_785 : decode cL_law 785 = .ok (.invokevirtual 102, 3) := by decide +kernel
theorem dL_law_788 : decode cL_law 788 = .ok (.if_icmp .eq 177, 3) := by decide +kernel
theorem dL_law_791 : decode cL_law 791 = .ok (.iconst 0, 1) := by decide +kernel
theorem dL_law_792 : decode cL_law 792 = .ok (.ireturn, 1) := by decide +kernel
theorem dL_law_793 : decode cL_law 793 = .ok (.aload_n 1, 1) := by decide +kernel
theorem dL_law_794 : decode cL_law 794 = .ok (.aload_n 0, 1) := by decide +kernel
theorem dL_law_795 : decode cL_law 795 = .ok (.iload_n 3, 1) := by decide +kernel
theorem dL_law_796 : decode cL_law 796 = .ok (.iconst 1, 1) := by decide +kernel
theorem dL_law_797 : decode cL_law 797 = .ok (.iadd, 1) := by decide +kernel
theorem dL_law_798 : decode cL_law 798 = .ok (.iaload, 1) := by decide +kernel
theorem dL_law_799 : decode cL_law 799 = .ok (.aload_n 0, 1) := by decide +kernel
theorem dL_law_800 : decode cL_law 800 = .ok (.iload_n 3, 1) := by decide +kernel
theorem dL_law_801 : decode cL_law 801 = .ok (.iconst 2, 1) := by decide +kernel
theorem dL_law_802 : decode cL_law 802 = .ok (.iadd, 1) := by decide +kernel
theorem dL_law_803 : decode cL_law 803 = .ok (.iaload, 1) := by decide +kernel
theorem dL_law_804 : decode cL_law 804 = .ok (.invokevirtual 103, 3) := by decide +kernel
theorem dL_law_807 : decode cL_law 807 = .ok (.aload_n 2, 1) := by decide +kernel
theorem dL_law_808 : decode cL_law 808 = .ok (.aload_n 0, 1) := by decide +kernel
theorem dL_law_809 : decode cL_law 809 = .ok (.iload_n 3, 1) := by decide +kernel
theorem dL_law_810 : decode cL_law 810 = .ok (.iconst 1, 1) := by decide +kernel
theorem dL_law_811 : decode cL_law 811 = .ok (.iadd, 1) := by decide +kernel
theorem dL_law_812 : decode cL_law 812 = .ok (.iaload, 1) := by decide +kernel
theorem dL_law_813 : decode cL_law 813 = .ok (.aload_n 0, 1) := by decide +kernel
theorem dL_law_814 : decode cL_law 814 = .ok (.iload_n 3, 1) := by decide +kernel
theorem dL_law_815 : decode cL_law 815 = .ok (.iconst 2, 1) := by decide +kernel
theorem dL_law_816 : decode cL_law 816 = .ok (.iadd, 1) := by decide +kernel
theorem dL_law_817 : decode cL_law 817 = .ok (.iaload, 1) := by decide +kernel
theorem dL_law_818 : decode cL_law 818 = .ok (.invokevirtual 106, 3) := by decide +kernel
theorem dL_law_821 : decode cL_law 821 = .ok (.if_icmp .eq 144, 3) := by decide +kernel
theorem dL_law_824 : decode cL_law 824 = .ok (.iconst 0, 1) := by decide +kernel
theorem dL_law_825 : decode cL_law 825 = .ok (.ireturn, 1) := by decide +kernel
theorem dL_law_826 : decode cL_law 826 = .ok (.aload_n 1, 1) := by decide +kernel
theorem dL_law_827 : decode cL_law 827 = .ok (.aload_n 0, 1) := by decide +kernel
theorem dL_law_828 : decode cL_law 828 = .ok (.iload_n 3, 1) := by decide +kernel
theorem dL_law_829 : decode cL_law 829 = .ok (.iconst 1, 1) := by decide +kernel
theorem dL_law_830 : decode cL_law 830 = .ok (.iadd, 1) := by decide +kernel
theorem dL_law_831 : decode cL_law 831 = .ok (.iaload, 1) := by decide +kernel
theorem dL_law_832 : decode cL_law 832 = .ok (.invokevirtual 107, 3) := by decide +kernel
theorem dL_law_835 : decode cL_law 835 = .ok (.aload_n 2, 1) := by decide +kernel
theorem dL_law_836 : decode cL_law 836 = .ok (.aload_n 0, 1) := by decide +kernel
theorem dL_law_837 : decode cL_law 837 = .ok (.iload_n 3, 1) := by decide +kernel
theorem dL_law_838 : decode cL_law 838 = .ok (.iconst 1, 1) := by decide +kernel
theorem dL_law_839 : decode cL_law 839 = .ok (.iadd, 1) := by decide +kernel
theorem dL_law_840 : decode cL_law 840 = .ok (.iaload, 1) := by decide +kernel
theorem dL_law_841 : decode cL_law 841 = .ok (.invokevirtual 110, 3) := by decide +kernel
theorem dL_law_844 : decode cL_law 844 = .ok (.if_icmp .eq 121, 3) := by decide +kernel
theorem dL_law_847 : decode cL_law 847 = .ok (.iconst 0, 1) := by decide +kernel
theorem dL_law_848 : decode cL_law 848 = .ok (.ireturn, 1) := by decide +kernel
theorem dL_law_849 : decode cL_law 849 = .ok (.aload_n 1, 1) := by decide +kernel
theorem dL_law_850 : decode cL_law 850 = .ok (.aload_n 0, 1) := by decide +kernel
theorem dL_law_851 : decode cL_law 851 = .ok (.iload_n 3, 1) := by decide +kernel
theorem dL_law_852 : decode cL_law 852 = .ok (.iconst 1, 1) := by decide +kernel
theorem dL_law_853 : decode cL_law 853 = .ok (.iadd, 1) := by decide +kernel
theorem dL_law_854 : decode cL_law 854 = .ok (.iaload, 1) := by decide +kernel
theorem dL_law_855 : decode cL_law 855 = .ok (.aload_n 0, 1) := by decide +kernel
theorem dL_law_856 : decode cL_law 856 = .ok (.iload_n 3, 1) := by decide +kernel
theorem dL_law_857 : decode cL_law 857 = .ok (.iconst 2, 1) := by decide +kernel
theorem dL_law_858 : decode cL_law 858 = .ok (.iadd, 1) := by decide +kernel
theorem dL_law_859 : decode cL_law 859 = .ok (.iaload, 1) := by decide +kernel
theorem dL_law_860 : decode cL_law 860 = .ok (.invokevirtual 111, 3) := by decide +kernel
theorem dL_law_863 : decode cL_law 863 = .ok (.aload_n 2, 1) := by decide +kernel
theorem dL_law_864 : decode cL_law 864 = .ok (.aload_n 0, 1) := by decide +kernel
theorem dL_law_865 : decode cL_law 865 = .ok (.iload_n 3, 1) := by decide +kernel
theorem dL_law_866 : decode cL_law 866 = .ok (.iconst 1, 1) := by decide +kernel
theorem dL_law_867 : decode cL_law 867 = .ok (.iadd, 1) := by decide +kernel
theorem dL_law_868 : decode cL_law 868 = .ok (.iaload, 1) := by decide +kernel
theorem dL_law_869 : decode cL_law 869 = .ok (.aload_n 0, 1) := by decide +kernel
theorem dL_law_870 : decode cL_law 870 = .ok (.iload_n 3, 1) := by decide +kernel
theorem dL_law_871 : decode cL_law 871 = .ok (.iconst 2, 1) := by decide +kernel
theorem dL_law_872 : decode cL_law 872 = .ok (.iadd, 1) := by decide +kernel
theorem dL_law_873 : decode cL_law 873 = .ok (.iaload, 1) := by decide +kernel
theorem dL_law_874 : decode cL_law 874 = .ok (.invokevirtual 114, 3) := by decide +kernel
theorem dL_law_877 : decode cL_law 877 = .ok (.if_icmp .eq 88, 3) := by decide +kernel
theorem dL_law_880 : decode cL_law 880 = .ok (.iconst 0, 1) := by decide +kernel
theorem dL_law_881 : decode cL_law 881 = .ok (.ireturn, 1) := by decide +kernel
theorem dL_law_882 : decode cL_law 882 = .ok (.aload_n 1, 1) := by decide +kernel
theorem dL_law_883 : decode cL_law 883 = .ok (.aload_n 0, 1) := by decide +kernel
theorem dL_law_884 : decode cL_law 884 = .ok (.iload_n 3, 1) := by decide +kernel
theorem dL_law_885 : decode cL_law 885 = .ok (.iconst 1, 1) := by decide +kernel
theorem dL_law_886 : decode cL_law 886 = .ok (.iadd, 1) := by decide +kernel
theorem dL_law_887 : decode cL_law 887 = .ok (.iaload, 1) := by decide +kernel
theorem dL_law_888 : decode cL_law 888 = .ok (.invokevirtual 115, 3) := by decide +kernel
theorem dL_law_891 : decode cL_law 891 = .ok (.aload_n 2, 1) := by decide +kernel
theorem dL_law_892 : decode cL_law 892 = .ok (.aload_n 0, 1) := by decide +kernel
theorem dL_law_893 : decode cL_law 893 = .ok (.iload_n 3, 1) := by decide +kernel
theorem dL_law_894 : decode cL_law 894 = .ok (.iconst 1, 1) := by decide +kernel
theorem dL_law_895 : decode cL_law 895 = .ok (.iadd, 1) := by decide +kernel
theorem dL_law_896 : decode cL_law 896 = .ok (.iaload, 1) := by decide +kernel
theorem dL_law_897 : decode cL_law 897 = .ok (.invokevirtual 118, 3) := by decide +kernel
theorem dL_law_900 : decode cL_law 900 = .ok (.if_icmp .eq 65, 3) := by decide +kernel
theorem dL_law_903 : decode cL_law 903 = .ok (.iconst 0, 1) := by decide +kernel
theorem dL_law_904 : decode cL_law 904 = .ok (.ireturn, 1) := by decide +kernel
theorem dL_law_905 : decode cL_law 905 = .ok (.aload_n 1, 1) := by decide +kernel
theorem dL_law_906 : decode cL_law 906 = .ok (.aload_n 0, 1) := by decide +kernel
theorem dL_law_907 : decode cL_law 907 = .ok (.iload_n 3, 1) := by decide +kernel
theorem dL_law_908 : decode cL_law 908 = .ok (.iconst 1, 1) := by decide +kernel
theorem dL_law_909 : decode cL_law 909 = .ok (.iadd, 1) := by decide +kernel
theorem dL_law_910 : decode cL_law 910 = .ok (.iaload, 1) := by decide +kernel
theorem dL_law_911 : decode cL_law 911 = .ok (.invokevirtual 119, 3) := by decide +kernel
theorem dL_law_914 : decode cL_law 914 = .ok (.aload_n 2, 1) := by decide +kernel
theorem dL_law_915 : decode cL_law 915 = .ok (.aload_n 0, 1) := by decide +kernel
theorem dL_law_916 : decode cL_law 916 = .ok (.iload_n 3, 1) := by decide +kernel
theorem dL_law_917 : decode cL_law 917 = .ok (.iconst 1, 1) := by decide +kernel
theorem dL_law_918 : decode cL_law 918 = .ok (.iadd, 1) := by decide +kernel
theorem dL_law_919 : decode cL_law 919 = .ok (.iaload, 1) := by decide +kernel
theorem dL_law_920 : decode cL_law 920 = .ok (.invokevirtual 122, 3) := by decide +kernel
theorem dL_law_923 : decode cL_law 923 = .ok (.if_icmp .eq 42, 3) := by decide +kernel
theorem dL_law_926 : decode cL_law 926 = .ok (.iconst 0, 1) := by decide +kernel
theorem dL_law_927 : decode cL_law 927 = .ok (.ireturn, 1) := by decide +kernel
theorem dL_law_928 : decode cL_law 928 = .ok (.aload_n 1, 1) := by decide +kernel
theorem dL_law_929 : decode cL_law 929 = .ok (.aload_n 0, 1) := by decide +kernel
theorem dL_law_930 : decode cL_law 930 = .ok (.iload_n 3, 1) := by decide +kernel
theorem dL_law_931 : decode cL_law 931 = .ok (.iconst 1, 1) := by decide +kernel
theorem dL_law_932 : decode cL_law 932 = .ok (.iadd, 1) := by decide +kernel
theorem dL_law_933 : decode cL_law 933 = .ok (.iaload, 1) := by decide +kernel
theorem dL_law_934 : decode cL_law 934 = .ok (.invokevirtual 123, 3) := by decide +kernel
theorem dL_law_937 : decode cL_law 937 = .ok (.aload_n 2, 1) := by decide +kernel
theorem dL_law_938 : decode cL_law 938 = .ok (.aload_n 0, 1) := by decide +kernel
theorem dL_law_939 : decode cL_law 939 = .ok (.iload_n 3, 1) := by decide +kernel
theorem dL_law_940 : decode cL_law 940 = .ok (.iconst 1, 1) := by decide +kernel
theorem dL_law_941 : decode cL_law 941 = .ok (.iadd, 1) := by decide +kernel
theorem dL_law_942 : decode cL_law 942 = .ok (.iaload, 1) := by decide +kernel
theorem dL_law_943 : decode cL_law 943 = .ok (.invokevirtual 126, 3) := by decide +kernel
theorem dL_law_946 : decode cL_law 946 = .ok (.if_icmp .eq 19, 3) := by decide +kernel
theorem dL_law_949 : decode cL_law 949 = .ok (.iconst 0, 1) := by decide +kernel
theorem dL_law_950 : decode cL_law 950 = .ok (.ireturn, 1) := by decide +kernel
theorem dL_law_951 : decode cL_law 951 = .ok (.aload_n 1, 1) := by decide +kernel
theorem dL_law_952 : decode cL_law 952 = .ok (.invokevirtual 127, 3) := by decide +kernel
theorem dL_law_955 : decode cL_law 955 = .ok (.aload_n 2, 1) := by decide +kernel
theorem dL_law_956 : decode cL_law 956 = .ok (.invokevirtual 131, 3) := by decide +kernel
theorem dL_law_959 : decode cL_law 959 = .ok (.lcmp, 1) := by decide +kernel
theorem dL_law_960 : decode cL_law 960 = .ok (.ifCond .eq 5, 3) := by decide +kernel
theorem dL_law_963 : decode cL_law 963 = .ok (.iconst 0, 1) := by decide +kernel
theorem dL_law_964 : decode cL_law 964 = .ok (.ireturn, 1) := by decide +kernel
theorem dL_law_965 : decode cL_law 965 = .ok (.iinc 3 6, 3) := by decide +kernel
theorem dL_law_968 : decode cL_law 968 = .ok (.goto (-950), 3) := by decide +kernel
theorem dL_law_971 : decode cL_law 971 = .ok (.iconst 1, 1) := by decide +kernel
theorem dL_law_972 : decode cL_law 972 = .ok (.ireturn, 1) := by decide +kernel
end
section
/-! The words: those that hold on in a callee as they stand, and the links between nest mates -/
def isNestW : Cond → Bool
  | .fieldLinkNest .. => true
  | .methodLinkNest .. => true
  | _ => false
def gw : List Cond := lw_tbl.filter goodWord
def nw : List Cond := lw_tbl.filter isNestW
theorem gw_at (i : Nat) {w : Cond} (h : lw_tbl[i]? = some w) (g : goodWord w = true) : w ∈ gw := List.mem_filter.mpr ⟨List.mem_of_getElem? h, g⟩
theorem nw_at (i : Nat) {w : Cond} (h : lw_tbl[i]? = some w) (g : isNestW w = true) : w ∈ nw := List.mem_filter.mpr ⟨List.mem_of_getElem? h, g⟩
theorem gw_ok {ws : List Cond} {w0 : Cond} (h0 : w0 ∈ gw) (h : ∀ w ∈ gw, w ∈ ws) : GoodIn ws (w0 :: gw) := by
  intro w hw
  have hg : w ∈ gw := by
    rcases List.mem_cons.mp hw with e | e
    · rw [e]; exact h0
    · exact e
  exact ⟨h w hg, good_of_word (List.mem_filter.mp hg).2⟩
theorem nw_warm {s U : State} (hW : s.WarmedH U.vm) (h : ∀ w ∈ nw, va_Nw w s) : ∀ w ∈ nw, va_Nw w U := by
  intro w hw
  have h1 := h w hw
  have h2 := (List.mem_filter.mp hw).2
  cases w <;> first | exact va_Nw.warmF hW h1 | exact va_Nw.warmM hW h1 | (simp [isNestW] at h2)
theorem nw_same {u U : State} (hv : u.vm = U.vm) (h : ∀ w ∈ nw, va_Nw w u) : ∀ w ∈ nw, va_Nw w U := by
  intro w hw
  have h1 := h w hw
  have h2 := (List.mem_filter.mp hw).2
  cases w <;> first | exact va_Nw.same rfl hv h1 | (simp [isNestW] at h2)
/-! The kinds: classes of objects, and of arrays (0 ints, 1 booleans, 2 Curves, 3 Papers) -/
abbrev tyA (dA : Nat → ClassId) : List (ClassId × FieldType) := [(dA 0, .int), (dA 1, .boolean), (dA 2, .object "PetalWheels$Curve"), (dA 3, .object "PetalWheels$Paper")]
def KK (D : va_G) (dA : Nat → ClassId) (U : State) : Prop := va_K D vwCl (tyA dA) U ∧ (∀ w ∈ nw, va_Nw w U) ∧ va_AO "PetalWheels$Curve" U ∧ va_AO "PetalWheels$Paper" U ∧ va_Nw (.castable "[I" "java/lang/Cloneable") U
theorem KK.moved {D : va_G} {dA : Nat → ClassId} {s U : State} (hW : s.WarmedH U.vm) (h : KK D dA s) : KK D dA U := ⟨va_K.moved hW.alike h.1, nw_warm hW h.2.1, va_AO.moved hW.alike h.2.2.1, va_AO.moved hW.alike h.2.2.2.1, va_Nw.warmC hW h.2.2.2.2⟩
theorem KK.same {D : va_G} {dA : Nat → ClassId} {u U : State} (hv : u.vm = U.vm) (h : KK D dA u) : KK D dA U := by
  have ha : u.vm.Alike U.vm := by rw [hv]; exact Vm.Alike.refl _
  exact ⟨va_K.moved ha h.1, nw_same hv h.2.1, va_AO.moved ha h.2.2.1, va_AO.moved ha h.2.2.2.1, va_Nw.same rfl hv h.2.2.2.2⟩
/-! The heap above a base, as a function -/
abbrev AE : Type := (Nat × Nat × (Nat → Int32)) ⊕ ((Nat × Nat × (Nat → Option Nat)) ⊕ (Nat × List Value))
abbrev Hp : Type := Nat → Option AE
abbrev oI (t n : Nat) (f : Nat → Int32) : AE := .inl (t, n, f)
abbrev oA (t n : Nat) (f : Nat → Option Nat) : AE := .inr (.inl (t, n, f))
abbrev oO (c : Nat) (fs : List Value) : AE := .inr (.inr (c, fs))
def up (h : Hp) (a : Nat) (x : AE) : Hp := fun q => if q = a then some x else h q
theorem up_s (h : Hp) (a : Nat) (x : AE) : up h a x a = some x := by simp [up]
theorem up_n {h : Hp} {a q : Nat} {x : AE} (e : q ≠ a) : up h a x q = h q := by simp [up, e]
def aE (dA : Nat → ClassId) (x : AE) : va_E := match x with
  | .inl z => .inl (dA z.1, z.2.1, .inl z.2.2)
  | .inr (.inl z) => .inl (dA z.1, z.2.1, .inr (.inr (.inr (.inr z.2.2))))
  | .inr (.inr o) => .inr o
def Rp (D : va_G) (dA : Nat → ClassId) (base : Nat) (h : Hp) (H : Heap) : Prop := ∀ (q : Nat) (x : AE), h q = some x → base ≤ q ∧ va_at D vwCl (q, aE dA x) H
theorem Rp.set {D : va_G} {dA : Nat → ClassId} {base a : Nat} {h : Hp} {H H1 : Heap} {x : AE} (hR : Rp D dA base h H) (oq : ∀ q : Nat, q ≠ a → H1[q]? = H[q]?) (ha : base ≤ a) (he : va_at D vwCl (a, aE dA x) H1) : Rp D dA base (up h a x) H1 := by
  intro q y hy
  by_cases e : q = a
  · subst e
    rw [up_s] at hy
    cases hy
    exact ⟨ha, he⟩
  · rw [up_n e] at hy
    exact ⟨(hR q y hy).1, (hR q y hy).2.kept (oq q e)⟩
theorem Rp.push {D : va_G} {dA : Nat → ClassId} {base sz : Nat} {h : Hp} {H H1 : Heap} {x : AE} (hR : Rp D dA base h H) (hz : H.size = sz) (oq : ∀ q : Nat, q < sz → H1[q]? = H[q]?) (ha : base ≤ sz) (he : va_at D vwCl (sz, aE dA x) H1) : Rp D dA base (up h sz x) H1 := by
  intro q y hy
  by_cases e : q = sz
  · subst e
    rw [up_s] at hy
    cases hy
    exact ⟨ha, he⟩
  · rw [up_n e] at hy
    have h1 := hR q y hy
    exact ⟨h1.1, h1.2.kept (oq q (by rw [← hz]; exact h1.2.lt))⟩
theorem one_P {D : va_G} {cl : List vw_C} {x : Nat × va_E} {H : Heap} (h : va_at D cl x H) : va_P D cl [x] H := by
  intro k q hk
  have hz : k < 1 := (List.getElem?_eq_some_iff.mp hk).1
  rw [show k = 0 by omega] at hk
  cases hk
  exact h
/-! Reads and writes of that heap -/
def gV (h : Hp) (r : Option Nat) (ci j : Nat) : Option Value := match r with
  | none => none
  | some a => match h a with
    | some (.inr (.inr (c, fs))) => if c = ci then fs[j]? else none
    | _ => none
def gI (h : Hp) (r : Option Nat) (ci j : Nat) : Option Int32 := match gV h r ci j with
  | some (.int v) => some v
  | _ => none
def gJ (h : Hp) (r : Option Nat) (ci j : Nat) : Option Int64 := match gV h r ci j with
  | some (.long v) => some v
  | _ => none
def gA (h : Hp) (r : Option Nat) (ci j : Nat) : Option (Option Nat) := match gV h r ci j with
  | some (.ref a) => some (some a)
  | some .null => some none
  | _ => none
def pV (h : Hp) (r : Option Nat) (ci j : Nat) (v : Value) : Option Hp := match r with
  | none => none
  | some a => match h a with
    | some (.inr (.inr (c, fs))) => if c = ci ∧ j < fs.length then some (up h a (oO ci (fs.set j v))) else none
    | _ => none
def rI (h : Hp) (r : Option Nat) (t : Nat) (i : Int32) : Option Int32 := match r with
  | none => none
  | some a => match h a with
    | some (.inl (t', n, f)) => if t' = t ∧ ¬ (i < 0 ∨ n ≤ i.toNatClampNeg) then some (f i.toNatClampNeg) else none
    | _ => none
def wI (h : Hp) (r : Option Nat) (t : Nat) (i x : Int32) : Option Hp := match r with
  | none => none
  | some a => match h a with
    | some (.inl (t', n, f)) => if t' = t ∧ ¬ (i < 0 ∨ n ≤ i.toNatClampNeg) then some (up h a (oI t n (upd f i.toNatClampNeg x))) else none
    | _ => none
def rA (h : Hp) (r : Option Nat) (t : Nat) (i : Int32) : Option (Option Nat) := match r with
  | none => none
  | some a => match h a with
    | some (.inr (.inl (t', n, f))) => if t' = t ∧ ¬ (i < 0 ∨ n ≤ i.toNatClampNeg) then some (f i.toNatClampNeg) else none
    | _ => none
def isO (h : Hp) (r : Option Nat) (ci : Nat) : Bool := match r with
  | none => false
  | some a => match h a with
    | some (.inr (.inr (c, _))) => c == ci
    | _ => false
def wA (h : Hp) (r : Option Nat) (t : Nat) (i : Int32) (v : Option Nat) : Option Hp := match r with
  | none => none
  | some a => match h a with
    | some (.inr (.inl (t', n, f))) => if t' = t ∧ ¬ (i < 0 ∨ n ≤ i.toNatClampNeg) ∧ (v = none ∨ isO h v (t - 1) = true) then some (up h a (oA t n (va_up f i.toNatClampNeg v))) else none
    | _ => none
def aL (h : Hp) (r : Option Nat) : Option Int32 := match r with
  | none => none
  | some a => match h a with
    | some (.inl (t, n, _)) => if t < 2 then some (Int32.ofNat n) else none
    | some (.inr (.inl (t, n, _))) => if t = 2 ∨ t = 3 then some (Int32.ofNat n) else none
    | _ => none
def zB (v : Int32) : Option Int32 := if v = 0 ∨ v = 1 then some v else none
def jrem (x y : Int32) : Int32 := x - x / y * y
def jmax (x y : Int32) : Int32 := if x < y then y else x
def jmin (x y : Int32) : Int32 := if y < x then y else x
theorem gV_spec {h : Hp} {r : Option Nat} {ci j : Nat} {v : Value} (e : gV h r ci j = some v) : ∃ (a : Nat) (fs : List Value), r = some a ∧ h a = some (oO ci fs) ∧ fs[j]? = some v := by
  unfold gV at e
  split at e
  · cases e
  · split at e
    · rename_i a _ c fs he
      split at e
      · rename_i hc
        subst hc
        exact ⟨a, fs, rfl, he, e⟩
      · cases e
    · cases e
theorem gI_spec {h : Hp} {r : Option Nat} {ci j : Nat} {v : Int32} (e : gI h r ci j = some v) : gV h r ci j = some (.int v) := by
  unfold gI at e
  split at e
  · rename_i h1
    cases e
    exact h1
  · cases e
theorem gJ_spec {h : Hp} {r : Option Nat} {ci j : Nat} {v : Int64} (e : gJ h r ci j = some v) : gV h r ci j = some (.long v) := by
  unfold gJ at e
  split at e
  · rename_i h1
    cases e
    exact h1
  · cases e
theorem gA_spec {h : Hp} {r : Option Nat} {ci j : Nat} {v : Option Nat} (e : gA h r ci j = some v) : gV h r ci j = some (va_rf v) := by
  unfold gA at e
  split at e
  · rename_i h1
    cases e
    exact h1
  · rename_i h1
    cases e
    exact h1
  · cases e
theorem pV_spec {h h' : Hp} {r : Option Nat} {ci j : Nat} {v : Value} (e : pV h r ci j v = some h') : ∃ (a : Nat) (fs : List Value), r = some a ∧ h a = some (oO ci fs) ∧ j < fs.length ∧ h' = up h a (oO ci (fs.set j v)) := by
  unfold pV at e
  split at e
  · cases e
  · split at e
    · rename_i a _ c fs he
      split at e
      · rename_i hc
        obtain ⟨hc, hl⟩ := hc
        subst hc
        cases e
        exact ⟨a, fs, rfl, he, hl, rfl⟩
      · cases e
    · cases e
theorem rI_spec {h : Hp} {r : Option Nat} {t : Nat} {i v : Int32} (e : rI h r t i = some v) : ∃ (a n : Nat) (f : Nat → Int32), r = some a ∧ h a = some (oI t n f) ∧ vp_in i n ∧ v = f i.toNatClampNeg := by
  unfold rI at e
  split at e
  · cases e
  · split at e
    · rename_i a _ t' n f he
      split at e
      · rename_i hc
        obtain ⟨hc, hl⟩ := hc
        subst hc
        cases e
        exact ⟨a, n, f, rfl, he, hl, rfl⟩
      · cases e
    · cases e
theorem wI_spec {h h' : Hp} {r : Option Nat} {t : Nat} {i x : Int32} (e : wI h r t i x = some h') : ∃ (a n : Nat) (f : Nat → Int32), r = some a ∧ h a = some (oI t n f) ∧ vp_in i n ∧ h' = up h a (oI t n (upd f i.toNatClampNeg x)) := by
  unfold wI at e
  split at e
  · cases e
  · split at e
    · rename_i a _ t' n f he
      split at e
      · rename_i hc
        obtain ⟨hc, hl⟩ := hc
        subst hc
        cases e
        exact ⟨a, n, f, rfl, he, hl, rfl⟩
      · cases e
    · cases e
theorem rA_spec {h : Hp} {r : Option Nat} {t : Nat} {i : Int32} {v : Option Nat} (e : rA h r t i = some v) : ∃ (a n : Nat) (f : Nat → Option Nat), r = some a ∧ h a = some (oA t n f) ∧ vp_in i n ∧ v = f i.toNatClampNeg := by
  unfold rA at e
  split at e
  · cases e
  · split at e
    · rename_i a _ t' n f he
      split at e
      · rename_i hc
        obtain ⟨hc, hl⟩ := hc
        subst hc
        cases e
        exact ⟨a, n, f, rfl, he, hl, rfl⟩
      · cases e
    · cases e
theorem isO_spec {h : Hp} {r : Option Nat} {ci : Nat} (e : isO h r ci = true) : ∃ (a : Nat) (fs : List Value), r = some a ∧ h a = some (oO ci fs) := by
  unfold isO at e
  split at e
  · cases e
  · split at e
    · rename_i a _ c fs he
      have hc : c = ci := by simpa using e
      subst hc
      exact ⟨a, fs, rfl, he⟩
    · cases e
theorem wA_spec {h h' : Hp} {r : Option Nat} {t : Nat} {i : Int32} {v : Option Nat} (e : wA h r t i v = some h') : ∃ (a n : Nat) (f : Nat → Option Nat), r = some a ∧ h a = some (oA t n f) ∧ vp_in i n ∧ (v = none ∨ isO h v (t - 1) = true) ∧ h' = up h a (oA t n (va_up f i.toNatClampNeg v)) := by
  unfold wA at e
  split at e
  · cases e
  · split at e
    · rename_i a _ t' n f he
      split at e
      · rename_i hc
        obtain ⟨hc, hl, hv⟩ := hc
        subst hc
        cases e
        exact ⟨a, n, f, rfl, he, hl, hv, rfl⟩
      · cases e
    · cases e
theorem aL_spec {h : Hp} {r : Option Nat} {v : Int32} (e : aL h r = some v) : ∃ a : Nat, r = some a ∧ ((∃ (t n : Nat) (f : Nat → Int32), h a = some (oI t n f) ∧ t < 2 ∧ Int32.ofNat n = v) ∨ (∃ (t n : Nat) (f : Nat → Option Nat), h a = some (oA t n f) ∧ (t = 2 ∨ t = 3) ∧ Int32.ofNat n = v)) := by
  unfold aL at e
  split at e
  · cases e
  · rename_i a
    refine ⟨a, rfl, ?_⟩
    split at e
    · rename_i t n f he
      split at e
      · rename_i hc
        cases e
        exact Or.inl ⟨t, n, f, he, hc, rfl⟩
      · cases e
    · rename_i t n f he
      split at e
      · rename_i hc
        cases e
        exact Or.inr ⟨t, n, f, he, hc, rfl⟩
      · cases e
    · cases e
theorem ob {α β : Type} {o : Option α} {f : α → Option β} {b : β} (h : o.bind f = some b) : ∃ a, o = some a ∧ f a = some b := Option.bind_eq_some_iff.mp h
theorem ift {c : Prop} [Decidable c] {α : Type} {a b o : α} (hc : c) (h : (if c then a else b) = o) : a = o := by rw [if_pos hc] at h; exact h
theorem iff_ {c : Prop} [Decidable c] {α : Type} {a b o : α} (hc : ¬ c) (h : (if c then a else b) = o) : b = o := by rw [if_neg hc] at h; exact h
end
section
/-! Where a method's walk stands: program, launch, env, room, start, method, args, frames below, its code, what is sought, tables, base -/
abbrev GG : Type := Program × Launch × Env × Room × State × MethodId × Array Value × List Frame × Method × Code × (State → Prop) × va_G × (Nat → ClassId) × Nat
abbrev g_p (Γ : GG) : Program := Γ.1
abbrev g_l (Γ : GG) : Launch := Γ.2.1
abbrev g_e (Γ : GG) : Env := Γ.2.2.1
abbrev g_R (Γ : GG) : Room := Γ.2.2.2.1
abbrev g_s (Γ : GG) : State := Γ.2.2.2.2.1
abbrev g_m (Γ : GG) : MethodId := Γ.2.2.2.2.2.1
abbrev g_a (Γ : GG) : Array Value := Γ.2.2.2.2.2.2.1
abbrev g_b (Γ : GG) : List Frame := Γ.2.2.2.2.2.2.2.1
abbrev g_t (Γ : GG) : Method := Γ.2.2.2.2.2.2.2.2.1
abbrev g_c (Γ : GG) : Code := Γ.2.2.2.2.2.2.2.2.2.1
abbrev g_Q (Γ : GG) : State → Prop := Γ.2.2.2.2.2.2.2.2.2.2.1
abbrev g_D (Γ : GG) : va_G := Γ.2.2.2.2.2.2.2.2.2.2.2.1
abbrev g_A (Γ : GG) : Nat → ClassId := Γ.2.2.2.2.2.2.2.2.2.2.2.2.1
abbrev g_z (Γ : GG) : Nat := Γ.2.2.2.2.2.2.2.2.2.2.2.2.2
abbrev LL : Type := Int32 ⊕ Option Nat
abbrev LV : Type := List (Nat × LL)
def vL (x : LL) : Value := match x with
  | .inl v => .int v
  | .inr r => va_rf r
def vLq (q : Nat × LL) : Nat × Value := (q.1, vL q.2)
theorem rf_cat (r : Option Nat) : (va_rf r).category = 1 := by cases r <;> rfl
theorem vL_cat (x : LL) : (vL x).category = 1 := by
  cases x with
  | inl v => rfl
  | inr r => exact rf_cat r
def lset (lv : LV) (i : Nat) (v : LL) : LV := match lv with
  | [] => [(i, v)]
  | (j, w) :: l => if i < j then (i, v) :: (j, w) :: l else if i = j then (i, v) :: l else (j, w) :: lset l i v
theorem lset_in (lv : LV) (i : Nat) (v : LL) (q : Nat × LL) (h : q ∈ lset lv i v) : q = (i, v) ∨ (q ∈ lv ∧ q.1 ≠ i) ∨ (q ∈ lv ∧ q.1 = i ∧ ¬ (lv.map (·.1)).Pairwise (· < ·)) := by
  induction lv with
  | nil => simp [lset] at h; exact Or.inl h
  | cons x l ih =>
    obtain ⟨j, w⟩ := x
    unfold lset at h
    by_cases h1 : i < j
    · rw [if_pos h1] at h
      rcases List.mem_cons.mp h with e | e
      · exact Or.inl e
      · by_cases hq : q.1 = i
        · refine Or.inr (Or.inr ⟨e, hq, ?_⟩)
          intro hp
          rw [List.map_cons, List.pairwise_cons] at hp
          rcases List.mem_cons.mp e with e2 | e2
          · rw [e2] at hq; simp at hq; omega
          · have := hp.1 q.1 (List.mem_map.mpr ⟨q, e2, rfl⟩); simp at this; omega
        · exact Or.inr (Or.inl ⟨e, hq⟩)
    · rw [if_neg h1] at h
      by_cases h2 : i = j
      · rw [if_pos h2] at h
        rcases List.mem_cons.mp h with e | e
        · exact Or.inl e
        · by_cases hq : q.1 = i
          · refine Or.inr (Or.inr ⟨List.mem_cons_of_mem _ e, hq, ?_⟩)
            intro hp
            rw [List.map_cons, List.pairwise_cons] at hp
            have := hp.1 q.1 (List.mem_map.mpr ⟨q, e, rfl⟩); simp at this; omega
          · exact Or.inr (Or.inl ⟨List.mem_cons_of_mem _ e, hq⟩)
      · rw [if_neg h2] at h
        rcases List.mem_cons.mp h with e | e
        · exact Or.inr (Or.inl ⟨by rw [e]; exact List.mem_cons_self, by rw [e]; exact fun z => h2 z.symm⟩)
        · rcases ih e with c | c | c
          · exact Or.inl c
          · exact Or.inr (Or.inl ⟨List.mem_cons_of_mem _ c.1, c.2⟩)
          · refine Or.inr (Or.inr ⟨List.mem_cons_of_mem _ c.1, c.2.1, ?_⟩)
            intro hp
            rw [List.map_cons, List.pairwise_cons] at hp
            exact c.2.2 hp.2
/-- the locals are told in their order -/
def lord (lv : LV) : Bool := match lv with
  | [] => true
  | [_] => true
  | x :: y :: l => (x.1 < y.1) && lord (y :: l)
theorem lord_spec (lv : LV) (h : lord lv = true) : (lv.map (·.1)).Pairwise (· < ·) := by
  induction lv with
  | nil => exact List.Pairwise.nil
  | cons x l ih =>
    cases l with
    | nil => simp
    | cons y l =>
      simp only [lord, Bool.and_eq_true, decide_eq_true_eq] at h
      have h2 := ih h.2
      rw [List.map_cons, List.pairwise_cons]
      refine ⟨?_, h2⟩
      intro z hz
      rw [List.map_cons] at hz h2
      rw [List.pairwise_cons] at h2
      rcases List.mem_cons.mp hz with e | e
      · rw [e]; exact h.1
      · exact Nat.lt_trans h.1 (h2.1 z e)
theorem lset_has {ls : Array Slot} {nL i : Nat} {lv : LV} {v : LL} (ho : lord lv = true) (h : lv_has ls nL ((i, vL v) :: (lv.map vLq).filter (fun q => !(q.1 == i) && !(q.1 + 1 == i && q.2.category == 2)))) : lv_has ls nL ((lset lv i v).map vLq) := by
  refine ⟨h.1, h.2.1, fun q hq => ?_⟩
  obtain ⟨x, hx, rfl⟩ := List.mem_map.mp hq
  rcases lset_in lv i v x hx with e | e | e
  · subst e
    exact h.2.2 _ List.mem_cons_self
  · refine h.2.2 _ (List.mem_cons_of_mem _ (List.mem_filter.mpr ⟨List.mem_map.mpr ⟨x, e.1, rfl⟩, ?_⟩))
    have hc : (vLq x).2.category = 1 := vL_cat x.2
    have hn : ((vLq x).1 == i) = false := by simp [vLq]; exact e.2
    simp [hc, hn]
  · exact absurd (lord_spec lv ho) e.2.2
/-- the walk stands at pc, with that heap, size, room used, locals and stack, and comes to its end -/
def AW (Γ : GG) (nL : Nat) (h : Hp) (sz k n pc : Nat) (lv : LV) (st : List Value) : Prop :=
  ∀ (H : Heap) (locs : List Loc) (ls : Array Slot), H.size = sz → Rp (g_D Γ) (g_A Γ) (g_z Γ) h H → va_S (fun q => g_z Γ ≤ q) (g_s Γ).heap H locs → lv_has ls nL (lv.map vLq) →
    W (g_p Γ) (g_l Γ) (g_e Γ) (g_R Γ) (g_s Γ) (g_m Γ) (g_a Γ) (g_b Γ) (g_t Γ) (g_c Γ) H locs k n (g_Q Γ) (F0 (g_m Γ) pc ls st)
def CX (Γ : GG) (cc : ByteArray) (nL : Nat) (own : String) (fr mc ms : Nat) : Prop :=
  (g_p Γ).tables.exec = Jvm.exec ∧ (g_c Γ).code = cc ∧ (g_c Γ).maxLocals = nL ∧ (g_s Γ).vm.findClass own = some (g_m Γ).cls ∧ (∀ w ∈ gw, w.before (g_a Γ) (g_s Γ) = true) ∧ KK (g_D Γ) (g_A Γ) (g_s Γ) ∧ g_z Γ ≤ (g_s Γ).heap.size ∧ (g_t Γ).locks = false ∧ fr ≤ (g_R Γ).frames ∧ 40 * fr ≤ (g_R Γ).locals ∧ mc ≤ (g_R Γ).cells ∧ ms ≤ (g_R Γ).slots
def aPre (D : va_G) (dA : Nat → ClassId) (base : Nat) (av : List Value) (h : Hp) (sz : Nat) : Array Value → State → Prop := va_Pc av (fun U => U.heap.size = sz ∧ base ≤ sz ∧ Rp D dA base h U.heap ∧ KK D dA U)
def aPost (D : va_G) (dA : Nat → ClassId) (base : Nat) (r : Option Value) (h : Hp) (sz : Nat) : Array Value → State → Outcome → State → Prop := fun _ st oc t => oc = .returned r ∧ t.heap.size = sz ∧ Rp D dA base h t.heap ∧ st.heap.size ≤ t.heap.size ∧ ∀ q : Nat, q < base → t.heap[q]? = st.heap[q]?
def RX (Γ : GG) (ret : Option FieldType) (r : Option Value) (h : Hp) (sz mc ms : Nat) : Prop := (g_t Γ).sig.returnType = ret ∧ g_Q Γ = MQ (g_b Γ) (aPost (g_D Γ) (g_A Γ) (g_z Γ) r h sz) (g_a Γ) (g_s Γ) mc ms (fun q => g_z Γ ≤ q)
/-- a method's contract: from that heap with these arguments it returns that, with that heap -/
def AM (l : Launch) (D : va_G) (dA : Nat → ClassId) (base : Nat) (y : MethodName) (cc : ByteArray) (maxL : Nat) (ret : Option FieldType) (fr mc ms : Nat) (as : List LL) (h : Hp) (sz : Nat) (r : Option Value) (h' : Hp) (sz' : Nat) : Prop :=
  Met l y (Cond.code y cc maxL ret :: gw) ({ frames := fr, cells := mc, slots := ms, locals := 40 * fr }) (aPre D dA base (as.map vL) h sz) (aPost D dA base r h' sz') mc ms (fun q => base ≤ q)
def lnum (i : Nat) (as : List LL) : LV := match as with
  | [] => []
  | x :: l => (i, x) :: lnum (i + 1) l
theorem lnum_args (as : List LL) (i : Nat) : lv_args i (as.map vL) = (lnum i as).map vLq := by
  induction as generalizing i with
  | nil => rfl
  | cons x l ih =>
    show (i, vL x) :: lv_args (if (vL x).category = 2 then i + 2 else i + 1) (l.map vL) = (i, vL x) :: (lnum (i + 1) l).map vLq
    rw [vL_cat, if_neg (by decide), ih]
theorem lg_len (as : List LL) : (lg_sl (as.map vL)).length = as.length := by
  induction as with
  | nil => rfl
  | cons x l ih =>
    have e : lg_sl ((x :: l).map vL) = [.val (vL x)] ++ lg_sl (l.map vL) := by
      simp [lg_sl, vL_cat]
    rw [e, List.length_append, ih]
    simp; omega
theorem AM.of {l : Launch} {D : va_G} {dA : Nat → ClassId} {base : Nat} {y : MethodName} {cc : ByteArray} {maxL : Nat} {ret : Option FieldType} {fr mc ms : Nat} {as : List LL} {h : Hp} {sz : Nat} {r : Option Value} {h' : Hp} {sz' : Nat}
    (hy : plainName y.cls = true) (hl : as.length ≤ maxL) {lv : LV} (hlv : lnum 0 as = lv)
    (body : ∀ Γ : GG, CX Γ cc maxL y.cls fr mc ms → RX Γ ret r h' sz' mc ms → (g_t Γ).name = y.name → AW Γ maxL h sz 0 0 0 lv []) : AM l D dA base y cc maxL ret fr mc ms as h sz r h' sz' := by
  refine Met.ofW (cc := cc) (maxL := maxL) (ret := ret) hy rfl ?_
  intro p e s m args below meth c s₁ B hml hv
  obtain ⟨rfl, hsz, hbase, hR, hK⟩ := hv
  have hts := atoms_spec (ws := Cond.code y cc maxL ret :: gw) B.pre
  have hent := lv_entry (as.map vL) (n := maxL) (by rw [lg_len]; exact hl)
  rw [lg_entry_eq]
  rw [lnum_args, hlv] at hent
  exact body (p, l, e, _, s, m, _, below, meth, c, _, D, dA, base) ⟨B.exec, B.bytes, hml, findClass_of_methodNamed B.named, fun w hw => hts w (List.mem_cons_of_mem _ hw), hK, by rw [hsz]; exact hbase, B.notSynchronized, Nat.le_refl _, Nat.le_refl _, Nat.le_refl _, Nat.le_refl _⟩ ⟨B.returns, rfl⟩ (name_of_methodNamed B.named B.method).1 s.heap [] _ hsz hR va_S.rf hent
section ROWS
variable {Γ : GG} {cc : ByteArray} {nL fr mc ms : Nat} {own : String} {h h' : Hp} {sz k n pc : Nat} {lv lv' : LV} {st : List Value}
theorem aw_sub (ks : List Nat) (hl : ks.filterMap (fun i => lv[i]?) = lv') (kk : AW Γ nL h sz k n pc lv' st) : AW Γ nL h sz k n pc lv st := by
  intro H locs ls a b c d
  refine kk H locs ls a b c ⟨d.1, d.2.1, fun q hq => ?_⟩
  obtain ⟨x, hx, rfl⟩ := List.mem_map.mp hq
  rw [← hl] at hx
  obtain ⟨i, -, hi⟩ := List.mem_filterMap.mp hx
  exact d.2.2 _ (List.mem_map.mpr ⟨x, List.mem_of_getElem? hi, rfl⟩)
theorem aw_wide {k' n' : Nat} (h1 : k ≤ k') (h2 : n ≤ n') (kk : AW Γ nL h sz k' n' pc lv st) : AW Γ nL h sz k n pc lv st :=
  fun H locs ls a b c d => W.widen h1 h2 (kk H locs ls a b c d)
theorem aw_iconst (C : CX Γ cc nL own fr mc ms) {i : Int} {v : Int32} (hd : decode cc pc = .ok (.iconst i, 1)) (hv : Int32.ofInt i = v) (kk : AW Γ nL h sz k n (pc + 1) lv (.int v :: st)) : AW Γ nL h sz k n pc lv st :=
  fun H locs ls a b c d => lv_iconst C.1 C.2.1 hd hv (kk H locs ls a b c d)
theorem aw_bipush (C : CX Γ cc nL own fr mc ms) {i : Int} {v : Int32} (hd : decode cc pc = .ok (.bipush i, 2)) (hv : (Int8.ofInt i).toInt32 = v) (kk : AW Γ nL h sz k n (pc + 2) lv (.int v :: st)) : AW Γ nL h sz k n pc lv st :=
  fun H locs ls a b c d => lv_bipush C.1 C.2.1 hd hv (kk H locs ls a b c d)
theorem aw_sipush (C : CX Γ cc nL own fr mc ms) {i : Int} {v : Int32} (hd : decode cc pc = .ok (.sipush i, 3)) (hv : (Int16.ofInt i).toInt32 = v) (kk : AW Γ nL h sz k n (pc + 3) lv (.int v :: st)) : AW Γ nL h sz k n pc lv st :=
  fun H locs ls a b c d => lv_sipush C.1 C.2.1 hd hv (kk H locs ls a b c d)
theorem aw_ldc (C : CX Γ cc nL own fr mc ms) {i : Nat} {v : Int32} (hd : decode cc pc = .ok (.ldc i, 2)) (hw : Cond.constant own i v ∈ gw) (kk : AW Γ nL h sz k n (pc + 2) lv (.int v :: st)) : AW Γ nL h sz k n pc lv st :=
  fun H locs ls a b c d => lv_ldc C.1 C.2.1 C.2.2.2.1 (C.2.2.2.2.1 _ hw) hd (kk H locs ls a b c d)
theorem aw_ldc2 (C : CX Γ cc nL own fr mc ms) {i : Nat} {v : Int64} (hd : decode cc pc = .ok (.ldc2_w i, 3)) (hw : Cond.constantLong own i v ∈ gw) (kk : AW Γ nL h sz k n (pc + 3) lv (.long v :: st)) : AW Γ nL h sz k n pc lv st :=
  fun H locs ls a b c d => lv_ldc2 C.1 C.2.1 C.2.2.2.1 (C.2.2.2.2.1 _ hw) hd (kk H locs ls a b c d)
theorem aw_lconst (C : CX Γ cc nL own fr mc ms) {i : Fin 2} {v : Int64} (hd : decode cc pc = .ok (.lconst i, 1)) (hv : Int64.ofNat i.val = v) (kk : AW Γ nL h sz k n (pc + 1) lv (.long v :: st)) : AW Γ nL h sz k n pc lv st :=
  fun H locs ls a b c d => lv_lconst C.1 C.2.1 hd hv (kk H locs ls a b c d)
theorem at_vL {ls : Array Slot} {i j : Nat} {x : LL} (d : lv_has ls nL (lv.map vLq)) (hj : lv[j]? = some (i, x)) : ls[i]? = some (.val (vL x)) := d.2.2 (i, vL x) (List.mem_map.mpr ⟨(i, x), List.mem_of_getElem? hj, rfl⟩)
theorem aw_iload_n (C : CX Γ cc nL own fr mc ms) {q : Fin 4} {i j : Nat} {x : Int32} (hd : decode cc pc = .ok (.iload_n q, 1)) (hi : (q : Nat) = i) (hj : lv[j]? = some (i, .inl x)) (kk : AW Γ nL h sz k n (pc + 1) lv (.int x :: st)) : AW Γ nL h sz k n pc lv st :=
  fun H locs ls a b c d => lv_iload_n C.1 C.2.1 hd hi (at_vL d hj) (kk H locs ls a b c d)
theorem aw_iload (C : CX Γ cc nL own fr mc ms) {i j : Nat} {x : Int32} (hd : decode cc pc = .ok (.iload i, 2)) (hj : lv[j]? = some (i, .inl x)) (kk : AW Γ nL h sz k n (pc + 2) lv (.int x :: st)) : AW Γ nL h sz k n pc lv st :=
  fun H locs ls a b c d => lv_iload C.1 C.2.1 hd (at_vL d hj) (kk H locs ls a b c d)
theorem aw_aload_n (C : CX Γ cc nL own fr mc ms) {q : Fin 4} {i j : Nat} {x : Option Nat} (hd : decode cc pc = .ok (.aload_n q, 1)) (hi : (q : Nat) = i) (hj : lv[j]? = some (i, .inr x)) (kk : AW Γ nL h sz k n (pc + 1) lv (va_rf x :: st)) : AW Γ nL h sz k n pc lv st := by
  intro H locs ls a b c d
  have e := at_vL d hj
  have kk := kk H locs ls a b c d
  cases x with
  | none => exact lv_aload_nN C.1 C.2.1 hd hi e kk
  | some x => exact lv_aload_n C.1 C.2.1 hd hi e kk
theorem aw_aload (C : CX Γ cc nL own fr mc ms) {i j : Nat} {x : Option Nat} (hd : decode cc pc = .ok (.aload i, 2)) (hj : lv[j]? = some (i, .inr x)) (kk : AW Γ nL h sz k n (pc + 2) lv (va_rf x :: st)) : AW Γ nL h sz k n pc lv st := by
  intro H locs ls a b c d
  have e := at_vL d hj
  have kk := kk H locs ls a b c d
  cases x with
  | none => exact lv_aloadN C.1 C.2.1 hd e kk
  | some x => exact lv_aload C.1 C.2.1 hd e kk
theorem aw_istore_n (C : CX Γ cc nL own fr mc ms) {q : Fin 4} {i : Nat} {x : Int32} (hd : decode cc pc = .ok (.istore_n q, 1)) (hi : (q : Nat) = i) (hn : i < nL) (ho : lord lv = true) (hl : lset lv i (.inl x) = lv') (kk : AW Γ nL h sz k n (pc + 1) lv' st) : AW Γ nL h sz k n pc lv (.int x :: st) :=
  fun H locs ls a b c d => lv_istore_n C.1 C.2.1 hd hi d hn rfl (fun ls' d' => kk H locs ls' a b c (by rw [← hl]; exact lset_has (v := .inl x) ho d'))
theorem aw_istore (C : CX Γ cc nL own fr mc ms) {i : Nat} {x : Int32} (hd : decode cc pc = .ok (.istore i, 2)) (hn : i < nL) (ho : lord lv = true) (hl : lset lv i (.inl x) = lv') (kk : AW Γ nL h sz k n (pc + 2) lv' st) : AW Γ nL h sz k n pc lv (.int x :: st) :=
  fun H locs ls a b c d => lv_istore C.1 C.2.1 hd d hn rfl (fun ls' d' => kk H locs ls' a b c (by rw [← hl]; exact lset_has (v := .inl x) ho d'))
theorem aw_astore_n (C : CX Γ cc nL own fr mc ms) {q : Fin 4} {i : Nat} {x : Option Nat} (hd : decode cc pc = .ok (.astore_n q, 1)) (hi : (q : Nat) = i) (hn : i < nL) (ho : lord lv = true) (hl : lset lv i (.inr x) = lv') (kk : AW Γ nL h sz k n (pc + 1) lv' st) : AW Γ nL h sz k n pc lv (va_rf x :: st) := by
  intro H locs ls a b c d
  cases x with
  | none => exact lv_astore_nN C.1 C.2.1 hd hi d hn rfl (fun ls' d' => kk H locs ls' a b c (by rw [← hl]; exact lset_has (v := .inr none) ho d'))
  | some x => exact lv_astore_n C.1 C.2.1 hd hi d hn rfl (fun ls' d' => kk H locs ls' a b c (by rw [← hl]; exact lset_has (v := .inr (some x)) ho d'))
theorem aw_astore (C : CX Γ cc nL own fr mc ms) {i : Nat} {x : Option Nat} (hd : decode cc pc = .ok (.astore i, 2)) (hn : i < nL) (ho : lord lv = true) (hl : lset lv i (.inr x) = lv') (kk : AW Γ nL h sz k n (pc + 2) lv' st) : AW Γ nL h sz k n pc lv (va_rf x :: st) := by
  intro H locs ls a b c d
  cases x with
  | none => exact lv_astoreN C.1 C.2.1 hd d hn rfl (fun ls' d' => kk H locs ls' a b c (by rw [← hl]; exact lset_has (v := .inr none) ho d'))
  | some x => exact lv_astore C.1 C.2.1 hd d hn rfl (fun ls' d' => kk H locs ls' a b c (by rw [← hl]; exact lset_has (v := .inr (some x)) ho d'))
theorem aw_iinc (C : CX Γ cc nL own fr mc ms) {i j : Nat} {z : Int} {x y : Int32} (hd : decode cc pc = .ok (.iinc i z, 3)) (hz : Int32.ofInt z = y) (hj : lv[j]? = some (i, .inl x)) (hn : i < nL) (ho : lord lv = true) (hl : lset lv i (.inl (x + y)) = lv') (kk : AW Γ nL h sz k n (pc + 3) lv' st) : AW Γ nL h sz k n pc lv st :=
  fun H locs ls a b c d => lv_iinc (k := j) (v := x + y) C.1 C.2.1 hd d (by rw [List.getElem?_map, hj]; rfl) (by rw [hz]) hn rfl (fun ls' d' => kk H locs ls' a b c (by rw [← hl]; exact lset_has (v := .inl (x + y)) ho d'))
theorem aw_null (C : CX Γ cc nL own fr mc ms) (hd : decode cc pc = .ok (.aconst_null, 1)) (kk : AW Γ nL h sz k n (pc + 1) lv (va_rf none :: st)) : AW Γ nL h sz k n pc lv st :=
  fun H locs ls a b c d => lv_null C.1 C.2.1 hd (kk H locs ls a b c d)
theorem aw_iadd (C : CX Γ cc nL own fr mc ms) {x y : Int32} (hd : decode cc pc = .ok (.iadd, 1)) (kk : AW Γ nL h sz k n (pc + 1) lv (.int (x + y) :: st)) : AW Γ nL h sz k n pc lv (.int y :: .int x :: st) :=
  fun H locs ls a b c d => lv_iadd C.1 C.2.1 hd (kk H locs ls a b c d)
theorem aw_isub (C : CX Γ cc nL own fr mc ms) {x y : Int32} (hd : decode cc pc = .ok (.isub, 1)) (kk : AW Γ nL h sz k n (pc + 1) lv (.int (x - y) :: st)) : AW Γ nL h sz k n pc lv (.int y :: .int x :: st) :=
  fun H locs ls a b c d => lv_isub C.1 C.2.1 hd (kk H locs ls a b c d)
theorem aw_imul (C : CX Γ cc nL own fr mc ms) {x y : Int32} (hd : decode cc pc = .ok (.imul, 1)) (kk : AW Γ nL h sz k n (pc + 1) lv (.int (x * y) :: st)) : AW Γ nL h sz k n pc lv (.int y :: .int x :: st) :=
  fun H locs ls a b c d => lv_imul C.1 C.2.1 hd (kk H locs ls a b c d)
theorem aw_iand (C : CX Γ cc nL own fr mc ms) {x y : Int32} (hd : decode cc pc = .ok (.iand, 1)) (kk : AW Γ nL h sz k n (pc + 1) lv (.int (x &&& y) :: st)) : AW Γ nL h sz k n pc lv (.int y :: .int x :: st) :=
  fun H locs ls a b c d => lv_iand C.1 C.2.1 hd (kk H locs ls a b c d)
theorem aw_ixor (C : CX Γ cc nL own fr mc ms) {x y : Int32} (hd : decode cc pc = .ok (.ixor, 1)) (kk : AW Γ nL h sz k n (pc + 1) lv (.int (x ^^^ y) :: st)) : AW Γ nL h sz k n pc lv (.int y :: .int x :: st) :=
  fun H locs ls a b c d => lv_ixor C.1 C.2.1 hd (kk H locs ls a b c d)
theorem aw_idiv (C : CX Γ cc nL own fr mc ms) {x y : Int32} (hd : decode cc pc = .ok (.idiv, 1)) (hy : ¬ y = 0) (kk : AW Γ nL h sz k n (pc + 1) lv (.int (x / y) :: st)) : AW Γ nL h sz k n pc lv (.int y :: .int x :: st) :=
  fun H locs ls a b c d => lv_idiv C.1 C.2.1 hd hy (kk H locs ls a b c d)
theorem aw_irem (C : CX Γ cc nL own fr mc ms) {x y : Int32} (hd : decode cc pc = .ok (.irem, 1)) (hy : ¬ y = 0) (kk : AW Γ nL h sz k n (pc + 1) lv (.int (jrem x y) :: st)) : AW Γ nL h sz k n pc lv (.int y :: .int x :: st) :=
  fun H locs ls a b c d => lv_irem C.1 C.2.1 hd hy (kk H locs ls a b c d)
theorem aw_ladd (C : CX Γ cc nL own fr mc ms) {x y : Int64} (hd : decode cc pc = .ok (.ladd, 1)) (kk : AW Γ nL h sz k n (pc + 1) lv (.long (x + y) :: st)) : AW Γ nL h sz k n pc lv (.long y :: .long x :: st) :=
  fun H locs ls a b c d => lv_ladd C.1 C.2.1 hd (kk H locs ls a b c d)
theorem aw_lcmp (C : CX Γ cc nL own fr mc ms) {x y : Int64} (hd : decode cc pc = .ok (.lcmp, 1)) (kk : AW Γ nL h sz k n (pc + 1) lv (.int (lg_cmp x y) :: st)) : AW Γ nL h sz k n pc lv (.long y :: .long x :: st) :=
  fun H locs ls a b c d => W.lcmp C.1 C.2.1 hd (kk H locs ls a b c d)
theorem aw_dup (C : CX Γ cc nL own fr mc ms) {v : Value} (hd : decode cc pc = .ok (.dup, 1)) (hc : v.category = 1) (kk : AW Γ nL h sz k n (pc + 1) lv (v :: v :: st)) : AW Γ nL h sz k n pc lv (v :: st) :=
  fun H locs ls a b c d => lv_dup C.1 C.2.1 hd hc (kk H locs ls a b c d)
theorem aw_dup2 (C : CX Γ cc nL own fr mc ms) {v w : Value} (hd : decode cc pc = .ok (.dup2, 1)) (hc : v.category = 1) (hw : w.category = 1) (kk : AW Γ nL h sz k n (pc + 1) lv (v :: w :: v :: w :: st)) : AW Γ nL h sz k n pc lv (v :: w :: st) :=
  fun H locs ls a b c d => lv_dup2_11 C.1 C.2.1 hd hc hw (kk H locs ls a b c d)
theorem aw_pop (C : CX Γ cc nL own fr mc ms) {v : Value} (hd : decode cc pc = .ok (.pop, 1)) (hc : v.category = 1) (kk : AW Γ nL h sz k n (pc + 1) lv st) : AW Γ nL h sz k n pc lv (v :: st) :=
  fun H locs ls a b c d => lv_pop C.1 C.2.1 hd hc (kk H locs ls a b c d)
theorem aw_goto (C : CX Γ cc nL own fr mc ms) {off : Int} {tgt : Nat} (hd : decode cc pc = .ok (.goto off, 3)) (ht : (pc : Int) + off = (tgt : Int)) (kk : AW Γ nL h sz k n tgt lv st) : AW Γ nL h sz k n pc lv st :=
  fun H locs ls a b c d => lv_goto C.1 C.2.1 hd ht (kk H locs ls a b c d)
theorem aw_if_eq (C : CX Γ cc nL own fr mc ms) {x : Int32} {off : Int} {tgt : Nat} (hd : decode cc pc = .ok (.ifCond .eq off, 3)) (ht : (pc : Int) + off = (tgt : Int)) (kt : x = 0 → AW Γ nL h sz k n tgt lv st) (kf : ¬ x = 0 → AW Γ nL h sz k n (pc + 3) lv st) : AW Γ nL h sz k n pc lv (.int x :: st) :=
  fun H locs ls a b c d => lv_if_eq C.1 C.2.1 hd ht (fun z => kt z H locs ls a b c d) (fun z => kf z H locs ls a b c d)
theorem aw_if_ne (C : CX Γ cc nL own fr mc ms) {x : Int32} {off : Int} {tgt : Nat} (hd : decode cc pc = .ok (.ifCond .ne off, 3)) (ht : (pc : Int) + off = (tgt : Int)) (kt : x = 0 → AW Γ nL h sz k n (pc + 3) lv st) (kf : ¬ x = 0 → AW Γ nL h sz k n tgt lv st) : AW Γ nL h sz k n pc lv (.int x :: st) :=
  fun H locs ls a b c d => lv_if_ne C.1 C.2.1 hd ht (fun z => kf z H locs ls a b c d) (fun z => kt z H locs ls a b c d)
theorem aw_if_lt (C : CX Γ cc nL own fr mc ms) {x : Int32} {off : Int} {tgt : Nat} (hd : decode cc pc = .ok (.ifCond .lt off, 3)) (ht : (pc : Int) + off = (tgt : Int)) (kt : x < 0 → AW Γ nL h sz k n tgt lv st) (kf : ¬ x < 0 → AW Γ nL h sz k n (pc + 3) lv st) : AW Γ nL h sz k n pc lv (.int x :: st) :=
  fun H locs ls a b c d => lv_if_lt C.1 C.2.1 hd ht (fun z => kt z H locs ls a b c d) (fun z => kf z H locs ls a b c d)
theorem aw_if_ge (C : CX Γ cc nL own fr mc ms) {x : Int32} {off : Int} {tgt : Nat} (hd : decode cc pc = .ok (.ifCond .ge off, 3)) (ht : (pc : Int) + off = (tgt : Int)) (kt : 0 ≤ x → AW Γ nL h sz k n tgt lv st) (kf : ¬ 0 ≤ x → AW Γ nL h sz k n (pc + 3) lv st) : AW Γ nL h sz k n pc lv (.int x :: st) :=
  fun H locs ls a b c d => lv_if_ge C.1 C.2.1 hd ht (fun z => kt z H locs ls a b c d) (fun z => kf z H locs ls a b c d)
theorem aw_if_gt (C : CX Γ cc nL own fr mc ms) {x : Int32} {off : Int} {tgt : Nat} (hd : decode cc pc = .ok (.ifCond .gt off, 3)) (ht : (pc : Int) + off = (tgt : Int)) (kt : 0 < x → AW Γ nL h sz k n tgt lv st) (kf : ¬ 0 < x → AW Γ nL h sz k n (pc + 3) lv st) : AW Γ nL h sz k n pc lv (.int x :: st) :=
  fun H locs ls a b c d => lv_if_gt C.1 C.2.1 hd ht (fun z => kt z H locs ls a b c d) (fun z => kf z H locs ls a b c d)
theorem aw_if_le (C : CX Γ cc nL own fr mc ms) {x : Int32} {off : Int} {tgt : Nat} (hd : decode cc pc = .ok (.ifCond .le off, 3)) (ht : (pc : Int) + off = (tgt : Int)) (kt : x ≤ 0 → AW Γ nL h sz k n tgt lv st) (kf : ¬ x ≤ 0 → AW Γ nL h sz k n (pc + 3) lv st) : AW Γ nL h sz k n pc lv (.int x :: st) :=
  fun H locs ls a b c d => lv_if_le C.1 C.2.1 hd ht (fun z => kt z H locs ls a b c d) (fun z => kf z H locs ls a b c d)
theorem aw_ic_eq (C : CX Γ cc nL own fr mc ms) {x y : Int32} {off : Int} {tgt : Nat} (hd : decode cc pc = .ok (.if_icmp .eq off, 3)) (ht : (pc : Int) + off = (tgt : Int)) (kt : x = y → AW Γ nL h sz k n tgt lv st) (kf : ¬ x = y → AW Γ nL h sz k n (pc + 3) lv st) : AW Γ nL h sz k n pc lv (.int y :: .int x :: st) :=
  fun H locs ls a b c d => lv_icmp_eq C.1 C.2.1 hd ht (fun z => kt z H locs ls a b c d) (fun z => kf z H locs ls a b c d)
theorem aw_ic_ne (C : CX Γ cc nL own fr mc ms) {x y : Int32} {off : Int} {tgt : Nat} (hd : decode cc pc = .ok (.if_icmp .ne off, 3)) (ht : (pc : Int) + off = (tgt : Int)) (kt : x = y → AW Γ nL h sz k n (pc + 3) lv st) (kf : ¬ x = y → AW Γ nL h sz k n tgt lv st) : AW Γ nL h sz k n pc lv (.int y :: .int x :: st) :=
  fun H locs ls a b c d => lv_icmp_ne C.1 C.2.1 hd ht (fun z => kf z H locs ls a b c d) (fun z => kt z H locs ls a b c d)
theorem aw_ic_lt (C : CX Γ cc nL own fr mc ms) {x y : Int32} {off : Int} {tgt : Nat} (hd : decode cc pc = .ok (.if_icmp .lt off, 3)) (ht : (pc : Int) + off = (tgt : Int)) (kt : x < y → AW Γ nL h sz k n tgt lv st) (kf : ¬ x < y → AW Γ nL h sz k n (pc + 3) lv st) : AW Γ nL h sz k n pc lv (.int y :: .int x :: st) :=
  fun H locs ls a b c d => lv_icmp_lt C.1 C.2.1 hd ht (fun z => kt z H locs ls a b c d) (fun z => kf z H locs ls a b c d)
theorem aw_ic_ge (C : CX Γ cc nL own fr mc ms) {x y : Int32} {off : Int} {tgt : Nat} (hd : decode cc pc = .ok (.if_icmp .ge off, 3)) (ht : (pc : Int) + off = (tgt : Int)) (kt : y ≤ x → AW Γ nL h sz k n tgt lv st) (kf : ¬ y ≤ x → AW Γ nL h sz k n (pc + 3) lv st) : AW Γ nL h sz k n pc lv (.int y :: .int x :: st) :=
  fun H locs ls a b c d => lv_icmp_ge C.1 C.2.1 hd ht (fun z => kt z H locs ls a b c d) (fun z => kf z H locs ls a b c d)
theorem aw_ic_gt (C : CX Γ cc nL own fr mc ms) {x y : Int32} {off : Int} {tgt : Nat} (hd : decode cc pc = .ok (.if_icmp .gt off, 3)) (ht : (pc : Int) + off = (tgt : Int)) (kt : y < x → AW Γ nL h sz k n tgt lv st) (kf : ¬ y < x → AW Γ nL h sz k n (pc + 3) lv st) : AW Γ nL h sz k n pc lv (.int y :: .int x :: st) :=
  fun H locs ls a b c d => lv_icmp_gt C.1 C.2.1 hd ht (fun z => kt z H locs ls a b c d) (fun z => kf z H locs ls a b c d)
theorem aw_ic_le (C : CX Γ cc nL own fr mc ms) {x y : Int32} {off : Int} {tgt : Nat} (hd : decode cc pc = .ok (.if_icmp .le off, 3)) (ht : (pc : Int) + off = (tgt : Int)) (kt : x ≤ y → AW Γ nL h sz k n tgt lv st) (kf : ¬ x ≤ y → AW Γ nL h sz k n (pc + 3) lv st) : AW Γ nL h sz k n pc lv (.int y :: .int x :: st) :=
  fun H locs ls a b c d => lv_icmp_le C.1 C.2.1 hd ht (fun z => kt z H locs ls a b c d) (fun z => kf z H locs ls a b c d)
theorem aw_ifnull (C : CX Γ cc nL own fr mc ms) {r : Option Nat} {off : Int} {tgt : Nat} (hd : decode cc pc = .ok (.ifnull off, 3)) (ht : (pc : Int) + off = (tgt : Int)) (kt : r = none → AW Γ nL h sz k n tgt lv st) (kf : ¬ r = none → AW Γ nL h sz k n (pc + 3) lv st) : AW Γ nL h sz k n pc lv (va_rf r :: st) := by
  intro H locs ls a b c d
  cases r with
  | none => exact lv_ifnullN C.1 C.2.1 hd ht (kt rfl H locs ls a b c d)
  | some x => exact lv_ifnull C.1 C.2.1 hd (kf (by simp) H locs ls a b c d)
theorem aw_ifnonnull (C : CX Γ cc nL own fr mc ms) {r : Option Nat} {off : Int} {tgt : Nat} (hd : decode cc pc = .ok (.ifnonnull off, 3)) (ht : (pc : Int) + off = (tgt : Int)) (kt : r = none → AW Γ nL h sz k n (pc + 3) lv st) (kf : ¬ r = none → AW Γ nL h sz k n tgt lv st) : AW Γ nL h sz k n pc lv (va_rf r :: st) := by
  intro H locs ls a b c d
  cases r with
  | none => exact lv_ifnonnullN C.1 C.2.1 hd (kt rfl H locs ls a b c d)
  | some x => exact lv_ifnonnull C.1 C.2.1 hd ht (kf (by simp) H locs ls a b c d)
theorem aw_tsIn (C : CX Γ cc nL own fr mc ms) {x v : Int32} {dflt lo hi off : Int} {offs : Array Int} {len tgt : Nat} (hd : decode cc pc = .ok (.tableswitch dflt lo hi offs, len)) (hx : x = v) (h1 : ¬ v.toInt < lo) (h2 : ¬ hi < v.toInt) (ho : offs[(v.toInt - lo).toNat]? = some off) (ht : (pc : Int) + off = (tgt : Int)) (kk : AW Γ nL h sz k n tgt lv st) : AW Γ nL h sz k n pc lv (.int x :: st) := by
  subst hx
  exact fun H locs ls a b c d => lv_tableIn C.1 C.2.1 hd h1 h2 ho ht (kk H locs ls a b c d)
theorem aw_tsOut (C : CX Γ cc nL own fr mc ms) {x : Int32} {dflt lo hi : Int} {offs : Array Int} {len tgt : Nat} (hd : decode cc pc = .ok (.tableswitch dflt lo hi offs, len)) (hx : x.toInt < lo ∨ hi < x.toInt) (ht : (pc : Int) + dflt = (tgt : Int)) (kk : AW Γ nL h sz k n tgt lv st) : AW Γ nL h sz k n pc lv (.int x :: st) :=
  fun H locs ls a b c d => lv_tableOut C.1 C.2.1 hd hx ht (kk H locs ls a b c d)
theorem aw_lsw (C : CX Γ cc nL own fr mc ms) {x : Int32} {dflt off : Int} {ps : Array (Int × Int)} {len tgt : Nat} (hd : decode cc pc = .ok (.lookupswitch dflt ps, len)) (hp : (ps.toList.zip (ps.toList.drop 1)).all (fun (a, next) => a.1 < next.1) = true) (ho : Op.lookupswitch.offset ps.toList dflt x.toInt = off) (ht : (pc : Int) + off = (tgt : Int)) (kk : AW Γ nL h sz k n tgt lv st) : AW Γ nL h sz k n pc lv (.int x :: st) :=
  fun H locs ls a b c d => lv_lookup C.1 C.2.1 hd hp ho ht (kk H locs ls a b c d)
end ROWS
end
section
def FK (own : String) (ix ci j : Nat) (ty : FieldType) (fin : Bool) : Prop :=
  ∃ (Cn : String) (T : u_T) (N : Nat) (ty0 : Nat → FieldType), vwCl[ci]? = some (Cn, T, N) ∧ j < N ∧ (∀ w ∈ u_ws Cn T N, w ∈ gw) ∧ (Cond.fieldLink own ix (T j).1 (T j).2.1 (T j).2.2.1 ∈ gw ∨ ∃ host, Cond.fieldLinkNest own ix (T j).1 (T j).2.1 (T j).2.2.1 host ∈ nw) ∧ (∀ k, k < N → parseFieldDescriptor (T k).2.2.1 = some (ty0 k)) ∧ (∀ a, a < N → ∀ b, b < N → a ≠ b → (T a).2.1 ≠ (T b).2.1) ∧ parseFieldDescriptor (T j).2.2.1 = some ty ∧ (T j).2.2.2 = fin ∧ (T j).1 = Cn
def NK (own : String) (ix ci N : Nat) (fs : List Value) : Prop :=
  ∃ (Cn : String) (T : u_T) (ty0 : Nat → FieldType), vwCl[ci]? = some (Cn, T, N) ∧ (∀ w ∈ u_ws Cn T N, w ∈ gw) ∧ (∀ k, k < N → parseFieldDescriptor (T k).2.2.1 = some (ty0 k)) ∧ Cond.classLink own ix Cn ∈ gw ∧ Cond.instantiable Cn N ∈ gw ∧ Cond.initialized Cn ∈ gw ∧ (∀ j, j < N → defaultValue (ty0 j) = vp_V fs j)
def MB (own : String) (ix : Nat) (y : MethodName) (cc : ByteArray) (maxL : Nat) (ret : Option FieldType) (np : Nat) : Prop :=
  (Cond.methodLink own ix y ∈ gw ∨ ∃ host, Cond.methodLinkNest own ix y host ∈ nw) ∧ Cond.code y cc maxL ret ∈ gw ∧ Cond.initialized y.cls ∈ gw ∧ (y.cls ≠ "java/lang/invoke/MethodHandle" ∧ y.cls ≠ "java/lang/invoke/VarHandle" ∧ (parseMethodDescriptor y.desc).map (fun d => d.parameters.length) = some np) ∧ maxL ≤ 21
def clI (h : Hp) (sz : Nat) (r : Option Nat) : Option Hp := match r with
  | none => none
  | some a => match h a with
    | some (.inl (t, n, f)) => if t = 0 ∧ n ≤ 16 then some (up h sz (oI 0 n f)) else none
    | _ => none
theorem clI_spec {h h' : Hp} {sz : Nat} {r : Option Nat} (e : clI h sz r = some h') : ∃ (a n : Nat) (f : Nat → Int32), r = some a ∧ h a = some (oI 0 n f) ∧ n ≤ 16 ∧ h' = up h sz (oI 0 n f) := by
  unfold clI at e
  split at e
  · cases e
  · split at e
    · rename_i a _ t' n f he
      split at e
      · rename_i hc
        obtain ⟨hc, hl⟩ := hc
        subst hc
        cases e
        exact ⟨a, n, f, rfl, he, hl, rfl⟩
      · cases e
    · cases e
/-- whether it is an array of ints -/
def isI (h : Hp) (r : Option Nat) : Bool := match r with
  | none => false
  | some a => match h a with
    | some (.inl (t, _, _)) => t == 0
    | _ => false
theorem isI_spec {h : Hp} {r : Option Nat} (e : isI h r = true) : ∃ (a n : Nat) (f : Nat → Int32), r = some a ∧ h a = some (oI 0 n f) := by
  unfold isI at e
  split at e
  · cases e
  · split at e
    · rename_i a _ c n f he
      have hc : c = 0 := by simpa using e
      subst hc
      exact ⟨a, n, f, rfl, he⟩
    · cases e
def cpI (h : Hp) (r0 : Option Nat) (sp : Int32) (r1 : Option Nat) (dp m : Int32) : Option Hp := match r0, r1 with
  | some a0, some a1 => match h a0, h a1 with
    | some (.inl (t0, n0, f)), some (.inl (t1, n1, g)) => if t0 = 0 ∧ t1 = 0 ∧ ¬ sp < 0 ∧ ¬ dp < 0 ∧ ¬ m < 0 ∧ sp.toNatClampNeg + m.toNatClampNeg ≤ n0 ∧ dp.toNatClampNeg + m.toNatClampNeg ≤ n1 then some (up h a1 (oI 0 n1 (va_cpy f g sp.toNatClampNeg dp.toNatClampNeg m.toNatClampNeg))) else none
    | _, _ => none
  | _, _ => none
theorem cpI_spec {h h' : Hp} {r0 r1 : Option Nat} {sp dp m : Int32} (e : cpI h r0 sp r1 dp m = some h') : ∃ (a0 a1 n0 n1 : Nat) (f g : Nat → Int32), r0 = some a0 ∧ r1 = some a1 ∧ h a0 = some (oI 0 n0 f) ∧ h a1 = some (oI 0 n1 g) ∧ ¬ sp < 0 ∧ ¬ dp < 0 ∧ ¬ m < 0 ∧ sp.toNatClampNeg + m.toNatClampNeg ≤ n0 ∧ dp.toNatClampNeg + m.toNatClampNeg ≤ n1 ∧ h' = up h a1 (oI 0 n1 (va_cpy f g sp.toNatClampNeg dp.toNatClampNeg m.toNatClampNeg)) := by
  unfold cpI at e
  split at e
  · rename_i a0 a1
    split at e
    · rename_i t0 n0 f t1 n1 g e0 e1
      split at e
      · rename_i hc
        obtain ⟨c0, c1, c2, c3, c4, c5, c6⟩ := hc
        subst c0
        subst c1
        cases e
        exact ⟨a0, a1, n0, n1, f, g, rfl, rfl, e0, e1, c2, c3, c4, c5, c6, rfl⟩
      · cases e
    · cases e
  · cases e
theorem set_i (cA : ClassId) (n i : Nat) (f : Nat → Int32) (x : Int32) : (vp_cell cA (n, .inl f)).setSlot i (.int x) = vp_cell cA (n, .inl (upd f i x)) := by
  rw [vp_cell_i, vp_cell_i, arrV_store]
  congr 1
  funext q
  by_cases hq : q = i
  · subst hq
    simp [updV, upd]
  · simp [updV, upd, hq]
theorem set_q (cA : ClassId) (n i : Nat) (f : Nat → Option Nat) (v : Option Nat) : (vp_cell cA (n, .inr (.inr (.inr (.inr f))))).setSlot i (va_rf v) = vp_cell cA (n, .inr (.inr (.inr (.inr (va_up f i v))))) := by
  rw [vp_cell_q, vp_cell_q, arrV_store]
  congr 1
  funext q
  by_cases hq : q = i
  · subst hq
    simp [updV, va_up]
  · simp [updV, va_up, hq]
theorem cat_le (st : List Value) (h : st.length ≤ 4) : (st.map fun v => v.category).sum ≤ 8 := by
  have key : ∀ l : List Value, (l.map fun v => v.category).sum ≤ 2 * l.length := by
    intro l
    induction l with
    | nil => simp
    | cons x l ih =>
      rw [List.map_cons, List.sum_cons, List.length_cons]
      rcases lv_cat x with e | e <;> omega
  have := key st
  omega
theorem aPre_blind {D : va_G} {dA : Nat → ClassId} {base : Nat} {av : List Value} {h : Hp} {sz : Nat} : FrameBlind (aPre D dA base av h sz) := fun a U g mk q => ⟨q.1, q.2.1, q.2.2.1, q.2.2.2.1, KK.same (u := U) (U := U.calling g mk a) rfl q.2.2.2.2⟩
section HROWS
variable {Γ : GG} {cc : ByteArray} {nL fr mc ms : Nat} {own : String} {h h' : Hp} {sz k n pc : Nat} {lv lv' : LV} {st : List Value}
theorem aw_get (C : CX Γ cc nL own fr mc ms) {ix ci j : Nat} {ty : FieldType} {fin : Bool} (F : FK own ix ci j ty fin) (hd : decode cc pc = .ok (.getfield ix, 3)) {r : Option Nat} {v : Value} (hv : gV h r ci j = some v) (kk : AW Γ nL h sz k n (pc + 3) lv (v :: st)) : AW Γ nL h sz k n pc lv (va_rf r :: st) := by
  intro H locs ls a b c d
  obtain ⟨q, fs, rfl, hq, hfs⟩ := gV_spec hv
  obtain ⟨Cn, T, N, ty0, f1, f2, f3, f4, f5, f6, f7, f8, f9⟩ := F
  have hP := one_P (b q _ hq).2
  rcases f4 with f4 | ⟨host, f4⟩
  · exact va_get C.1 C.2.1 C.2.2.2.2.1 f3 C.2.2.2.1 C.2.2.2.2.2.1.1 hP 0 rfl f1 j f2 (C.2.2.2.2.1 _ f4) (fun _ z => z) hfs hd (kk H locs ls a b c d)
  · exact va_getN C.1 C.2.1 C.2.2.2.2.1 f3 C.2.2.2.1 C.2.2.2.2.2.1.1 hP 0 rfl f1 j f2 (va_Nw.use rfl (C.2.2.2.2.2.1.2.1 _ f4)) (fun _ z => z) hfs hd (kk H locs ls a b c d)
theorem aw_gI (C : CX Γ cc nL own fr mc ms) {ix ci j : Nat} {ty : FieldType} {fin : Bool} (F : FK own ix ci j ty fin) (hd : decode cc pc = .ok (.getfield ix, 3)) {r : Option Nat} {v : Int32} (hv : gI h r ci j = some v) (kk : AW Γ nL h sz k n (pc + 3) lv (.int v :: st)) : AW Γ nL h sz k n pc lv (va_rf r :: st) := aw_get C F hd (gI_spec hv) kk
theorem aw_gJ (C : CX Γ cc nL own fr mc ms) {ix ci j : Nat} {ty : FieldType} {fin : Bool} (F : FK own ix ci j ty fin) (hd : decode cc pc = .ok (.getfield ix, 3)) {r : Option Nat} {v : Int64} (hv : gJ h r ci j = some v) (kk : AW Γ nL h sz k n (pc + 3) lv (.long v :: st)) : AW Γ nL h sz k n pc lv (va_rf r :: st) := aw_get C F hd (gJ_spec hv) kk
theorem aw_gA (C : CX Γ cc nL own fr mc ms) {ix ci j : Nat} {ty : FieldType} {fin : Bool} (F : FK own ix ci j ty fin) (hd : decode cc pc = .ok (.getfield ix, 3)) {r v : Option Nat} (hv : gA h r ci j = some v) (kk : AW Γ nL h sz k n (pc + 3) lv (va_rf v :: st)) : AW Γ nL h sz k n pc lv (va_rf r :: st) := aw_get C F hd (gA_spec hv) kk
theorem aw_put (C : CX Γ cc nL own fr mc ms) {ix ci j : Nat} {ty : FieldType} (F : FK own ix ci j ty false) (hd : decode cc pc = .ok (.putfield ix, 3)) {r : Option Nat} {v : Value} (hn : narrow ty v = v) (hf : fits ty v = true) (hv : pV h r ci j v = some h') (kk : AW Γ nL h' sz k n (pc + 3) lv st) : AW Γ nL h sz k n pc lv (v :: va_rf r :: st) := by
  intro H locs ls a b c d
  obtain ⟨q, fs, rfl, hq, hl, rfl⟩ := pV_spec hv
  obtain ⟨Cn, T, N, ty0, f1, f2, f3, f4, f5, f6, f7, f8, f9⟩ := F
  have hts := C.2.2.2.2.1
  have hK := C.2.2.2.2.2.1.1
  have hap := va_apart (own := own) hts f3 ty0 f5 f6 hK f1
  obtain ⟨hbq, r', h1, cell, q1, q2, q3, q4⟩ := b q _ hq
  have hr : r' = (Cn, T, N) := Option.some.inj (h1.symm.trans f1)
  subst hr
  obtain ⟨hS, hfc, kC, hkC, hkind⟩ := hK.1 ci _ f1
  obtain ⟨cf, kf, fi, f, hi, hsl⟩ := hS j f2
  have hlay := hts _ (f3 _ (u_in_lay f2))
  unfold u_lay at hlay
  rw [if_neg (by rw [f8]; decide)] at hlay
  have hst := (u_facts hfc hkC (u_lays hts f3 f2) hi).1
  have h6 := u_store hfc hkC hkind hlay hi f7 hn hf
  rcases f4 with f4 | ⟨host, f4⟩
  · refine W.putK C.1 C.2.1 (f := f) ⟨C.2.2.2.1, hts _ f4, ⟨_, _, _, hi⟩, hst⟩ (by rw [q2]; exact h6) q1 q3 (by rw [hsl]; exact k2_hasslot (q4 j f2)) rfl rfl hd fun H' e1 e2 e3 => ?_
    rw [hsl] at e1 ⊢
    exact kk H' _ ls (e2.trans a) (b.set e3 hbq ⟨_, f1, t_OB.to (V := updV (vp_V fs) j v) ⟨_, e1, q2, q3, t_set q4 hap f2 v⟩ (fun i _ => vp_updV_set hl v i)⟩) (c.put e2 e3 hbq) d
  · refine va_WputK C.1 C.2.1 (f := f) C.2.2.2.1 (va_Nw.use rfl (C.2.2.2.2.2.1.2.1 _ f4)) hi hst (by rw [q2]; exact h6) q1 q3 (by rw [hsl]; exact k2_hasslot (q4 j f2)) rfl rfl hd fun H' e1 e2 e3 => ?_
    rw [hsl] at e1 ⊢
    exact kk H' _ ls (e2.trans a) (b.set e3 hbq ⟨_, f1, t_OB.to (V := updV (vp_V fs) j v) ⟨_, e1, q2, q3, t_set q4 hap f2 v⟩ (fun i _ => vp_updV_set hl v i)⟩) (c.put e2 e3 hbq) d
theorem aw_putF (C : CX Γ cc nL own fr mc ms) {ix ci j : Nat} {ty : FieldType} (F : FK own ix ci j ty true) (ho : vwCl[ci]?.map (·.1) = some own) (hin : (g_t Γ).name = "<init>") (hd : decode cc pc = .ok (.putfield ix, 3)) {r : Option Nat} {v : Value} (hn : narrow ty v = v) (hf : fits ty v = true) (hv : pV h r ci j v = some h') (kk : AW Γ nL h' sz k n (pc + 3) lv st) : AW Γ nL h sz k n pc lv (v :: va_rf r :: st) := by
  intro H locs ls a b c d
  obtain ⟨q, fs, rfl, hq, hl, rfl⟩ := pV_spec hv
  obtain ⟨Cn, T, N, ty0, f1, f2, f3, f4, f5, f6, f7, f8, f9⟩ := F
  have hts := C.2.2.2.2.1
  have hK := C.2.2.2.2.2.1.1
  have hap := va_apart (own := own) hts f3 ty0 f5 f6 hK f1
  obtain ⟨hbq, r', h1, cell, q1, q2, q3, q4⟩ := b q _ hq
  have hr : r' = (Cn, T, N) := Option.some.inj (h1.symm.trans f1)
  subst hr
  rw [f1] at ho
  have ho : Cn = own := Option.some.inj ho
  obtain ⟨hS, hfc, kC, hkC, hkind⟩ := hK.1 ci _ f1
  obtain ⟨cf, kf, fi, f, hi, hsl⟩ := hS j f2
  have hlay := hts _ (f3 _ (u_in_lay f2))
  unfold u_lay at hlay
  rw [if_pos f8] at hlay
  have hst := (u_facts hfc hkC (u_lays hts f3 f2) hi).1
  have hcf : (g_m Γ).cls = cf := by
    obtain ⟨_, _, c', _, _, _, -, -, hf', -, -, -, hown2, -⟩ := Cond.laysFinal_spec hlay
    have e1 : c' = cf := by have := hi.symm.trans hf'; simp at this; exact this.1.symm
    rw [f9, ho] at hown2
    rw [← e1]; exact Option.some.inj (C.2.2.2.1.symm.trans hown2)
  have h6 := u_fits hfc hkC hkind (Or.inr hlay) hi f7 hn hf
  rcases f4 with f4 | ⟨host, f4⟩
  · refine W.putFinK C.1 C.2.1 C.2.2.2.1 (hts _ f4) hi hst hcf hin (by rw [q2]; exact h6) q1 q3 (by rw [hsl]; exact k2_hasslot (q4 j f2)) rfl rfl hd fun H' e1 e2 e3 => ?_
    rw [hsl] at e1 ⊢
    exact kk H' _ ls (e2.trans a) (b.set e3 hbq ⟨_, f1, t_OB.to (V := updV (vp_V fs) j v) ⟨_, e1, q2, q3, t_set q4 hap f2 v⟩ (fun i _ => vp_updV_set hl v i)⟩) (c.put e2 e3 hbq) d
  · have ha : q < H.size := (Array.getElem?_eq_some_iff.mp q1).1
    refine va_Wputf C.1 C.2.1 C.2.2.2.1 (va_Nw.use rfl (C.2.2.2.2.2.1.2.1 _ f4)) hi hst (Or.inr ⟨hcf, hin⟩) q1 (by rw [q3]; exact fun h => by cases h) (by rw [hsl]; exact k2_hasslot (q4 j f2)) h6.1 (by rw [q2, q3]; exact h6.2) rfl rfl hd ?_
    have e1 : (H.setIfInBounds q (cell.setSlot f.slot v))[q]? = some (cell.setSlot f.slot v) := by simp [Array.getElem?_setIfInBounds, ha]
    have e3 : ∀ x : Nat, x ≠ q → (H.setIfInBounds q (cell.setSlot f.slot v))[x]? = H[x]? := fun x hx => by simp [Array.getElem?_setIfInBounds, Ne.symm hx]
    have e2 : (H.setIfInBounds q (cell.setSlot f.slot v)).size = H.size := by simp
    rw [hsl] at e1 e2 e3 ⊢
    exact kk _ _ ls (e2.trans a) (b.set e3 hbq ⟨_, f1, t_OB.to (V := updV (vp_V fs) j v) ⟨_, e1, q2, q3, t_set q4 hap f2 v⟩ (fun i _ => vp_updV_set hl v i)⟩) (c.put e2 e3 hbq) d
theorem nf_ref {ty : FieldType} (ht : (∃ c, ty = .object c) ∨ ∃ t, ty = .array t) (r : Option Nat) : narrow ty (va_rf r) = va_rf r ∧ fits ty (va_rf r) = true := by
  rcases ht with ⟨c, rfl⟩ | ⟨c, rfl⟩ <;> cases r <;> exact ⟨rfl, rfl⟩
theorem aw_iald (C : CX Γ cc nL own fr mc ms) {i v : Int32} {r : Option Nat} (hd : decode cc pc = .ok (.iaload, 1)) (hv : rI h r 0 i = some v) (kk : AW Γ nL h sz k n (pc + 1) lv (.int v :: st)) : AW Γ nL h sz k n pc lv (.int i :: va_rf r :: st) := by
  intro H locs ls a b c d
  obtain ⟨q, z, f, rfl, hq, hin, rfl⟩ := rI_spec hv
  exact va_iald C.1 C.2.1 C.2.2.2.2.2.1.1 (one_P (b q _ hq).2) 0 0 rfl rfl hin hd (kk H locs ls a b c d)
theorem aw_zald (C : CX Γ cc nL own fr mc ms) {i v : Int32} {r : Option Nat} (hd : decode cc pc = .ok (.baload, 1)) (hv : rI h r 1 i = some v) (kk : AW Γ nL h sz k n (pc + 1) lv (.int v :: st)) : AW Γ nL h sz k n pc lv (.int i :: va_rf r :: st) := by
  intro H locs ls a b c d
  obtain ⟨q, z, f, rfl, hq, hin, rfl⟩ := rI_spec hv
  exact va_zald C.1 C.2.1 C.2.2.2.2.2.1.1 (one_P (b q _ hq).2) 0 1 rfl rfl hin hd (kk H locs ls a b c d)
theorem aw_iast (C : CX Γ cc nL own fr mc ms) {i x : Int32} {r : Option Nat} (hd : decode cc pc = .ok (.iastore, 1)) (hv : wI h r 0 i x = some h') (kk : AW Γ nL h' sz k n (pc + 1) lv st) : AW Γ nL h sz k n pc lv (.int x :: .int i :: va_rf r :: st) := by
  intro H locs ls a b c d
  obtain ⟨q, z, f, rfl, hq, hin, rfl⟩ := wI_spec hv
  have hb := b q _ hq
  refine W.iast C.1 C.2.1 hb.2 ((C.2.2.2.2.2.1.1.2 0 _ rfl).1 z (fun j => .int (f j))) (fun z => by cases z) (by show ¬ (i < 0 ∨ (arrV _ _ _).slots.size ≤ _); rw [arrV_size]; exact hin) rfl rfl hd fun H1 e ez oq => ?_
  refine kk H1 _ ls (ez.trans a) (b.set oq hb.1 ?_) (c.put ez oq hb.1) d
  show H1[q]? = some (vp_cell _ _)
  rw [e]
  exact congrArg some (set_i _ _ _ _ _)
theorem aw_zast (C : CX Γ cc nL own fr mc ms) {i x : Int32} {r : Option Nat} (hd : decode cc pc = .ok (.bastore, 1)) (hv : wI h r 1 i (vp_nar .boolean x) = some h') (kk : AW Γ nL h' sz k n (pc + 1) lv st) : AW Γ nL h sz k n pc lv (.int x :: .int i :: va_rf r :: st) := by
  intro H locs ls a b c d
  obtain ⟨q, z, f, rfl, hq, hin, rfl⟩ := wI_spec hv
  have hb := b q _ hq
  refine W.zast C.1 C.2.1 hb.2 ((C.2.2.2.2.2.1.1.2 1 _ rfl).1 z (fun j => .int (f j))) (fun z => by cases z) (by show ¬ (i < 0 ∨ (arrV _ _ _).slots.size ≤ _); rw [arrV_size]; exact hin) rfl rfl hd fun H1 e ez oq => ?_
  refine kk H1 _ ls (ez.trans a) (b.set oq hb.1 ?_) (c.put ez oq hb.1) d
  show H1[q]? = some (vp_cell _ _)
  rw [e]
  exact congrArg some (set_i _ _ _ _ _)
theorem aw_aald (C : CX Γ cc nL own fr mc ms) {i : Int32} {t : Nat} {r v : Option Nat} (ht : t = 2 ∨ t = 3) (hd : decode cc pc = .ok (.aaload, 1)) (hv : rA h r t i = some v) (kk : AW Γ nL h sz k n (pc + 1) lv (va_rf v :: st)) : AW Γ nL h sz k n pc lv (.int i :: va_rf r :: st) := by
  intro H locs ls a b c d
  obtain ⟨q, z, f, rfl, hq, hin, rfl⟩ := rA_spec hv
  rcases ht with rfl | rfl
  · exact va_aldq C.1 C.2.1 C.2.2.2.2.2.1.1 (one_P (b q _ hq).2) 0 2 rfl rfl hin hd (kk H locs ls a b c d)
  · exact va_aldq C.1 C.2.1 C.2.2.2.2.2.1.1 (one_P (b q _ hq).2) 0 3 rfl rfl hin hd (kk H locs ls a b c d)
theorem aw_aast (C : CX Γ cc nL own fr mc ms) {i : Int32} {t : Nat} {r v : Option Nat} (ht : t = 2 ∨ t = 3) (hd : decode cc pc = .ok (.aastore, 1)) (hv : wA h r t i v = some h') (kk : AW Γ nL h' sz k n (pc + 1) lv st) : AW Γ nL h sz k n pc lv (va_rf v :: .int i :: va_rf r :: st) := by
  intro H locs ls a b c d
  obtain ⟨q, z, f, rfl, hq, hin, hO, rfl⟩ := wA_spec hv
  have hb := b q _ hq
  have hK := C.2.2.2.2.2.1.1
  have hlt : i.toNatClampNeg < z := Nat.not_le.mp fun q => hin (Or.inr q)
  have h0 : ¬ i < 0 := fun q => hin (Or.inl q)
  obtain ⟨Cn, htt, hcc⟩ : ∃ Cn : String, (tyA (g_A Γ))[t]? = some ((g_A Γ) t, .object Cn) ∧ (∃ T N, vwCl[t - 1]? = some (Cn, T, N)) := by
    rcases ht with rfl | rfl
    · exact ⟨_, rfl, _, _, rfl⟩
    · exact ⟨_, rfl, _, _, rfl⟩
  cases v with
  | none =>
    refine va_WaastN (C := Cn) C.1 C.2.1 hb.2 ((hK.2 t _ htt).1 z (fun j => va_rf (f j))) (fun h => by cases h) (by show ¬ (i < 0 ∨ (arrV _ _ _).slots.size ≤ _); rw [arrV_size]; exact hin) rfl rfl hd fun H1 e ez oq => ?_
    refine kk H1 _ ls (ez.trans a) (b.set oq hb.1 ?_) (c.put ez oq hb.1) d
    show H1[q]? = some (vp_cell _ _)
    rw [e]
    exact congrArg some (set_q _ _ _ _ none)
  | some v =>
    rcases hO with hO | hO
    · cases hO
    obtain ⟨v', vs, ev, hv'⟩ := isO_spec hO
    cases ev
    obtain ⟨T, N, hcc⟩ := hcc
    obtain ⟨hbv, r', hr', cellV, g1, g2, g3, -⟩ := b v _ hv'
    have hcls := (hK.1 (t - 1) _ hcc).2
    obtain ⟨kA, comp, k1, k2, k3, -⟩ := (hK.2 t _ htt).2
    have hcomp : comp = (g_D Γ).1 (t - 1) := Option.some.inj (k3.symm.trans hcls.1)
    subst hcomp
    obtain ⟨kC, hkC, -⟩ := hcls.2
    refine W.aast C.1 C.2.1 hb.2 (fun q h => by cases h) (fun h => by cases h) k1 k2 rfl hkC ⟨h0, by show _ < (arrV _ _ _).slots.size; rw [arrV_size]; exact hlt⟩ g1 (fun q h => by rw [g3] at h; cases h) (by rw [g2]; exact hkC) (by rw [g2]; exact va_assign hcls) rfl rfl hd fun H1 e ez oq => ?_
    refine kk H1 _ ls (ez.trans a) (b.set oq hb.1 ?_) (c.put ez oq hb.1) d
    show H1[q]? = some (vp_cell _ _)
    rw [e]
    exact congrArg some (set_q _ _ _ _ (some v))
theorem aw_alen (C : CX Γ cc nL own fr mc ms) {v : Int32} {r : Option Nat} (hd : decode cc pc = .ok (.arraylength, 1)) (hv : aL h r = some v) (kk : AW Γ nL h sz k n (pc + 1) lv (.int v :: st)) : AW Γ nL h sz k n pc lv (va_rf r :: st) := by
  intro H locs ls a b c d
  obtain ⟨q, rfl, ⟨t, z, f, hq, ht, hz⟩ | ⟨t, z, f, hq, ht, hz⟩⟩ := aL_spec hv
  · rcases (show t = 0 ∨ t = 1 by omega) with rfl | rfl
    · exact va_alen C.1 C.2.1 C.2.2.2.2.2.1.1 (one_P (b q _ hq).2) 0 0 rfl rfl hz hd (kk H locs ls a b c d)
    · exact va_alen C.1 C.2.1 C.2.2.2.2.2.1.1 (one_P (b q _ hq).2) 0 1 rfl rfl hz hd (kk H locs ls a b c d)
  · rcases ht with rfl | rfl
    · exact va_alen C.1 C.2.1 C.2.2.2.2.2.1.1 (one_P (b q _ hq).2) 0 2 rfl rfl hz hd (kk H locs ls a b c d)
    · exact va_alen C.1 C.2.1 C.2.2.2.2.2.1.1 (one_P (b q _ hq).2) 0 3 rfl rfl hz hd (kk H locs ls a b c d)
theorem aw_new (C : CX Γ cc nL own fr mc ms) {ix ci N : Nat} {fs : List Value} (F : NK own ix ci N fs) (hd : decode cc pc = .ok (.new ix, 3)) (h1 : k + 1 ≤ mc) (h2 : n + N ≤ ms) (kk : AW Γ nL (up h sz (oO ci fs)) (sz + 1) (k + 1) (n + N) (pc + 3) lv (va_rf (some sz) :: st)) : AW Γ nL h sz k n pc lv st := by
  intro H locs ls a b c d
  obtain ⟨Cn, T, ty0, f1, f2, f3, f4, f5, f6, f7⟩ := F
  have hts := C.2.2.2.2.1
  have hKn := C.2.2.2.2.2.1.1.1 ci _ f1
  obtain ⟨-, -, -, -, -, -, hz, -, -, -, r1, r2⟩ := id C
  refine W.newcK C.1 C.2.1 C.2.2.2.1 (hts _ f4) (hts _ f5) (hts _ f6) rfl hd (Nat.le_trans h1 r1) (Nat.le_trans h2 r2) hKn.2.1 a fun H1 kC hkC e1 z1 o1 => ?_
  refine kk H1 locs ls z1 (b.push a o1 (by have := c.1; omega) ⟨_, f1, (u_born ty0 hts f2 hKn hkC e1 f3).to f7⟩) ⟨by have := c.1; omega, fun x g1 g2 => (o1 x (by have := c.1; omega)).trans (c.2.1 x g1 g2), c.2.2⟩ d
theorem aw_newI (C : CX Γ cc nL own fr mc ms) {x : Int32} {N : Nat} (hw : Cond.arrayClass .int ∈ gw) (hd : decode cc pc = .ok (.newarray .int, 2)) (hx : ¬ x < 0) (hN : x.toNatClampNeg = N) (hb : N ≤ 100000) (h1 : k + 1 ≤ mc) (h2 : n + N ≤ ms) (kk : AW Γ nL (up h sz (oI 0 N (fun _ => 0))) (sz + 1) (k + 1) (n + N) (pc + 2) lv (va_rf (some sz) :: st)) : AW Γ nL h sz k n pc lv (.int x :: st) := by
  intro H locs ls a b c d
  obtain ⟨-, -, -, -, hts, hK, hz, -, -, -, r1, r2⟩ := id C
  refine va_newaK (atype := .int) C.1 C.2.1 (hts _ hw) rfl hd rfl hx hN (by show N * 4 ≤ _; omega) (Nat.le_trans h1 r1) (Nat.le_trans h2 r2) a fun H1 cA e1 z1 o1 hAr hNm => ?_
  have hc : cA = (g_A Γ) 0 := Option.some.inj (hNm.symm.trans (hK.1.2 0 _ rfl).2)
  subst hc
  refine kk H1 locs ls z1 (b.push a o1 (by have := c.1; omega) ?_) ⟨by have := c.1; omega, fun x g1 g2 => (o1 x (by have := c.1; omega)).trans (c.2.1 x g1 g2), c.2.2⟩ d
  exact e1
theorem aw_newZ (C : CX Γ cc nL own fr mc ms) {x : Int32} {N : Nat} (hw : Cond.arrayClass .boolean ∈ gw) (hd : decode cc pc = .ok (.newarray .boolean, 2)) (hx : ¬ x < 0) (hN : x.toNatClampNeg = N) (hb : N ≤ 100000) (h1 : k + 1 ≤ mc) (h2 : n + N ≤ ms) (kk : AW Γ nL (up h sz (oI 1 N (fun _ => 0))) (sz + 1) (k + 1) (n + N) (pc + 2) lv (va_rf (some sz) :: st)) : AW Γ nL h sz k n pc lv (.int x :: st) := by
  intro H locs ls a b c d
  obtain ⟨-, -, -, -, hts, hK, hz, -, -, -, r1, r2⟩ := id C
  refine va_newaK (atype := .boolean) C.1 C.2.1 (hts _ hw) rfl hd rfl hx hN (by show N * 1 ≤ _; omega) (Nat.le_trans h1 r1) (Nat.le_trans h2 r2) a fun H1 cA e1 z1 o1 hAr hNm => ?_
  have hc : cA = (g_A Γ) 1 := Option.some.inj (hNm.symm.trans (hK.1.2 1 _ rfl).2)
  subst hc
  refine kk H1 locs ls z1 (b.push a o1 (by have := c.1; omega) ?_) ⟨by have := c.1; omega, fun x g1 g2 => (o1 x (by have := c.1; omega)).trans (c.2.1 x g1 g2), c.2.2⟩ d
  exact e1
theorem aw_newA (C : CX Γ cc nL own fr mc ms) {x : Int32} {N ix t : Nat} {Cn : String} (ht : (tyA (g_A Γ))[t]? = some ((g_A Γ) t, .object Cn)) (hO : KK (g_D Γ) (g_A Γ) (g_s Γ) → va_AO Cn (g_s Γ)) (hw : Cond.classLink own ix Cn ∈ gw) (hd : decode cc pc = .ok (.anewarray ix, 3)) (hx : ¬ x < 0) (hN : x.toNatClampNeg = N) (hb : N ≤ 100000) (h1 : k + 1 ≤ mc) (h2 : n + N ≤ ms) (kk : AW Γ nL (up h sz (oA t N (fun _ => none))) (sz + 1) (k + 1) (n + N) (pc + 3) lv (va_rf (some sz) :: st)) : AW Γ nL h sz k n pc lv (.int x :: st) := by
  intro H locs ls a b c d
  obtain ⟨-, -, -, -, hts, hK, hz, -, -, -, r1, r2⟩ := id C
  subst hN
  refine W.anew C.1 C.2.1 C.2.2.2.1 (hts _ hw) (va_AO.use (hO hK)) rfl hd rfl hx (by omega) (Nat.le_trans h1 r1) (Nat.le_trans h2 r2) fun cA kA comp f1 f2 f3 f4 => ?_
  obtain ⟨kA', comp', k1, k2, k3, k4⟩ := (hK.1.2 t _ ht).2
  have hc : cA = (g_A Γ) t := Option.some.inj (f1.symm.trans k4)
  subst hc
  generalize hH1 : H.push ({ cls := (g_A Γ) t, slots := Array.replicate x.toNatClampNeg .null, vm := .none } : Cell) = H1
  have z1 : H1.size = H.size + 1 := by rw [← hH1, Array.size_push]
  have e1 : H1[H.size]? = some (arrV ((g_A Γ) t) x.toNatClampNeg (fun _ => .null)) := by rw [← hH1, Array.getElem?_push_size, ← arrV_new]
  have o1 : ∀ q : Nat, q < H.size → H1[q]? = H[q]? := fun q hq => by rw [← hH1, Array.getElem?_push, if_neg (Nat.ne_of_lt hq)]
  subst a
  exact kk H1 locs ls z1 (b.push rfl o1 (by have := c.1; omega) e1) ⟨by have := c.1; omega, fun x g1 g2 => (o1 x (by have := c.1; omega)).trans (c.2.1 x g1 g2), c.2.2⟩ d
theorem aw_castI (C : CX Γ cc nL own fr mc ms) {ix : Nat} {r : Option Nat} (hw : Cond.classLink own ix "[I" ∈ gw) (hd : decode cc pc = .ok (.checkcast ix, 3)) (hv : isI h r = true) (kk : AW Γ nL h sz k n (pc + 3) lv (va_rf r :: st)) : AW Γ nL h sz k n pc lv (va_rf r :: st) := by
  intro H locs ls a b c d
  obtain ⟨q, z, f, rfl, hq⟩ := isI_spec hv
  exact va_castA C.1 C.2.1 C.2.2.2.1 (C.2.2.2.2.1 _ hw) (one_P (b q _ hq).2) 0 rfl (C.2.2.2.2.2.1.1.2 0 _ rfl).2 hd (kk H locs ls a b c d)
theorem aw_mmax (C : CX Γ cc nL own fr mc ms) {ix : Nat} {x y : Int32} (w1 : Cond.methodLink own ix Lib.Math.max.name ∈ gw) (w2 : Cond.static Lib.Math.max.name ∈ gw) (w3 : Cond.initialized "java/lang/Math" ∈ gw) (w4 : Cond.code Lib.Math.max.name Lib.Math.max.code 2 (some .int) ∈ gw) (hf : 1 ≤ fr) (hr : st.length ≤ 4) (hk : k ≤ mc) (hn : n ≤ ms) (hd : decode cc pc = .ok (.invokestatic ix, 3)) (kk : AW Γ nL h sz k n (pc + 3) lv (.int (jmax x y) :: st)) : AW Γ nL h sz k n pc lv (.int y :: .int x :: st) := by
  intro H locs ls a b c d
  obtain ⟨-, -, hml, hown, hts, -, -, -, r1, r2, r3, r4⟩ := id C
  exact va_mmax C.1 C.2.1 (hml.trans d.1.symm) hown (hts _ w1) (hts _ w2) (hts _ w3) (hts _ w4) (by omega) (by have := cat_le st hr; omega) (by omega) (by omega) hd (kk H locs ls a b c d)
theorem aw_mmin (C : CX Γ cc nL own fr mc ms) {ix : Nat} {x y : Int32} (w1 : Cond.methodLink own ix Lib.Math.min.name ∈ gw) (w2 : Cond.static Lib.Math.min.name ∈ gw) (w3 : Cond.initialized "java/lang/Math" ∈ gw) (w4 : Cond.code Lib.Math.min.name Lib.Math.min.code 2 (some .int) ∈ gw) (hf : 1 ≤ fr) (hr : st.length ≤ 4) (hk : k ≤ mc) (hn : n ≤ ms) (hd : decode cc pc = .ok (.invokestatic ix, 3)) (kk : AW Γ nL h sz k n (pc + 3) lv (.int (jmin x y) :: st)) : AW Γ nL h sz k n pc lv (.int y :: .int x :: st) := by
  intro H locs ls a b c d
  obtain ⟨-, -, hml, hown, hts, -, -, -, r1, r2, r3, r4⟩ := id C
  exact va_mmin C.1 C.2.1 (hml.trans d.1.symm) hown (hts _ w1) (hts _ w2) (hts _ w3) (hts _ w4) (by omega) (by have := cat_le st hr; omega) (by omega) (by omega) hd (kk H locs ls a b c d)
theorem aw_objInit (C : CX Γ cc nL own fr mc ms) {ix : Nat} {r : Option Nat} (w1 : Cond.methodLink own ix Lib.objectInit ∈ gw) (w2 : Cond.instanceMethod Lib.objectInit ∈ gw) (w3 : Cond.code Lib.objectInit ⟨#[0xb1]⟩ 1 none ∈ gw) (hf : 1 ≤ fr) (hr : st.length ≤ 4) (hO : ¬ r = none) (hd : decode cc pc = .ok (.invokespecial ix, 3)) (kk : AW Γ nL h sz k n (pc + 3) lv st) : AW Γ nL h sz k n pc lv (va_rf r :: st) := by
  intro H locs ls a b c d
  obtain ⟨-, -, hml, hown, hts, -, -, -, r1, r2, r3, r4⟩ := id C
  cases r with
  | none => exact absurd rfl hO
  | some x => exact W.objInit C.1 C.2.1 hown (hts _ w1) (hts _ w2) (hts _ w3) rfl (by rw [hml]; exact d.1) rfl hd (by omega) (by show 2 * 0 + _ + 12 ≤ _; have := cat_le st hr; omega) (kk H locs ls a b c d)
end HROWS
end
section
section CROWS
variable {Γ : GG} {cc : ByteArray} {nL fr mc ms : Nat} {own : String} {h h' : Hp} {sz sz' k n pc : Nat} {lv lv' : LV} {st : List Value}
theorem S_more {Γ : GG} {H H1 : Heap} {locs : List Loc} (c : va_S (fun q => g_z Γ ≤ q) (g_s Γ).heap H locs) (hz : g_z Γ ≤ (g_s Γ).heap.size) (h1 : H.size ≤ H1.size) (h2 : ∀ q : Nat, q < g_z Γ → H1[q]? = H[q]?) {L : List Loc} (hL : ∀ q ∈ L, g_z Γ ≤ q.base) : va_S (fun q => g_z Γ ≤ q) (g_s Γ).heap H1 (locs ++ L) := by
  refine ⟨Nat.le_trans c.1 h1, fun q g1 g2 => ?_, fun q hq => ?_⟩
  · rw [h2 q (Nat.not_le.mp g2)]
    exact c.2.1 q g1 g2
  · rcases List.mem_append.mp hq with e | e
    · exact c.2.2 q e
    · exact hL q e
/-- behind a call -/
theorem aw_after (C : CX Γ cc nL own fr mc ms) {mc' ms' : Nat} {r : Option Value} {rest st2 : List Value} {a0 : Array Value}
    (hr : ∀ (H : Heap) (locs : List Loc) (ls : Array Slot), H.size = sz → Rp (g_D Γ) (g_A Γ) (g_z Γ) h H → g_z Γ ≤ sz → ls.size = nL → va_Run (g_p Γ) (g_l Γ) (g_e Γ) (g_R Γ) (g_s Γ) (g_m Γ) (g_a Γ) (g_b Γ) (g_t Γ) (g_c Γ) H locs k n mc' ms' (F0 (g_m Γ) pc ls st) rest (aPost (g_D Γ) (g_A Γ) (g_z Γ) r h' sz' a0) (fun q => g_z Γ ≤ q))
    (h2 : r.toList ++ rest = st2) (kk : AW Γ nL h' sz' (k + mc') (n + ms') (pc + 3) lv st2) : AW Γ nL h sz k n pc lv st := by
  intro H locs ls a b c d T hT X
  have hz : g_z Γ ≤ (g_s Γ).heap.size := C.2.2.2.2.2.2.1
  obtain ⟨v, st₀, t, T', L, h0, X', hL, e1, e2, ⟨hv, hs, hR, hzz, hk⟩, stp⟩ := hr H locs ls a b (by have := c.1; omega) d.1 T hT X
  cases hv
  rw [h0] at hzz hk
  subst h2
  obtain ⟨t2, a1, b1⟩ := kk T'.heap (locs ++ L) ls (by rw [e1]; exact hs) (by rw [e1]; exact hR) (S_more c hz (by rw [e1]; exact hzz) (fun q hq => by rw [e1]; exact hk q hq) hL) d T' rfl X'
  exact ⟨t2, stp t2 a1, b1⟩
variable {ix np maxL' fr' mc' ms' : Nat} {y : MethodName} {cc' : ByteArray} {ret' : Option FieldType} {as : List LL} {r : Option Value} {rest st2 : List Value}
theorem ws_ok (C : CX Γ cc nL own fr mc ms) (hc : Cond.code y cc' maxL' ret' ∈ gw) : ∀ w ∈ Cond.code y cc' maxL' ret' :: gw, ∀ (a' : Array Value) (U : State), (g_s Γ).WarmedH U.vm → w.before a' U = true := pay_in C.2.2.2.2.1 (gw_ok hc (fun _ h => h))
theorem aw_callS (C : CX Γ cc nL own fr mc ms) (K : MB own ix y cc' maxL' ret' np) (hs : Cond.static y ∈ gw) (M : AM (g_l Γ) (g_D Γ) (g_A Γ) (g_z Γ) y cc' maxL' ret' fr' mc' ms' as h sz r h' sz') (hd : decode cc pc = .ok (.invokestatic ix, 3)) (hn : as.length = np) (hst : st = (as.map vL).reverse ++ rest) (hl : (rest.map fun v => v.category).sum ≤ 8) (hf : fr' + 1 ≤ fr) (h1 : k + mc' ≤ mc) (h2 : n + ms' ≤ ms) (h3 : r.toList ++ rest = st2) (kk : AW Γ nL h' sz' (k + mc') (n + ms') (pc + 3) lv st2) : AW Γ nL h sz k n pc lv st := by
  obtain ⟨hx, hb, hml, hown, hts, hK, hz, -, r1, r2, r3, r4⟩ := id C
  obtain ⟨hlk, hc, hi, ⟨y1, y2, y3⟩, hm⟩ := K
  have hlen : ∀ sig, parseMethodDescriptor y.desc = some sig → np = sig.parameters.length := fun sig e => by rw [e] at y3; exact (Option.some.inj y3).symm
  refine aw_after C (rest := rest) (a0 := (as.map vL).toArray) (fun H locs ls e1 e2 e3 e4 => ?_) h3 kk
  have hp : PreS (g_s Γ) H (aPre (g_D Γ) (g_A Γ) (g_z Γ) (as.map vL) h sz) (as.map vL) := ⟨aPre_blind, fun U hU hW => ⟨rfl, by rw [hU]; exact e1, e3, by rw [hU]; exact e2, KK.moved hW hK⟩⟩
  rcases hlk with hlk | ⟨host, hlk⟩
  · exact va_runS (n := np) (Ts := gw) ⟨hx, hb, hml, hown, hts⟩ M ⟨⟨rfl, rfl, by show fr' + 1 ≤ _; omega, by show 8 + (maxL' + 11) + 40 * fr' ≤ _; omega, ws_ok C hc, List.mem_cons_self, hts _ hc, hts _ hi, ⟨y1, y2⟩, hlen, hts _ hlk⟩, hts _ hs⟩ hp rfl (by simpa using hn) e4 hst (lv_room hl) hd ⟨by omega, by omega⟩
  · exact va_runSN (n := np) (Ts := gw) ⟨hx, hb, hml, hown, hts⟩ M ⟨⟨⟨rfl, rfl, by show fr' + 1 ≤ _; omega, by show 8 + (maxL' + 11) + 40 * fr' ≤ _; omega, ws_ok C hc, List.mem_cons_self⟩, hts _ hc, hts _ hi, ⟨y1, y2⟩, hlen, va_Nw.use rfl (hK.2.1 _ hlk)⟩, hts _ hs, trivial⟩ hp rfl (by simpa using hn) e4 hst (lv_room hl) hd ⟨by omega, by omega⟩
theorem aw_callI (C : CX Γ cc nL own fr mc ms) {b0 : Nat} (K : MB own ix y cc' maxL' none np) (hs : y.name = "<init>" ∧ Cond.instanceMethod y ∈ gw) (M : AM (g_l Γ) (g_D Γ) (g_A Γ) (g_z Γ) y cc' maxL' none fr' mc' ms' (.inr (some b0) :: as) h sz r h' sz') (hd : decode cc pc = .ok (.invokespecial ix, 3)) (hn : as.length = np) (hst : st = (as.map vL).reverse ++ va_rf (some b0) :: rest) (hl : (rest.map fun v => v.category).sum ≤ 8) (hf : fr' + 1 ≤ fr) (h1 : k + mc' ≤ mc) (h2 : n + ms' ≤ ms) (h3 : r.toList ++ rest = st2) (kk : AW Γ nL h' sz' (k + mc') (n + ms') (pc + 3) lv st2) : AW Γ nL h sz k n pc lv st := by
  obtain ⟨hx, hb, hml, hown, hts, hK, hz, -, r1, r2, r3, r4⟩ := id C
  obtain ⟨hlk, hc, hi, ⟨y1, y2, y3⟩, hm⟩ := K
  have hlen : ∀ sig, parseMethodDescriptor y.desc = some sig → np = sig.parameters.length := fun sig e => by rw [e] at y3; exact (Option.some.inj y3).symm
  refine aw_after C (rest := rest) (a0 := (Value.ref b0 :: as.map vL).toArray) (fun H locs ls e1 e2 e3 e4 => ?_) h3 kk
  have hp : PreS (g_s Γ) H (aPre (g_D Γ) (g_A Γ) (g_z Γ) ((.inr (some b0) :: as).map vL) h sz) (Value.ref b0 :: as.map vL) := ⟨aPre_blind, fun U hU hW => ⟨rfl, by rw [hU]; exact e1, e3, by rw [hU]; exact e2, KK.moved hW hK⟩⟩
  rcases hlk with hlk | ⟨host, hlk⟩
  · exact va_runI (n := np) (Ts := gw) ⟨hx, hb, hml, hown, hts⟩ M ⟨⟨rfl, rfl, by show fr' + 1 ≤ _; omega, by show 8 + (maxL' + 11) + 40 * fr' ≤ _; omega, ws_ok C hc, List.mem_cons_self, hts _ hc, hts _ hi, ⟨y1, y2⟩, hlen, hts _ hlk⟩, hs.1, hts _ hs.2⟩ hp rfl (by simpa using hn) e4 hst (lv_room hl) hd ⟨by omega, by omega⟩
  · exact va_runIN (n := np) (Ts := gw) ⟨hx, hb, hml, hown, hts⟩ M ⟨⟨⟨rfl, rfl, by show fr' + 1 ≤ _; omega, by show 8 + (maxL' + 11) + 40 * fr' ≤ _; omega, ws_ok C hc, List.mem_cons_self⟩, hts _ hc, hts _ hi, ⟨y1, y2⟩, hlen, va_Nw.use rfl (hK.2.1 _ hlk)⟩, hs.1, hts _ hs.2⟩ hp rfl (by simpa using hn) e4 hst (lv_room hl) hd ⟨by omega, by omega⟩
theorem aw_callV (C : CX Γ cc nL own fr mc ms) {r0 : Option Nat} {ci : Nat} (K : MB own ix y cc' maxL' ret' np) (hs : Cond.instanceMethod y ∈ gw ∧ Cond.selects y.cls y y ∈ gw ∧ vwCl[ci]?.map (·.1) = some y.cls) (hO : isO h r0 ci = true) (M : AM (g_l Γ) (g_D Γ) (g_A Γ) (g_z Γ) y cc' maxL' ret' fr' mc' ms' (.inr r0 :: as) h sz r h' sz') (hd : decode cc pc = .ok (.invokevirtual ix, 3)) (hn : as.length = np) (hst : st = (as.map vL).reverse ++ va_rf r0 :: rest) (hl : (rest.map fun v => v.category).sum ≤ 8) (hf : fr' + 1 ≤ fr) (h1 : k + mc' ≤ mc) (h2 : n + ms' ≤ ms) (h3 : r.toList ++ rest = st2) (kk : AW Γ nL h' sz' (k + mc') (n + ms') (pc + 3) lv st2) : AW Γ nL h sz k n pc lv st := by
  obtain ⟨hx, hb, hml, hown, hts, hK, hz, -, r1, r2, r3, r4⟩ := id C
  obtain ⟨hlk, hc, hi, ⟨y1, y2, y3⟩, hm⟩ := K
  obtain ⟨s1, s2, s3⟩ := hs
  obtain ⟨b0, fs, rfl, hq⟩ := isO_spec hO
  obtain ⟨x, hx1, hx2⟩ : ∃ x, vwCl[ci]? = some x ∧ x.1 = y.cls := by
    cases hcl : vwCl[ci]? with
    | none => rw [hcl] at s3; cases s3
    | some x => rw [hcl] at s3; exact ⟨x, rfl, Option.some.inj s3⟩
  have hlen : ∀ sig, parseMethodDescriptor y.desc = some sig → np = sig.parameters.length := fun sig e => by rw [e] at y3; exact (Option.some.inj y3).symm
  refine aw_after C (rest := rest) (a0 := (Value.ref b0 :: as.map vL).toArray) (fun H locs ls e1 e2 e3 e4 => ?_) h3 kk
  have hrc := va_recv hK.1 (one_P (e2 b0 _ hq).2) hx1 (q0 := 0) rfl
  rw [hx2] at hrc
  have hp : PreV (g_s Γ) H y.cls b0 (aPre (g_D Γ) (g_A Γ) (g_z Γ) ((.inr (some b0) :: as).map vL) h sz) (as.map vL) := ⟨aPre_blind, hrc, fun U hU hW => ⟨rfl, by rw [hU]; exact e1, e3, by rw [hU]; exact e2, KK.moved hW hK⟩⟩
  rcases hlk with hlk | ⟨host, hlk⟩
  · exact va_runV (n := np) (Ts := gw) ⟨hx, hb, hml, hown, hts⟩ M ⟨⟨rfl, rfl, by show fr' + 1 ≤ _; omega, by show 8 + (maxL' + 11) + 40 * fr' ≤ _; omega, ws_ok C hc, List.mem_cons_self, hts _ hc, hts _ hi, ⟨y1, y2⟩, hlen, hts _ hlk⟩, hts _ s1, hts _ s2⟩ hp rfl (by simpa using hn) e4 hst (lv_room hl) hd ⟨by omega, by omega⟩
  · exact va_runVN (n := np) (Ts := gw) ⟨hx, hb, hml, hown, hts⟩ M ⟨⟨⟨rfl, rfl, by show fr' + 1 ≤ _; omega, by show 8 + (maxL' + 11) + 40 * fr' ≤ _; omega, ws_ok C hc, List.mem_cons_self⟩, hts _ hc, hts _ hi, ⟨y1, y2⟩, hlen, va_Nw.use rfl (hK.2.1 _ hlk)⟩, hts _ s1, hts _ s2⟩ hp rfl (by simpa using hn) e4 hst (lv_room hl) hd ⟨by omega, by omega⟩
/-! the ends -/
theorem ends_ok {Γ : GG} (C : CX Γ cc nL own fr mc ms) {r : Option Value} {H : Heap} {locs : List Loc} (a : H.size = sz) (b : Rp (g_D Γ) (g_A Γ) (g_z Γ) h H) (c : va_S (fun q => g_z Γ ≤ q) (g_s Γ).heap H locs) : ∀ t : State, t.heap = H → (g_s Γ).WarmedH t.vm → aPost (g_D Γ) (g_A Γ) (g_z Γ) r h sz (g_a Γ) (g_s Γ) (.returned r) t := by
  intro t ht hW
  have hz : g_z Γ ≤ (g_s Γ).heap.size := C.2.2.2.2.2.2.1
  refine ⟨rfl, by rw [ht]; exact a, by rw [ht]; exact b, by rw [ht]; exact c.1, fun q hq => by rw [ht]; exact c.2.1 q (by omega) (by omega)⟩
theorem aw_iret (C : CX Γ cc nL own fr mc ms) {v : Int32} (X : RX Γ (some .int) (some (.int v)) h sz mc' ms') (hd : decode cc pc = .ok (.ireturn, 1)) (h1 : k ≤ mc') (h2 : n ≤ ms') : AW Γ nL h sz k n pc lv [.int v] := by
  intro H locs ls a b c d
  refine W.widen h1 h2 ?_
  rw [X.2]
  exact W.iret C.1 C.2.1 X.1 (ends_ok C a b c) c.2.2 hd C.2.2.2.2.2.2.2.1
theorem aw_zret (C : CX Γ cc nL own fr mc ms) {v : Int32} (X : RX Γ (some .boolean) (some (.int v)) h sz mc' ms') (hv : v = 0 ∨ v = 1) (hd : decode cc pc = .ok (.ireturn, 1)) (h1 : k ≤ mc') (h2 : n ≤ ms') : AW Γ nL h sz k n pc lv [.int v] := by
  intro H locs ls a b c d
  refine W.widen h1 h2 ?_
  rw [X.2]
  exact W.zret C.1 C.2.1 X.1 (by rcases hv with rfl | rfl <;> rfl) (ends_ok C a b c) c.2.2 hd C.2.2.2.2.2.2.2.1
theorem aw_lret (C : CX Γ cc nL own fr mc ms) {v : Int64} (X : RX Γ (some .long) (some (.long v)) h sz mc' ms') (hd : decode cc pc = .ok (.lreturn, 1)) (h1 : k ≤ mc') (h2 : n ≤ ms') : AW Γ nL h sz k n pc lv [.long v] := by
  intro H locs ls a b c d
  refine W.widen h1 h2 ?_
  rw [X.2]
  exact W.lret C.1 C.2.1 X.1 (ends_ok C a b c) c.2.2 hd C.2.2.2.2.2.2.2.1
theorem aw_aret (C : CX Γ cc nL own fr mc ms) {v : Option Nat} {rt : FieldType} (X : RX Γ (some rt) (some (va_rf v)) h sz mc' ms') (hrt : (∃ n, rt = .object n) ∨ ∃ t, rt = .array t) (hd : decode cc pc = .ok (.areturn, 1)) (h1 : k ≤ mc') (h2 : n ≤ ms') : AW Γ nL h sz k n pc lv [va_rf v] := by
  intro H locs ls a b c d
  refine W.widen h1 h2 ?_
  rw [X.2]
  exact W.aret C.1 C.2.1 X.1 hrt (by cases v with | none => exact Or.inl rfl | some x => exact Or.inr ⟨x, rfl⟩) (ends_ok C a b c) c.2.2 hd C.2.2.2.2.2.2.2.1
theorem aw_vret (C : CX Γ cc nL own fr mc ms) (X : RX Γ none none h sz mc' ms') (hd : decode cc pc = .ok (.return_, 1)) (h1 : k ≤ mc') (h2 : n ≤ ms') : AW Γ nL h sz k n pc lv [] := by
  intro H locs ls a b c d
  refine W.widen h1 h2 ?_
  rw [X.2]
  exact W.vret C.1 C.2.1 X.1 (ends_ok C a b c) c.2.2 hd C.2.2.2.2.2.2.2.1
/-! an array's copy -/
theorem aw_clone (C : CX Γ cc nL own fr mc ms) {r0 : Option Nat} (w1 : Cond.methodLink own ix ⟨"[I", "clone", "()Ljava/lang/Object;"⟩ ∈ gw) (w2 : Cond.sameMethod "[I" "java/lang/Object" "clone" "()Ljava/lang/Object;" ∈ gw) (w3 : Cond.native ⟨"java/lang/Object", "clone", "()Ljava/lang/Object;"⟩ ∈ gw) (w4 : Cond.instanceMethod ⟨"java/lang/Object", "clone", "()Ljava/lang/Object;"⟩ ∈ gw) (w5 : Cond.selects "[I" ⟨"[I", "clone", "()Ljava/lang/Object;"⟩ ⟨"java/lang/Object", "clone", "()Ljava/lang/Object;"⟩ ∈ gw)
    (hd : decode cc pc = .ok (.invokevirtual ix, 3)) (hf : 1 ≤ fr) (hl : rest.length ≤ 4) (h1 : k + 1 ≤ mc) (h2 : n + 16 ≤ ms) (hv : clI h sz r0 = some h') (kk : AW Γ nL h' (sz + 1) (k + 1) (n + 16) (pc + 3) lv (va_rf (some sz) :: rest)) : AW Γ nL h sz k n pc lv (va_rf r0 :: rest) := by
  intro H locs ls a b c d
  obtain ⟨hx, hb, hml, hown, hts, hK, hz, -, r1, r2, r3, r4⟩ := id C
  obtain ⟨q, N, f, rfl, hq, hN, rfl⟩ := clI_spec hv
  have hat : H[q]? = some (vp_cell ((g_A Γ) 0) (N, .inl f)) := (b q _ hq).2
  have hnm : (g_s Γ).vm.findClass "[I" = some ((g_A Γ) 0) := (hK.1.2 0 _ rfl).2
  obtain ⟨c0, t0', f1, f2, f3⟩ := Cond.castable_spec (va_Nw.use (A := g_a Γ) rfl hK.2.2.2.2)
  cases hnm.symm.trans f1
  have hsz : (vp_cell ((g_A Γ) 0) (N, .inl f)).slots.size = N := arrV_size _ _ _
  refine W.widen (k := k) (n := n + (16 - N)) (Nat.le_refl _) (by omega) ?_
  intro T hT X
  have hcellT : T.heap[q]? = some (vp_cell ((g_A Γ) 0) (N, .inl f)) := by rw [hT]; exact hat
  obtain ⟨-, kA, hkA, comp, hkind⟩ := State.isArrayOf_alike X.warmed.alike ((hK.1.2 0 _ rfl).1 0 (fun _ => .null))
  obtain ⟨-, kS, hkS, compS, hkindS⟩ := (hK.1.2 0 _ rfl).1 0 (fun _ => .null)
  obtain ⟨vm', X', stp⟩ := X.cloneArray hx hown (hts _ w1) (hts _ w2) (hts _ w3) (hts _ w4) (hts _ w5) (a := q) (cell := vp_cell ((g_A Γ) 0) (N, .inl f)) hcellT (fun k h => by cases h) (fun h => by cases h) hnm f2 f3
    (fun i v hv => by
      have hk' : T.vm.classes[(g_A Γ) 0]? = some kA := hkA
      have hfit : fits .int v = true := va_fit (F := fun j => .int (f j)) (fun _ _ => rfl) i v hv
      show T.fitsSlot ((g_A Γ) 0) .none i v = true
      simpa [State.fitsSlot, State.slotType?, hk', hkind] using hfit)
    (g := F0 (g_m Γ) pc ls (.ref q :: rest)) rfl (by rw [hml]; exact d.1) rfl (by rw [hb]; exact hd) (by omega) (by show 2 * 0 + _ + 14 ≤ _; have := cat_le rest hl; omega) (by omega) (by rw [hsz]; omega) (hloader := Vm.clonesLoader_of_array hkS hkindS)
  generalize hH1 : H.push (vp_cell ((g_A Γ) 0) (N, .inl f)) = H1
  have z1 : H1.size = H.size + 1 := by rw [← hH1, Array.size_push]
  have e1 : H1[H.size]? = some (vp_cell ((g_A Γ) 0) (N, .inl f)) := by rw [← hH1, Array.getElem?_push_size]
  have o1 : ∀ q : Nat, q < H.size → H1[q]? = H[q]? := fun q hq => by rw [← hH1, Array.getElem?_push, if_neg (Nat.ne_of_lt hq)]
  have hcellE : ({ cls := (vp_cell ((g_A Γ) 0) (N, .inl f)).cls, slots := (vp_cell ((g_A Γ) 0) (N, .inl f)).slots } : Cell) = vp_cell ((g_A Γ) 0) (N, .inl f) := rfl
  rw [hcellE, hsz] at X'
  subst a
  have e16 : n + (16 - N) + N = n + 16 := by omega
  rw [e16] at X'
  obtain ⟨t, b1, b2⟩ := kk H1 locs ls z1 (b.push rfl o1 (by have := c.1; omega) e1) ⟨by have := c.1; omega, fun x g1 g2 => (o1 x (by have := c.1; omega)).trans (c.2.1 x g1 g2), c.2.2⟩ d ((T.setVm vm').pushCell (vp_cell ((g_A Γ) 0) (N, .inl f))) (by rw [← hH1, ← hT]; rfl) X'
  refine ⟨t, stp t ?_, b2⟩
  rw [hcellE, hT]
  exact b1
theorem aw_acopy (C : CX Γ cc nL own fr mc ms) {r0 r1 : Option Nat} {sp dp m : Int32} (w1 : Cond.methodLink own ix arraycopyName ∈ gw) (w2 : Cond.native arraycopyName ∈ gw) (w3 : Cond.static arraycopyName ∈ gw) (w4 : Cond.initialized "java/lang/System" ∈ gw) (hd : decode cc pc = .ok (.invokestatic ix, 3)) (hf : 1 ≤ fr) (hl : rest.length ≤ 4) (hv : cpI h r0 sp r1 dp m = some h') (kk : AW Γ nL h' sz k n (pc + 3) lv rest) : AW Γ nL h sz k n pc lv (.int m :: .int dp :: va_rf r1 :: .int sp :: va_rf r0 :: rest) := by
  intro H locs ls a b c d
  obtain ⟨hx, hb, hml, hown, hts, hK, hz, -, r1, r2, r3, r4⟩ := id C
  obtain ⟨a0, a1, n0, n1, f, g, rfl, rfl, q0, q1, c2, c3, c4, c5, c6, rfl⟩ := cpI_spec hv
  have hat0 := b a0 _ q0
  have hat1 := b a1 _ q1
  have nn : ∀ z : Int32, ¬ z < 0 → z.toInt = (z.toNatClampNeg : Int) := by
    intro z hz
    have hz0 : (0 : Int) ≤ z.toInt := by
      have := Int32.not_lt.mp hz
      simpa using Int32.le_iff_toInt_le.mp this
    show z.toInt = ((z.toInt.toNat : Nat) : Int)
    omega
  intro T hT X
  have hc0 : H[a0]? = some (vp_cell ((g_A Γ) 0) (n0, .inl f)) := hat0.2
  have hc1 : H[a1]? = some (vp_cell ((g_A Γ) 0) (n1, .inl g)) := hat1.2
  obtain ⟨-, k0, hk0, cm0, hkk0⟩ := (hK.1.2 0 _ rfl).1 n0 (fun j => .int (f j))
  obtain ⟨-, k1, hk1, cm1, hkk1⟩ := (hK.1.2 0 _ rfl).1 n1 (fun j => .int (g j))
  obtain ⟨vm', X', step⟩ := X.arraycopy hx hown (hts _ w1) (hts _ w2) (hts _ w3) (hts _ w4) (src := a0) (dst := a1) (cs := vp_cell ((g_A Γ) 0) (n0, .inl f)) (cd := vp_cell ((g_A Γ) 0) (n1, .inl g)) (srcPos := sp) (destPos := dp) (n := m) (by rw [hT]; exact hc0) (by rw [hT]; exact hc1)
    (fun _ h => by cases h) (fun _ h => by cases h) (fun h => by cases h) (fun h => by cases h) hk0 hk1 hkk0 hkk1 (by simp [refKind]) c2 c3 c4
    (by rw [nn sp c2, nn m c4]; show ¬ _ > ((arrV ((g_A Γ) 0) n0 (fun j => .int (f j))).slots.size : Int); rw [arrV_size]; omega)
    (by rw [nn dp c3, nn m c4]; show ¬ _ > ((arrV ((g_A Γ) 0) n1 (fun j => .int (g j))).slots.size : Int); rw [arrV_size]; omega)
    (fun vm₁ _ i hi => by
      have e : (vp_cell ((g_A Γ) 0) (n0, .inl f)).slots.getD (sp.toNatClampNeg + i) .null = .int (f (sp.toNatClampNeg + i)) := by
        show (arrV ((g_A Γ) 0) n0 (fun j => .int (f j))).slots.getD _ _ = _
        rw [Array.getD_eq_getD_getElem?, arrV_read _ _ (by omega)]
        rfl
      refine ⟨?_, ?_⟩
      · rw [e]
        rfl
      · rw [e]
        exact trivial)
    (g := F0 (g_m Γ) pc ls (.int m :: .int dp :: .ref a1 :: .int sp :: .ref a0 :: rest)) rfl (by rw [hml]; exact d.1) (rest := rest) rfl (by rw [hb]; exact hd) (by omega) (by show 2 * 0 + _ + _ ≤ _; have := cat_le rest hl; have e : nativeFrameWords "java/lang/System" "arraycopy" 5 + 11 ≤ 32 := (by decide +kernel); omega)
  have e1 : copied (vp_cell ((g_A Γ) 0) (n0, .inl f)) (vp_cell ((g_A Γ) 0) (n1, .inl g)) sp dp m = vp_cell ((g_A Γ) 0) (n1, .inl (va_cpy f g sp.toNatClampNeg dp.toNatClampNeg m.toNatClampNeg)) := va_copied (fun z => .int z) ((g_A Γ) 0) ((g_A Γ) 0) f g c5
  rw [e1] at X' step
  have hl : a1 < H.size := (Array.getElem?_eq_some_iff.mp hc1).1
  have hheap : ((T.setVm vm').setCell a1 (vp_cell ((g_A Γ) 0) (n1, .inl (va_cpy f g sp.toNatClampNeg dp.toNatClampNeg m.toNatClampNeg)))).heap = H.setIfInBounds a1 (vp_cell ((g_A Γ) 0) (n1, .inl (va_cpy f g sp.toNatClampNeg dp.toNatClampNeg m.toNatClampNeg))) := by rw [← hT]; rfl
  have oq : ∀ q : Nat, q ≠ a1 → (H.setIfInBounds a1 (vp_cell ((g_A Γ) 0) (n1, .inl (va_cpy f g sp.toNatClampNeg dp.toNatClampNeg m.toNatClampNeg))))[q]? = H[q]? := fun q hq => by simp [Array.getElem?_setIfInBounds, Ne.symm hq]
  obtain ⟨t, b1, b2⟩ := kk _ _ ls (by simp; exact a) (b.set oq hat1.1 (show (H.setIfInBounds a1 _)[a1]? = some _ by simp [Array.getElem?_setIfInBounds, hl])) ⟨by simp; exact c.1, fun q g1 g2 => by
      rw [oq q (fun e => g2 (by rw [e]; exact hat1.1))]
      exact c.2.1 q g1 g2, fun q hq => by
      rcases List.mem_append.mp hq with h | h
      · exact c.2.2 q h
      · obtain ⟨z, -, hz⟩ := List.mem_map.mp h
        rw [← hz]
        exact hat1.1⟩ d _ hheap X'
  exact ⟨t, step t b1, b2⟩
end CROWS
theorem AM.ofF {l : Launch} {D : va_G} {dA : Nat → ClassId} {base : Nat} {y : MethodName} {cc : ByteArray} {maxL : Nat} {ret : Option FieldType} {fr mc ms : Nat} {as : List LL} {h : Hp} {sz : Nat} {r : Option Value} {h' : Hp} {sz' : Nat}
    (hy : plainFor y = true) (hl : as.length ≤ maxL) {lv : LV} (hlv : lnum 0 as = lv)
    (body : ∀ Γ : GG, CX Γ cc maxL y.cls fr mc ms → RX Γ ret r h' sz' mc ms → (g_t Γ).name = y.name → AW Γ maxL h sz 0 0 0 lv []) : AM l D dA base y cc maxL ret fr mc ms as h sz r h' sz' := by
  refine va_MetF (cc := cc) (maxL := maxL) (ret := ret) hy rfl ?_
  intro p e s m args below meth c s₁ B hml hv
  obtain ⟨rfl, hsz, hbase, hR, hK⟩ := hv
  have hts := atoms_spec (ws := Cond.code y cc maxL ret :: gw) B.pre
  have hent := lv_entry (as.map vL) (n := maxL) (by rw [lg_len]; exact hl)
  rw [lg_entry_eq]
  rw [lnum_args, hlv] at hent
  exact body (p, l, e, _, s, m, _, below, meth, c, _, D, dA, base) ⟨B.exec, B.bytes, hml, findClass_of_methodNamed B.named, fun w hw => hts w (List.mem_cons_of_mem _ hw), hK, by rw [hsz]; exact hbase, B.notSynchronized, Nat.le_refl _, Nat.le_refl _, Nat.le_refl _, Nat.le_refl _⟩ ⟨B.returns, rfl⟩ (name_of_methodNamed B.named B.method).1 s.heap [] _ hsz hR va_S.rf hent
end
section
set_option maxRecDepth 100000 in
theorem inX0 : ∀ w ∈ u_ws RX0 TX0 6, w ∈ gw := by
  intro w hw
  obtain ⟨k, hk, rfl⟩ := List.mem_map.mp hw
  have hk := List.mem_range.mp hk
  match k, hk with
  | 0, _ => exact gw_at 148 (by decide +kernel) rfl
  | 1, _ => exact gw_at 150 (by decide +kernel) rfl
  | 2, _ => exact gw_at 152 (by decide +kernel) rfl
  | 3, _ => exact gw_at 154 (by decide +kernel) rfl
  | 4, _ => exact gw_at 156 (by decide +kernel) rfl
  | 5, _ => exact gw_at 158 (by decide +kernel) rfl
  | n + 6, h => exact absurd h (by omega)
set_option maxRecDepth 100000 in
theorem inX1 : ∀ w ∈ u_ws RX1 TX1 10, w ∈ gw := by
  intro w hw
  obtain ⟨k, hk, rfl⟩ := List.mem_map.mp hw
  have hk := List.mem_range.mp hk
  match k, hk with
  | 0, _ => exact gw_at 475 (by decide +kernel) rfl
  | 1, _ => exact gw_at 477 (by decide +kernel) rfl
  | 2, _ => exact gw_at 479 (by decide +kernel) rfl
  | 3, _ => exact gw_at 481 (by decide +kernel) rfl
  | 4, _ => exact gw_at 483 (by decide +kernel) rfl
  | 5, _ => exact gw_at 485 (by decide +kernel) rfl
  | 6, _ => exact gw_at 487 (by decide +kernel) rfl
  | 7, _ => exact gw_at 489 (by decide +kernel) rfl
  | 8, _ => exact gw_at 491 (by decide +kernel) rfl
  | 9, _ => exact gw_at 493 (by decide +kernel) rfl
  | n + 10, h => exact absurd h (by omega)
set_option maxRecDepth 100000 in
theorem inX2 : ∀ w ∈ u_ws RX2 TX2 4, w ∈ gw := by
  intro w hw
  obtain ⟨k, hk, rfl⟩ := List.mem_map.mp hw
  have hk := List.mem_range.mp hk
  match k, hk with
  | 0, _ => exact gw_at 176 (by decide +kernel) rfl
  | 1, _ => exact gw_at 178 (by decide +kernel) rfl
  | 2, _ => exact gw_at 180 (by decide +kernel) rfl
  | 3, _ => exact gw_at 182 (by decide +kernel) rfl
  | n + 4, h => exact absurd h (by omega)
set_option maxRecDepth 100000 in
theorem inX3 : ∀ w ∈ u_ws RX3 TX3 3, w ∈ gw := by
  intro w hw
  obtain ⟨k, hk, rfl⟩ := List.mem_map.mp hw
  have hk := List.mem_range.mp hk
  match k, hk with
  | 0, _ => exact gw_at 125 (by decide +kernel) rfl
  | 1, _ => exact gw_at 127 (by decide +kernel) rfl
  | 2, _ => exact gw_at 129 (by decide +kernel) rfl
  | n + 3, h => exact absurd h (by omega)
set_option maxRecDepth 100000 in
theorem inX4 : ∀ w ∈ u_ws RX4 TX4 6, w ∈ gw := by
  intro w hw
  obtain ⟨k, hk, rfl⟩ := List.mem_map.mp hw
  have hk := List.mem_range.mp hk
  match k, hk with
  | 0, _ => exact gw_at 101 (by decide +kernel) rfl
  | 1, _ => exact gw_at 103 (by decide +kernel) rfl
  | 2, _ => exact gw_at 105 (by decide +kernel) rfl
  | 3, _ => exact gw_at 107 (by decide +kernel) rfl
  | 4, _ => exact gw_at 109 (by decide +kernel) rfl
  | 5, _ => exact gw_at 111 (by decide +kernel) rfl
  | n + 6, h => exact absurd h (by omega)
set_option maxRecDepth 100000 in
theorem inX5 : ∀ w ∈ u_ws RX5 TX5 12, w ∈ gw := by
  intro w hw
  obtain ⟨k, hk, rfl⟩ := List.mem_map.mp hw
  have hk := List.mem_range.mp hk
  match k, hk with
  | 0, _ => exact gw_at 198 (by decide +kernel) rfl
  | 1, _ => exact gw_at 200 (by decide +kernel) rfl
  | 2, _ => exact gw_at 202 (by decide +kernel) rfl
  | 3, _ => exact gw_at 204 (by decide +kernel) rfl
  | 4, _ => exact gw_at 206 (by decide +kernel) rfl
  | 5, _ => exact gw_at 208 (by decide +kernel) rfl
  | 6, _ => exact gw_at 210 (by decide +kernel) rfl
  | 7, _ => exact gw_at 212 (by decide +kernel) rfl
  | 8, _ => exact gw_at 214 (by decide +kernel) rfl
  | 9, _ => exact gw_at 216 (by decide +kernel) rfl
  | 10, _ => exact gw_at 218 (by decide +kernel) rfl
  | 11, _ => exact gw_at 220 (by decide +kernel) rfl
  | n + 12, h => exact absurd h (by omega)
set_option maxRecDepth 100000 in
theorem inX6 : ∀ w ∈ u_ws RX6 TX6 30, w ∈ gw := by
  intro w hw
  obtain ⟨k, hk, rfl⟩ := List.mem_map.mp hw
  have hk := List.mem_range.mp hk
  match k, hk with
  | 0, _ => exact gw_at 757 (by decide +kernel) rfl
  | 1, _ => exact gw_at 759 (by decide +kernel) rfl
  | 2, _ => exact gw_at 761 (by decide +kernel) rfl
  | 3, _ => exact gw_at 763 (by decide +kernel) rfl
  | 4, _ => exact gw_at 765 (by decide +kernel) rfl
  | 5, _ => exact gw_at 767 (by decide +kernel) rfl
  | 6, _ => exact gw_at 769 (by decide +kernel) rfl
  | 7, _ => exact gw_at 771 (by decide +kernel) rfl
  | 8, _ => exact gw_at 773 (by decide +kernel) rfl
  | 9, _ => exact gw_at 775 (by decide +kernel) rfl
  | 10, _ => exact gw_at 777 (by decide +kernel) rfl
  | 11, _ => exact gw_at 779 (by decide +kernel) rfl
  | 12, _ => exact gw_at 781 (by decide +kernel) rfl
  | 13, _ => exact gw_at 783 (by decide +kernel) rfl
  | 14, _ => exact gw_at 785 (by decide +kernel) rfl
  | 15, _ => exact gw_at 787 (by decide +kernel) rfl
  | 16, _ => exact gw_at 789 (by decide +kernel) rfl
  | 17, _ => exact gw_at 791 (by decide +kernel) rfl
  | 18, _ => exact gw_at 793 (by decide +kernel) rfl
  | 19, _ => exact gw_at 795 (by decide +kernel) rfl
  | 20, _ => exact gw_at 797 (by decide +kernel) rfl
  | 21, _ => exact gw_at 799 (by decide +kernel) rfl
  | 22, _ => exact gw_at 801 (by decide +kernel) rfl
  | 23, _ => exact gw_at 803 (by decide +kernel) rfl
  | 24, _ => exact gw_at 805 (by decide +kernel) rfl
  | 25, _ => exact gw_at 807 (by decide +kernel) rfl
  | 26, _ => exact gw_at 809 (by decide +kernel) rfl
  | 27, _ => exact gw_at 811 (by decide +kernel) rfl
  | 28, _ => exact gw_at 813 (by decide +kernel) rfl
  | 29, _ => exact gw_at 815 (by decide +kernel) rfl
  | n + 30, h => exact absurd h (by omega)
theorem fk_X5_10 : FK RX5 10 5 0 (.object "PetalWheels$Text") true := ⟨_, _, _, _, rfl, by decide, inX5, Or.inl (gw_at 186 (by decide +kernel) rfl), tyX5_ok, nmX5, by decide +kernel, rfl, rfl⟩
theorem fk_X5_19 : FK RX5 19 5 1 (.object "PetalWheels$Sights") true := ⟨_, _, _, _, rfl, by decide, inX5, Or.inl (gw_at 187 (by decide +kernel) rfl), tyX5_ok, nmX5, by decide +kernel, rfl, rfl⟩
theorem fk_X5_26 : FK RX5 26 5 2 (.object "PetalWheels$Box") false := ⟨_, _, _, _, rfl, by decide, inX5, Or.inl (gw_at 188 (by decide +kernel) rfl), tyX5_ok, nmX5, by decide +kernel, rfl, rfl⟩
theorem fk_X5_37 : FK RX5 37 5 3 (.object "PetalWheels$Paper") false := ⟨_, _, _, _, rfl, by decide, inX5, Or.inl (gw_at 189 (by decide +kernel) rfl), tyX5_ok, nmX5, by decide +kernel, rfl, rfl⟩
theorem fk_X5_41 : FK RX5 41 5 4 .int false := ⟨_, _, _, _, rfl, by decide, inX5, Or.inl (gw_at 190 (by decide +kernel) rfl), tyX5_ok, nmX5, by decide +kernel, rfl, rfl⟩
theorem fk_X5_45 : FK RX5 45 5 5 (.array (.object "PetalWheels$Paper")) true := ⟨_, _, _, _, rfl, by decide, inX5, Or.inl (gw_at 191 (by decide +kernel) rfl), tyX5_ok, nmX5, by decide +kernel, rfl, rfl⟩
theorem fk_X5_49 : FK RX5 49 5 6 (.array .int) true := ⟨_, _, _, _, rfl, by decide, inX5, Or.inl (gw_at 192 (by decide +kernel) rfl), tyX5_ok, nmX5, by decide +kernel, rfl, rfl⟩
theorem fk_X5_53 : FK RX5 53 5 7 .long false := ⟨_, _, _, _, rfl, by decide, inX5, Or.inl (gw_at 193 (by decide +kernel) rfl), tyX5_ok, nmX5, by decide +kernel, rfl, rfl⟩
theorem fk_X5_57 : FK RX5 57 5 8 (.array .int) true := ⟨_, _, _, _, rfl, by decide, inX5, Or.inl (gw_at 194 (by decide +kernel) rfl), tyX5_ok, nmX5, by decide +kernel, rfl, rfl⟩
theorem fk_X5_60 : FK RX5 60 5 9 (.array .int) true := ⟨_, _, _, _, rfl, by decide, inX5, Or.inl (gw_at 195 (by decide +kernel) rfl), tyX5_ok, nmX5, by decide +kernel, rfl, rfl⟩
theorem fk_X5_63 : FK RX5 63 5 10 (.array .int) true := ⟨_, _, _, _, rfl, by decide, inX5, Or.inl (gw_at 196 (by decide +kernel) rfl), tyX5_ok, nmX5, by decide +kernel, rfl, rfl⟩
theorem fk_X5_66 : FK RX5 66 5 11 .boolean false := ⟨_, _, _, _, rfl, by decide, inX5, Or.inl (gw_at 197 (by decide +kernel) rfl), tyX5_ok, nmX5, by decide +kernel, rfl, rfl⟩
theorem fk_X5_78 : FK RX5 78 4 1 .int false := ⟨_, _, _, _, rfl, by decide, inX4, Or.inr ⟨"PetalWheels", nw_at 96 (by decide +kernel) rfl⟩, tyX4_ok, nmX4, by decide +kernel, rfl, rfl⟩
theorem fk_X5_136 : FK RX5 136 1 0 .int true := ⟨_, _, _, _, rfl, by decide, inX1, Or.inr ⟨"PetalWheels", nw_at 456 (by decide +kernel) rfl⟩, tyX1_ok, nmX1, by decide +kernel, rfl, rfl⟩
theorem fk_X5_139 : FK RX5 139 1 1 .int true := ⟨_, _, _, _, rfl, by decide, inX1, Or.inr ⟨"PetalWheels", nw_at 458 (by decide +kernel) rfl⟩, tyX1_ok, nmX1, by decide +kernel, rfl, rfl⟩
theorem fk_X5_142 : FK RX5 142 1 2 .int true := ⟨_, _, _, _, rfl, by decide, inX1, Or.inr ⟨"PetalWheels", nw_at 461 (by decide +kernel) rfl⟩, tyX1_ok, nmX1, by decide +kernel, rfl, rfl⟩
theorem fk_X5_145 : FK RX5 145 1 3 .int true := ⟨_, _, _, _, rfl, by decide, inX1, Or.inr ⟨"PetalWheels", nw_at 463 (by decide +kernel) rfl⟩, tyX1_ok, nmX1, by decide +kernel, rfl, rfl⟩
theorem fk_X5_148 : FK RX5 148 1 4 .int true := ⟨_, _, _, _, rfl, by decide, inX1, Or.inr ⟨"PetalWheels", nw_at 466 (by decide +kernel) rfl⟩, tyX1_ok, nmX1, by decide +kernel, rfl, rfl⟩
theorem fk_X5_151 : FK RX5 151 1 5 .int true := ⟨_, _, _, _, rfl, by decide, inX1, Or.inr ⟨"PetalWheels", nw_at 468 (by decide +kernel) rfl⟩, tyX1_ok, nmX1, by decide +kernel, rfl, rfl⟩
theorem fk_X5_157 : FK RX5 157 2 2 (.array (.object "PetalWheels$Curve")) true := ⟨_, _, _, _, rfl, by decide, inX2, Or.inr ⟨"PetalWheels", nw_at 173 (by decide +kernel) rfl⟩, tyX2_ok, nmX2, by decide +kernel, rfl, rfl⟩
theorem fk_X5_161 : FK RX5 161 2 0 .int true := ⟨_, _, _, _, rfl, by decide, inX2, Or.inr ⟨"PetalWheels", nw_at 170 (by decide +kernel) rfl⟩, tyX2_ok, nmX2, by decide +kernel, rfl, rfl⟩
theorem fk_X5_186 : FK RX5 186 2 3 (.object "PetalWheels$Paper") true := ⟨_, _, _, _, rfl, by decide, inX2, Or.inr ⟨"PetalWheels", nw_at 175 (by decide +kernel) rfl⟩, tyX2_ok, nmX2, by decide +kernel, rfl, rfl⟩
theorem fk_X5_198 : FK RX5 198 0 4 .int false := ⟨_, _, _, _, rfl, by decide, inX0, Or.inr ⟨"PetalWheels", nw_at 145 (by decide +kernel) rfl⟩, tyX0_ok, nmX0, by decide +kernel, rfl, rfl⟩
theorem fk_X5_221 : FK RX5 221 1 6 .int true := ⟨_, _, _, _, rfl, by decide, inX1, Or.inr ⟨"PetalWheels", nw_at 470 (by decide +kernel) rfl⟩, tyX1_ok, nmX1, by decide +kernel, rfl, rfl⟩
theorem fk_X5_236 : FK RX5 236 3 2 .int false := ⟨_, _, _, _, rfl, by decide, inX3, Or.inr ⟨"PetalWheels", nw_at 124 (by decide +kernel) rfl⟩, tyX3_ok, nmX3, by decide +kernel, rfl, rfl⟩
theorem fk_X5_271 : FK RX5 271 0 3 .int false := ⟨_, _, _, _, rfl, by decide, inX0, Or.inr ⟨"PetalWheels", nw_at 143 (by decide +kernel) rfl⟩, tyX0_ok, nmX0, by decide +kernel, rfl, rfl⟩
theorem fk_X5_274 : FK RX5 274 0 5 .int false := ⟨_, _, _, _, rfl, by decide, inX0, Or.inr ⟨"PetalWheels", nw_at 147 (by decide +kernel) rfl⟩, tyX0_ok, nmX0, by decide +kernel, rfl, rfl⟩
theorem fk_X5_335 : FK RX5 335 1 7 .int true := ⟨_, _, _, _, rfl, by decide, inX1, Or.inr ⟨"PetalWheels", nw_at 472 (by decide +kernel) rfl⟩, tyX1_ok, nmX1, by decide +kernel, rfl, rfl⟩
theorem fk_X0_9 : FK RX0 9 0 0 (.array .int) true := ⟨_, _, _, _, rfl, by decide, inX0, Or.inl (gw_at 139 (by decide +kernel) rfl), tyX0_ok, nmX0, by decide +kernel, rfl, rfl⟩
theorem fk_X0_15 : FK RX0 15 0 1 (.array .int) true := ⟨_, _, _, _, rfl, by decide, inX0, Or.inl (gw_at 140 (by decide +kernel) rfl), tyX0_ok, nmX0, by decide +kernel, rfl, rfl⟩
theorem fk_X0_18 : FK RX0 18 0 2 (.array .int) true := ⟨_, _, _, _, rfl, by decide, inX0, Or.inl (gw_at 141 (by decide +kernel) rfl), tyX0_ok, nmX0, by decide +kernel, rfl, rfl⟩
theorem fk_X0_21 : FK RX0 21 0 3 .int false := ⟨_, _, _, _, rfl, by decide, inX0, Or.inl (gw_at 142 (by decide +kernel) rfl), tyX0_ok, nmX0, by decide +kernel, rfl, rfl⟩
theorem fk_X0_25 : FK RX0 25 0 4 .int false := ⟨_, _, _, _, rfl, by decide, inX0, Or.inl (gw_at 144 (by decide +kernel) rfl), tyX0_ok, nmX0, by decide +kernel, rfl, rfl⟩
theorem fk_X0_28 : FK RX0 28 0 5 .int false := ⟨_, _, _, _, rfl, by decide, inX0, Or.inl (gw_at 146 (by decide +kernel) rfl), tyX0_ok, nmX0, by decide +kernel, rfl, rfl⟩
theorem fk_X1_9 : FK RX1 9 1 0 .int true := ⟨_, _, _, _, rfl, by decide, inX1, Or.inl (gw_at 455 (by decide +kernel) rfl), tyX1_ok, nmX1, by decide +kernel, rfl, rfl⟩
theorem fk_X1_15 : FK RX1 15 1 1 .int true := ⟨_, _, _, _, rfl, by decide, inX1, Or.inl (gw_at 457 (by decide +kernel) rfl), tyX1_ok, nmX1, by decide +kernel, rfl, rfl⟩
theorem fk_X1_18 : FK RX1 18 1 2 .int true := ⟨_, _, _, _, rfl, by decide, inX1, Or.inl (gw_at 459 (by decide +kernel) rfl), tyX1_ok, nmX1, by decide +kernel, rfl, rfl⟩
theorem fk_X1_21 : FK RX1 21 1 3 .int true := ⟨_, _, _, _, rfl, by decide, inX1, Or.inl (gw_at 462 (by decide +kernel) rfl), tyX1_ok, nmX1, by decide +kernel, rfl, rfl⟩
theorem fk_X1_24 : FK RX1 24 1 4 .int true := ⟨_, _, _, _, rfl, by decide, inX1, Or.inl (gw_at 464 (by decide +kernel) rfl), tyX1_ok, nmX1, by decide +kernel, rfl, rfl⟩
theorem fk_X1_27 : FK RX1 27 1 5 .int true := ⟨_, _, _, _, rfl, by decide, inX1, Or.inl (gw_at 467 (by decide +kernel) rfl), tyX1_ok, nmX1, by decide +kernel, rfl, rfl⟩
theorem fk_X1_36 : FK RX1 36 1 6 .int true := ⟨_, _, _, _, rfl, by decide, inX1, Or.inl (gw_at 469 (by decide +kernel) rfl), tyX1_ok, nmX1, by decide +kernel, rfl, rfl⟩
theorem fk_X1_42 : FK RX1 42 1 7 .int true := ⟨_, _, _, _, rfl, by decide, inX1, Or.inl (gw_at 471 (by decide +kernel) rfl), tyX1_ok, nmX1, by decide +kernel, rfl, rfl⟩
theorem fk_X1_48 : FK RX1 48 1 8 .int true := ⟨_, _, _, _, rfl, by decide, inX1, Or.inl (gw_at 473 (by decide +kernel) rfl), tyX1_ok, nmX1, by decide +kernel, rfl, rfl⟩
theorem fk_X1_55 : FK RX1 55 1 9 .int true := ⟨_, _, _, _, rfl, by decide, inX1, Or.inl (gw_at 474 (by decide +kernel) rfl), tyX1_ok, nmX1, by decide +kernel, rfl, rfl⟩
theorem fk_X2_9 : FK RX2 9 2 0 .int true := ⟨_, _, _, _, rfl, by decide, inX2, Or.inl (gw_at 169 (by decide +kernel) rfl), tyX2_ok, nmX2, by decide +kernel, rfl, rfl⟩
theorem fk_X2_15 : FK RX2 15 2 1 (.array .int) true := ⟨_, _, _, _, rfl, by decide, inX2, Or.inl (gw_at 171 (by decide +kernel) rfl), tyX2_ok, nmX2, by decide +kernel, rfl, rfl⟩
theorem fk_X2_19 : FK RX2 19 2 2 (.array (.object "PetalWheels$Curve")) true := ⟨_, _, _, _, rfl, by decide, inX2, Or.inl (gw_at 172 (by decide +kernel) rfl), tyX2_ok, nmX2, by decide +kernel, rfl, rfl⟩
theorem fk_X2_23 : FK RX2 23 2 3 (.object "PetalWheels$Paper") true := ⟨_, _, _, _, rfl, by decide, inX2, Or.inl (gw_at 174 (by decide +kernel) rfl), tyX2_ok, nmX2, by decide +kernel, rfl, rfl⟩
theorem fk_X2_27 : FK RX2 27 1 2 .int true := ⟨_, _, _, _, rfl, by decide, inX1, Or.inr ⟨"PetalWheels", nw_at 460 (by decide +kernel) rfl⟩, tyX1_ok, nmX1, by decide +kernel, rfl, rfl⟩
theorem fk_X2_32 : FK RX2 32 1 4 .int true := ⟨_, _, _, _, rfl, by decide, inX1, Or.inr ⟨"PetalWheels", nw_at 465 (by decide +kernel) rfl⟩, tyX1_ok, nmX1, by decide +kernel, rfl, rfl⟩
theorem fk_X3_9 : FK RX3 9 3 0 (.array .int) true := ⟨_, _, _, _, rfl, by decide, inX3, Or.inl (gw_at 121 (by decide +kernel) rfl), tyX3_ok, nmX3, by decide +kernel, rfl, rfl⟩
theorem fk_X3_15 : FK RX3 15 3 1 (.array .boolean) true := ⟨_, _, _, _, rfl, by decide, inX3, Or.inl (gw_at 122 (by decide +kernel) rfl), tyX3_ok, nmX3, by decide +kernel, rfl, rfl⟩
theorem fk_X3_19 : FK RX3 19 3 2 .int false := ⟨_, _, _, _, rfl, by decide, inX3, Or.inl (gw_at 123 (by decide +kernel) rfl), tyX3_ok, nmX3, by decide +kernel, rfl, rfl⟩
theorem fk_X4_9 : FK RX4 9 4 0 (.array .int) true := ⟨_, _, _, _, rfl, by decide, inX4, Or.inl (gw_at 94 (by decide +kernel) rfl), tyX4_ok, nmX4, by decide +kernel, rfl, rfl⟩
theorem fk_X4_15 : FK RX4 15 4 1 .int false := ⟨_, _, _, _, rfl, by decide, inX4, Or.inl (gw_at 95 (by decide +kernel) rfl), tyX4_ok, nmX4, by decide +kernel, rfl, rfl⟩
theorem fk_X4_19 : FK RX4 19 4 2 .int false := ⟨_, _, _, _, rfl, by decide, inX4, Or.inl (gw_at 97 (by decide +kernel) rfl), tyX4_ok, nmX4, by decide +kernel, rfl, rfl⟩
theorem fk_X4_22 : FK RX4 22 4 3 .int false := ⟨_, _, _, _, rfl, by decide, inX4, Or.inl (gw_at 98 (by decide +kernel) rfl), tyX4_ok, nmX4, by decide +kernel, rfl, rfl⟩
theorem fk_X4_25 : FK RX4 25 4 4 .int false := ⟨_, _, _, _, rfl, by decide, inX4, Or.inl (gw_at 99 (by decide +kernel) rfl), tyX4_ok, nmX4, by decide +kernel, rfl, rfl⟩
theorem fk_X4_28 : FK RX4 28 4 5 .int false := ⟨_, _, _, _, rfl, by decide, inX4, Or.inl (gw_at 100 (by decide +kernel) rfl), tyX4_ok, nmX4, by decide +kernel, rfl, rfl⟩
theorem fk_X6_7 : FK RX6 7 6 3 (.array .int) true := ⟨_, _, _, _, rfl, by decide, inX6, Or.inl (gw_at 730 (by decide +kernel) rfl), tyX6_ok, nmX6, by decide +kernel, rfl, rfl⟩
theorem fk_X6_13 : FK RX6 13 6 4 (.array .int) true := ⟨_, _, _, _, rfl, by decide, inX6, Or.inl (gw_at 731 (by decide +kernel) rfl), tyX6_ok, nmX6, by decide +kernel, rfl, rfl⟩
theorem fk_X6_16 : FK RX6 16 6 7 (.array .int) true := ⟨_, _, _, _, rfl, by decide, inX6, Or.inl (gw_at 734 (by decide +kernel) rfl), tyX6_ok, nmX6, by decide +kernel, rfl, rfl⟩
theorem fk_X6_19 : FK RX6 19 6 8 (.array .int) true := ⟨_, _, _, _, rfl, by decide, inX6, Or.inl (gw_at 735 (by decide +kernel) rfl), tyX6_ok, nmX6, by decide +kernel, rfl, rfl⟩
theorem fk_X6_22 : FK RX6 22 6 10 (.array .int) true := ⟨_, _, _, _, rfl, by decide, inX6, Or.inl (gw_at 737 (by decide +kernel) rfl), tyX6_ok, nmX6, by decide +kernel, rfl, rfl⟩
theorem fk_X6_25 : FK RX6 25 6 11 (.array .int) true := ⟨_, _, _, _, rfl, by decide, inX6, Or.inl (gw_at 738 (by decide +kernel) rfl), tyX6_ok, nmX6, by decide +kernel, rfl, rfl⟩
theorem fk_X6_28 : FK RX6 28 6 13 (.array .int) true := ⟨_, _, _, _, rfl, by decide, inX6, Or.inl (gw_at 740 (by decide +kernel) rfl), tyX6_ok, nmX6, by decide +kernel, rfl, rfl⟩
theorem fk_X6_31 : FK RX6 31 6 20 (.array .int) true := ⟨_, _, _, _, rfl, by decide, inX6, Or.inl (gw_at 747 (by decide +kernel) rfl), tyX6_ok, nmX6, by decide +kernel, rfl, rfl⟩
theorem fk_X6_34 : FK RX6 34 6 21 (.array .int) true := ⟨_, _, _, _, rfl, by decide, inX6, Or.inl (gw_at 748 (by decide +kernel) rfl), tyX6_ok, nmX6, by decide +kernel, rfl, rfl⟩
theorem fk_X6_37 : FK RX6 37 6 22 (.array .int) true := ⟨_, _, _, _, rfl, by decide, inX6, Or.inl (gw_at 749 (by decide +kernel) rfl), tyX6_ok, nmX6, by decide +kernel, rfl, rfl⟩
theorem fk_X6_40 : FK RX6 40 6 23 (.array .int) true := ⟨_, _, _, _, rfl, by decide, inX6, Or.inl (gw_at 750 (by decide +kernel) rfl), tyX6_ok, nmX6, by decide +kernel, rfl, rfl⟩
theorem fk_X6_43 : FK RX6 43 6 25 (.array .int) true := ⟨_, _, _, _, rfl, by decide, inX6, Or.inl (gw_at 752 (by decide +kernel) rfl), tyX6_ok, nmX6, by decide +kernel, rfl, rfl⟩
theorem fk_X6_46 : FK RX6 46 6 26 (.array .int) true := ⟨_, _, _, _, rfl, by decide, inX6, Or.inl (gw_at 753 (by decide +kernel) rfl), tyX6_ok, nmX6, by decide +kernel, rfl, rfl⟩
theorem fk_X6_49 : FK RX6 49 6 27 (.array .int) true := ⟨_, _, _, _, rfl, by decide, inX6, Or.inl (gw_at 754 (by decide +kernel) rfl), tyX6_ok, nmX6, by decide +kernel, rfl, rfl⟩
theorem fk_X6_52 : FK RX6 52 6 28 (.array .int) true := ⟨_, _, _, _, rfl, by decide, inX6, Or.inl (gw_at 755 (by decide +kernel) rfl), tyX6_ok, nmX6, by decide +kernel, rfl, rfl⟩
theorem fk_X6_55 : FK RX6 55 6 29 (.array .int) true := ⟨_, _, _, _, rfl, by decide, inX6, Or.inl (gw_at 756 (by decide +kernel) rfl), tyX6_ok, nmX6, by decide +kernel, rfl, rfl⟩
theorem fk_X6_58 : FK RX6 58 6 0 .int false := ⟨_, _, _, _, rfl, by decide, inX6, Or.inl (gw_at 727 (by decide +kernel) rfl), tyX6_ok, nmX6, by decide +kernel, rfl, rfl⟩
theorem fk_X6_66 : FK RX6 66 6 1 .int false := ⟨_, _, _, _, rfl, by decide, inX6, Or.inl (gw_at 728 (by decide +kernel) rfl), tyX6_ok, nmX6, by decide +kernel, rfl, rfl⟩
theorem fk_X6_69 : FK RX6 69 6 2 .int false := ⟨_, _, _, _, rfl, by decide, inX6, Or.inl (gw_at 729 (by decide +kernel) rfl), tyX6_ok, nmX6, by decide +kernel, rfl, rfl⟩
theorem fk_X6_72 : FK RX6 72 6 6 .int false := ⟨_, _, _, _, rfl, by decide, inX6, Or.inl (gw_at 733 (by decide +kernel) rfl), tyX6_ok, nmX6, by decide +kernel, rfl, rfl⟩
theorem fk_X6_75 : FK RX6 75 6 14 .int false := ⟨_, _, _, _, rfl, by decide, inX6, Or.inl (gw_at 741 (by decide +kernel) rfl), tyX6_ok, nmX6, by decide +kernel, rfl, rfl⟩
theorem fk_X6_78 : FK RX6 78 6 15 .int false := ⟨_, _, _, _, rfl, by decide, inX6, Or.inl (gw_at 742 (by decide +kernel) rfl), tyX6_ok, nmX6, by decide +kernel, rfl, rfl⟩
theorem fk_X6_88 : FK RX6 88 6 19 .int false := ⟨_, _, _, _, rfl, by decide, inX6, Or.inl (gw_at 746 (by decide +kernel) rfl), tyX6_ok, nmX6, by decide +kernel, rfl, rfl⟩
theorem fk_X6_95 : FK RX6 95 6 16 .int false := ⟨_, _, _, _, rfl, by decide, inX6, Or.inl (gw_at 743 (by decide +kernel) rfl), tyX6_ok, nmX6, by decide +kernel, rfl, rfl⟩
theorem fk_X6_102 : FK RX6 102 6 17 .int false := ⟨_, _, _, _, rfl, by decide, inX6, Or.inl (gw_at 744 (by decide +kernel) rfl), tyX6_ok, nmX6, by decide +kernel, rfl, rfl⟩
theorem fk_X6_105 : FK RX6 105 6 18 .int false := ⟨_, _, _, _, rfl, by decide, inX6, Or.inl (gw_at 745 (by decide +kernel) rfl), tyX6_ok, nmX6, by decide +kernel, rfl, rfl⟩
theorem fk_X6_120 : FK RX6 120 6 5 .int false := ⟨_, _, _, _, rfl, by decide, inX6, Or.inl (gw_at 732 (by decide +kernel) rfl), tyX6_ok, nmX6, by decide +kernel, rfl, rfl⟩
theorem fk_X6_123 : FK RX6 123 6 9 .int false := ⟨_, _, _, _, rfl, by decide, inX6, Or.inl (gw_at 736 (by decide +kernel) rfl), tyX6_ok, nmX6, by decide +kernel, rfl, rfl⟩
theorem fk_X6_126 : FK RX6 126 6 24 .int false := ⟨_, _, _, _, rfl, by decide, inX6, Or.inl (gw_at 751 (by decide +kernel) rfl), tyX6_ok, nmX6, by decide +kernel, rfl, rfl⟩
theorem fk_X6_220 : FK RX6 220 6 12 .long false := ⟨_, _, _, _, rfl, by decide, inX6, Or.inl (gw_at 739 (by decide +kernel) rfl), tyX6_ok, nmX6, by decide +kernel, rfl, rfl⟩
theorem nk_X5_7 : NK RX5 7 4 6 [.null, .int 0, .int 0, .int 0, .int 0, .int 0] := ⟨_, _, _, rfl, inX4, tyX4_ok, gw_at 88 (by decide +kernel) rfl, gw_at 89 (by decide +kernel) rfl, gw_at 71 (by decide +kernel) rfl, by decide +kernel⟩
theorem nk_X5_16 : NK RX5 16 3 3 [.null, .null, .int 0] := ⟨_, _, _, rfl, inX3, tyX3_ok, gw_at 115 (by decide +kernel) rfl, gw_at 116 (by decide +kernel) rfl, gw_at 72 (by decide +kernel) rfl, by decide +kernel⟩
theorem nk_X5_23 : NK RX5 23 0 6 [.null, .null, .null, .int 0, .int 0, .int 0] := ⟨_, _, _, rfl, inX0, tyX0_ok, gw_at 133 (by decide +kernel) rfl, gw_at 134 (by decide +kernel) rfl, gw_at 73 (by decide +kernel) rfl, by decide +kernel⟩
theorem nk_X5_30 : NK RX5 30 2 4 [.int 0, .null, .null, .null] := ⟨_, _, _, rfl, inX2, tyX2_ok, gw_at 161 (by decide +kernel) rfl, gw_at 162 (by decide +kernel) rfl, gw_at 74 (by decide +kernel) rfl, by decide +kernel⟩
theorem nk_X5_32 : NK RX5 32 1 10 [.int 0, .int 0, .int 0, .int 0, .int 0, .int 0, .int 0, .int 0, .int 0, .int 0] := ⟨_, _, _, rfl, inX1, tyX1_ok, gw_at 163 (by decide +kernel) rfl, gw_at 443 (by decide +kernel) rfl, gw_at 79 (by decide +kernel) rfl, by decide +kernel⟩
theorem nk_X2_10 : NK RX2 10 2 4 [.int 0, .null, .null, .null] := ⟨_, _, _, rfl, inX2, tyX2_ok, gw_at 501 (by decide +kernel) rfl, gw_at 162 (by decide +kernel) rfl, gw_at 74 (by decide +kernel) rfl, by decide +kernel⟩
theorem nk_L_7 : NK RL 7 5 12 [.null, .null, .null, .null, .int 0, .null, .null, .long 0, .null, .null, .null, .int 0] := ⟨_, _, _, rfl, inX5, tyX5_ok, gw_at 80 (by decide +kernel) rfl, gw_at 81 (by decide +kernel) rfl, gw_at 70 (by decide +kernel) rfl, by decide +kernel⟩
theorem nk_L_10 : NK RL 10 6 30 [.int 0, .int 0, .int 0, .null, .null, .int 0, .int 0, .null, .null, .int 0, .null, .null, .long 0, .null, .int 0, .int 0, .int 0, .int 0, .int 0, .int 0, .null, .null, .null, .null, .int 0, .null, .null, .null, .null, .null] := ⟨_, _, _, rfl, inX6, tyX6_ok, gw_at 721 (by decide +kernel) rfl, gw_at 722 (by decide +kernel) rfl, gw_at 75 (by decide +kernel) rfl, by decide +kernel⟩
theorem mb_X5_9 : MB RX5 9 yX4_init cX4_init 1 none 0 := ⟨Or.inr ⟨"PetalWheels", nw_at 90 (by decide +kernel) rfl⟩, gw_at 92 (by decide +kernel) rfl, gw_at 71 (by decide +kernel) rfl, ⟨by decide, by decide, by decide +kernel⟩, by decide⟩
theorem mb_X5_18 : MB RX5 18 yX3_init cX3_init 1 none 0 := ⟨Or.inr ⟨"PetalWheels", nw_at 117 (by decide +kernel) rfl⟩, gw_at 119 (by decide +kernel) rfl, gw_at 72 (by decide +kernel) rfl, ⟨by decide, by decide, by decide +kernel⟩, by decide⟩
theorem mb_X5_25 : MB RX5 25 yX0_init cX0_init 1 none 0 := ⟨Or.inr ⟨"PetalWheels", nw_at 135 (by decide +kernel) rfl⟩, gw_at 137 (by decide +kernel) rfl, gw_at 73 (by decide +kernel) rfl, ⟨by decide, by decide, by decide +kernel⟩, by decide⟩
theorem mb_X5_34 : MB RX5 34 yX2_init cX2_init 5 none 4 := ⟨Or.inl (gw_at 165 (by decide +kernel) rfl), gw_at 167 (by decide +kernel) rfl, gw_at 74 (by decide +kernel) rfl, ⟨by decide, by decide, by decide +kernel⟩, by decide⟩
theorem mb_X5_70 : MB RX5 70 yX5_within cX5_within 3 (some .boolean) 3 := ⟨Or.inl (gw_at 227 (by decide +kernel) rfl), gw_at 229 (by decide +kernel) rfl, gw_at 70 (by decide +kernel) rfl, ⟨by decide, by decide, by decide +kernel⟩, by decide⟩
theorem mb_X5_74 : MB RX5 74 yX4_adds cX4_adds 2 (some .boolean) 1 := ⟨Or.inl (gw_at 230 (by decide +kernel) rfl), gw_at 233 (by decide +kernel) rfl, gw_at 71 (by decide +kernel) rfl, ⟨by decide, by decide, by decide +kernel⟩, by decide⟩
theorem mb_X5_81 : MB RX5 81 yX4_empties cX4_empties 2 (some .int) 0 := ⟨Or.inl (gw_at 238 (by decide +kernel) rfl), gw_at 241 (by decide +kernel) rfl, gw_at 71 (by decide +kernel) rfl, ⟨by decide, by decide, by decide +kernel⟩, by decide⟩
theorem mb_X5_85 : MB RX5 85 yX4_faultIn cX4_faultIn 4 (some .int) 1 := ⟨Or.inl (gw_at 246 (by decide +kernel) rfl), gw_at 249 (by decide +kernel) rfl, gw_at 71 (by decide +kernel) rfl, ⟨by decide, by decide, by decide +kernel⟩, by decide⟩
theorem mb_X5_89 : MB RX5 89 yX5_startAnew cX5_startAnew 3 none 1 := ⟨Or.inl (gw_at 302 (by decide +kernel) rfl), gw_at 305 (by decide +kernel) rfl, gw_at 70 (by decide +kernel) rfl, ⟨by decide, by decide, by decide +kernel⟩, by decide⟩
theorem mb_X5_93 : MB RX5 93 yX0_items cX0_items 1 (some .int) 0 := ⟨Or.inl (gw_at 328 (by decide +kernel) rfl), gw_at 331 (by decide +kernel) rfl, gw_at 73 (by decide +kernel) rfl, ⟨by decide, by decide, by decide +kernel⟩, by decide⟩
theorem mb_X5_96 : MB RX5 96 yX0_hasRing cX0_hasRing 2 (some .boolean) 1 := ⟨Or.inl (gw_at 336 (by decide +kernel) rfl), gw_at 339 (by decide +kernel) rfl, gw_at 73 (by decide +kernel) rfl, ⟨by decide, by decide, by decide +kernel⟩, by decide⟩
theorem mb_X5_99 : MB RX5 99 yX0_teethOf cX0_teethOf 2 (some .int) 1 := ⟨Or.inl (gw_at 340 (by decide +kernel) rfl), gw_at 343 (by decide +kernel) rfl, gw_at 73 (by decide +kernel) rfl, ⟨by decide, by decide, by decide +kernel⟩, by decide⟩
theorem mb_X5_103 : MB RX5 103 yX0_hasWheel cX0_hasWheel 2 (some .boolean) 1 := ⟨Or.inl (gw_at 349 (by decide +kernel) rfl), gw_at 352 (by decide +kernel) rfl, gw_at 73 (by decide +kernel) rfl, ⟨by decide, by decide, by decide +kernel⟩, by decide⟩
theorem mb_X5_106 : MB RX5 106 yX0_cogsOf cX0_cogsOf 2 (some .int) 1 := ⟨Or.inl (gw_at 353 (by decide +kernel) rfl), gw_at 356 (by decide +kernel) rfl, gw_at 73 (by decide +kernel) rfl, ⟨by decide, by decide, by decide +kernel⟩, by decide⟩
theorem mb_X5_109 : MB RX5 109 yX0_fits cX0_fits 3 (some .boolean) 2 := ⟨Or.inl (gw_at 358 (by decide +kernel) rfl), gw_at 361 (by decide +kernel) rfl, gw_at 73 (by decide +kernel) rfl, ⟨by decide, by decide, by decide +kernel⟩, by decide⟩
theorem mb_X5_113 : MB RX5 113 yX0_petalsOf cX0_petalsOf 3 (some .int) 2 := ⟨Or.inl (gw_at 364 (by decide +kernel) rfl), gw_at 367 (by decide +kernel) rfl, gw_at 73 (by decide +kernel) rfl, ⟨by decide, by decide, by decide +kernel⟩, by decide⟩
theorem mb_X5_117 : MB RX5 117 yX0_roundsOf cX0_roundsOf 3 (some .int) 2 := ⟨Or.inl (gw_at 378 (by decide +kernel) rfl), gw_at 381 (by decide +kernel) rfl, gw_at 73 (by decide +kernel) rfl, ⟨by decide, by decide, by decide +kernel⟩, by decide⟩
theorem mb_X5_120 : MB RX5 120 yX0_longOf cX0_longOf 3 (some .int) 2 := ⟨Or.inl (gw_at 382 (by decide +kernel) rfl), gw_at 385 (by decide +kernel) rfl, gw_at 73 (by decide +kernel) rfl, ⟨by decide, by decide, by decide +kernel⟩, by decide⟩
theorem mb_X5_123 : MB RX5 123 yX0_hasPen cX0_hasPen 2 (some .boolean) 1 := ⟨Or.inl (gw_at 391 (by decide +kernel) rfl), gw_at 394 (by decide +kernel) rfl, gw_at 73 (by decide +kernel) rfl, ⟨by decide, by decide, by decide +kernel⟩, by decide⟩
theorem mb_X5_126 : MB RX5 126 yX2_inkOf cX2_inkOf 2 (some .int) 1 := ⟨Or.inl (gw_at 395 (by decide +kernel) rfl), gw_at 398 (by decide +kernel) rfl, gw_at 74 (by decide +kernel) rfl, ⟨by decide, by decide, by decide +kernel⟩, by decide⟩
theorem mb_X5_129 : MB RX5 129 yX5_pointsOfPen cX5_pointsOfPen 4 (some .int) 1 := ⟨Or.inl (gw_at 399 (by decide +kernel) rfl), gw_at 402 (by decide +kernel) rfl, gw_at 70 (by decide +kernel) rfl, ⟨by decide, by decide, by decide +kernel⟩, by decide⟩
theorem mb_X5_132 : MB RX5 132 yX2_curveAt cX2_curveAt 2 (some (.object "PetalWheels$Curve")) 1 := ⟨Or.inl (gw_at 423 (by decide +kernel) rfl), gw_at 426 (by decide +kernel) rfl, gw_at 74 (by decide +kernel) rfl, ⟨by decide, by decide, by decide +kernel⟩, by decide⟩
theorem mb_X5_154 : MB RX5 154 yX5_tipsShown cX5_tipsShown 3 (some .int) 2 := ⟨Or.inl (gw_at 435 (by decide +kernel) rfl), gw_at 438 (by decide +kernel) rfl, gw_at 70 (by decide +kernel) rfl, ⟨by decide, by decide, by decide +kernel⟩, by decide⟩
theorem mb_X5_164 : MB RX5 164 yX1_init cX1_init 8 none 7 := ⟨Or.inl (gw_at 444 (by decide +kernel) rfl), gw_at 446 (by decide +kernel) rfl, gw_at 79 (by decide +kernel) rfl, ⟨by decide, by decide, by decide +kernel⟩, by decide⟩
theorem mb_X5_167 : MB RX5 167 yX2_drawn cX2_drawn 5 (some (.object "PetalWheels$Paper")) 2 := ⟨Or.inl (gw_at 496 (by decide +kernel) rfl), gw_at 499 (by decide +kernel) rfl, gw_at 74 (by decide +kernel) rfl, ⟨by decide, by decide, by decide +kernel⟩, by decide⟩
theorem mb_X5_171 : MB RX5 171 yX5_changeTo cX5_changeTo 2 none 1 := ⟨Or.inl (gw_at 510 (by decide +kernel) rfl), gw_at 513 (by decide +kernel) rfl, gw_at 70 (by decide +kernel) rfl, ⟨by decide, by decide, by decide +kernel⟩, by decide⟩
theorem mb_X5_175 : MB RX5 175 yX2_rubbed cX2_rubbed 4 (some (.object "PetalWheels$Paper")) 1 := ⟨Or.inl (gw_at 519 (by decide +kernel) rfl), gw_at 522 (by decide +kernel) rfl, gw_at 74 (by decide +kernel) rfl, ⟨by decide, by decide, by decide +kernel⟩, by decide⟩
theorem mb_X5_179 : MB RX5 179 yX2_turned cX2_turned 2 (some (.object "PetalWheels$Paper")) 1 := ⟨Or.inl (gw_at 530 (by decide +kernel) rfl), gw_at 533 (by decide +kernel) rfl, gw_at 74 (by decide +kernel) rfl, ⟨by decide, by decide, by decide +kernel⟩, by decide⟩
theorem mb_X5_182 : MB RX5 182 yX2_filled cX2_filled 4 (some (.object "PetalWheels$Paper")) 2 := ⟨Or.inl (gw_at 539 (by decide +kernel) rfl), gw_at 542 (by decide +kernel) rfl, gw_at 74 (by decide +kernel) rfl, ⟨by decide, by decide, by decide +kernel⟩, by decide⟩
theorem mb_X5_189 : MB RX5 189 yX5_pointsShown cX5_pointsShown 3 (some .int) 0 := ⟨Or.inl (gw_at 552 (by decide +kernel) rfl), gw_at 555 (by decide +kernel) rfl, gw_at 70 (by decide +kernel) rfl, ⟨by decide, by decide, by decide +kernel⟩, by decide⟩
theorem mb_X5_192 : MB RX5 192 yX5_like cX5_like 3 (some .int) 0 := ⟨Or.inl (gw_at 556 (by decide +kernel) rfl), gw_at 559 (by decide +kernel) rfl, gw_at 70 (by decide +kernel) rfl, ⟨by decide, by decide, by decide +kernel⟩, by decide⟩
theorem mb_X5_195 : MB RX5 195 yX1_hasTip cX1_hasTip 3 (some .boolean) 2 := ⟨Or.inl (gw_at 574 (by decide +kernel) rfl), gw_at 577 (by decide +kernel) rfl, gw_at 79 (by decide +kernel) rfl, ⟨by decide, by decide, by decide +kernel⟩, by decide⟩
theorem mb_X5_201 : MB RX5 201 yX5_noteBareTeeth cX5_noteBareTeeth 7 (some .int) 2 := ⟨Or.inl (gw_at 586 (by decide +kernel) rfl), gw_at 589 (by decide +kernel) rfl, gw_at 70 (by decide +kernel) rfl, ⟨by decide, by decide, by decide +kernel⟩, by decide⟩
theorem mb_X5_204 : MB RX5 204 yX0_divisorOf cX0_divisorOf 3 (some .int) 2 := ⟨Or.inl (gw_at 591 (by decide +kernel) rfl), gw_at 371 (by decide +kernel) rfl, gw_at 73 (by decide +kernel) rfl, ⟨by decide, by decide, by decide +kernel⟩, by decide⟩
theorem mb_X5_207 : MB RX5 207 yX5_curvesNeeded cX5_curvesNeeded 5 (some .int) 2 := ⟨Or.inl (gw_at 592 (by decide +kernel) rfl), gw_at 595 (by decide +kernel) rfl, gw_at 70 (by decide +kernel) rfl, ⟨by decide, by decide, by decide +kernel⟩, by decide⟩
theorem mb_X5_210 : MB RX5 210 yX5_noteMostPetals cX5_noteMostPetals 3 none 0 := ⟨Or.inl (gw_at 605 (by decide +kernel) rfl), gw_at 608 (by decide +kernel) rfl, gw_at 70 (by decide +kernel) rfl, ⟨by decide, by decide, by decide +kernel⟩, by decide⟩
theorem mb_X5_224 : MB RX5 224 yX1_pointOf cX1_pointOf 2 (some .int) 1 := ⟨Or.inl (gw_at 418 (by decide +kernel) rfl), gw_at 421 (by decide +kernel) rfl, gw_at 79 (by decide +kernel) rfl, ⟨by decide, by decide, by decide +kernel⟩, by decide⟩
theorem mb_X5_227 : MB RX5 227 yX0_stepOf cX0_stepOf 2 (some .int) 1 := ⟨Or.inl (gw_at 590 (by decide +kernel) rfl), gw_at 454 (by decide +kernel) rfl, gw_at 73 (by decide +kernel) rfl, ⟨by decide, by decide, by decide +kernel⟩, by decide⟩
theorem mb_X5_230 : MB RX5 230 yX5_rest cX5_rest 2 (some .int) 2 := ⟨Or.inl (gw_at 568 (by decide +kernel) rfl), gw_at 290 (by decide +kernel) rfl, gw_at 70 (by decide +kernel) rfl, ⟨by decide, by decide, by decide +kernel⟩, by decide⟩
theorem mb_X5_233 : MB RX5 233 yX3_adds cX3_adds 3 (some .boolean) 2 := ⟨Or.inl (gw_at 625 (by decide +kernel) rfl), gw_at 628 (by decide +kernel) rfl, gw_at 72 (by decide +kernel) rfl, ⟨by decide, by decide, by decide +kernel⟩, by decide⟩
theorem mb_X5_239 : MB RX5 239 yX3_empties cX3_empties 2 (some .int) 0 := ⟨Or.inl (gw_at 324 (by decide +kernel) rfl), gw_at 327 (by decide +kernel) rfl, gw_at 72 (by decide +kernel) rfl, ⟨by decide, by decide, by decide +kernel⟩, by decide⟩
theorem mb_X5_240 : MB RX5 240 yX5_guesses cX5_guesses 6 (some .int) 1 := ⟨Or.inl (gw_at 637 (by decide +kernel) rfl), gw_at 640 (by decide +kernel) rfl, gw_at 70 (by decide +kernel) rfl, ⟨by decide, by decide, by decide +kernel⟩, by decide⟩
theorem mb_X5_243 : MB RX5 243 yX5_firstGuess cX5_firstGuess 5 (some .int) 1 := ⟨Or.inl (gw_at 650 (by decide +kernel) rfl), gw_at 653 (by decide +kernel) rfl, gw_at 70 (by decide +kernel) rfl, ⟨by decide, by decide, by decide +kernel⟩, by decide⟩
theorem mb_X5_246 : MB RX5 246 yX5_noteGuessesByTooth cX5_noteGuessesByTooth 3 none 1 := ⟨Or.inl (gw_at 662 (by decide +kernel) rfl), gw_at 665 (by decide +kernel) rfl, gw_at 70 (by decide +kernel) rfl, ⟨by decide, by decide, by decide +kernel⟩, by decide⟩
theorem mb_X5_251 : MB RX5 251 yX5_markOfCurve cX5_markOfCurve 2 (some .int) 1 := ⟨Or.inl (gw_at 676 (by decide +kernel) rfl), gw_at 679 (by decide +kernel) rfl, gw_at 70 (by decide +kernel) rfl, ⟨by decide, by decide, by decide +kernel⟩, by decide⟩
theorem mb_X5_255 : MB RX5 255 yX5_markOfRose cX5_markOfRose 2 (some .int) 1 := ⟨Or.inl (gw_at 680 (by decide +kernel) rfl), gw_at 683 (by decide +kernel) rfl, gw_at 70 (by decide +kernel) rfl, ⟨by decide, by decide, by decide +kernel⟩, by decide⟩
theorem mb_X5_258 : MB RX5 258 yX5_markOfWeb cX5_markOfWeb 2 (some .int) 1 := ⟨Or.inl (gw_at 685 (by decide +kernel) rfl), gw_at 688 (by decide +kernel) rfl, gw_at 70 (by decide +kernel) rfl, ⟨by decide, by decide, by decide +kernel⟩, by decide⟩
theorem mb_X5_261 : MB RX5 261 yX5_markOfBouquet cX5_markOfBouquet 2 (some .int) 1 := ⟨Or.inl (gw_at 690 (by decide +kernel) rfl), gw_at 693 (by decide +kernel) rfl, gw_at 70 (by decide +kernel) rfl, ⟨by decide, by decide, by decide +kernel⟩, by decide⟩
theorem mb_X5_264 : MB RX5 264 yX5_markOfLace cX5_markOfLace 3 (some .int) 2 := ⟨Or.inl (gw_at 695 (by decide +kernel) rfl), gw_at 698 (by decide +kernel) rfl, gw_at 70 (by decide +kernel) rfl, ⟨by decide, by decide, by decide +kernel⟩, by decide⟩
theorem mb_X5_268 : MB RX5 268 yX5_markOfStar cX5_markOfStar 2 (some .int) 1 := ⟨Or.inl (gw_at 700 (by decide +kernel) rfl), gw_at 703 (by decide +kernel) rfl, gw_at 70 (by decide +kernel) rfl, ⟨by decide, by decide, by decide +kernel⟩, by decide⟩
theorem mb_X5_277 : MB RX5 277 yJ9_floorMod_7cf53 cJ9_floorMod_7cf53 3 (some .int) 2 := ⟨Or.inl (gw_at 291 (by decide +kernel) rfl), gw_at 293 (by decide +kernel) rfl, gw_at 76 (by decide +kernel) rfl, ⟨by decide, by decide, by decide +kernel⟩, by decide⟩
theorem mb_X5_280 : MB RX5 280 yX0_inkTold cX0_inkTold 1 (some (.array .int)) 0 := ⟨Or.inl (gw_at 306 (by decide +kernel) rfl), gw_at 309 (by decide +kernel) rfl, gw_at 73 (by decide +kernel) rfl, ⟨by decide, by decide, by decide +kernel⟩, by decide⟩
theorem mb_X5_284 : MB RX5 284 yJ7_fill_53178 cJ7_fill_53178 4 none 2 := ⟨Or.inl (gw_at 415 (by decide +kernel) rfl), gw_at 417 (by decide +kernel) rfl, gw_at 77 (by decide +kernel) rfl, ⟨by decide, by decide, by decide +kernel⟩, by decide⟩
theorem mb_X5_290 : MB RX5 290 yX5_noteShown cX5_noteShown 5 none 1 := ⟨Or.inl (gw_at 411 (by decide +kernel) rfl), gw_at 414 (by decide +kernel) rfl, gw_at 70 (by decide +kernel) rfl, ⟨by decide, by decide, by decide +kernel⟩, by decide⟩
theorem mb_X5_293 : MB RX5 293 yX5_pointsNoted cX5_pointsNoted 4 (some .int) 1 := ⟨Or.inl (gw_at 427 (by decide +kernel) rfl), gw_at 430 (by decide +kernel) rfl, gw_at 70 (by decide +kernel) rfl, ⟨by decide, by decide, by decide +kernel⟩, by decide⟩
theorem mb_X5_296 : MB RX5 296 yX2_hasCurveIn cX2_hasCurveIn 3 (some .boolean) 1 := ⟨Or.inl (gw_at 403 (by decide +kernel) rfl), gw_at 406 (by decide +kernel) rfl, gw_at 74 (by decide +kernel) rfl, ⟨by decide, by decide, by decide +kernel⟩, by decide⟩
theorem mb_X5_299 : MB RX5 299 yX5_notePens cX5_notePens 4 none 1 := ⟨Or.inl (gw_at 407 (by decide +kernel) rfl), gw_at 410 (by decide +kernel) rfl, gw_at 70 (by decide +kernel) rfl, ⟨by decide, by decide, by decide +kernel⟩, by decide⟩
theorem mb_X5_302 : MB RX5 302 yX5_likeOfRow cX5_likeOfRow 2 (some .int) 0 := ⟨Or.inl (gw_at 560 (by decide +kernel) rfl), gw_at 563 (by decide +kernel) rfl, gw_at 70 (by decide +kernel) rfl, ⟨by decide, by decide, by decide +kernel⟩, by decide⟩
theorem mb_X5_305 : MB RX5 305 yX5_greatestDivisor cX5_greatestDivisor 6 (some .int) 2 := ⟨Or.inl (gw_at 569 (by decide +kernel) rfl), gw_at 374 (by decide +kernel) rfl, gw_at 70 (by decide +kernel) rfl, ⟨by decide, by decide, by decide +kernel⟩, by decide⟩
theorem mb_X5_308 : MB RX5 308 yX5_isSameTurned cX5_isSameTurned 3 (some .boolean) 1 := ⟨Or.inl (gw_at 564 (by decide +kernel) rfl), gw_at 567 (by decide +kernel) rfl, gw_at 70 (by decide +kernel) rfl, ⟨by decide, by decide, by decide +kernel⟩, by decide⟩
theorem mb_X5_311 : MB RX5 311 yX5_isClassBare cX5_isClassBare 6 (some .boolean) 3 := ⟨Or.inl (gw_at 596 (by decide +kernel) rfl), gw_at 599 (by decide +kernel) rfl, gw_at 70 (by decide +kernel) rfl, ⟨by decide, by decide, by decide +kernel⟩, by decide⟩
theorem mb_X5_314 : MB RX5 314 yX5_addTwo cX5_addTwo 5 none 2 := ⟨Or.inl (gw_at 609 (by decide +kernel) rfl), gw_at 612 (by decide +kernel) rfl, gw_at 70 (by decide +kernel) rfl, ⟨by decide, by decide, by decide +kernel⟩, by decide⟩
theorem mb_X5_318 : MB RX5 318 yX3_startsAgreeing cX3_startsAgreeing 5 (some .int) 2 := ⟨Or.inl (gw_at 641 (by decide +kernel) rfl), gw_at 644 (by decide +kernel) rfl, gw_at 72 (by decide +kernel) rfl, ⟨by decide, by decide, by decide +kernel⟩, by decide⟩
theorem mb_X5_321 : MB RX5 321 yX3_firstAgreeing cX3_firstAgreeing 4 (some .int) 2 := ⟨Or.inl (gw_at 654 (by decide +kernel) rfl), gw_at 657 (by decide +kernel) rfl, gw_at 72 (by decide +kernel) rfl, ⟨by decide, by decide, by decide +kernel⟩, by decide⟩
theorem mb_X5_324 : MB RX5 324 yX5_addGuesses cX5_addGuesses 7 none 3 := ⟨Or.inl (gw_at 666 (by decide +kernel) rfl), gw_at 669 (by decide +kernel) rfl, gw_at 70 (by decide +kernel) rfl, ⟨by decide, by decide, by decide +kernel⟩, by decide⟩
theorem mb_X5_328 : MB RX5 328 yX3_agree cX3_agree 6 (some .boolean) 3 := ⟨Or.inl (gw_at 670 (by decide +kernel) rfl), gw_at 648 (by decide +kernel) rfl, gw_at 72 (by decide +kernel) rfl, ⟨by decide, by decide, by decide +kernel⟩, by decide⟩
theorem mb_X0_31 : MB RX0 31 yX0_addsRing cX0_addsRing 2 (some .boolean) 1 := ⟨Or.inl (gw_at 283 (by decide +kernel) rfl), gw_at 286 (by decide +kernel) rfl, gw_at 73 (by decide +kernel) rfl, ⟨by decide, by decide, by decide +kernel⟩, by decide⟩
theorem mb_X0_35 : MB RX0 35 yX0_addsWheel cX0_addsWheel 2 (some .boolean) 1 := ⟨Or.inl (gw_at 294 (by decide +kernel) rfl), gw_at 297 (by decide +kernel) rfl, gw_at 73 (by decide +kernel) rfl, ⟨by decide, by decide, by decide +kernel⟩, by decide⟩
theorem mb_X0_38 : MB RX0 38 yX0_addsPen cX0_addsPen 2 (some .boolean) 1 := ⟨Or.inl (gw_at 298 (by decide +kernel) rfl), gw_at 301 (by decide +kernel) rfl, gw_at 73 (by decide +kernel) rfl, ⟨by decide, by decide, by decide +kernel⟩, by decide⟩
theorem mb_X0_41 : MB RX0 41 yX5_within cX5_within 3 (some .boolean) 3 := ⟨Or.inr ⟨"PetalWheels", nw_at 287 (by decide +kernel) rfl⟩, gw_at 229 (by decide +kernel) rfl, gw_at 70 (by decide +kernel) rfl, ⟨by decide, by decide, by decide +kernel⟩, by decide⟩
theorem mb_X0_45 : MB RX0 45 yX5_rest cX5_rest 2 (some .int) 2 := ⟨Or.inr ⟨"PetalWheels", nw_at 288 (by decide +kernel) rfl⟩, gw_at 290 (by decide +kernel) rfl, gw_at 70 (by decide +kernel) rfl, ⟨by decide, by decide, by decide +kernel⟩, by decide⟩
theorem mb_X0_49 : MB RX0 49 yX0_hasRing cX0_hasRing 2 (some .boolean) 1 := ⟨Or.inl (gw_at 344 (by decide +kernel) rfl), gw_at 339 (by decide +kernel) rfl, gw_at 73 (by decide +kernel) rfl, ⟨by decide, by decide, by decide +kernel⟩, by decide⟩
theorem mb_X0_52 : MB RX0 52 yX0_hasWheel cX0_hasWheel 2 (some .boolean) 1 := ⟨Or.inl (gw_at 357 (by decide +kernel) rfl), gw_at 352 (by decide +kernel) rfl, gw_at 73 (by decide +kernel) rfl, ⟨by decide, by decide, by decide +kernel⟩, by decide⟩
theorem mb_X0_55 : MB RX0 55 yJ7_copyOf_59c91 cJ7_copyOf_59c91 3 (some (.array .int)) 2 := ⟨Or.inl (gw_at 310 (by decide +kernel) rfl), gw_at 312 (by decide +kernel) rfl, gw_at 77 (by decide +kernel) rfl, ⟨by decide, by decide, by decide +kernel⟩, by decide⟩
theorem mb_X0_61 : MB RX0 61 yX0_cogsOf cX0_cogsOf 2 (some .int) 1 := ⟨Or.inl (gw_at 362 (by decide +kernel) rfl), gw_at 356 (by decide +kernel) rfl, gw_at 73 (by decide +kernel) rfl, ⟨by decide, by decide, by decide +kernel⟩, by decide⟩
theorem mb_X0_65 : MB RX0 65 yX0_teethOf cX0_teethOf 2 (some .int) 1 := ⟨Or.inl (gw_at 363 (by decide +kernel) rfl), gw_at 343 (by decide +kernel) rfl, gw_at 73 (by decide +kernel) rfl, ⟨by decide, by decide, by decide +kernel⟩, by decide⟩
theorem mb_X0_68 : MB RX0 68 yX5_greatestDivisor cX5_greatestDivisor 6 (some .int) 2 := ⟨Or.inr ⟨"PetalWheels", nw_at 372 (by decide +kernel) rfl⟩, gw_at 374 (by decide +kernel) rfl, gw_at 70 (by decide +kernel) rfl, ⟨by decide, by decide, by decide +kernel⟩, by decide⟩
theorem mb_X0_71 : MB RX0 71 yX0_divisorOf cX0_divisorOf 3 (some .int) 2 := ⟨Or.inl (gw_at 368 (by decide +kernel) rfl), gw_at 371 (by decide +kernel) rfl, gw_at 73 (by decide +kernel) rfl, ⟨by decide, by decide, by decide +kernel⟩, by decide⟩
theorem mb_X0_74 : MB RX0 74 yX5_part cX5_part 2 (some .int) 2 := ⟨Or.inr ⟨"PetalWheels", nw_at 375 (by decide +kernel) rfl⟩, gw_at 377 (by decide +kernel) rfl, gw_at 70 (by decide +kernel) rfl, ⟨by decide, by decide, by decide +kernel⟩, by decide⟩
theorem mb_X0_77 : MB RX0 77 yX0_roundsOf cX0_roundsOf 3 (some .int) 2 := ⟨Or.inl (gw_at 386 (by decide +kernel) rfl), gw_at 381 (by decide +kernel) rfl, gw_at 73 (by decide +kernel) rfl, ⟨by decide, by decide, by decide +kernel⟩, by decide⟩
theorem mb_X1_30 : MB RX1 30 yX0_petalsOf cX0_petalsOf 3 (some .int) 2 := ⟨Or.inl (gw_at 448 (by decide +kernel) rfl), gw_at 367 (by decide +kernel) rfl, gw_at 73 (by decide +kernel) rfl, ⟨by decide, by decide, by decide +kernel⟩, by decide⟩
theorem mb_X1_39 : MB RX1 39 yX0_roundsOf cX0_roundsOf 3 (some .int) 2 := ⟨Or.inl (gw_at 449 (by decide +kernel) rfl), gw_at 381 (by decide +kernel) rfl, gw_at 73 (by decide +kernel) rfl, ⟨by decide, by decide, by decide +kernel⟩, by decide⟩
theorem mb_X1_45 : MB RX1 45 yX5_part cX5_part 2 (some .int) 2 := ⟨Or.inr ⟨"PetalWheels", nw_at 450 (by decide +kernel) rfl⟩, gw_at 377 (by decide +kernel) rfl, gw_at 70 (by decide +kernel) rfl, ⟨by decide, by decide, by decide +kernel⟩, by decide⟩
theorem mb_X1_51 : MB RX1 51 yX0_stepOf cX0_stepOf 2 (some .int) 1 := ⟨Or.inl (gw_at 451 (by decide +kernel) rfl), gw_at 454 (by decide +kernel) rfl, gw_at 73 (by decide +kernel) rfl, ⟨by decide, by decide, by decide +kernel⟩, by decide⟩
theorem mb_X1_58 : MB RX1 58 yX5_rest cX5_rest 2 (some .int) 2 := ⟨Or.inr ⟨"PetalWheels", nw_at 422 (by decide +kernel) rfl⟩, gw_at 290 (by decide +kernel) rfl, gw_at 70 (by decide +kernel) rfl, ⟨by decide, by decide, by decide +kernel⟩, by decide⟩
theorem mb_X2_35 : MB RX2 35 yX2_inkOf cX2_inkOf 2 (some .int) 1 := ⟨Or.inl (gw_at 502 (by decide +kernel) rfl), gw_at 398 (by decide +kernel) rfl, gw_at 74 (by decide +kernel) rfl, ⟨by decide, by decide, by decide +kernel⟩, by decide⟩
theorem mb_X2_39 : MB RX2 39 yX2_inkWith cX2_inkWith 4 (some (.array .int)) 2 := ⟨Or.inl (gw_at 503 (by decide +kernel) rfl), gw_at 506 (by decide +kernel) rfl, gw_at 74 (by decide +kernel) rfl, ⟨by decide, by decide, by decide +kernel⟩, by decide⟩
theorem mb_X2_43 : MB RX2 43 yX2_init cX2_init 5 none 4 := ⟨Or.inl (gw_at 509 (by decide +kernel) rfl), gw_at 167 (by decide +kernel) rfl, gw_at 74 (by decide +kernel) rfl, ⟨by decide, by decide, by decide +kernel⟩, by decide⟩
theorem mb_X2_52 : MB RX2 52 yX5_rest cX5_rest 2 (some .int) 2 := ⟨Or.inr ⟨"PetalWheels", nw_at 534 (by decide +kernel) rfl⟩, gw_at 290 (by decide +kernel) rfl, gw_at 70 (by decide +kernel) rfl, ⟨by decide, by decide, by decide +kernel⟩, by decide⟩
theorem mb_X3_23 : MB RX3 23 yX5_rest cX5_rest 2 (some .int) 2 := ⟨Or.inr ⟨"PetalWheels", nw_at 649 (by decide +kernel) rfl⟩, gw_at 290 (by decide +kernel) rfl, gw_at 70 (by decide +kernel) rfl, ⟨by decide, by decide, by decide +kernel⟩, by decide⟩
theorem mb_X3_27 : MB RX3 27 yX3_agree cX3_agree 6 (some .boolean) 3 := ⟨Or.inl (gw_at 645 (by decide +kernel) rfl), gw_at 648 (by decide +kernel) rfl, gw_at 72 (by decide +kernel) rfl, ⟨by decide, by decide, by decide +kernel⟩, by decide⟩
theorem mb_X4_31 : MB RX4 31 yX4_readToken cX4_readToken 2 none 0 := ⟨Or.inl (gw_at 250 (by decide +kernel) rfl), gw_at 253 (by decide +kernel) rfl, gw_at 71 (by decide +kernel) rfl, ⟨by decide, by decide, by decide +kernel⟩, by decide⟩
theorem mb_X4_34 : MB RX4 34 yX0_hasRoomFor cX0_hasRoomFor 2 (some .boolean) 1 := ⟨Or.inl (gw_at 275 (by decide +kernel) rfl), gw_at 278 (by decide +kernel) rfl, gw_at 73 (by decide +kernel) rfl, ⟨by decide, by decide, by decide +kernel⟩, by decide⟩
theorem mb_X4_40 : MB RX4 40 yX0_adds cX0_adds 3 (some .boolean) 2 := ⟨Or.inl (gw_at 279 (by decide +kernel) rfl), gw_at 282 (by decide +kernel) rfl, gw_at 73 (by decide +kernel) rfl, ⟨by decide, by decide, by decide +kernel⟩, by decide⟩
theorem mb_X4_44 : MB RX4 44 yX4_byteAt cX4_byteAt 2 (some .int) 1 := ⟨Or.inl (gw_at 254 (by decide +kernel) rfl), gw_at 257 (by decide +kernel) rfl, gw_at 71 (by decide +kernel) rfl, ⟨by decide, by decide, by decide +kernel⟩, by decide⟩
theorem mb_X4_48 : MB RX4 48 yX4_isLetter cX4_isLetter 1 (some .boolean) 1 := ⟨Or.inl (gw_at 258 (by decide +kernel) rfl), gw_at 260 (by decide +kernel) rfl, gw_at 71 (by decide +kernel) rfl, ⟨by decide, by decide, by decide +kernel⟩, by decide⟩
theorem mb_X4_51 : MB RX4 51 yX4_readLetters cX4_readLetters 1 none 0 := ⟨Or.inl (gw_at 261 (by decide +kernel) rfl), gw_at 264 (by decide +kernel) rfl, gw_at 71 (by decide +kernel) rfl, ⟨by decide, by decide, by decide +kernel⟩, by decide⟩
theorem mb_X4_54 : MB RX4 54 yX4_isDigit cX4_isDigit 1 (some .boolean) 1 := ⟨Or.inl (gw_at 265 (by decide +kernel) rfl), gw_at 267 (by decide +kernel) rfl, gw_at 71 (by decide +kernel) rfl, ⟨by decide, by decide, by decide +kernel⟩, by decide⟩
theorem mb_X4_57 : MB RX4 57 yX4_readNumber cX4_readNumber 2 none 0 := ⟨Or.inl (gw_at 268 (by decide +kernel) rfl), gw_at 271 (by decide +kernel) rfl, gw_at 71 (by decide +kernel) rfl, ⟨by decide, by decide, by decide +kernel⟩, by decide⟩
theorem mb_L_9 : MB RL 9 yX5_init cX5_init 1 none 0 := ⟨Or.inl (gw_at 82 (by decide +kernel) rfl), gw_at 84 (by decide +kernel) rfl, gw_at 70 (by decide +kernel) rfl, ⟨by decide, by decide, by decide +kernel⟩, by decide⟩
theorem mb_L_12 : MB RL 12 yX6_init cX6_init 1 none 0 := ⟨Or.inl (gw_at 723 (by decide +kernel) rfl), gw_at 725 (by decide +kernel) rfl, gw_at 75 (by decide +kernel) rfl, ⟨by decide, by decide, by decide +kernel⟩, by decide⟩
theorem mb_L_13 : MB RL 13 yX5_type cX5_type 2 (some .int) 1 := ⟨Or.inl (gw_at 223 (by decide +kernel) rfl), gw_at 226 (by decide +kernel) rfl, gw_at 70 (by decide +kernel) rfl, ⟨by decide, by decide, by decide +kernel⟩, by decide⟩
theorem mb_L_17 : MB RL 17 yX6_type cX6_type 2 (some .int) 1 := ⟨Or.inl (gw_at 818 (by decide +kernel) rfl), gw_at 821 (by decide +kernel) rfl, gw_at 75 (by decide +kernel) rfl, ⟨by decide, by decide, by decide +kernel⟩, by decide⟩
theorem mb_L_18 : MB RL 18 yX5_clear cX5_clear 1 (some .int) 0 := ⟨Or.inl (gw_at 234 (by decide +kernel) rfl), gw_at 237 (by decide +kernel) rfl, gw_at 70 (by decide +kernel) rfl, ⟨by decide, by decide, by decide +kernel⟩, by decide⟩
theorem mb_L_22 : MB RL 22 yX6_clear cX6_clear 2 (some .int) 0 := ⟨Or.inl (gw_at 825 (by decide +kernel) rfl), gw_at 828 (by decide +kernel) rfl, gw_at 75 (by decide +kernel) rfl, ⟨by decide, by decide, by decide +kernel⟩, by decide⟩
theorem mb_L_23 : MB RL 23 yX5_box cX5_box 3 (some .int) 0 := ⟨Or.inl (gw_at 242 (by decide +kernel) rfl), gw_at 245 (by decide +kernel) rfl, gw_at 70 (by decide +kernel) rfl, ⟨by decide, by decide, by decide +kernel⟩, by decide⟩
theorem mb_L_26 : MB RL 26 yX6_box cX6_box 3 (some .int) 0 := ⟨Or.inl (gw_at 829 (by decide +kernel) rfl), gw_at 832 (by decide +kernel) rfl, gw_at 75 (by decide +kernel) rfl, ⟨by decide, by decide, by decide +kernel⟩, by decide⟩
theorem mb_L_27 : MB RL 27 yX5_ring cX5_ring 2 (some .int) 1 := ⟨Or.inl (gw_at 332 (by decide +kernel) rfl), gw_at 335 (by decide +kernel) rfl, gw_at 70 (by decide +kernel) rfl, ⟨by decide, by decide, by decide +kernel⟩, by decide⟩
theorem mb_L_30 : MB RL 30 yX6_ring cX6_ring 2 (some .int) 1 := ⟨Or.inl (gw_at 865 (by decide +kernel) rfl), gw_at 868 (by decide +kernel) rfl, gw_at 75 (by decide +kernel) rfl, ⟨by decide, by decide, by decide +kernel⟩, by decide⟩
theorem mb_L_31 : MB RL 31 yX5_wheel cX5_wheel 4 (some .int) 3 := ⟨Or.inl (gw_at 345 (by decide +kernel) rfl), gw_at 348 (by decide +kernel) rfl, gw_at 70 (by decide +kernel) rfl, ⟨by decide, by decide, by decide +kernel⟩, by decide⟩
theorem mb_L_35 : MB RL 35 yX6_wheel cX6_wheel 4 (some .int) 3 := ⟨Or.inl (gw_at 873 (by decide +kernel) rfl), gw_at 876 (by decide +kernel) rfl, gw_at 75 (by decide +kernel) rfl, ⟨by decide, by decide, by decide +kernel⟩, by decide⟩
theorem mb_L_36 : MB RL 36 yX5_pen cX5_pen 3 (some .int) 2 := ⟨Or.inl (gw_at 387 (by decide +kernel) rfl), gw_at 390 (by decide +kernel) rfl, gw_at 70 (by decide +kernel) rfl, ⟨by decide, by decide, by decide +kernel⟩, by decide⟩
theorem mb_L_40 : MB RL 40 yX6_pen cX6_pen 3 (some .int) 2 := ⟨Or.inl (gw_at 904 (by decide +kernel) rfl), gw_at 907 (by decide +kernel) rfl, gw_at 75 (by decide +kernel) rfl, ⟨by decide, by decide, by decide +kernel⟩, by decide⟩
theorem mb_L_41 : MB RL 41 yX5_curve cX5_curve 4 (some .int) 2 := ⟨Or.inl (gw_at 431 (by decide +kernel) rfl), gw_at 434 (by decide +kernel) rfl, gw_at 70 (by decide +kernel) rfl, ⟨by decide, by decide, by decide +kernel⟩, by decide⟩
theorem mb_L_44 : MB RL 44 yX6_curve cX6_curve 3 (some .int) 2 := ⟨Or.inl (gw_at 935 (by decide +kernel) rfl), gw_at 938 (by decide +kernel) rfl, gw_at 75 (by decide +kernel) rfl, ⟨by decide, by decide, by decide +kernel⟩, by decide⟩
theorem mb_L_45 : MB RL 45 yX5_draws cX5_draws 8 (some .int) 5 := ⟨Or.inl (gw_at 439 (by decide +kernel) rfl), gw_at 442 (by decide +kernel) rfl, gw_at 70 (by decide +kernel) rfl, ⟨by decide, by decide, by decide +kernel⟩, by decide⟩
theorem mb_L_49 : MB RL 49 yX6_draws cX6_draws 7 (some .int) 5 := ⟨Or.inl (gw_at 947 (by decide +kernel) rfl), gw_at 950 (by decide +kernel) rfl, gw_at 75 (by decide +kernel) rfl, ⟨by decide, by decide, by decide +kernel⟩, by decide⟩
theorem mb_L_50 : MB RL 50 yX5_rubs cX5_rubs 2 (some .int) 1 := ⟨Or.inl (gw_at 515 (by decide +kernel) rfl), gw_at 518 (by decide +kernel) rfl, gw_at 70 (by decide +kernel) rfl, ⟨by decide, by decide, by decide +kernel⟩, by decide⟩
theorem mb_L_53 : MB RL 53 yX6_rubs cX6_rubs 3 (some .int) 1 := ⟨Or.inl (gw_at 959 (by decide +kernel) rfl), gw_at 962 (by decide +kernel) rfl, gw_at 75 (by decide +kernel) rfl, ⟨by decide, by decide, by decide +kernel⟩, by decide⟩
theorem mb_L_54 : MB RL 54 yX5_spins cX5_spins 2 (some .int) 1 := ⟨Or.inl (gw_at 526 (by decide +kernel) rfl), gw_at 529 (by decide +kernel) rfl, gw_at 70 (by decide +kernel) rfl, ⟨by decide, by decide, by decide +kernel⟩, by decide⟩
theorem mb_L_57 : MB RL 57 yX6_spins cX6_spins 2 (some .int) 1 := ⟨Or.inl (gw_at 963 (by decide +kernel) rfl), gw_at 966 (by decide +kernel) rfl, gw_at 75 (by decide +kernel) rfl, ⟨by decide, by decide, by decide +kernel⟩, by decide⟩
theorem mb_L_58 : MB RL 58 yX5_fills cX5_fills 3 (some .int) 2 := ⟨Or.inl (gw_at 535 (by decide +kernel) rfl), gw_at 538 (by decide +kernel) rfl, gw_at 70 (by decide +kernel) rfl, ⟨by decide, by decide, by decide +kernel⟩, by decide⟩
theorem mb_L_61 : MB RL 61 yX6_fills cX6_fills 3 (some .int) 2 := ⟨Or.inl (gw_at 967 (by decide +kernel) rfl), gw_at 970 (by decide +kernel) rfl, gw_at 75 (by decide +kernel) rfl, ⟨by decide, by decide, by decide +kernel⟩, by decide⟩
theorem mb_L_62 : MB RL 62 yX5_undo cX5_undo 2 (some .int) 0 := ⟨Or.inl (gw_at 544 (by decide +kernel) rfl), gw_at 547 (by decide +kernel) rfl, gw_at 70 (by decide +kernel) rfl, ⟨by decide, by decide, by decide +kernel⟩, by decide⟩
theorem mb_L_65 : MB RL 65 yX6_undo cX6_undo 1 (some .int) 0 := ⟨Or.inl (gw_at 971 (by decide +kernel) rfl), gw_at 974 (by decide +kernel) rfl, gw_at 75 (by decide +kernel) rfl, ⟨by decide, by decide, by decide +kernel⟩, by decide⟩
theorem mb_L_66 : MB RL 66 yX5_now cX5_now 2 (some .int) 1 := ⟨Or.inl (gw_at 548 (by decide +kernel) rfl), gw_at 551 (by decide +kernel) rfl, gw_at 70 (by decide +kernel) rfl, ⟨by decide, by decide, by decide +kernel⟩, by decide⟩
theorem mb_L_69 : MB RL 69 yX6_now cX6_now 2 (some .int) 1 := ⟨Or.inl (gw_at 979 (by decide +kernel) rfl), gw_at 982 (by decide +kernel) rfl, gw_at 75 (by decide +kernel) rfl, ⟨by decide, by decide, by decide +kernel⟩, by decide⟩
theorem mb_L_70 : MB RL 70 yX5_shown cX5_shown 4 (some .int) 2 := ⟨Or.inl (gw_at 570 (by decide +kernel) rfl), gw_at 573 (by decide +kernel) rfl, gw_at 70 (by decide +kernel) rfl, ⟨by decide, by decide, by decide +kernel⟩, by decide⟩
theorem mb_L_73 : MB RL 73 yX6_shown cX6_shown 3 (some .int) 2 := ⟨Or.inl (gw_at 995 (by decide +kernel) rfl), gw_at 998 (by decide +kernel) rfl, gw_at 75 (by decide +kernel) rfl, ⟨by decide, by decide, by decide +kernel⟩, by decide⟩
theorem mb_L_74 : MB RL 74 yX5_petals cX5_petals 4 (some .int) 2 := ⟨Or.inl (gw_at 578 (by decide +kernel) rfl), gw_at 581 (by decide +kernel) rfl, gw_at 70 (by decide +kernel) rfl, ⟨by decide, by decide, by decide +kernel⟩, by decide⟩
theorem mb_L_77 : MB RL 77 yX6_petals cX6_petals 4 (some .int) 2 := ⟨Or.inl (gw_at 999 (by decide +kernel) rfl), gw_at 1002 (by decide +kernel) rfl, gw_at 75 (by decide +kernel) rfl, ⟨by decide, by decide, by decide +kernel⟩, by decide⟩
theorem mb_L_78 : MB RL 78 yX5_closes cX5_closes 8 (some .int) 3 := ⟨Or.inl (gw_at 582 (by decide +kernel) rfl), gw_at 585 (by decide +kernel) rfl, gw_at 70 (by decide +kernel) rfl, ⟨by decide, by decide, by decide +kernel⟩, by decide⟩
theorem mb_L_81 : MB RL 81 yX6_closes cX6_closes 8 (some .int) 3 := ⟨Or.inl (gw_at 1003 (by decide +kernel) rfl), gw_at 1006 (by decide +kernel) rfl, gw_at 75 (by decide +kernel) rfl, ⟨by decide, by decide, by decide +kernel⟩, by decide⟩
theorem mb_L_82 : MB RL 82 yX5_best cX5_best 6 (some .int) 2 := ⟨Or.inl (gw_at 601 (by decide +kernel) rfl), gw_at 604 (by decide +kernel) rfl, gw_at 70 (by decide +kernel) rfl, ⟨by decide, by decide, by decide +kernel⟩, by decide⟩
theorem mb_L_85 : MB RL 85 yX6_best cX6_best 5 (some .int) 2 := ⟨Or.inl (gw_at 1020 (by decide +kernel) rfl), gw_at 1023 (by decide +kernel) rfl, gw_at 75 (by decide +kernel) rfl, ⟨by decide, by decide, by decide +kernel⟩, by decide⟩
theorem mb_L_86 : MB RL 86 yX5_meet cX5_meet 7 (some .int) 2 := ⟨Or.inl (gw_at 613 (by decide +kernel) rfl), gw_at 616 (by decide +kernel) rfl, gw_at 70 (by decide +kernel) rfl, ⟨by decide, by decide, by decide +kernel⟩, by decide⟩
theorem mb_L_89 : MB RL 89 yX6_meet cX6_meet 6 (some .int) 2 := ⟨Or.inl (gw_at 1028 (by decide +kernel) rfl), gw_at 1031 (by decide +kernel) rfl, gw_at 75 (by decide +kernel) rfl, ⟨by decide, by decide, by decide +kernel⟩, by decide⟩
theorem mb_L_90 : MB RL 90 yX5_odds cX5_odds 6 (some .int) 4 := ⟨Or.inl (gw_at 617 (by decide +kernel) rfl), gw_at 620 (by decide +kernel) rfl, gw_at 70 (by decide +kernel) rfl, ⟨by decide, by decide, by decide +kernel⟩, by decide⟩
theorem mb_L_94 : MB RL 94 yX6_odds cX6_odds 6 (some .int) 4 := ⟨Or.inl (gw_at 1032 (by decide +kernel) rfl), gw_at 1035 (by decide +kernel) rfl, gw_at 75 (by decide +kernel) rfl, ⟨by decide, by decide, by decide +kernel⟩, by decide⟩
theorem mb_L_95 : MB RL 95 yX5_sees cX5_sees 3 (some .int) 2 := ⟨Or.inl (gw_at 621 (by decide +kernel) rfl), gw_at 624 (by decide +kernel) rfl, gw_at 70 (by decide +kernel) rfl, ⟨by decide, by decide, by decide +kernel⟩, by decide⟩
theorem mb_L_98 : MB RL 98 yX6_sees cX6_sees 3 (some .int) 2 := ⟨Or.inl (gw_at 1036 (by decide +kernel) rfl), gw_at 1039 (by decide +kernel) rfl, gw_at 75 (by decide +kernel) rfl, ⟨by decide, by decide, by decide +kernel⟩, by decide⟩
theorem mb_L_99 : MB RL 99 yX5_forget cX5_forget 1 (some .int) 0 := ⟨Or.inl (gw_at 629 (by decide +kernel) rfl), gw_at 632 (by decide +kernel) rfl, gw_at 70 (by decide +kernel) rfl, ⟨by decide, by decide, by decide +kernel⟩, by decide⟩
theorem mb_L_102 : MB RL 102 yX6_forget cX6_forget 2 (some .int) 0 := ⟨Or.inl (gw_at 1040 (by decide +kernel) rfl), gw_at 1043 (by decide +kernel) rfl, gw_at 75 (by decide +kernel) rfl, ⟨by decide, by decide, by decide +kernel⟩, by decide⟩
theorem mb_L_103 : MB RL 103 yX5_guess cX5_guess 3 (some .int) 2 := ⟨Or.inl (gw_at 633 (by decide +kernel) rfl), gw_at 636 (by decide +kernel) rfl, gw_at 70 (by decide +kernel) rfl, ⟨by decide, by decide, by decide +kernel⟩, by decide⟩
theorem mb_L_106 : MB RL 106 yX6_guess cX6_guess 7 (some .int) 2 := ⟨Or.inl (gw_at 1044 (by decide +kernel) rfl), gw_at 1047 (by decide +kernel) rfl, gw_at 75 (by decide +kernel) rfl, ⟨by decide, by decide, by decide +kernel⟩, by decide⟩
theorem mb_L_107 : MB RL 107 yX5_look cX5_look 7 (some .int) 1 := ⟨Or.inl (gw_at 658 (by decide +kernel) rfl), gw_at 661 (by decide +kernel) rfl, gw_at 70 (by decide +kernel) rfl, ⟨by decide, by decide, by decide +kernel⟩, by decide⟩
theorem mb_L_110 : MB RL 110 yX6_look cX6_look 7 (some .int) 1 := ⟨Or.inl (gw_at 1052 (by decide +kernel) rfl), gw_at 1055 (by decide +kernel) rfl, gw_at 75 (by decide +kernel) rfl, ⟨by decide, by decide, by decide +kernel⟩, by decide⟩
theorem mb_L_111 : MB RL 111 yX5_mark cX5_mark 4 (some .int) 2 := ⟨Or.inl (gw_at 671 (by decide +kernel) rfl), gw_at 674 (by decide +kernel) rfl, gw_at 70 (by decide +kernel) rfl, ⟨by decide, by decide, by decide +kernel⟩, by decide⟩
theorem mb_L_114 : MB RL 114 yX6_mark cX6_mark 3 (some .int) 2 := ⟨Or.inl (gw_at 1056 (by decide +kernel) rfl), gw_at 1059 (by decide +kernel) rfl, gw_at 75 (by decide +kernel) rfl, ⟨by decide, by decide, by decide +kernel⟩, by decide⟩
theorem mb_L_115 : MB RL 115 yX5_keep cX5_keep 2 (some .int) 1 := ⟨Or.inl (gw_at 705 (by decide +kernel) rfl), gw_at 708 (by decide +kernel) rfl, gw_at 70 (by decide +kernel) rfl, ⟨by decide, by decide, by decide +kernel⟩, by decide⟩
theorem mb_L_118 : MB RL 118 yX6_keep cX6_keep 4 (some .int) 1 := ⟨Or.inl (gw_at 1070 (by decide +kernel) rfl), gw_at 1073 (by decide +kernel) rfl, gw_at 75 (by decide +kernel) rfl, ⟨by decide, by decide, by decide +kernel⟩, by decide⟩
theorem mb_L_119 : MB RL 119 yX5_back cX5_back 3 (some .int) 1 := ⟨Or.inl (gw_at 709 (by decide +kernel) rfl), gw_at 712 (by decide +kernel) rfl, gw_at 70 (by decide +kernel) rfl, ⟨by decide, by decide, by decide +kernel⟩, by decide⟩
theorem mb_L_122 : MB RL 122 yX6_back cX6_back 4 (some .int) 1 := ⟨Or.inl (gw_at 1074 (by decide +kernel) rfl), gw_at 1077 (by decide +kernel) rfl, gw_at 75 (by decide +kernel) rfl, ⟨by decide, by decide, by decide +kernel⟩, by decide⟩
theorem mb_L_123 : MB RL 123 yX5_count cX5_count 2 (some .int) 1 := ⟨Or.inl (gw_at 713 (by decide +kernel) rfl), gw_at 716 (by decide +kernel) rfl, gw_at 70 (by decide +kernel) rfl, ⟨by decide, by decide, by decide +kernel⟩, by decide⟩
theorem mb_L_126 : MB RL 126 yX6_count cX6_count 2 (some .int) 1 := ⟨Or.inl (gw_at 1078 (by decide +kernel) rfl), gw_at 1081 (by decide +kernel) rfl, gw_at 75 (by decide +kernel) rfl, ⟨by decide, by decide, by decide +kernel⟩, by decide⟩
theorem mb_L_127 : MB RL 127 yX5_trace cX5_trace 1 (some .long) 0 := ⟨Or.inl (gw_at 717 (by decide +kernel) rfl), gw_at 720 (by decide +kernel) rfl, gw_at 70 (by decide +kernel) rfl, ⟨by decide, by decide, by decide +kernel⟩, by decide⟩
theorem mb_L_131 : MB RL 131 yX6_trace cX6_trace 1 (some .long) 0 := ⟨Or.inl (gw_at 1082 (by decide +kernel) rfl), gw_at 1085 (by decide +kernel) rfl, gw_at 75 (by decide +kernel) rfl, ⟨by decide, by decide, by decide +kernel⟩, by decide⟩
theorem mb_X6_62 : MB RX6 62 yX6_in cX6_in 3 (some .boolean) 3 := ⟨Or.inl (gw_at 822 (by decide +kernel) rfl), gw_at 824 (by decide +kernel) rfl, gw_at 75 (by decide +kernel) rfl, ⟨by decide, by decide, by decide +kernel⟩, by decide⟩
theorem mb_X6_81 : MB RX6 81 yX6_here cX6_here 1 (some .int) 0 := ⟨Or.inl (gw_at 837 (by decide +kernel) rfl), gw_at 840 (by decide +kernel) rfl, gw_at 75 (by decide +kernel) rfl, ⟨by decide, by decide, by decide +kernel⟩, by decide⟩
theorem mb_X6_85 : MB RX6 85 yX6_skip cX6_skip 1 none 0 := ⟨Or.inl (gw_at 833 (by decide +kernel) rfl), gw_at 836 (by decide +kernel) rfl, gw_at 75 (by decide +kernel) rfl, ⟨by decide, by decide, by decide +kernel⟩, by decide⟩
theorem mb_X6_91 : MB RX6 91 yX6_number cX6_number 5 (some .boolean) 2 := ⟨Or.inl (gw_at 849 (by decide +kernel) rfl), gw_at 852 (by decide +kernel) rfl, gw_at 75 (by decide +kernel) rfl, ⟨by decide, by decide, by decide +kernel⟩, by decide⟩
theorem mb_X6_98 : MB RX6 98 yX6_ends cX6_ends 1 (some .boolean) 0 := ⟨Or.inl (gw_at 853 (by decide +kernel) rfl), gw_at 856 (by decide +kernel) rfl, gw_at 75 (by decide +kernel) rfl, ⟨by decide, by decide, by decide +kernel⟩, by decide⟩
theorem mb_X6_108 : MB RX6 108 yX6_readsRing cX6_readsRing 2 (some .boolean) 0 := ⟨Or.inl (gw_at 845 (by decide +kernel) rfl), gw_at 848 (by decide +kernel) rfl, gw_at 75 (by decide +kernel) rfl, ⟨by decide, by decide, by decide +kernel⟩, by decide⟩
theorem mb_X6_111 : MB RX6 111 yX6_readsWheel cX6_readsWheel 1 (some .boolean) 0 := ⟨Or.inl (gw_at 857 (by decide +kernel) rfl), gw_at 860 (by decide +kernel) rfl, gw_at 75 (by decide +kernel) rfl, ⟨by decide, by decide, by decide +kernel⟩, by decide⟩
theorem mb_X6_114 : MB RX6 114 yX6_readsPen cX6_readsPen 1 (some .boolean) 0 := ⟨Or.inl (gw_at 861 (by decide +kernel) rfl), gw_at 864 (by decide +kernel) rfl, gw_at 75 (by decide +kernel) rfl, ⟨by decide, by decide, by decide +kernel⟩, by decide⟩
theorem mb_X6_117 : MB RX6 117 yX6_readsItem cX6_readsItem 4 (some .boolean) 0 := ⟨Or.inl (gw_at 841 (by decide +kernel) rfl), gw_at 844 (by decide +kernel) rfl, gw_at 75 (by decide +kernel) rfl, ⟨by decide, by decide, by decide +kernel⟩, by decide⟩
theorem mb_X6_129 : MB RX6 129 yX6_common cX6_common 5 (some .int) 2 := ⟨Or.inl (gw_at 893 (by decide +kernel) rfl), gw_at 895 (by decide +kernel) rfl, gw_at 75 (by decide +kernel) rfl, ⟨by decide, by decide, by decide +kernel⟩, by decide⟩
theorem mb_X6_133 : MB RX6 133 yX6_commonOf cX6_commonOf 3 (some .int) 2 := ⟨Or.inl (gw_at 889 (by decide +kernel) rfl), gw_at 892 (by decide +kernel) rfl, gw_at 75 (by decide +kernel) rfl, ⟨by decide, by decide, by decide +kernel⟩, by decide⟩
theorem mb_X6_136 : MB RX6 136 yX6_roundsOf cX6_roundsOf 3 (some .int) 2 := ⟨Or.inl (gw_at 896 (by decide +kernel) rfl), gw_at 899 (by decide +kernel) rfl, gw_at 75 (by decide +kernel) rfl, ⟨by decide, by decide, by decide +kernel⟩, by decide⟩
theorem mb_X6_139 : MB RX6 139 yX6_isRing cX6_isRing 2 (some .boolean) 1 := ⟨Or.inl (gw_at 869 (by decide +kernel) rfl), gw_at 872 (by decide +kernel) rfl, gw_at 75 (by decide +kernel) rfl, ⟨by decide, by decide, by decide +kernel⟩, by decide⟩
theorem mb_X6_143 : MB RX6 143 yX6_isWheel cX6_isWheel 2 (some .boolean) 1 := ⟨Or.inl (gw_at 877 (by decide +kernel) rfl), gw_at 880 (by decide +kernel) rfl, gw_at 75 (by decide +kernel) rfl, ⟨by decide, by decide, by decide +kernel⟩, by decide⟩
theorem mb_X6_146 : MB RX6 146 yX6_fits cX6_fits 3 (some .boolean) 2 := ⟨Or.inl (gw_at 881 (by decide +kernel) rfl), gw_at 884 (by decide +kernel) rfl, gw_at 75 (by decide +kernel) rfl, ⟨by decide, by decide, by decide +kernel⟩, by decide⟩
theorem mb_X6_149 : MB RX6 149 yX6_petalsOf cX6_petalsOf 3 (some .int) 2 := ⟨Or.inl (gw_at 885 (by decide +kernel) rfl), gw_at 888 (by decide +kernel) rfl, gw_at 75 (by decide +kernel) rfl, ⟨by decide, by decide, by decide +kernel⟩, by decide⟩
theorem mb_X6_152 : MB RX6 152 yX6_longOf cX6_longOf 3 (some .int) 2 := ⟨Or.inl (gw_at 900 (by decide +kernel) rfl), gw_at 903 (by decide +kernel) rfl, gw_at 75 (by decide +kernel) rfl, ⟨by decide, by decide, by decide +kernel⟩, by decide⟩
theorem mb_X6_155 : MB RX6 155 yX6_toothAt cX6_toothAt 6 (some .int) 3 := ⟨Or.inl (gw_at 928 (by decide +kernel) rfl), gw_at 931 (by decide +kernel) rfl, gw_at 75 (by decide +kernel) rfl, ⟨by decide, by decide, by decide +kernel⟩, by decide⟩
theorem mb_X6_159 : MB RX6 159 yX6_isTip cX6_isTip 3 (some .boolean) 3 := ⟨Or.inl (gw_at 932 (by decide +kernel) rfl), gw_at 934 (by decide +kernel) rfl, gw_at 75 (by decide +kernel) rfl, ⟨by decide, by decide, by decide +kernel⟩, by decide⟩
theorem mb_X6_162 : MB RX6 162 yX6_hasTip cX6_hasTip 7 (some .boolean) 3 := ⟨Or.inl (gw_at 924 (by decide +kernel) rfl), gw_at 927 (by decide +kernel) rfl, gw_at 75 (by decide +kernel) rfl, ⟨by decide, by decide, by decide +kernel⟩, by decide⟩
theorem mb_X6_165 : MB RX6 165 yX6_shownAt cX6_shownAt 4 (some .int) 2 := ⟨Or.inl (gw_at 920 (by decide +kernel) rfl), gw_at 923 (by decide +kernel) rfl, gw_at 75 (by decide +kernel) rfl, ⟨by decide, by decide, by decide +kernel⟩, by decide⟩
theorem mb_X6_168 : MB RX6 168 yX6_penAt cX6_penAt 4 (some .int) 2 := ⟨Or.inl (gw_at 916 (by decide +kernel) rfl), gw_at 919 (by decide +kernel) rfl, gw_at 75 (by decide +kernel) rfl, ⟨by decide, by decide, by decide +kernel⟩, by decide⟩
theorem mb_X6_171 : MB RX6 171 yX6_isPen cX6_isPen 2 (some .boolean) 1 := ⟨Or.inl (gw_at 908 (by decide +kernel) rfl), gw_at 911 (by decide +kernel) rfl, gw_at 75 (by decide +kernel) rfl, ⟨by decide, by decide, by decide +kernel⟩, by decide⟩
theorem mb_X6_174 : MB RX6 174 yX6_penShown cX6_penShown 5 (some .int) 1 := ⟨Or.inl (gw_at 912 (by decide +kernel) rfl), gw_at 915 (by decide +kernel) rfl, gw_at 75 (by decide +kernel) rfl, ⟨by decide, by decide, by decide +kernel⟩, by decide⟩
theorem mb_X6_178 : MB RX6 178 yX6_isCurve cX6_isCurve 2 (some .boolean) 1 := ⟨Or.inl (gw_at 939 (by decide +kernel) rfl), gw_at 942 (by decide +kernel) rfl, gw_at 75 (by decide +kernel) rfl, ⟨by decide, by decide, by decide +kernel⟩, by decide⟩
theorem mb_X6_181 : MB RX6 181 yX6_curveShown cX6_curveShown 4 (some .int) 1 := ⟨Or.inl (gw_at 943 (by decide +kernel) rfl), gw_at 946 (by decide +kernel) rfl, gw_at 75 (by decide +kernel) rfl, ⟨by decide, by decide, by decide +kernel⟩, by decide⟩
theorem mb_X6_184 : MB RX6 184 yX6_lays cX6_lays 4 none 2 := ⟨Or.inl (gw_at 955 (by decide +kernel) rfl), gw_at 958 (by decide +kernel) rfl, gw_at 75 (by decide +kernel) rfl, ⟨by decide, by decide, by decide +kernel⟩, by decide⟩
theorem mb_X6_188 : MB RX6 188 yX6_notes cX6_notes 2 none 0 := ⟨Or.inl (gw_at 951 (by decide +kernel) rfl), gw_at 954 (by decide +kernel) rfl, gw_at 75 (by decide +kernel) rfl, ⟨by decide, by decide, by decide +kernel⟩, by decide⟩
theorem mb_X6_191 : MB RX6 191 yX6_takes cX6_takes 4 none 2 := ⟨Or.inl (gw_at 975 (by decide +kernel) rfl), gw_at 978 (by decide +kernel) rfl, gw_at 75 (by decide +kernel) rfl, ⟨by decide, by decide, by decide +kernel⟩, by decide⟩
theorem mb_X6_194 : MB RX6 194 yX6_isLike cX6_isLike 6 (some .boolean) 1 := ⟨Or.inl (gw_at 991 (by decide +kernel) rfl), gw_at 994 (by decide +kernel) rfl, gw_at 75 (by decide +kernel) rfl, ⟨by decide, by decide, by decide +kernel⟩, by decide⟩
theorem mb_X6_197 : MB RX6 197 yX6_shownMany cX6_shownMany 4 (some .int) 0 := ⟨Or.inl (gw_at 983 (by decide +kernel) rfl), gw_at 986 (by decide +kernel) rfl, gw_at 75 (by decide +kernel) rfl, ⟨by decide, by decide, by decide +kernel⟩, by decide⟩
theorem mb_X6_200 : MB RX6 200 yX6_like cX6_like 3 (some .int) 0 := ⟨Or.inl (gw_at 987 (by decide +kernel) rfl), gw_at 990 (by decide +kernel) rfl, gw_at 75 (by decide +kernel) rfl, ⟨by decide, by decide, by decide +kernel⟩, by decide⟩
theorem mb_X6_203 : MB RX6 203 yX6_pointOf cX6_pointOf 4 (some .int) 3 := ⟨Or.inl (gw_at 1007 (by decide +kernel) rfl), gw_at 1010 (by decide +kernel) rfl, gw_at 75 (by decide +kernel) rfl, ⟨by decide, by decide, by decide +kernel⟩, by decide⟩
theorem mb_X6_206 : MB RX6 206 yX6_openMany cX6_openMany 4 (some .int) 1 := ⟨Or.inl (gw_at 1011 (by decide +kernel) rfl), gw_at 1014 (by decide +kernel) rfl, gw_at 75 (by decide +kernel) rfl, ⟨by decide, by decide, by decide +kernel⟩, by decide⟩
theorem mb_X6_210 : MB RX6 210 yX6_openRests cX6_openRests 7 (some .int) 2 := ⟨Or.inl (gw_at 1016 (by decide +kernel) rfl), gw_at 1019 (by decide +kernel) rfl, gw_at 75 (by decide +kernel) rfl, ⟨by decide, by decide, by decide +kernel⟩, by decide⟩
theorem mb_X6_213 : MB RX6 213 yX6_comesTwo cX6_comesTwo 6 none 3 := ⟨Or.inl (gw_at 1024 (by decide +kernel) rfl), gw_at 1027 (by decide +kernel) rfl, gw_at 75 (by decide +kernel) rfl, ⟨by decide, by decide, by decide +kernel⟩, by decide⟩
theorem mb_X6_217 : MB RX6 217 yX6_isSo cX6_isSo 7 (some .boolean) 3 := ⟨Or.inl (gw_at 1048 (by decide +kernel) rfl), gw_at 1051 (by decide +kernel) rfl, gw_at 75 (by decide +kernel) rfl, ⟨by decide, by decide, by decide +kernel⟩, by decide⟩
theorem mb_X6_234 : MB RX6 234 yX6_marked cX6_marked 5 (some .int) 2 := ⟨Or.inl (gw_at 1060 (by decide +kernel) rfl), gw_at 1063 (by decide +kernel) rfl, gw_at 75 (by decide +kernel) rfl, ⟨by decide, by decide, by decide +kernel⟩, by decide⟩
theorem q_0 : Cond.selects yX4_readToken.cls yX4_readToken yX4_readToken ∈ gw := gw_at 0 (by decide +kernel) rfl
theorem q_1 : Cond.selects yX4_byteAt.cls yX4_byteAt yX4_byteAt ∈ gw := gw_at 1 (by decide +kernel) rfl
theorem q_2 : Cond.selects yX4_readLetters.cls yX4_readLetters yX4_readLetters ∈ gw := gw_at 2 (by decide +kernel) rfl
theorem q_3 : Cond.selects yX4_readNumber.cls yX4_readNumber yX4_readNumber ∈ gw := gw_at 3 (by decide +kernel) rfl
theorem q_4 : Cond.selects yX0_addsRing.cls yX0_addsRing yX0_addsRing ∈ gw := gw_at 4 (by decide +kernel) rfl
theorem q_5 : Cond.selects yX0_addsWheel.cls yX0_addsWheel yX0_addsWheel ∈ gw := gw_at 5 (by decide +kernel) rfl
theorem q_6 : Cond.selects yX0_addsPen.cls yX0_addsPen yX0_addsPen ∈ gw := gw_at 6 (by decide +kernel) rfl
theorem q_7 : Cond.selects yX5_startAnew.cls yX5_startAnew yX5_startAnew ∈ gw := gw_at 7 (by decide +kernel) rfl
theorem q_8 : Cond.selects yX5_pointsOfPen.cls yX5_pointsOfPen yX5_pointsOfPen ∈ gw := gw_at 8 (by decide +kernel) rfl
theorem q_9 : Cond.selects yX5_notePens.cls yX5_notePens yX5_notePens ∈ gw := gw_at 9 (by decide +kernel) rfl
theorem q_10 : Cond.selects yX5_noteShown.cls yX5_noteShown yX5_noteShown ∈ gw := gw_at 10 (by decide +kernel) rfl
theorem q_11 : Cond.selects yX5_pointsNoted.cls yX5_pointsNoted yX5_pointsNoted ∈ gw := gw_at 11 (by decide +kernel) rfl
theorem q_12 : Cond.selects yX5_tipsShown.cls yX5_tipsShown yX5_tipsShown ∈ gw := gw_at 12 (by decide +kernel) rfl
theorem q_13 : Cond.selects yX2_inkWith.cls yX2_inkWith yX2_inkWith ∈ gw := gw_at 13 (by decide +kernel) rfl
theorem q_14 : Cond.selects yX5_changeTo.cls yX5_changeTo yX5_changeTo ∈ gw := gw_at 14 (by decide +kernel) rfl
theorem q_15 : Cond.selects yX5_pointsShown.cls yX5_pointsShown yX5_pointsShown ∈ gw := gw_at 15 (by decide +kernel) rfl
theorem q_16 : Cond.selects yX5_like.cls yX5_like yX5_like ∈ gw := gw_at 16 (by decide +kernel) rfl
theorem q_17 : Cond.selects yX5_likeOfRow.cls yX5_likeOfRow yX5_likeOfRow ∈ gw := gw_at 17 (by decide +kernel) rfl
theorem q_18 : Cond.selects yX5_isSameTurned.cls yX5_isSameTurned yX5_isSameTurned ∈ gw := gw_at 18 (by decide +kernel) rfl
theorem q_19 : Cond.selects yX5_noteBareTeeth.cls yX5_noteBareTeeth yX5_noteBareTeeth ∈ gw := gw_at 19 (by decide +kernel) rfl
theorem q_20 : Cond.selects yX5_curvesNeeded.cls yX5_curvesNeeded yX5_curvesNeeded ∈ gw := gw_at 20 (by decide +kernel) rfl
theorem q_21 : Cond.selects yX5_isClassBare.cls yX5_isClassBare yX5_isClassBare ∈ gw := gw_at 21 (by decide +kernel) rfl
theorem q_22 : Cond.selects yX5_noteMostPetals.cls yX5_noteMostPetals yX5_noteMostPetals ∈ gw := gw_at 22 (by decide +kernel) rfl
theorem q_23 : Cond.selects yX5_addTwo.cls yX5_addTwo yX5_addTwo ∈ gw := gw_at 23 (by decide +kernel) rfl
theorem q_24 : Cond.selects yX5_guesses.cls yX5_guesses yX5_guesses ∈ gw := gw_at 24 (by decide +kernel) rfl
theorem q_25 : Cond.selects yX5_firstGuess.cls yX5_firstGuess yX5_firstGuess ∈ gw := gw_at 25 (by decide +kernel) rfl
theorem q_26 : Cond.selects yX5_noteGuessesByTooth.cls yX5_noteGuessesByTooth yX5_noteGuessesByTooth ∈ gw := gw_at 26 (by decide +kernel) rfl
theorem q_27 : Cond.selects yX5_addGuesses.cls yX5_addGuesses yX5_addGuesses ∈ gw := gw_at 27 (by decide +kernel) rfl
theorem q_28 : Cond.selects yX5_markOfCurve.cls yX5_markOfCurve yX5_markOfCurve ∈ gw := gw_at 28 (by decide +kernel) rfl
theorem q_29 : Cond.selects yX5_markOfRose.cls yX5_markOfRose yX5_markOfRose ∈ gw := gw_at 29 (by decide +kernel) rfl
theorem q_30 : Cond.selects yX5_markOfWeb.cls yX5_markOfWeb yX5_markOfWeb ∈ gw := gw_at 30 (by decide +kernel) rfl
theorem q_31 : Cond.selects yX5_markOfBouquet.cls yX5_markOfBouquet yX5_markOfBouquet ∈ gw := gw_at 31 (by decide +kernel) rfl
theorem q_32 : Cond.selects yX5_markOfLace.cls yX5_markOfLace yX5_markOfLace ∈ gw := gw_at 32 (by decide +kernel) rfl
theorem q_33 : Cond.selects yX5_markOfStar.cls yX5_markOfStar yX5_markOfStar ∈ gw := gw_at 33 (by decide +kernel) rfl
theorem q_34 : Cond.selects yX6_skip.cls yX6_skip yX6_skip ∈ gw := gw_at 34 (by decide +kernel) rfl
theorem q_35 : Cond.selects yX6_here.cls yX6_here yX6_here ∈ gw := gw_at 35 (by decide +kernel) rfl
theorem q_36 : Cond.selects yX6_readsItem.cls yX6_readsItem yX6_readsItem ∈ gw := gw_at 36 (by decide +kernel) rfl
theorem q_37 : Cond.selects yX6_readsRing.cls yX6_readsRing yX6_readsRing ∈ gw := gw_at 37 (by decide +kernel) rfl
theorem q_38 : Cond.selects yX6_number.cls yX6_number yX6_number ∈ gw := gw_at 38 (by decide +kernel) rfl
theorem q_39 : Cond.selects yX6_ends.cls yX6_ends yX6_ends ∈ gw := gw_at 39 (by decide +kernel) rfl
theorem q_40 : Cond.selects yX6_readsWheel.cls yX6_readsWheel yX6_readsWheel ∈ gw := gw_at 40 (by decide +kernel) rfl
theorem q_41 : Cond.selects yX6_readsPen.cls yX6_readsPen yX6_readsPen ∈ gw := gw_at 41 (by decide +kernel) rfl
theorem q_42 : Cond.selects yX6_isRing.cls yX6_isRing yX6_isRing ∈ gw := gw_at 42 (by decide +kernel) rfl
theorem q_43 : Cond.selects yX6_isWheel.cls yX6_isWheel yX6_isWheel ∈ gw := gw_at 43 (by decide +kernel) rfl
theorem q_44 : Cond.selects yX6_fits.cls yX6_fits yX6_fits ∈ gw := gw_at 44 (by decide +kernel) rfl
theorem q_45 : Cond.selects yX6_petalsOf.cls yX6_petalsOf yX6_petalsOf ∈ gw := gw_at 45 (by decide +kernel) rfl
theorem q_46 : Cond.selects yX6_commonOf.cls yX6_commonOf yX6_commonOf ∈ gw := gw_at 46 (by decide +kernel) rfl
theorem q_47 : Cond.selects yX6_roundsOf.cls yX6_roundsOf yX6_roundsOf ∈ gw := gw_at 47 (by decide +kernel) rfl
theorem q_48 : Cond.selects yX6_longOf.cls yX6_longOf yX6_longOf ∈ gw := gw_at 48 (by decide +kernel) rfl
theorem q_49 : Cond.selects yX6_isPen.cls yX6_isPen yX6_isPen ∈ gw := gw_at 49 (by decide +kernel) rfl
theorem q_50 : Cond.selects yX6_penShown.cls yX6_penShown yX6_penShown ∈ gw := gw_at 50 (by decide +kernel) rfl
theorem q_51 : Cond.selects yX6_penAt.cls yX6_penAt yX6_penAt ∈ gw := gw_at 51 (by decide +kernel) rfl
theorem q_52 : Cond.selects yX6_shownAt.cls yX6_shownAt yX6_shownAt ∈ gw := gw_at 52 (by decide +kernel) rfl
theorem q_53 : Cond.selects yX6_hasTip.cls yX6_hasTip yX6_hasTip ∈ gw := gw_at 53 (by decide +kernel) rfl
theorem q_54 : Cond.selects yX6_toothAt.cls yX6_toothAt yX6_toothAt ∈ gw := gw_at 54 (by decide +kernel) rfl
theorem q_55 : Cond.selects yX6_isCurve.cls yX6_isCurve yX6_isCurve ∈ gw := gw_at 55 (by decide +kernel) rfl
theorem q_56 : Cond.selects yX6_curveShown.cls yX6_curveShown yX6_curveShown ∈ gw := gw_at 56 (by decide +kernel) rfl
theorem q_57 : Cond.selects yX6_notes.cls yX6_notes yX6_notes ∈ gw := gw_at 57 (by decide +kernel) rfl
theorem q_58 : Cond.selects yX6_lays.cls yX6_lays yX6_lays ∈ gw := gw_at 58 (by decide +kernel) rfl
theorem q_59 : Cond.selects yX6_takes.cls yX6_takes yX6_takes ∈ gw := gw_at 59 (by decide +kernel) rfl
theorem q_60 : Cond.selects yX6_shownMany.cls yX6_shownMany yX6_shownMany ∈ gw := gw_at 60 (by decide +kernel) rfl
theorem q_61 : Cond.selects yX6_like.cls yX6_like yX6_like ∈ gw := gw_at 61 (by decide +kernel) rfl
theorem q_62 : Cond.selects yX6_isLike.cls yX6_isLike yX6_isLike ∈ gw := gw_at 62 (by decide +kernel) rfl
theorem q_63 : Cond.selects yX6_pointOf.cls yX6_pointOf yX6_pointOf ∈ gw := gw_at 63 (by decide +kernel) rfl
theorem q_64 : Cond.selects yX6_openMany.cls yX6_openMany yX6_openMany ∈ gw := gw_at 64 (by decide +kernel) rfl
theorem q_65 : Cond.selects yX6_openRests.cls yX6_openRests yX6_openRests ∈ gw := gw_at 65 (by decide +kernel) rfl
theorem q_66 : Cond.selects yX6_comesTwo.cls yX6_comesTwo yX6_comesTwo ∈ gw := gw_at 66 (by decide +kernel) rfl
theorem q_67 : Cond.selects yX6_isSo.cls yX6_isSo yX6_isSo ∈ gw := gw_at 67 (by decide +kernel) rfl
theorem q_68 : Cond.selects yX6_marked.cls yX6_marked yX6_marked ∈ gw := gw_at 68 (by decide +kernel) rfl
theorem q_76 : Cond.initialized "java/lang/Math" ∈ gw := gw_at 76 (by decide +kernel) rfl
theorem q_78 : Cond.initialized "java/lang/System" ∈ gw := gw_at 78 (by decide +kernel) rfl
theorem q_83 : Cond.instanceMethod yX5_init ∈ gw := gw_at 83 (by decide +kernel) rfl
theorem q_85 : Cond.methodLink RX5 1 Lib.objectInit ∈ gw := gw_at 85 (by decide +kernel) rfl
theorem q_86 : Cond.instanceMethod Lib.objectInit ∈ gw := gw_at 86 (by decide +kernel) rfl
theorem q_87 : Cond.code Lib.objectInit ⟨#[0xb1]⟩ 1 none ∈ gw := gw_at 87 (by decide +kernel) rfl
theorem q_91 : Cond.instanceMethod yX4_init ∈ gw := gw_at 91 (by decide +kernel) rfl
theorem q_93 : Cond.methodLink RX4 3 Lib.objectInit ∈ gw := gw_at 93 (by decide +kernel) rfl
theorem q_114 : Cond.arrayClass .int ∈ gw := gw_at 114 (by decide +kernel) rfl
theorem q_118 : Cond.instanceMethod yX3_init ∈ gw := gw_at 118 (by decide +kernel) rfl
theorem q_120 : Cond.methodLink RX3 3 Lib.objectInit ∈ gw := gw_at 120 (by decide +kernel) rfl
theorem q_132 : Cond.arrayClass .boolean ∈ gw := gw_at 132 (by decide +kernel) rfl
theorem q_136 : Cond.instanceMethod yX0_init ∈ gw := gw_at 136 (by decide +kernel) rfl
theorem q_138 : Cond.methodLink RX0 3 Lib.objectInit ∈ gw := gw_at 138 (by decide +kernel) rfl
theorem q_161 : Cond.classLink RX5 30 "PetalWheels$Paper" ∈ gw := gw_at 161 (by decide +kernel) rfl
theorem q_163 : Cond.classLink RX5 32 "PetalWheels$Curve" ∈ gw := gw_at 163 (by decide +kernel) rfl
theorem q_166 : Cond.instanceMethod yX2_init ∈ gw := gw_at 166 (by decide +kernel) rfl
theorem q_168 : Cond.methodLink RX2 3 Lib.objectInit ∈ gw := gw_at 168 (by decide +kernel) rfl
theorem q_224 : Cond.instanceMethod yX5_type ∈ gw := gw_at 224 (by decide +kernel) rfl
theorem q_225 : Cond.selects yX5_type.cls yX5_type yX5_type ∈ gw := gw_at 225 (by decide +kernel) rfl
theorem q_228 : Cond.static yX5_within ∈ gw := gw_at 228 (by decide +kernel) rfl
theorem q_231 : Cond.instanceMethod yX4_adds ∈ gw := gw_at 231 (by decide +kernel) rfl
theorem q_232 : Cond.selects yX4_adds.cls yX4_adds yX4_adds ∈ gw := gw_at 232 (by decide +kernel) rfl
theorem q_235 : Cond.instanceMethod yX5_clear ∈ gw := gw_at 235 (by decide +kernel) rfl
theorem q_236 : Cond.selects yX5_clear.cls yX5_clear yX5_clear ∈ gw := gw_at 236 (by decide +kernel) rfl
theorem q_239 : Cond.instanceMethod yX4_empties ∈ gw := gw_at 239 (by decide +kernel) rfl
theorem q_240 : Cond.selects yX4_empties.cls yX4_empties yX4_empties ∈ gw := gw_at 240 (by decide +kernel) rfl
theorem q_243 : Cond.instanceMethod yX5_box ∈ gw := gw_at 243 (by decide +kernel) rfl
theorem q_244 : Cond.selects yX5_box.cls yX5_box yX5_box ∈ gw := gw_at 244 (by decide +kernel) rfl
theorem q_247 : Cond.instanceMethod yX4_faultIn ∈ gw := gw_at 247 (by decide +kernel) rfl
theorem q_248 : Cond.selects yX4_faultIn.cls yX4_faultIn yX4_faultIn ∈ gw := gw_at 248 (by decide +kernel) rfl
theorem q_252 : Cond.instanceMethod yX4_readToken ∈ gw := gw_at 252 (by decide +kernel) rfl
theorem q_256 : Cond.instanceMethod yX4_byteAt ∈ gw := gw_at 256 (by decide +kernel) rfl
theorem q_259 : Cond.static yX4_isLetter ∈ gw := gw_at 259 (by decide +kernel) rfl
theorem q_263 : Cond.instanceMethod yX4_readLetters ∈ gw := gw_at 263 (by decide +kernel) rfl
theorem q_266 : Cond.static yX4_isDigit ∈ gw := gw_at 266 (by decide +kernel) rfl
theorem q_270 : Cond.instanceMethod yX4_readNumber ∈ gw := gw_at 270 (by decide +kernel) rfl
theorem q_272 : Cond.methodLink RX4 60 yJ9_min_7cf53 ∈ gw := gw_at 272 (by decide +kernel) rfl
theorem q_273 : Cond.static yJ9_min_7cf53 ∈ gw := gw_at 273 (by decide +kernel) rfl
theorem q_274 : Cond.code yJ9_min_7cf53 Lib.Math.min.code 2 (some .int) ∈ gw := gw_at 274 (by decide +kernel) rfl
theorem q_276 : Cond.instanceMethod yX0_hasRoomFor ∈ gw := gw_at 276 (by decide +kernel) rfl
theorem q_277 : Cond.selects yX0_hasRoomFor.cls yX0_hasRoomFor yX0_hasRoomFor ∈ gw := gw_at 277 (by decide +kernel) rfl
theorem q_280 : Cond.instanceMethod yX0_adds ∈ gw := gw_at 280 (by decide +kernel) rfl
theorem q_281 : Cond.selects yX0_adds.cls yX0_adds yX0_adds ∈ gw := gw_at 281 (by decide +kernel) rfl
theorem q_285 : Cond.instanceMethod yX0_addsRing ∈ gw := gw_at 285 (by decide +kernel) rfl
theorem q_289 : Cond.static yX5_rest ∈ gw := gw_at 289 (by decide +kernel) rfl
theorem q_292 : Cond.static yJ9_floorMod_7cf53 ∈ gw := gw_at 292 (by decide +kernel) rfl
theorem q_296 : Cond.instanceMethod yX0_addsWheel ∈ gw := gw_at 296 (by decide +kernel) rfl
theorem q_300 : Cond.instanceMethod yX0_addsPen ∈ gw := gw_at 300 (by decide +kernel) rfl
theorem q_304 : Cond.instanceMethod yX5_startAnew ∈ gw := gw_at 304 (by decide +kernel) rfl
theorem q_307 : Cond.instanceMethod yX0_inkTold ∈ gw := gw_at 307 (by decide +kernel) rfl
theorem q_308 : Cond.selects yX0_inkTold.cls yX0_inkTold yX0_inkTold ∈ gw := gw_at 308 (by decide +kernel) rfl
theorem q_311 : Cond.static yJ7_copyOf_59c91 ∈ gw := gw_at 311 (by decide +kernel) rfl
theorem q_313 : Cond.methodLink RJ7 316 ⟨"[I", "clone", "()Ljava/lang/Object;"⟩ ∈ gw := gw_at 313 (by decide +kernel) rfl
theorem q_314 : Cond.sameMethod "[I" "java/lang/Object" "clone" "()Ljava/lang/Object;" ∈ gw := gw_at 314 (by decide +kernel) rfl
theorem q_315 : Cond.native ⟨"java/lang/Object", "clone", "()Ljava/lang/Object;"⟩ ∈ gw := gw_at 315 (by decide +kernel) rfl
theorem q_316 : Cond.instanceMethod ⟨"java/lang/Object", "clone", "()Ljava/lang/Object;"⟩ ∈ gw := gw_at 316 (by decide +kernel) rfl
theorem q_317 : Cond.selects "[I" ⟨"[I", "clone", "()Ljava/lang/Object;"⟩ ⟨"java/lang/Object", "clone", "()Ljava/lang/Object;"⟩ ∈ gw := gw_at 317 (by decide +kernel) rfl
theorem q_319 : Cond.classLink RJ7 317 "[I" ∈ gw := gw_at 319 (by decide +kernel) rfl
theorem q_320 : Cond.methodLink RJ7 304 yJ9_min_7cf53 ∈ gw := gw_at 320 (by decide +kernel) rfl
theorem q_321 : Cond.methodLink RJ7 150 arraycopyName ∈ gw := gw_at 321 (by decide +kernel) rfl
theorem q_322 : Cond.static arraycopyName ∈ gw := gw_at 322 (by decide +kernel) rfl
theorem q_323 : Cond.native arraycopyName ∈ gw := gw_at 323 (by decide +kernel) rfl
theorem q_325 : Cond.instanceMethod yX3_empties ∈ gw := gw_at 325 (by decide +kernel) rfl
theorem q_326 : Cond.selects yX3_empties.cls yX3_empties yX3_empties ∈ gw := gw_at 326 (by decide +kernel) rfl
theorem q_329 : Cond.instanceMethod yX0_items ∈ gw := gw_at 329 (by decide +kernel) rfl
theorem q_330 : Cond.selects yX0_items.cls yX0_items yX0_items ∈ gw := gw_at 330 (by decide +kernel) rfl
theorem q_333 : Cond.instanceMethod yX5_ring ∈ gw := gw_at 333 (by decide +kernel) rfl
theorem q_334 : Cond.selects yX5_ring.cls yX5_ring yX5_ring ∈ gw := gw_at 334 (by decide +kernel) rfl
theorem q_337 : Cond.instanceMethod yX0_hasRing ∈ gw := gw_at 337 (by decide +kernel) rfl
theorem q_338 : Cond.selects yX0_hasRing.cls yX0_hasRing yX0_hasRing ∈ gw := gw_at 338 (by decide +kernel) rfl
theorem q_341 : Cond.instanceMethod yX0_teethOf ∈ gw := gw_at 341 (by decide +kernel) rfl
theorem q_342 : Cond.selects yX0_teethOf.cls yX0_teethOf yX0_teethOf ∈ gw := gw_at 342 (by decide +kernel) rfl
theorem q_346 : Cond.instanceMethod yX5_wheel ∈ gw := gw_at 346 (by decide +kernel) rfl
theorem q_347 : Cond.selects yX5_wheel.cls yX5_wheel yX5_wheel ∈ gw := gw_at 347 (by decide +kernel) rfl
theorem q_350 : Cond.instanceMethod yX0_hasWheel ∈ gw := gw_at 350 (by decide +kernel) rfl
theorem q_351 : Cond.selects yX0_hasWheel.cls yX0_hasWheel yX0_hasWheel ∈ gw := gw_at 351 (by decide +kernel) rfl
theorem q_354 : Cond.instanceMethod yX0_cogsOf ∈ gw := gw_at 354 (by decide +kernel) rfl
theorem q_355 : Cond.selects yX0_cogsOf.cls yX0_cogsOf yX0_cogsOf ∈ gw := gw_at 355 (by decide +kernel) rfl
theorem q_359 : Cond.instanceMethod yX0_fits ∈ gw := gw_at 359 (by decide +kernel) rfl
theorem q_360 : Cond.selects yX0_fits.cls yX0_fits yX0_fits ∈ gw := gw_at 360 (by decide +kernel) rfl
theorem q_365 : Cond.instanceMethod yX0_petalsOf ∈ gw := gw_at 365 (by decide +kernel) rfl
theorem q_366 : Cond.selects yX0_petalsOf.cls yX0_petalsOf yX0_petalsOf ∈ gw := gw_at 366 (by decide +kernel) rfl
theorem q_369 : Cond.instanceMethod yX0_divisorOf ∈ gw := gw_at 369 (by decide +kernel) rfl
theorem q_370 : Cond.selects yX0_divisorOf.cls yX0_divisorOf yX0_divisorOf ∈ gw := gw_at 370 (by decide +kernel) rfl
theorem q_373 : Cond.static yX5_greatestDivisor ∈ gw := gw_at 373 (by decide +kernel) rfl
theorem q_376 : Cond.static yX5_part ∈ gw := gw_at 376 (by decide +kernel) rfl
theorem q_379 : Cond.instanceMethod yX0_roundsOf ∈ gw := gw_at 379 (by decide +kernel) rfl
theorem q_380 : Cond.selects yX0_roundsOf.cls yX0_roundsOf yX0_roundsOf ∈ gw := gw_at 380 (by decide +kernel) rfl
theorem q_383 : Cond.instanceMethod yX0_longOf ∈ gw := gw_at 383 (by decide +kernel) rfl
theorem q_384 : Cond.selects yX0_longOf.cls yX0_longOf yX0_longOf ∈ gw := gw_at 384 (by decide +kernel) rfl
theorem q_388 : Cond.instanceMethod yX5_pen ∈ gw := gw_at 388 (by decide +kernel) rfl
theorem q_389 : Cond.selects yX5_pen.cls yX5_pen yX5_pen ∈ gw := gw_at 389 (by decide +kernel) rfl
theorem q_392 : Cond.instanceMethod yX0_hasPen ∈ gw := gw_at 392 (by decide +kernel) rfl
theorem q_393 : Cond.selects yX0_hasPen.cls yX0_hasPen yX0_hasPen ∈ gw := gw_at 393 (by decide +kernel) rfl
theorem q_396 : Cond.instanceMethod yX2_inkOf ∈ gw := gw_at 396 (by decide +kernel) rfl
theorem q_397 : Cond.selects yX2_inkOf.cls yX2_inkOf yX2_inkOf ∈ gw := gw_at 397 (by decide +kernel) rfl
theorem q_401 : Cond.instanceMethod yX5_pointsOfPen ∈ gw := gw_at 401 (by decide +kernel) rfl
theorem q_404 : Cond.instanceMethod yX2_hasCurveIn ∈ gw := gw_at 404 (by decide +kernel) rfl
theorem q_405 : Cond.selects yX2_hasCurveIn.cls yX2_hasCurveIn yX2_hasCurveIn ∈ gw := gw_at 405 (by decide +kernel) rfl
theorem q_409 : Cond.instanceMethod yX5_notePens ∈ gw := gw_at 409 (by decide +kernel) rfl
theorem q_413 : Cond.instanceMethod yX5_noteShown ∈ gw := gw_at 413 (by decide +kernel) rfl
theorem q_416 : Cond.static yJ7_fill_53178 ∈ gw := gw_at 416 (by decide +kernel) rfl
theorem q_419 : Cond.instanceMethod yX1_pointOf ∈ gw := gw_at 419 (by decide +kernel) rfl
theorem q_420 : Cond.selects yX1_pointOf.cls yX1_pointOf yX1_pointOf ∈ gw := gw_at 420 (by decide +kernel) rfl
theorem q_424 : Cond.instanceMethod yX2_curveAt ∈ gw := gw_at 424 (by decide +kernel) rfl
theorem q_425 : Cond.selects yX2_curveAt.cls yX2_curveAt yX2_curveAt ∈ gw := gw_at 425 (by decide +kernel) rfl
theorem q_429 : Cond.instanceMethod yX5_pointsNoted ∈ gw := gw_at 429 (by decide +kernel) rfl
theorem q_432 : Cond.instanceMethod yX5_curve ∈ gw := gw_at 432 (by decide +kernel) rfl
theorem q_433 : Cond.selects yX5_curve.cls yX5_curve yX5_curve ∈ gw := gw_at 433 (by decide +kernel) rfl
theorem q_437 : Cond.instanceMethod yX5_tipsShown ∈ gw := gw_at 437 (by decide +kernel) rfl
theorem q_440 : Cond.instanceMethod yX5_draws ∈ gw := gw_at 440 (by decide +kernel) rfl
theorem q_441 : Cond.selects yX5_draws.cls yX5_draws yX5_draws ∈ gw := gw_at 441 (by decide +kernel) rfl
theorem q_445 : Cond.instanceMethod yX1_init ∈ gw := gw_at 445 (by decide +kernel) rfl
theorem q_447 : Cond.methodLink RX1 3 Lib.objectInit ∈ gw := gw_at 447 (by decide +kernel) rfl
theorem q_452 : Cond.instanceMethod yX0_stepOf ∈ gw := gw_at 452 (by decide +kernel) rfl
theorem q_453 : Cond.selects yX0_stepOf.cls yX0_stepOf yX0_stepOf ∈ gw := gw_at 453 (by decide +kernel) rfl
theorem q_497 : Cond.instanceMethod yX2_drawn ∈ gw := gw_at 497 (by decide +kernel) rfl
theorem q_498 : Cond.selects yX2_drawn.cls yX2_drawn yX2_drawn ∈ gw := gw_at 498 (by decide +kernel) rfl
theorem q_500 : Cond.classLink RX2 28 "PetalWheels$Curve" ∈ gw := gw_at 500 (by decide +kernel) rfl
theorem q_505 : Cond.instanceMethod yX2_inkWith ∈ gw := gw_at 505 (by decide +kernel) rfl
theorem q_507 : Cond.methodLink RX2 58 ⟨"[I", "clone", "()Ljava/lang/Object;"⟩ ∈ gw := gw_at 507 (by decide +kernel) rfl
theorem q_508 : Cond.classLink RX2 59 "[I" ∈ gw := gw_at 508 (by decide +kernel) rfl
theorem q_512 : Cond.instanceMethod yX5_changeTo ∈ gw := gw_at 512 (by decide +kernel) rfl
theorem q_514 : Cond.methodLink RX5 218 yJ9_min_7cf53 ∈ gw := gw_at 514 (by decide +kernel) rfl
theorem q_516 : Cond.instanceMethod yX5_rubs ∈ gw := gw_at 516 (by decide +kernel) rfl
theorem q_517 : Cond.selects yX5_rubs.cls yX5_rubs yX5_rubs ∈ gw := gw_at 517 (by decide +kernel) rfl
theorem q_520 : Cond.instanceMethod yX2_rubbed ∈ gw := gw_at 520 (by decide +kernel) rfl
theorem q_521 : Cond.selects yX2_rubbed.cls yX2_rubbed yX2_rubbed ∈ gw := gw_at 521 (by decide +kernel) rfl
theorem q_523 : Cond.methodLink RX2 46 yJ9_max_7cf53 ∈ gw := gw_at 523 (by decide +kernel) rfl
theorem q_524 : Cond.static yJ9_max_7cf53 ∈ gw := gw_at 524 (by decide +kernel) rfl
theorem q_525 : Cond.code yJ9_max_7cf53 Lib.Math.max.code 2 (some .int) ∈ gw := gw_at 525 (by decide +kernel) rfl
theorem q_527 : Cond.instanceMethod yX5_spins ∈ gw := gw_at 527 (by decide +kernel) rfl
theorem q_528 : Cond.selects yX5_spins.cls yX5_spins yX5_spins ∈ gw := gw_at 528 (by decide +kernel) rfl
theorem q_531 : Cond.instanceMethod yX2_turned ∈ gw := gw_at 531 (by decide +kernel) rfl
theorem q_532 : Cond.selects yX2_turned.cls yX2_turned yX2_turned ∈ gw := gw_at 532 (by decide +kernel) rfl
theorem q_536 : Cond.instanceMethod yX5_fills ∈ gw := gw_at 536 (by decide +kernel) rfl
theorem q_537 : Cond.selects yX5_fills.cls yX5_fills yX5_fills ∈ gw := gw_at 537 (by decide +kernel) rfl
theorem q_540 : Cond.instanceMethod yX2_filled ∈ gw := gw_at 540 (by decide +kernel) rfl
theorem q_541 : Cond.selects yX2_filled.cls yX2_filled yX2_filled ∈ gw := gw_at 541 (by decide +kernel) rfl
theorem q_543 : Cond.methodLink RX2 55 yJ9_min_7cf53 ∈ gw := gw_at 543 (by decide +kernel) rfl
theorem q_545 : Cond.instanceMethod yX5_undo ∈ gw := gw_at 545 (by decide +kernel) rfl
theorem q_546 : Cond.selects yX5_undo.cls yX5_undo yX5_undo ∈ gw := gw_at 546 (by decide +kernel) rfl
theorem q_549 : Cond.instanceMethod yX5_now ∈ gw := gw_at 549 (by decide +kernel) rfl
theorem q_550 : Cond.selects yX5_now.cls yX5_now yX5_now ∈ gw := gw_at 550 (by decide +kernel) rfl
theorem q_554 : Cond.instanceMethod yX5_pointsShown ∈ gw := gw_at 554 (by decide +kernel) rfl
theorem q_558 : Cond.instanceMethod yX5_like ∈ gw := gw_at 558 (by decide +kernel) rfl
theorem q_562 : Cond.instanceMethod yX5_likeOfRow ∈ gw := gw_at 562 (by decide +kernel) rfl
theorem q_566 : Cond.instanceMethod yX5_isSameTurned ∈ gw := gw_at 566 (by decide +kernel) rfl
theorem q_571 : Cond.instanceMethod yX5_shown ∈ gw := gw_at 571 (by decide +kernel) rfl
theorem q_572 : Cond.selects yX5_shown.cls yX5_shown yX5_shown ∈ gw := gw_at 572 (by decide +kernel) rfl
theorem q_575 : Cond.instanceMethod yX1_hasTip ∈ gw := gw_at 575 (by decide +kernel) rfl
theorem q_576 : Cond.selects yX1_hasTip.cls yX1_hasTip yX1_hasTip ∈ gw := gw_at 576 (by decide +kernel) rfl
theorem q_579 : Cond.instanceMethod yX5_petals ∈ gw := gw_at 579 (by decide +kernel) rfl
theorem q_580 : Cond.selects yX5_petals.cls yX5_petals yX5_petals ∈ gw := gw_at 580 (by decide +kernel) rfl
theorem q_583 : Cond.instanceMethod yX5_closes ∈ gw := gw_at 583 (by decide +kernel) rfl
theorem q_584 : Cond.selects yX5_closes.cls yX5_closes yX5_closes ∈ gw := gw_at 584 (by decide +kernel) rfl
theorem q_588 : Cond.instanceMethod yX5_noteBareTeeth ∈ gw := gw_at 588 (by decide +kernel) rfl
theorem q_594 : Cond.instanceMethod yX5_curvesNeeded ∈ gw := gw_at 594 (by decide +kernel) rfl
theorem q_598 : Cond.instanceMethod yX5_isClassBare ∈ gw := gw_at 598 (by decide +kernel) rfl
theorem q_600 : Cond.methodLink RX5 213 yJ9_max_7cf53 ∈ gw := gw_at 600 (by decide +kernel) rfl
theorem q_602 : Cond.instanceMethod yX5_best ∈ gw := gw_at 602 (by decide +kernel) rfl
theorem q_603 : Cond.selects yX5_best.cls yX5_best yX5_best ∈ gw := gw_at 603 (by decide +kernel) rfl
theorem q_607 : Cond.instanceMethod yX5_noteMostPetals ∈ gw := gw_at 607 (by decide +kernel) rfl
theorem q_611 : Cond.instanceMethod yX5_addTwo ∈ gw := gw_at 611 (by decide +kernel) rfl
theorem q_614 : Cond.instanceMethod yX5_meet ∈ gw := gw_at 614 (by decide +kernel) rfl
theorem q_615 : Cond.selects yX5_meet.cls yX5_meet yX5_meet ∈ gw := gw_at 615 (by decide +kernel) rfl
theorem q_618 : Cond.instanceMethod yX5_odds ∈ gw := gw_at 618 (by decide +kernel) rfl
theorem q_619 : Cond.selects yX5_odds.cls yX5_odds yX5_odds ∈ gw := gw_at 619 (by decide +kernel) rfl
theorem q_622 : Cond.instanceMethod yX5_sees ∈ gw := gw_at 622 (by decide +kernel) rfl
theorem q_623 : Cond.selects yX5_sees.cls yX5_sees yX5_sees ∈ gw := gw_at 623 (by decide +kernel) rfl
theorem q_626 : Cond.instanceMethod yX3_adds ∈ gw := gw_at 626 (by decide +kernel) rfl
theorem q_627 : Cond.selects yX3_adds.cls yX3_adds yX3_adds ∈ gw := gw_at 627 (by decide +kernel) rfl
theorem q_630 : Cond.instanceMethod yX5_forget ∈ gw := gw_at 630 (by decide +kernel) rfl
theorem q_631 : Cond.selects yX5_forget.cls yX5_forget yX5_forget ∈ gw := gw_at 631 (by decide +kernel) rfl
theorem q_634 : Cond.instanceMethod yX5_guess ∈ gw := gw_at 634 (by decide +kernel) rfl
theorem q_635 : Cond.selects yX5_guess.cls yX5_guess yX5_guess ∈ gw := gw_at 635 (by decide +kernel) rfl
theorem q_639 : Cond.instanceMethod yX5_guesses ∈ gw := gw_at 639 (by decide +kernel) rfl
theorem q_642 : Cond.instanceMethod yX3_startsAgreeing ∈ gw := gw_at 642 (by decide +kernel) rfl
theorem q_643 : Cond.selects yX3_startsAgreeing.cls yX3_startsAgreeing yX3_startsAgreeing ∈ gw := gw_at 643 (by decide +kernel) rfl
theorem q_646 : Cond.instanceMethod yX3_agree ∈ gw := gw_at 646 (by decide +kernel) rfl
theorem q_647 : Cond.selects yX3_agree.cls yX3_agree yX3_agree ∈ gw := gw_at 647 (by decide +kernel) rfl
theorem q_652 : Cond.instanceMethod yX5_firstGuess ∈ gw := gw_at 652 (by decide +kernel) rfl
theorem q_655 : Cond.instanceMethod yX3_firstAgreeing ∈ gw := gw_at 655 (by decide +kernel) rfl
theorem q_656 : Cond.selects yX3_firstAgreeing.cls yX3_firstAgreeing yX3_firstAgreeing ∈ gw := gw_at 656 (by decide +kernel) rfl
theorem q_659 : Cond.instanceMethod yX5_look ∈ gw := gw_at 659 (by decide +kernel) rfl
theorem q_660 : Cond.selects yX5_look.cls yX5_look yX5_look ∈ gw := gw_at 660 (by decide +kernel) rfl
theorem q_664 : Cond.instanceMethod yX5_noteGuessesByTooth ∈ gw := gw_at 664 (by decide +kernel) rfl
theorem q_668 : Cond.instanceMethod yX5_addGuesses ∈ gw := gw_at 668 (by decide +kernel) rfl
theorem q_672 : Cond.instanceMethod yX5_mark ∈ gw := gw_at 672 (by decide +kernel) rfl
theorem q_673 : Cond.selects yX5_mark.cls yX5_mark yX5_mark ∈ gw := gw_at 673 (by decide +kernel) rfl
theorem q_675 : Cond.constant RX5 250 (-1000000) ∈ gw := gw_at 675 (by decide +kernel) rfl
theorem q_678 : Cond.instanceMethod yX5_markOfCurve ∈ gw := gw_at 678 (by decide +kernel) rfl
theorem q_682 : Cond.instanceMethod yX5_markOfRose ∈ gw := gw_at 682 (by decide +kernel) rfl
theorem q_684 : Cond.constantLong RX5 331 (10) ∈ gw := gw_at 684 (by decide +kernel) rfl
theorem q_687 : Cond.instanceMethod yX5_markOfWeb ∈ gw := gw_at 687 (by decide +kernel) rfl
theorem q_689 : Cond.constantLong RX5 333 (100) ∈ gw := gw_at 689 (by decide +kernel) rfl
theorem q_692 : Cond.instanceMethod yX5_markOfBouquet ∈ gw := gw_at 692 (by decide +kernel) rfl
theorem q_694 : Cond.constantLong RX5 338 (1000) ∈ gw := gw_at 694 (by decide +kernel) rfl
theorem q_697 : Cond.instanceMethod yX5_markOfLace ∈ gw := gw_at 697 (by decide +kernel) rfl
theorem q_699 : Cond.constantLong RX5 340 (10000) ∈ gw := gw_at 699 (by decide +kernel) rfl
theorem q_702 : Cond.instanceMethod yX5_markOfStar ∈ gw := gw_at 702 (by decide +kernel) rfl
theorem q_704 : Cond.constantLong RX5 342 (100000) ∈ gw := gw_at 704 (by decide +kernel) rfl
theorem q_706 : Cond.instanceMethod yX5_keep ∈ gw := gw_at 706 (by decide +kernel) rfl
theorem q_707 : Cond.selects yX5_keep.cls yX5_keep yX5_keep ∈ gw := gw_at 707 (by decide +kernel) rfl
theorem q_710 : Cond.instanceMethod yX5_back ∈ gw := gw_at 710 (by decide +kernel) rfl
theorem q_711 : Cond.selects yX5_back.cls yX5_back yX5_back ∈ gw := gw_at 711 (by decide +kernel) rfl
theorem q_714 : Cond.instanceMethod yX5_count ∈ gw := gw_at 714 (by decide +kernel) rfl
theorem q_715 : Cond.selects yX5_count.cls yX5_count yX5_count ∈ gw := gw_at 715 (by decide +kernel) rfl
theorem q_718 : Cond.instanceMethod yX5_trace ∈ gw := gw_at 718 (by decide +kernel) rfl
theorem q_719 : Cond.selects yX5_trace.cls yX5_trace yX5_trace ∈ gw := gw_at 719 (by decide +kernel) rfl
theorem q_724 : Cond.instanceMethod yX6_init ∈ gw := gw_at 724 (by decide +kernel) rfl
theorem q_726 : Cond.methodLink RX6 1 Lib.objectInit ∈ gw := gw_at 726 (by decide +kernel) rfl
theorem q_819 : Cond.instanceMethod yX6_type ∈ gw := gw_at 819 (by decide +kernel) rfl
theorem q_820 : Cond.selects yX6_type.cls yX6_type yX6_type ∈ gw := gw_at 820 (by decide +kernel) rfl
theorem q_823 : Cond.static yX6_in ∈ gw := gw_at 823 (by decide +kernel) rfl
theorem q_826 : Cond.instanceMethod yX6_clear ∈ gw := gw_at 826 (by decide +kernel) rfl
theorem q_827 : Cond.selects yX6_clear.cls yX6_clear yX6_clear ∈ gw := gw_at 827 (by decide +kernel) rfl
theorem q_830 : Cond.instanceMethod yX6_box ∈ gw := gw_at 830 (by decide +kernel) rfl
theorem q_831 : Cond.selects yX6_box.cls yX6_box yX6_box ∈ gw := gw_at 831 (by decide +kernel) rfl
theorem q_835 : Cond.instanceMethod yX6_skip ∈ gw := gw_at 835 (by decide +kernel) rfl
theorem q_839 : Cond.instanceMethod yX6_here ∈ gw := gw_at 839 (by decide +kernel) rfl
theorem q_843 : Cond.instanceMethod yX6_readsItem ∈ gw := gw_at 843 (by decide +kernel) rfl
theorem q_847 : Cond.instanceMethod yX6_readsRing ∈ gw := gw_at 847 (by decide +kernel) rfl
theorem q_851 : Cond.instanceMethod yX6_number ∈ gw := gw_at 851 (by decide +kernel) rfl
theorem q_855 : Cond.instanceMethod yX6_ends ∈ gw := gw_at 855 (by decide +kernel) rfl
theorem q_859 : Cond.instanceMethod yX6_readsWheel ∈ gw := gw_at 859 (by decide +kernel) rfl
theorem q_863 : Cond.instanceMethod yX6_readsPen ∈ gw := gw_at 863 (by decide +kernel) rfl
theorem q_866 : Cond.instanceMethod yX6_ring ∈ gw := gw_at 866 (by decide +kernel) rfl
theorem q_867 : Cond.selects yX6_ring.cls yX6_ring yX6_ring ∈ gw := gw_at 867 (by decide +kernel) rfl
theorem q_871 : Cond.instanceMethod yX6_isRing ∈ gw := gw_at 871 (by decide +kernel) rfl
theorem q_874 : Cond.instanceMethod yX6_wheel ∈ gw := gw_at 874 (by decide +kernel) rfl
theorem q_875 : Cond.selects yX6_wheel.cls yX6_wheel yX6_wheel ∈ gw := gw_at 875 (by decide +kernel) rfl
theorem q_879 : Cond.instanceMethod yX6_isWheel ∈ gw := gw_at 879 (by decide +kernel) rfl
theorem q_883 : Cond.instanceMethod yX6_fits ∈ gw := gw_at 883 (by decide +kernel) rfl
theorem q_887 : Cond.instanceMethod yX6_petalsOf ∈ gw := gw_at 887 (by decide +kernel) rfl
theorem q_891 : Cond.instanceMethod yX6_commonOf ∈ gw := gw_at 891 (by decide +kernel) rfl
theorem q_894 : Cond.static yX6_common ∈ gw := gw_at 894 (by decide +kernel) rfl
theorem q_898 : Cond.instanceMethod yX6_roundsOf ∈ gw := gw_at 898 (by decide +kernel) rfl
theorem q_902 : Cond.instanceMethod yX6_longOf ∈ gw := gw_at 902 (by decide +kernel) rfl
theorem q_905 : Cond.instanceMethod yX6_pen ∈ gw := gw_at 905 (by decide +kernel) rfl
theorem q_906 : Cond.selects yX6_pen.cls yX6_pen yX6_pen ∈ gw := gw_at 906 (by decide +kernel) rfl
theorem q_910 : Cond.instanceMethod yX6_isPen ∈ gw := gw_at 910 (by decide +kernel) rfl
theorem q_914 : Cond.instanceMethod yX6_penShown ∈ gw := gw_at 914 (by decide +kernel) rfl
theorem q_918 : Cond.instanceMethod yX6_penAt ∈ gw := gw_at 918 (by decide +kernel) rfl
theorem q_922 : Cond.instanceMethod yX6_shownAt ∈ gw := gw_at 922 (by decide +kernel) rfl
theorem q_926 : Cond.instanceMethod yX6_hasTip ∈ gw := gw_at 926 (by decide +kernel) rfl
theorem q_930 : Cond.instanceMethod yX6_toothAt ∈ gw := gw_at 930 (by decide +kernel) rfl
theorem q_933 : Cond.static yX6_isTip ∈ gw := gw_at 933 (by decide +kernel) rfl
theorem q_936 : Cond.instanceMethod yX6_curve ∈ gw := gw_at 936 (by decide +kernel) rfl
theorem q_937 : Cond.selects yX6_curve.cls yX6_curve yX6_curve ∈ gw := gw_at 937 (by decide +kernel) rfl
theorem q_941 : Cond.instanceMethod yX6_isCurve ∈ gw := gw_at 941 (by decide +kernel) rfl
theorem q_945 : Cond.instanceMethod yX6_curveShown ∈ gw := gw_at 945 (by decide +kernel) rfl
theorem q_948 : Cond.instanceMethod yX6_draws ∈ gw := gw_at 948 (by decide +kernel) rfl
theorem q_949 : Cond.selects yX6_draws.cls yX6_draws yX6_draws ∈ gw := gw_at 949 (by decide +kernel) rfl
theorem q_953 : Cond.instanceMethod yX6_notes ∈ gw := gw_at 953 (by decide +kernel) rfl
theorem q_957 : Cond.instanceMethod yX6_lays ∈ gw := gw_at 957 (by decide +kernel) rfl
theorem q_960 : Cond.instanceMethod yX6_rubs ∈ gw := gw_at 960 (by decide +kernel) rfl
theorem q_961 : Cond.selects yX6_rubs.cls yX6_rubs yX6_rubs ∈ gw := gw_at 961 (by decide +kernel) rfl
theorem q_964 : Cond.instanceMethod yX6_spins ∈ gw := gw_at 964 (by decide +kernel) rfl
theorem q_965 : Cond.selects yX6_spins.cls yX6_spins yX6_spins ∈ gw := gw_at 965 (by decide +kernel) rfl
theorem q_968 : Cond.instanceMethod yX6_fills ∈ gw := gw_at 968 (by decide +kernel) rfl
theorem q_969 : Cond.selects yX6_fills.cls yX6_fills yX6_fills ∈ gw := gw_at 969 (by decide +kernel) rfl
theorem q_972 : Cond.instanceMethod yX6_undo ∈ gw := gw_at 972 (by decide +kernel) rfl
theorem q_973 : Cond.selects yX6_undo.cls yX6_undo yX6_undo ∈ gw := gw_at 973 (by decide +kernel) rfl
theorem q_977 : Cond.instanceMethod yX6_takes ∈ gw := gw_at 977 (by decide +kernel) rfl
theorem q_980 : Cond.instanceMethod yX6_now ∈ gw := gw_at 980 (by decide +kernel) rfl
theorem q_981 : Cond.selects yX6_now.cls yX6_now yX6_now ∈ gw := gw_at 981 (by decide +kernel) rfl
theorem q_985 : Cond.instanceMethod yX6_shownMany ∈ gw := gw_at 985 (by decide +kernel) rfl
theorem q_989 : Cond.instanceMethod yX6_like ∈ gw := gw_at 989 (by decide +kernel) rfl
theorem q_993 : Cond.instanceMethod yX6_isLike ∈ gw := gw_at 993 (by decide +kernel) rfl
theorem q_996 : Cond.instanceMethod yX6_shown ∈ gw := gw_at 996 (by decide +kernel) rfl
theorem q_997 : Cond.selects yX6_shown.cls yX6_shown yX6_shown ∈ gw := gw_at 997 (by decide +kernel) rfl
theorem q_1000 : Cond.instanceMethod yX6_petals ∈ gw := gw_at 1000 (by decide +kernel) rfl
theorem q_1001 : Cond.selects yX6_petals.cls yX6_petals yX6_petals ∈ gw := gw_at 1001 (by decide +kernel) rfl
theorem q_1004 : Cond.instanceMethod yX6_closes ∈ gw := gw_at 1004 (by decide +kernel) rfl
theorem q_1005 : Cond.selects yX6_closes.cls yX6_closes yX6_closes ∈ gw := gw_at 1005 (by decide +kernel) rfl
theorem q_1009 : Cond.instanceMethod yX6_pointOf ∈ gw := gw_at 1009 (by decide +kernel) rfl
theorem q_1013 : Cond.instanceMethod yX6_openMany ∈ gw := gw_at 1013 (by decide +kernel) rfl
theorem q_1015 : Cond.constant RX6 209 (1048576) ∈ gw := gw_at 1015 (by decide +kernel) rfl
theorem q_1018 : Cond.instanceMethod yX6_openRests ∈ gw := gw_at 1018 (by decide +kernel) rfl
theorem q_1021 : Cond.instanceMethod yX6_best ∈ gw := gw_at 1021 (by decide +kernel) rfl
theorem q_1022 : Cond.selects yX6_best.cls yX6_best yX6_best ∈ gw := gw_at 1022 (by decide +kernel) rfl
theorem q_1026 : Cond.instanceMethod yX6_comesTwo ∈ gw := gw_at 1026 (by decide +kernel) rfl
theorem q_1029 : Cond.instanceMethod yX6_meet ∈ gw := gw_at 1029 (by decide +kernel) rfl
theorem q_1030 : Cond.selects yX6_meet.cls yX6_meet yX6_meet ∈ gw := gw_at 1030 (by decide +kernel) rfl
theorem q_1033 : Cond.instanceMethod yX6_odds ∈ gw := gw_at 1033 (by decide +kernel) rfl
theorem q_1034 : Cond.selects yX6_odds.cls yX6_odds yX6_odds ∈ gw := gw_at 1034 (by decide +kernel) rfl
theorem q_1037 : Cond.instanceMethod yX6_sees ∈ gw := gw_at 1037 (by decide +kernel) rfl
theorem q_1038 : Cond.selects yX6_sees.cls yX6_sees yX6_sees ∈ gw := gw_at 1038 (by decide +kernel) rfl
theorem q_1041 : Cond.instanceMethod yX6_forget ∈ gw := gw_at 1041 (by decide +kernel) rfl
theorem q_1042 : Cond.selects yX6_forget.cls yX6_forget yX6_forget ∈ gw := gw_at 1042 (by decide +kernel) rfl
theorem q_1045 : Cond.instanceMethod yX6_guess ∈ gw := gw_at 1045 (by decide +kernel) rfl
theorem q_1046 : Cond.selects yX6_guess.cls yX6_guess yX6_guess ∈ gw := gw_at 1046 (by decide +kernel) rfl
theorem q_1050 : Cond.instanceMethod yX6_isSo ∈ gw := gw_at 1050 (by decide +kernel) rfl
theorem q_1053 : Cond.instanceMethod yX6_look ∈ gw := gw_at 1053 (by decide +kernel) rfl
theorem q_1054 : Cond.selects yX6_look.cls yX6_look yX6_look ∈ gw := gw_at 1054 (by decide +kernel) rfl
theorem q_1057 : Cond.instanceMethod yX6_mark ∈ gw := gw_at 1057 (by decide +kernel) rfl
theorem q_1058 : Cond.selects yX6_mark.cls yX6_mark yX6_mark ∈ gw := gw_at 1058 (by decide +kernel) rfl
theorem q_1062 : Cond.instanceMethod yX6_marked ∈ gw := gw_at 1062 (by decide +kernel) rfl
theorem q_1064 : Cond.constantLong RX6 224 (10) ∈ gw := gw_at 1064 (by decide +kernel) rfl
theorem q_1065 : Cond.constantLong RX6 226 (100) ∈ gw := gw_at 1065 (by decide +kernel) rfl
theorem q_1066 : Cond.constantLong RX6 228 (1000) ∈ gw := gw_at 1066 (by decide +kernel) rfl
theorem q_1067 : Cond.constantLong RX6 230 (10000) ∈ gw := gw_at 1067 (by decide +kernel) rfl
theorem q_1068 : Cond.constantLong RX6 232 (100000) ∈ gw := gw_at 1068 (by decide +kernel) rfl
theorem q_1069 : Cond.constant RX6 237 (-1000000) ∈ gw := gw_at 1069 (by decide +kernel) rfl
theorem q_1071 : Cond.instanceMethod yX6_keep ∈ gw := gw_at 1071 (by decide +kernel) rfl
theorem q_1072 : Cond.selects yX6_keep.cls yX6_keep yX6_keep ∈ gw := gw_at 1072 (by decide +kernel) rfl
theorem q_1075 : Cond.instanceMethod yX6_back ∈ gw := gw_at 1075 (by decide +kernel) rfl
theorem q_1076 : Cond.selects yX6_back.cls yX6_back yX6_back ∈ gw := gw_at 1076 (by decide +kernel) rfl
theorem q_1079 : Cond.instanceMethod yX6_count ∈ gw := gw_at 1079 (by decide +kernel) rfl
theorem q_1080 : Cond.selects yX6_count.cls yX6_count yX6_count ∈ gw := gw_at 1080 (by decide +kernel) rfl
theorem q_1083 : Cond.instanceMethod yX6_trace ∈ gw := gw_at 1083 (by decide +kernel) rfl
theorem q_1084 : Cond.selects yX6_trace.cls yX6_trace yX6_trace ∈ gw := gw_at 1084 (by decide +kernel) rfl
end
section
theorem ic_cat (x : Int32) : (Value.int x).category = 1 := rfl
theorem ifs {c : Prop} [Decidable c] {α : Type} {a : Option α} {o : α} (h : (if c then a else none) = some o) : c ∧ a = some o := by
  by_cases hc : c
  · rw [if_pos hc] at h; exact ⟨hc, h⟩
  · rw [if_neg hc] at h; cases h
theorem ifn {c : Prop} [Decidable c] {α : Type} {a : Option α} {o : α} (h : (if c then none else a) = some o) : ¬ c ∧ a = some o := by
  by_cases hc : c
  · rw [if_pos hc] at h; cases h
  · rw [if_neg hc] at h; exact ⟨hc, h⟩
def fX4_init (N : Nat) (h : Hp) (sz : Nat) (l0 : Option Nat) : Option (Hp × Nat) :=
  if l0 = none then none else
  (pV (up h sz (oI 0 100 (fun _ => 0))) l0 4 0 (va_rf (some sz))).bind fun h9 =>
  (pV h9 l0 4 1 (.int (0 : Int32))).bind fun h14 =>
  (pV h14 l0 4 2 (.int (0 : Int32))).bind fun h19 =>
  (pV h19 l0 4 3 (.int (0 : Int32))).bind fun h24 =>
  (pV h24 l0 4 4 (.int (0 : Int32))).bind fun h29 =>
  (pV h29 l0 4 5 (.int (0 : Int32))).bind fun h34 =>
  some (h34, sz + 1)
def fX3_init (N : Nat) (h : Hp) (sz : Nat) (l0 : Option Nat) : Option (Hp × Nat) :=
  if l0 = none then none else
  (pV (up h sz (oI 0 6 (fun _ => 0))) l0 3 0 (va_rf (some sz))).bind fun h9 =>
  (pV (up h9 (sz + 1) (oI 1 6 (fun _ => 0))) l0 3 1 (va_rf (some (sz + 1)))).bind fun h17 =>
  (pV h17 l0 3 2 (.int (0 : Int32))).bind fun h22 =>
  some (h22, (sz + 1) + 1)
def fX0_init (N : Nat) (h : Hp) (sz : Nat) (l0 : Option Nat) : Option (Hp × Nat) :=
  if l0 = none then none else
  (pV (up h sz (oI 0 4 (fun _ => 0))) l0 0 0 (va_rf (some sz))).bind fun h8 =>
  (pV (up h8 (sz + 1) (oI 0 6 (fun _ => 0))) l0 0 1 (va_rf (some (sz + 1)))).bind fun h16 =>
  (pV (up h16 ((sz + 1) + 1) (oI 0 4 (fun _ => 0))) l0 0 2 (va_rf (some ((sz + 1) + 1)))).bind fun h23 =>
  (pV h23 l0 0 3 (.int (0 : Int32))).bind fun h28 =>
  (pV h28 l0 0 4 (.int (0 : Int32))).bind fun h33 =>
  (pV h33 l0 0 5 (.int (0 : Int32))).bind fun h38 =>
  some (h38, ((sz + 1) + 1) + 1)
def fX2_init (N : Nat) (h : Hp) (l0 : Option Nat) (l1 : Int32) (l2 : Option Nat) (l3 : Option Nat) (l4 : Option Nat) : Option (Hp) :=
  if l0 = none then none else
  (pV h l0 2 0 (.int l1)).bind fun h6 =>
  (pV h6 l0 2 1 (va_rf l2)).bind fun h11 =>
  (pV h11 l0 2 2 (va_rf l3)).bind fun h16 =>
  (pV h16 l0 2 3 (va_rf l4)).bind fun h22 =>
  some h22
def fX5_init (N : Nat) (h : Hp) (sz : Nat) (l0 : Option Nat) : Option (Hp × Nat) :=
  if l0 = none then none else
  (fX4_init N (up h sz (oO 4 [.null, .int 0, .int 0, .int 0, .int 0, .int 0])) (sz + 1) (some sz)).bind fun z9 =>
  (pV z9.1 l0 5 0 (va_rf (some sz))).bind fun h12 =>
  (fX3_init N (up h12 z9.2 (oO 3 [.null, .null, .int 0])) (z9.2 + 1) (some z9.2)).bind fun z20 =>
  (pV z20.1 l0 5 1 (va_rf (some z9.2))).bind fun h23 =>
  (fX0_init N (up h23 z20.2 (oO 0 [.null, .null, .null, .int 0, .int 0, .int 0])) (z20.2 + 1) (some z20.2)).bind fun z31 =>
  (pV z31.1 l0 5 2 (va_rf (some z20.2))).bind fun h34 =>
  (fX2_init N (up (up (up h34 z31.2 (oO 2 [.int 0, .null, .null, .null])) (z31.2 + 1) (oI 0 0 (fun _ => 0))) ((z31.2 + 1) + 1) (oA 2 0 (fun _ => none))) (some z31.2) (0 : Int32) (some (z31.2 + 1)) (some ((z31.2 + 1) + 1)) none).bind fun z51 =>
  (pV z51 l0 5 3 (va_rf (some z31.2))).bind fun h54 =>
  (pV h54 l0 5 4 (.int (0 : Int32))).bind fun h59 =>
  (pV (up h59 (((z31.2 + 1) + 1) + 1) (oA 3 2 (fun _ => none))) l0 5 5 (va_rf (some (((z31.2 + 1) + 1) + 1)))).bind fun h67 =>
  (pV (up h67 ((((z31.2 + 1) + 1) + 1) + 1) (oI 0 2 (fun _ => 0))) l0 5 6 (va_rf (some ((((z31.2 + 1) + 1) + 1) + 1)))).bind fun h74 =>
  (pV h74 l0 5 7 (.long (0 : Int64))).bind fun h79 =>
  (pV (up h79 (((((z31.2 + 1) + 1) + 1) + 1) + 1) (oI 0 360 (fun _ => 0))) l0 5 8 (va_rf (some (((((z31.2 + 1) + 1) + 1) + 1) + 1)))).bind fun h88 =>
  (pV (up h88 ((((((z31.2 + 1) + 1) + 1) + 1) + 1) + 1) (oI 0 120 (fun _ => 0))) l0 5 9 (va_rf (some ((((((z31.2 + 1) + 1) + 1) + 1) + 1) + 1)))).bind fun h96 =>
  (pV (up h96 (((((((z31.2 + 1) + 1) + 1) + 1) + 1) + 1) + 1) (oI 0 1000 (fun _ => 0))) l0 5 10 (va_rf (some (((((((z31.2 + 1) + 1) + 1) + 1) + 1) + 1) + 1)))).bind fun h105 =>
  (pV h105 l0 5 11 (.int (0 : Int32))).bind fun h110 =>
  some (h110, (((((((z31.2 + 1) + 1) + 1) + 1) + 1) + 1) + 1) + 1)
def fX6_init (N : Nat) (h : Hp) (sz : Nat) (l0 : Option Nat) : Option (Hp × Nat) :=
  if l0 = none then none else
  (pV (up h sz (oI 0 4 (fun _ => 0))) l0 6 3 (va_rf (some sz))).bind fun h8 =>
  (pV (up h8 (sz + 1) (oI 0 6 (fun _ => 0))) l0 6 4 (va_rf (some (sz + 1)))).bind fun h16 =>
  (pV (up h16 ((sz + 1) + 1) (oI 0 4 (fun _ => 0))) l0 6 7 (va_rf (some ((sz + 1) + 1)))).bind fun h23 =>
  (pV (up h23 (((sz + 1) + 1) + 1) (oI 0 72 (fun _ => 0))) l0 6 8 (va_rf (some (((sz + 1) + 1) + 1)))).bind fun h31 =>
  (pV (up h31 ((((sz + 1) + 1) + 1) + 1) (oI 0 6 (fun _ => 0))) l0 6 10 (va_rf (some ((((sz + 1) + 1) + 1) + 1)))).bind fun h39 =>
  (pV (up h39 (((((sz + 1) + 1) + 1) + 1) + 1) (oI 0 6 (fun _ => 0))) l0 6 11 (va_rf (some (((((sz + 1) + 1) + 1) + 1) + 1)))).bind fun h47 =>
  (pV (up h47 ((((((sz + 1) + 1) + 1) + 1) + 1) + 1) (oI 0 100 (fun _ => 0))) l0 6 13 (va_rf (some ((((((sz + 1) + 1) + 1) + 1) + 1) + 1)))).bind fun h55 =>
  (pV (up h55 (((((((sz + 1) + 1) + 1) + 1) + 1) + 1) + 1) (oI 0 4 (fun _ => 0))) l0 6 20 (va_rf (some (((((((sz + 1) + 1) + 1) + 1) + 1) + 1) + 1)))).bind fun h62 =>
  (pV (up h62 ((((((((sz + 1) + 1) + 1) + 1) + 1) + 1) + 1) + 1) (oI 0 6 (fun _ => 0))) l0 6 21 (va_rf (some ((((((((sz + 1) + 1) + 1) + 1) + 1) + 1) + 1) + 1)))).bind fun h70 =>
  (pV (up h70 (((((((((sz + 1) + 1) + 1) + 1) + 1) + 1) + 1) + 1) + 1) (oI 0 4 (fun _ => 0))) l0 6 22 (va_rf (some (((((((((sz + 1) + 1) + 1) + 1) + 1) + 1) + 1) + 1) + 1)))).bind fun h77 =>
  (pV (up h77 ((((((((((sz + 1) + 1) + 1) + 1) + 1) + 1) + 1) + 1) + 1) + 1) (oI 0 780 (fun _ => 0))) l0 6 23 (va_rf (some ((((((((((sz + 1) + 1) + 1) + 1) + 1) + 1) + 1) + 1) + 1) + 1)))).bind fun h86 =>
  (pV (up h86 (((((((((((sz + 1) + 1) + 1) + 1) + 1) + 1) + 1) + 1) + 1) + 1) + 1) (oI 0 3240 (fun _ => 0))) l0 6 25 (va_rf (some (((((((((((sz + 1) + 1) + 1) + 1) + 1) + 1) + 1) + 1) + 1) + 1) + 1)))).bind fun h95 =>
  (pV (up h95 ((((((((((((sz + 1) + 1) + 1) + 1) + 1) + 1) + 1) + 1) + 1) + 1) + 1) + 1) (oI 0 120 (fun _ => 0))) l0 6 26 (va_rf (some ((((((((((((sz + 1) + 1) + 1) + 1) + 1) + 1) + 1) + 1) + 1) + 1) + 1) + 1)))).bind fun h103 =>
  (pV (up h103 (((((((((((((sz + 1) + 1) + 1) + 1) + 1) + 1) + 1) + 1) + 1) + 1) + 1) + 1) + 1) (oI 0 1000 (fun _ => 0))) l0 6 27 (va_rf (some (((((((((((((sz + 1) + 1) + 1) + 1) + 1) + 1) + 1) + 1) + 1) + 1) + 1) + 1) + 1)))).bind fun h112 =>
  (pV (up h112 ((((((((((((((sz + 1) + 1) + 1) + 1) + 1) + 1) + 1) + 1) + 1) + 1) + 1) + 1) + 1) + 1) (oI 0 120 (fun _ => 0))) l0 6 28 (va_rf (some ((((((((((((((sz + 1) + 1) + 1) + 1) + 1) + 1) + 1) + 1) + 1) + 1) + 1) + 1) + 1) + 1)))).bind fun h120 =>
  (pV (up h120 (((((((((((((((sz + 1) + 1) + 1) + 1) + 1) + 1) + 1) + 1) + 1) + 1) + 1) + 1) + 1) + 1) + 1) (oI 0 1720 (fun _ => 0))) l0 6 29 (va_rf (some (((((((((((((((sz + 1) + 1) + 1) + 1) + 1) + 1) + 1) + 1) + 1) + 1) + 1) + 1) + 1) + 1) + 1)))).bind fun h129 =>
  some (h129, (((((((((((((((sz + 1) + 1) + 1) + 1) + 1) + 1) + 1) + 1) + 1) + 1) + 1) + 1) + 1) + 1) + 1) + 1)
def fX5_within (N : Nat) (h : Hp) (l0 : Int32) (l1 : Int32) (l2 : Int32) : Option (Int32) :=
  if l0 < l1 then
    some (0 : Int32)
  else
    if l2 < l0 then
      some (0 : Int32)
    else
      some (1 : Int32)
def fX4_adds (N : Nat) (h : Hp) (l0 : Option Nat) (l1 : Int32) : Option (Int32 × Hp) :=
  (gI h l0 4 1).bind fun v1 =>
  if v1 < (100 : Int32) then
    (gA h l0 4 0).bind fun v12 =>
    (gI h l0 4 1).bind fun v16 =>
    (wI h v12 0 v16 l1).bind fun h20 =>
    (gI h20 l0 4 1).bind fun v23 =>
    (pV h20 l0 4 1 (.int (v23 + (1 : Int32)))).bind fun h28 =>
    some ((1 : Int32), h28)
  else
    some ((0 : Int32), h)
def fX5_type (N : Nat) (h : Hp) (l0 : Option Nat) (l1 : Int32) : Option (Int32 × Hp) :=
  (fX5_within N h l1 (0 : Int32) (255 : Int32)).bind fun v5 =>
  if v5 = 0 then
    some ((-1 : Int32), h)
  else
    (gA h l0 5 0).bind fun v14 =>
    if isO h v14 4 = true then
    (fX4_adds N h v14 l1).bind fun z18 =>
      if z18.1 = 0 then
        some ((-3 : Int32), z18.2)
      else
        (gA z18.2 l0 5 0).bind fun v25 =>
        (gI z18.2 v25 4 1).bind fun v28 =>
        some (v28, z18.2)
    else none
def fX6_in (N : Nat) (h : Hp) (l0 : Int32) (l1 : Int32) (l2 : Int32) : Option (Int32) :=
  if l0 < l1 then
    some (0 : Int32)
  else
    if l2 < l0 then
      some (0 : Int32)
    else
      some (1 : Int32)
def fX6_type (N : Nat) (h : Hp) (l0 : Option Nat) (l1 : Int32) : Option (Int32 × Hp) :=
  (fX6_in N h l1 (0 : Int32) (255 : Int32)).bind fun v5 =>
  if v5 = 0 then
    some ((-1 : Int32), h)
  else
    (gI h l0 6 14).bind fun v14 =>
    if v14 = (100 : Int32) then
      some ((-3 : Int32), h)
    else
      (gA h l0 6 13).bind fun v26 =>
      (gI h l0 6 14).bind fun v30 =>
      (wI h v26 0 v30 l1).bind fun h34 =>
      (gI h34 l0 6 14).bind fun v37 =>
      (pV h34 l0 6 14 (.int (v37 + (1 : Int32)))).bind fun h42 =>
      (gI h42 l0 6 14).bind fun v46 =>
      some (v46, h42)
def fX4_empties (N : Nat) (h : Hp) (l0 : Option Nat) : Option (Int32 × Hp) :=
  (gI h l0 4 1).bind fun v1 =>
  (pV h l0 4 1 (.int (0 : Int32))).bind fun h7 =>
  some (v1, h7)
def fX5_clear (N : Nat) (h : Hp) (l0 : Option Nat) : Option (Int32 × Hp) :=
  (gA h l0 5 0).bind fun v1 =>
  if isO h v1 4 = true then
  (fX4_empties N h v1).bind fun z4 =>
    some (z4.1, z4.2)
  else none
def fX6_clear (N : Nat) (h : Hp) (l0 : Option Nat) : Option (Int32 × Hp) :=
  (gI h l0 6 14).bind fun v1 =>
  (pV h l0 6 14 (.int (0 : Int32))).bind fun h7 =>
  some (v1, h7)
def fX4_byteAt (N : Nat) (h : Hp) (l0 : Option Nat) (l1 : Int32) : Option (Int32) :=
  if l1 < 0 then
    some (0 : Int32)
  else
    (gI h l0 4 1).bind fun v6 =>
    if v6 ≤ l1 then
      some (0 : Int32)
    else
      (gA h l0 4 0).bind fun v13 =>
      (rI h v13 0 l1).bind fun v17 =>
      some v17
def fX4_isLetter (N : Nat) (h : Hp) (l0 : Int32) : Option (Int32) :=
  if l0 < (97 : Int32) then
    some (0 : Int32)
  else
    if (122 : Int32) < l0 then
      some (0 : Int32)
    else
      some (1 : Int32)
def fX4_readLetters_L0 {α : Type} (N : Nat) (K38 : Hp → Option Nat → Option α) : Nat → Hp → Option Nat → Option α
  | 0, _, _ => none
  | n + 1, h, l0 =>
    (gI h l0 4 3).bind fun v1 =>
    (gI h l0 4 1).bind fun v5 =>
    if v5 ≤ v1 then
      K38 h l0
    else
      (gI h l0 4 3).bind fun v13 =>
      if isO h l0 4 = true then
      (fX4_byteAt N h l0 v13).bind fun v16 =>
        (fX4_isLetter N h v16).bind fun v19 =>
        if v19 = 0 then
          K38 h l0
        else
          (gI h l0 4 3).bind fun v27 =>
          (pV h l0 4 3 (.int (v27 + (1 : Int32)))).bind fun h32 =>
          fX4_readLetters_L0 N K38 n h32 l0
      else none
def fX4_readLetters_j38 (N : Nat) (h : Hp) (l0 : Option Nat) : Option (Hp) :=
  (pV h l0 4 4 (.int (1 : Int32))).bind fun h40 =>
  (gI h40 l0 4 3).bind fun v45 =>
  (gI h40 l0 4 2).bind fun v49 =>
  if (v45 - v49) = (1 : Int32) then
    (gI h40 l0 4 2).bind fun v59 =>
    if isO h40 l0 4 = true then
    (fX4_byteAt N h40 l0 v59).bind fun v62 =>
      (pV h40 l0 4 5 (.int v62)).bind fun h69 =>
      some h69
    else none
  else
    (pV h40 l0 4 5 (.int (0 : Int32))).bind fun h69 =>
    some h69
def fX4_readLetters (N : Nat) (h : Hp) (l0 : Option Nat) : Option (Hp) :=
  fX4_readLetters_L0 N
    (fun h l0 =>
      fX4_readLetters_j38 N h l0)
    N h l0
def fX4_isDigit (N : Nat) (h : Hp) (l0 : Int32) : Option (Int32) :=
  if l0 < (48 : Int32) then
    some (0 : Int32)
  else
    if (57 : Int32) < l0 then
      some (0 : Int32)
    else
      some (1 : Int32)
def fX4_readNumber_L5 {α : Type} (N : Nat) (K72 : Hp → Option Nat → Option α) : Nat → Hp → Option Nat → Option α
  | 0, _, _ => none
  | n + 1, h, l0 =>
    (gI h l0 4 3).bind fun v6 =>
    (gI h l0 4 1).bind fun v10 =>
    if v10 ≤ v6 then
      K72 h l0
    else
      (gI h l0 4 3).bind fun v18 =>
      if isO h l0 4 = true then
      (fX4_byteAt N h l0 v18).bind fun v21 =>
        (fX4_isDigit N h v21).bind fun v24 =>
        if v24 = 0 then
          K72 h l0
        else
          (gI h l0 4 5).bind fun v34 =>
          (gI h l0 4 3).bind fun v40 =>
          if isO h l0 4 = true then
          (fX4_byteAt N h l0 v40).bind fun v43 =>
            (pV h l0 4 5 (.int (jmin ((((10 : Int32) * v34) + v43) - (48 : Int32)) (1000 : Int32)))).bind fun h56 =>
            (gI h56 l0 4 3).bind fun v61 =>
            (pV h56 l0 4 3 (.int (v61 + (1 : Int32)))).bind fun h66 =>
            fX4_readNumber_L5 N K72 n h66 l0
          else none
      else none
def fX4_readNumber_j103 (N : Nat) (h : Hp) (l0 : Option Nat) (s0 : Int32) : Option (Hp) :=
  if s0 = 0 then
    (gI h l0 4 5).bind fun v110 =>
    if v110 ≤ (999 : Int32) then
      (pV h l0 4 4 (.int (2 : Int32))).bind fun h124 =>
      some h124
    else
      (pV h l0 4 4 (.int (4 : Int32))).bind fun h124 =>
      some h124
  else
    (pV h l0 4 4 (.int (4 : Int32))).bind fun h124 =>
    some h124
def fX4_readNumber_j72 (N : Nat) (h : Hp) (l0 : Option Nat) : Option (Hp) :=
  (gI h l0 4 2).bind fun v74 =>
  if isO h l0 4 = true then
  (fX4_byteAt N h l0 v74).bind fun v77 =>
    if v77 = (48 : Int32) then
      (gI h l0 4 3).bind fun v86 =>
      (gI h l0 4 2).bind fun v90 =>
      if (v86 - v90) ≤ (1 : Int32) then
        fX4_readNumber_j103 N h l0 (0 : Int32)
      else
        fX4_readNumber_j103 N h l0 (1 : Int32)
    else
      fX4_readNumber_j103 N h l0 (0 : Int32)
  else none
def fX4_readNumber (N : Nat) (h : Hp) (l0 : Option Nat) : Option (Hp) :=
  (pV h l0 4 5 (.int (0 : Int32))).bind fun h2 =>
  fX4_readNumber_L5 N
    (fun h l0 =>
      fX4_readNumber_j72 N h l0)
    N h2 l0
def fX4_readToken_L0 {α : Type} (N : Nat) (K37 : Hp → Option Nat → Option α) : Nat → Hp → Option Nat → Option α
  | 0, _, _ => none
  | n + 1, h, l0 =>
    (gI h l0 4 3).bind fun v1 =>
    (gI h l0 4 1).bind fun v5 =>
    if v5 ≤ v1 then
      K37 h l0
    else
      (gI h l0 4 3).bind fun v13 =>
      if isO h l0 4 = true then
      (fX4_byteAt N h l0 v13).bind fun v16 =>
        if v16 = (32 : Int32) then
          (gI h l0 4 3).bind fun v26 =>
          (pV h l0 4 3 (.int (v26 + (1 : Int32)))).bind fun h31 =>
          fX4_readToken_L0 N K37 n h31 l0
        else
          K37 h l0
      else none
def fX4_readToken_j113 (N : Nat) (h : Hp) (l0 : Option Nat) (s0 : Int32) (s1 : Option Nat) : Option (Hp) :=
  (pV h s1 4 4 (.int s0)).bind fun h113 =>
  (gI h113 l0 4 3).bind fun v118 =>
  (pV h113 l0 4 3 (.int (v118 + (1 : Int32)))).bind fun h123 =>
  some h123
def fX4_readToken_j37 (N : Nat) (h : Hp) (l0 : Option Nat) : Option (Hp) :=
  (gI h l0 4 3).bind fun v39 =>
  (pV h l0 4 2 (.int v39)).bind fun h42 =>
  (gI h42 l0 4 2).bind fun v47 =>
  if isO h42 l0 4 = true then
  (fX4_byteAt N h42 l0 v47).bind fun v50 =>
    (gI h42 l0 4 2).bind fun v55 =>
    (gI h42 l0 4 1).bind fun v59 =>
    if v55 < v59 then
      (fX4_isLetter N h42 v50).bind fun v74 =>
      if v74 = 0 then
        (fX4_isDigit N h42 v50).bind fun v88 =>
        if v88 = 0 then
          if v50 = (59 : Int32) then
            fX4_readToken_j113 N h42 l0 (3 : Int32) l0
          else
            fX4_readToken_j113 N h42 l0 (4 : Int32) l0
        else
          if isO h42 l0 4 = true then
          (fX4_readNumber N h42 l0).bind fun z95 =>
            some z95
          else none
      else
        if isO h42 l0 4 = true then
        (fX4_readLetters N h42 l0).bind fun z81 =>
          some z81
        else none
    else
      (pV h42 l0 4 4 (.int (0 : Int32))).bind fun h67 =>
      some h67
  else none
def fX4_readToken (N : Nat) (h : Hp) (l0 : Option Nat) : Option (Hp) :=
  fX4_readToken_L0 N
    (fun h l0 =>
      fX4_readToken_j37 N h l0)
    N h l0
def fX0_hasRoomFor (N : Nat) (h : Hp) (l0 : Option Nat) (l1 : Int32) : Option (Int32) :=
  if l1 = 112 then
    (gI h l0 0 5).bind fun v66 =>
    if (4 : Int32) ≤ v66 then
      some (0 : Int32)
    else
      some (1 : Int32)
  else
  if l1 = 114 then
    (gI h l0 0 3).bind fun v37 =>
    if (4 : Int32) ≤ v37 then
      some (0 : Int32)
    else
      some (1 : Int32)
  else
  if l1 = 119 then
    (gI h l0 0 4).bind fun v51 =>
    if (6 : Int32) ≤ v51 then
      some (0 : Int32)
    else
      some (1 : Int32)
  else
    some (0 : Int32)
def fJ9_floorMod_7cf53 (N : Nat) (h : Hp) (l0 : Int32) (l1 : Int32) : Option (Int32) :=
  if l1 = 0 then none else
  if 0 ≤ (l0 ^^^ l1) then
    some (jrem l0 l1)
  else
    if (jrem l0 l1) = 0 then
      some (jrem l0 l1)
    else
      some ((jrem l0 l1) + l1)
def fX5_rest (N : Nat) (h : Hp) (l0 : Int32) (l1 : Int32) : Option (Int32) :=
  if 0 < l1 then
    (fJ9_floorMod_7cf53 N h l0 l1).bind fun v10 =>
    some v10
  else
    some (0 : Int32)
def fX0_addsRing (N : Nat) (h : Hp) (l0 : Option Nat) (l1 : Int32) : Option (Int32 × Hp) :=
  (gI h l0 0 3).bind fun v1 =>
  if (4 : Int32) ≤ v1 then
    some ((0 : Int32), h)
  else
    (fX5_within N h l1 (12 : Int32) (120 : Int32)).bind fun v13 =>
    if v13 = 0 then
      some ((0 : Int32), h)
    else
      (fX5_rest N h (360 : Int32) l1).bind fun v23 =>
      if v23 = 0 then
        (gA h l0 0 0).bind fun v32 =>
        (gI h l0 0 3).bind fun v36 =>
        (wI h v32 0 v36 l1).bind fun h40 =>
        (gI h40 l0 0 3).bind fun v43 =>
        (pV h40 l0 0 3 (.int (v43 + (1 : Int32)))).bind fun h48 =>
        some ((1 : Int32), h48)
      else
        some ((0 : Int32), h)
def fX0_addsWheel (N : Nat) (h : Hp) (l0 : Option Nat) (l1 : Int32) : Option (Int32 × Hp) :=
  (gI h l0 0 4).bind fun v1 =>
  if (6 : Int32) ≤ v1 then
    some ((0 : Int32), h)
  else
    (fX5_within N h l1 (3 : Int32) (99 : Int32)).bind fun v13 =>
    if v13 = 0 then
      some ((0 : Int32), h)
    else
      (gA h l0 0 1).bind fun v22 =>
      (gI h l0 0 4).bind fun v26 =>
      (wI h v22 0 v26 l1).bind fun h30 =>
      (gI h30 l0 0 4).bind fun v33 =>
      (pV h30 l0 0 4 (.int (v33 + (1 : Int32)))).bind fun h38 =>
      some ((1 : Int32), h38)
def fX0_addsPen (N : Nat) (h : Hp) (l0 : Option Nat) (l1 : Int32) : Option (Int32 × Hp) :=
  (gI h l0 0 5).bind fun v1 =>
  if (4 : Int32) ≤ v1 then
    some ((0 : Int32), h)
  else
    (fX5_within N h l1 (0 : Int32) (999 : Int32)).bind fun v13 =>
    if v13 = 0 then
      some ((0 : Int32), h)
    else
      (gA h l0 0 2).bind fun v22 =>
      (gI h l0 0 5).bind fun v26 =>
      (wI h v22 0 v26 l1).bind fun h30 =>
      (gI h30 l0 0 5).bind fun v33 =>
      (pV h30 l0 0 5 (.int (v33 + (1 : Int32)))).bind fun h38 =>
      some ((1 : Int32), h38)
def fX0_adds (N : Nat) (h : Hp) (l0 : Option Nat) (l1 : Int32) (l2 : Int32) : Option (Int32 × Hp) :=
  if l1 = 112 then
    if isO h l0 0 = true then
    (fX0_addsPen N h l0 l2).bind fun z50 =>
      if z50.1 = 0 ∨ z50.1 = 1 then some (z50.1, z50.2) else none
    else none
  else
  if l1 = 114 then
    if isO h l0 0 = true then
    (fX0_addsRing N h l0 l2).bind fun z38 =>
      if z38.1 = 0 ∨ z38.1 = 1 then some (z38.1, z38.2) else none
    else none
  else
  if l1 = 119 then
    if isO h l0 0 = true then
    (fX0_addsWheel N h l0 l2).bind fun z44 =>
      if z44.1 = 0 ∨ z44.1 = 1 then some (z44.1, z44.2) else none
    else none
  else
    some ((0 : Int32), h)
def fX4_faultIn_L11 {α : Type} (N : Nat) (K45 : Hp → Option Nat → Option α) (K74 : Hp → Option Nat → Option α) (K91 : Hp → Option Nat → Option α) (K106 : Hp → Option α) : Nat → Hp → Option Nat → Option Nat → Int32 → Option α
  | 0, _, _, _, _ => none
  | n + 1, h, l0, l1, l2 =>
    if (100 : Int32) < l2 then
      K106 h
    else
      (gI h l0 4 4).bind fun v18 =>
      if v18 = 0 then
        K106 h
      else
        (gI h l0 4 5).bind fun v25 =>
        (gI h l0 4 4).bind fun v30 =>
        if v30 = (1 : Int32) then
          if isO h l1 0 = true then
          (fX0_hasRoomFor N h l1 v25).bind fun v39 =>
            if v39 = 0 then
              K45 h l0
            else
              if isO h l0 4 = true then
              (fX4_readToken N h l0).bind fun z51 =>
                (gI z51 l0 4 4).bind fun v55 =>
                if v55 = (2 : Int32) then
                  (gI z51 l0 4 5).bind fun v65 =>
                  if isO z51 l1 0 = true then
                  (fX0_adds N z51 l1 v25 v65).bind fun z68 =>
                    if z68.1 = 0 then
                      K74 z68.2 l0
                    else
                      if isO z68.2 l0 4 = true then
                      (fX4_readToken N z68.2 l0).bind fun z80 =>
                        (gI z80 l0 4 4).bind fun v84 =>
                        if v84 = (3 : Int32) then
                          if isO z80 l0 4 = true then
                          (fX4_readToken N z80 l0).bind fun z97 =>
                            fX4_faultIn_L11 N K45 K74 K91 K106 n z97 l0 l1 (l2 + 1)
                          else none
                        else
                          K91 z80 l0
                      else none
                  else none
                else
                  K74 z51 l0
              else none
          else none
        else
          K45 h l0
def fX4_faultIn (N : Nat) (h : Hp) (l0 : Option Nat) (l1 : Option Nat) : Option (Int32 × Hp) :=
  (pV h l0 4 3 (.int (0 : Int32))).bind fun h2 =>
  if isO h2 l0 4 = true then
  (fX4_readToken N h2 l0).bind fun z6 =>
    fX4_faultIn_L11 N
      (fun h l0 =>
        (gI h l0 4 2).bind fun v46 =>
        some (v46, h))
      (fun h l0 =>
        (gI h l0 4 2).bind fun v75 =>
        some (v75, h))
      (fun h l0 =>
        (gI h l0 4 2).bind fun v92 =>
        some (v92, h))
      (fun h =>
        some ((-1 : Int32), h))
      N z6 l0 l1 (0 : Int32)
  else none
def fJ7_copyOf_59c91 (N : Nat) (h : Hp) (sz : Nat) (l0 : Option Nat) (l1 : Int32) : Option (Option Nat × Hp × Nat) :=
  (aL h l0).bind fun v2 =>
  if l1 = v2 then
    (clI h sz l0).bind fun h7 =>
    if isI h7 (some sz) = true then
      some (some sz, h7, sz + 1)
    else none
  else
    if ¬ l1 < 0 ∧ l1.toNatClampNeg ≤ 16 then
      (aL (up h sz (oI 0 l1.toNatClampNeg (fun _ => 0))) l0).bind fun v23 =>
      (cpI (up h sz (oI 0 l1.toNatClampNeg (fun _ => 0))) l0 (0 : Int32) (some sz) (0 : Int32) (jmin v23 l1)).bind fun h28 =>
      some (some sz, h28, sz + 1)
    else none
def fX0_inkTold (N : Nat) (h : Hp) (sz : Nat) (l0 : Option Nat) : Option (Option Nat × Hp × Nat) :=
  (gA h l0 0 2).bind fun v1 =>
  (gI h l0 0 5).bind fun v5 =>
  (fJ7_copyOf_59c91 N h sz v1 v5).bind fun z8 =>
  some (z8.1, z8.2.1, z8.2.2)
def fX3_empties (N : Nat) (h : Hp) (l0 : Option Nat) : Option (Int32 × Hp) :=
  (gI h l0 3 2).bind fun v1 =>
  (pV h l0 3 2 (.int (0 : Int32))).bind fun h7 =>
  some (v1, h7)
def fX5_startAnew_L46 {α : Type} (N : Nat) (K71 : Hp → Nat → Option α) : Nat → Hp → Nat → Option Nat → Int32 → Option α
  | 0, _, _, _, _ => none
  | n + 1, h, sz, l0, l2 =>
    if (2 : Int32) ≤ l2 then
      K71 h sz
    else
      (gA h l0 5 5).bind fun v52 =>
      (wA h v52 3 l2 none).bind fun h57 =>
      (gA h57 l0 5 6).bind fun v59 =>
      (wI h57 v59 0 l2 (0 : Int32)).bind fun h64 =>
      fX5_startAnew_L46 N K71 n h64 sz l0 (l2 + 1)
def fX5_startAnew (N : Nat) (h : Hp) (sz : Nat) (l0 : Option Nat) (l1 : Option Nat) : Option (Hp × Nat) :=
  (pV h l0 5 2 (va_rf l1)).bind fun h2 =>
  if isO (up h2 sz (oO 2 [.int 0, .null, .null, .null])) l1 0 = true then
  (fX0_inkTold N (up h2 sz (oO 2 [.int 0, .null, .null, .null])) (sz + 1) l1).bind fun z12 =>
    (fX2_init N (up z12.2.1 z12.2.2 (oA 2 0 (fun _ => none))) (some sz) (0 : Int32) z12.1 (some z12.2.2) none).bind fun z20 =>
    (pV z20 l0 5 3 (va_rf (some sz))).bind fun h23 =>
    (pV h23 l0 5 4 (.int (0 : Int32))).bind fun h28 =>
    (pV h28 l0 5 11 (.int (0 : Int32))).bind fun h33 =>
    (gA h33 l0 5 1).bind fun v37 =>
    if isO h33 v37 3 = true then
    (fX3_empties N h33 v37).bind fun z40 =>
      fX5_startAnew_L46 N
        (fun h sz =>
          some (h, sz))
        N z40.2 (z12.2.2 + 1) l0 (0 : Int32)
    else none
  else none
def fX0_items (N : Nat) (h : Hp) (l0 : Option Nat) : Option (Int32) :=
  (gI h l0 0 3).bind fun v1 =>
  (gI h l0 0 4).bind fun v5 =>
  (gI h l0 0 5).bind fun v10 =>
  some ((v1 + v5) + v10)
def fX5_box (N : Nat) (h : Hp) (sz : Nat) (l0 : Option Nat) : Option (Int32 × Hp × Nat) :=
  (fX0_init N (up h sz (oO 0 [.null, .null, .null, .int 0, .int 0, .int 0])) (sz + 1) (some sz)).bind fun z4 =>
  (gA z4.1 l0 5 0).bind fun v9 =>
  if isO z4.1 v9 4 = true then
  (fX4_faultIn N z4.1 v9 (some sz)).bind fun z13 =>
    if z13.1 = (-1 : Int32) then
      (gA z13.2 l0 5 0).bind fun v28 =>
      if isO z13.2 v28 4 = true then
      (fX4_empties N z13.2 v28).bind fun z31 =>
        if isO z31.2 l0 5 = true then
        (fX5_startAnew N z31.2 z4.2 l0 (some sz)).bind fun z37 =>
          if isO z37.1 (some sz) 0 = true then
          (fX0_items N z37.1 (some sz)).bind fun v41 =>
            some (v41, z37.1, z37.2)
          else none
        else none
      else none
    else
      some ((-10 : Int32) - z13.1, z13.2, z4.2)
  else none
def fX6_here (N : Nat) (h : Hp) (l0 : Option Nat) : Option (Int32) :=
  (gI h l0 6 15).bind fun v1 =>
  (gI h l0 6 14).bind fun v5 =>
  if v5 ≤ v1 then
    some (-9 : Int32)
  else
    (gA h l0 6 13).bind fun v12 =>
    (gI h l0 6 15).bind fun v16 =>
    (rI h v12 0 v16).bind fun v19 =>
    some v19
def fX6_skip_L0 {α : Type} (N : Nat) (K22 : Hp → Option α) : Nat → Hp → Option Nat → Option α
  | 0, _, _ => none
  | n + 1, h, l0 =>
    if isO h l0 6 = true then
    (fX6_here N h l0).bind fun v1 =>
      if v1 = (32 : Int32) then
        (gI h l0 6 15).bind fun v11 =>
        (pV h l0 6 15 (.int (v11 + (1 : Int32)))).bind fun h16 =>
        fX6_skip_L0 N K22 n h16 l0
      else
        K22 h
    else none
def fX6_skip (N : Nat) (h : Hp) (l0 : Option Nat) : Option (Hp) :=
  fX6_skip_L0 N
    (fun h =>
      some h)
    N h l0
def fX6_number_L9 {α : Type} (N : Nat) (K81 : Hp → Option Nat → Int32 → Int32 → Int32 → Int32 → Option α) : Nat → Hp → Option Nat → Int32 → Int32 → Int32 → Int32 → Option α
  | 0, _, _, _, _, _, _ => none
  | n + 1, h, l0, l1, l2, l3, l4 =>
    (gI h l0 6 15).bind fun v10 =>
    (gI h l0 6 14).bind fun v16 =>
    if v16 ≤ (v10 + l3) then
      K81 h l0 l1 l2 l3 l4
    else
      (gA h l0 6 13).bind fun v23 =>
      (gI h l0 6 15).bind fun v27 =>
      (rI h v23 0 (v27 + l3)).bind fun v32 =>
      (fX6_in N h v32 (48 : Int32) (57 : Int32)).bind fun v37 =>
      if v37 = 0 then
        K81 h l0 l1 l2 l3 l4
      else
        if (3 : Int32) ≤ l3 then
          fX6_number_L9 N K81 n h l0 l1 l2 (l3 + 1) l4
        else
          (gA h l0 6 13).bind fun v54 =>
          (gI h l0 6 15).bind fun v58 =>
          (rI h v54 0 (v58 + l3)).bind fun v63 =>
          fX6_number_L9 N K81 n h l0 l1 l2 (l3 + 1) ((((10 : Int32) * l4) + v63) - (48 : Int32))
def fX6_number_j104 (N : Nat) (h : Hp) (l0 : Option Nat) (l1 : Int32) (l2 : Int32) (l3 : Int32) (l4 : Int32) : Option (Int32 × Hp) :=
  (fX6_in N h l4 l1 l2).bind fun v108 =>
  if v108 = 0 then
    some ((0 : Int32), h)
  else
    (pV h l0 6 19 (.int l4)).bind fun h119 =>
    (gI h119 l0 6 15).bind fun v124 =>
    (pV h119 l0 6 15 (.int (v124 + l3))).bind fun h129 =>
    some ((1 : Int32), h129)
def fX6_number_j81 (N : Nat) (h : Hp) (l0 : Option Nat) (l1 : Int32) (l2 : Int32) (l3 : Int32) (l4 : Int32) : Option (Int32 × Hp) :=
  (fX6_in N h l3 (1 : Int32) (3 : Int32)).bind fun v84 =>
  if v84 = 0 then
    some ((0 : Int32), h)
  else
    if l3 ≤ (1 : Int32) then
      fX6_number_j104 N h l0 l1 l2 l3 l4
    else
      if isO h l0 6 = true then
      (fX6_here N h l0).bind fun v96 =>
        if v96 = (48 : Int32) then
          some ((0 : Int32), h)
        else
          fX6_number_j104 N h l0 l1 l2 l3 l4
      else none
def fX6_number (N : Nat) (h : Hp) (l0 : Option Nat) (l1 : Int32) (l2 : Int32) : Option (Int32 × Hp) :=
  if isO h l0 6 = true then
  (fX6_skip N h l0).bind fun z1 =>
    fX6_number_L9 N
      (fun h l0 l1 l2 l3 l4 =>
        fX6_number_j81 N h l0 l1 l2 l3 l4)
      N z1 l0 l1 l2 (0 : Int32) (0 : Int32)
  else none
def fX6_ends (N : Nat) (h : Hp) (l0 : Option Nat) : Option (Int32 × Hp) :=
  if isO h l0 6 = true then
  (fX6_skip N h l0).bind fun z1 =>
    if isO z1 l0 6 = true then
    (fX6_here N z1 l0).bind fun v5 =>
      if v5 = (59 : Int32) then
        (gI z1 l0 6 15).bind fun v17 =>
        (pV z1 l0 6 15 (.int (v17 + (1 : Int32)))).bind fun h22 =>
        some ((1 : Int32), h22)
      else
        some ((0 : Int32), z1)
    else none
  else none
def fX6_readsRing (N : Nat) (h : Hp) (l0 : Option Nat) : Option (Int32 × Hp) :=
  (gI h l0 6 15).bind fun v1 =>
  if isO h l0 6 = true then
  (fX6_number N h l0 (12 : Int32) (120 : Int32)).bind fun z10 =>
    if z10.1 = 0 then
      some ((0 : Int32), z10.2)
    else
      (gI z10.2 l0 6 19).bind fun v22 =>
      if v22 = 0 then none else
      if (jrem (360 : Int32) v22) = 0 then
        (gA z10.2 l0 6 20).bind fun v41 =>
        (gI z10.2 l0 6 16).bind fun v45 =>
        (gI z10.2 l0 6 19).bind fun v49 =>
        (wI z10.2 v41 0 v45 v49).bind fun h52 =>
        (gI h52 l0 6 16).bind fun v55 =>
        (pV h52 l0 6 16 (.int (v55 + (1 : Int32)))).bind fun h60 =>
        if isO h60 l0 6 = true then
        (fX6_ends N h60 l0).bind fun z64 =>
          if z64.1 = 0 ∨ z64.1 = 1 then some (z64.1, z64.2) else none
        else none
      else
        (pV z10.2 l0 6 15 (.int v1)).bind fun h31 =>
        if isO h31 l0 6 = true then
        (fX6_skip N h31 l0).bind fun z35 =>
          some ((0 : Int32), z35)
        else none
  else none
def fX6_readsWheel (N : Nat) (h : Hp) (l0 : Option Nat) : Option (Int32 × Hp) :=
  if isO h l0 6 = true then
  (fX6_number N h l0 (3 : Int32) (99 : Int32)).bind fun z4 =>
    if z4.1 = 0 then
      some ((0 : Int32), z4.2)
    else
      (gA z4.2 l0 6 21).bind fun v13 =>
      (gI z4.2 l0 6 17).bind fun v17 =>
      (gI z4.2 l0 6 19).bind fun v21 =>
      (wI z4.2 v13 0 v17 v21).bind fun h24 =>
      (gI h24 l0 6 17).bind fun v27 =>
      (pV h24 l0 6 17 (.int (v27 + (1 : Int32)))).bind fun h32 =>
      if isO h32 l0 6 = true then
      (fX6_ends N h32 l0).bind fun z36 =>
        if z36.1 = 0 ∨ z36.1 = 1 then some (z36.1, z36.2) else none
      else none
  else none
def fX6_readsPen (N : Nat) (h : Hp) (l0 : Option Nat) : Option (Int32 × Hp) :=
  if isO h l0 6 = true then
  (fX6_number N h l0 (0 : Int32) (999 : Int32)).bind fun z5 =>
    if z5.1 = 0 then
      some ((0 : Int32), z5.2)
    else
      (gA z5.2 l0 6 22).bind fun v14 =>
      (gI z5.2 l0 6 18).bind fun v18 =>
      (gI z5.2 l0 6 19).bind fun v22 =>
      (wI z5.2 v14 0 v18 v22).bind fun h25 =>
      (gI h25 l0 6 18).bind fun v28 =>
      (pV h25 l0 6 18 (.int (v28 + (1 : Int32)))).bind fun h33 =>
      if isO h33 l0 6 = true then
      (fX6_ends N h33 l0).bind fun z37 =>
        if z37.1 = 0 ∨ z37.1 = 1 then some (z37.1, z37.2) else none
      else none
  else none
def fX6_readsItem_j109 (N : Nat) (h : Hp) (l0 : Option Nat) (l1 : Int32) (l2 : Int32) (s0 : Int32) : Option (Int32 × Hp) :=
  if l2 = 0 then
    some ((0 : Int32), h)
  else
    if s0 = 0 then
      some ((0 : Int32), h)
    else
      (gI h l0 6 15).bind fun v122 =>
      (pV h l0 6 15 (.int (v122 + (1 : Int32)))).bind fun h127 =>
      if l1 = (114 : Int32) then
        if isO h127 l0 6 = true then
        (fX6_readsRing N h127 l0).bind fun z137 =>
          if z137.1 = 0 ∨ z137.1 = 1 then some (z137.1, z137.2) else none
        else none
      else
        if l1 = (119 : Int32) then
          if isO h127 l0 6 = true then
          (fX6_readsWheel N h127 l0).bind fun z150 =>
            if z150.1 = 0 ∨ z150.1 = 1 then some (z150.1, z150.2) else none
          else none
        else
          if isO h127 l0 6 = true then
          (fX6_readsPen N h127 l0).bind fun z157 =>
            if z157.1 = 0 ∨ z157.1 = 1 then some (z157.1, z157.2) else none
          else none
def fX6_readsItem_j44 (N : Nat) (h : Hp) (l0 : Option Nat) (l1 : Int32) (s0 : Int32) : Option (Int32 × Hp) :=
  if l1 = (114 : Int32) then
    (gI h l0 6 16).bind fun v52 =>
    if (4 : Int32) ≤ v52 then
      fX6_readsItem_j109 N h l0 l1 s0 (0 : Int32)
    else
      fX6_readsItem_j109 N h l0 l1 s0 (1 : Int32)
  else
    if l1 = (119 : Int32) then
      (gI h l0 6 17).bind fun v74 =>
      if (6 : Int32) ≤ v74 then
        fX6_readsItem_j109 N h l0 l1 s0 (0 : Int32)
      else
        fX6_readsItem_j109 N h l0 l1 s0 (1 : Int32)
    else
      if l1 = (112 : Int32) then
        (gI h l0 6 18).bind fun v97 =>
        if (4 : Int32) ≤ v97 then
          fX6_readsItem_j109 N h l0 l1 s0 (0 : Int32)
        else
          fX6_readsItem_j109 N h l0 l1 s0 (1 : Int32)
      else
        fX6_readsItem_j109 N h l0 l1 s0 (0 : Int32)
def fX6_readsItem (N : Nat) (h : Hp) (l0 : Option Nat) : Option (Int32 × Hp) :=
  if isO h l0 6 = true then
  (fX6_here N h l0).bind fun v1 =>
    (gI h l0 6 15).bind fun v6 =>
    (gI h l0 6 14).bind fun v12 =>
    if v12 ≤ (v6 + (1 : Int32)) then
      fX6_readsItem_j44 N h l0 v1 (1 : Int32)
    else
      (gA h l0 6 13).bind fun v19 =>
      (gI h l0 6 15).bind fun v23 =>
      (rI h v19 0 (v23 + (1 : Int32))).bind fun v28 =>
      (fX6_in N h v28 (97 : Int32) (122 : Int32)).bind fun v33 =>
      if v33 = 0 then
        fX6_readsItem_j44 N h l0 v1 (1 : Int32)
      else
        fX6_readsItem_j44 N h l0 v1 (0 : Int32)
  else none
def fX6_box_L26 {α : Type} (N : Nat) (K44 : Hp → Option Nat → Option α) (K62 : Hp → Option Nat → Int32 → Option α) : Nat → Hp → Option Nat → Int32 → Option α
  | 0, _, _, _ => none
  | n + 1, h, l0, l1 =>
    (gI h l0 6 15).bind fun v27 =>
    (gI h l0 6 14).bind fun v31 =>
    if v31 ≤ v27 then
      K62 h l0 l1
    else
      if isO h l0 6 = true then
      (fX6_readsItem N h l0).bind fun z38 =>
        if z38.1 = 0 then
          K44 z38.2 l0
        else
          if isO z38.2 l0 6 = true then
          (fX6_skip N z38.2 l0).bind fun z56 =>
            fX6_box_L26 N K44 K62 n z56 l0 (l1 + 1)
          else none
      else none
def fX6_box_L93 {α : Type} (N : Nat) (K119 : Hp → Option Nat → Int32 → Option α) : Nat → Hp → Option Nat → Int32 → Int32 → Option α
  | 0, _, _, _, _ => none
  | n + 1, h, l0, l1, l2 =>
    (gI h l0 6 0).bind fun v95 =>
    if v95 ≤ l2 then
      K119 h l0 l1
    else
      (gA h l0 6 3).bind fun v102 =>
      (gA h l0 6 20).bind fun v107 =>
      (rI h v107 0 l2).bind fun v111 =>
      (wI h v102 0 l2 v111).bind fun h112 =>
      fX6_box_L93 N K119 n h112 l0 l1 (l2 + 1)
def fX6_box_L121 {α : Type} (N : Nat) (K147 : Hp → Option Nat → Int32 → Option α) : Nat → Hp → Option Nat → Int32 → Int32 → Option α
  | 0, _, _, _, _ => none
  | n + 1, h, l0, l1, l2 =>
    (gI h l0 6 1).bind fun v123 =>
    if v123 ≤ l2 then
      K147 h l0 l1
    else
      (gA h l0 6 4).bind fun v130 =>
      (gA h l0 6 21).bind fun v135 =>
      (rI h v135 0 l2).bind fun v139 =>
      (wI h v130 0 l2 v139).bind fun h140 =>
      fX6_box_L121 N K147 n h140 l0 l1 (l2 + 1)
def fX6_box_L149 {α : Type} (N : Nat) (K175 : Hp → Option Nat → Int32 → Option α) : Nat → Hp → Option Nat → Int32 → Int32 → Option α
  | 0, _, _, _, _ => none
  | n + 1, h, l0, l1, l2 =>
    (gI h l0 6 2).bind fun v151 =>
    if v151 ≤ l2 then
      K175 h l0 l1
    else
      (gA h l0 6 7).bind fun v158 =>
      (gA h l0 6 22).bind fun v163 =>
      (rI h v163 0 l2).bind fun v167 =>
      (wI h v158 0 l2 v167).bind fun h168 =>
      fX6_box_L149 N K175 n h168 l0 l1 (l2 + 1)
def fX6_box (N : Nat) (h : Hp) (l0 : Option Nat) : Option (Int32 × Hp) :=
  (pV h l0 6 15 (.int (0 : Int32))).bind fun h2 =>
  (pV h2 l0 6 16 (.int (0 : Int32))).bind fun h7 =>
  (pV h7 l0 6 17 (.int (0 : Int32))).bind fun h12 =>
  (pV h12 l0 6 18 (.int (0 : Int32))).bind fun h17 =>
  if isO h17 l0 6 = true then
  (fX6_skip N h17 l0).bind fun z23 =>
    fX6_box_L26 N
      (fun h l0 =>
        (gI h l0 6 15).bind fun v47 =>
        some ((-10 : Int32) - v47, h))
      (fun h l0 l1 =>
        (pV h l0 6 14 (.int (0 : Int32))).bind fun h64 =>
        (gI h64 l0 6 16).bind fun v69 =>
        (pV h64 l0 6 0 (.int v69)).bind fun h72 =>
        (gI h72 l0 6 17).bind fun v77 =>
        (pV h72 l0 6 1 (.int v77)).bind fun h80 =>
        (gI h80 l0 6 18).bind fun v85 =>
        (pV h80 l0 6 2 (.int v85)).bind fun h88 =>
        fX6_box_L93 N
          (fun h l0 l1 =>
            fX6_box_L121 N
              (fun h l0 l1 =>
                fX6_box_L149 N
                  (fun h l0 l1 =>
                    (pV h l0 6 5 (.int (0 : Int32))).bind fun h177 =>
                    (pV h177 l0 6 6 (.int (0 : Int32))).bind fun h182 =>
                    (pV h182 l0 6 9 (.int (0 : Int32))).bind fun h187 =>
                    (pV h187 l0 6 24 (.int (0 : Int32))).bind fun h192 =>
                    (gA h192 l0 6 29).bind fun v196 =>
                    (wI h192 v196 0 (0 : Int32) (0 : Int32)).bind fun h201 =>
                    (gA h201 l0 6 29).bind fun v203 =>
                    (wI h201 v203 0 (860 : Int32) (0 : Int32)).bind fun h210 =>
                    some (l1, h210))
                  N h l0 l1 (0 : Int32))
              N h l0 l1 (0 : Int32))
          N h88 l0 l1 (0 : Int32))
      N z23 l0 (0 : Int32)
  else none
def fX0_hasRing (N : Nat) (h : Hp) (l0 : Option Nat) (l1 : Int32) : Option (Int32) :=
  if l1 < 0 then
    some (0 : Int32)
  else
    (gI h l0 0 3).bind fun v6 =>
    if v6 ≤ l1 then
      some (0 : Int32)
    else
      some (1 : Int32)
def fX0_teethOf (N : Nat) (h : Hp) (l0 : Option Nat) (l1 : Int32) : Option (Int32) :=
  if isO h l0 0 = true then
  (fX0_hasRing N h l0 l1).bind fun v2 =>
    if v2 = 0 then
      some (0 : Int32)
    else
      (gA h l0 0 0).bind fun v9 =>
      (rI h v9 0 l1).bind fun v13 =>
      some v13
  else none
def fX5_ring (N : Nat) (h : Hp) (l0 : Option Nat) (l1 : Int32) : Option (Int32) :=
  (gA h l0 5 2).bind fun v1 =>
  if isO h v1 0 = true then
  (fX0_hasRing N h v1 l1).bind fun v5 =>
    if v5 = 0 then
      some (-1 : Int32)
    else
      (gA h l0 5 2).bind fun v12 =>
      if isO h v12 0 = true then
      (fX0_teethOf N h v12 l1).bind fun v16 =>
        some v16
      else none
  else none
def fX6_isRing (N : Nat) (h : Hp) (l0 : Option Nat) (l1 : Int32) : Option (Int32) :=
  (gI h l0 6 0).bind fun v3 =>
  (fX6_in N h l1 (0 : Int32) (v3 - (1 : Int32))).bind fun v8 =>
  if v8 = 0 ∨ v8 = 1 then some v8 else none
def fX6_ring (N : Nat) (h : Hp) (l0 : Option Nat) (l1 : Int32) : Option (Int32) :=
  if isO h l0 6 = true then
  (fX6_isRing N h l0 l1).bind fun v2 =>
    if v2 = 0 then
      some (-1 : Int32)
    else
      (gA h l0 6 3).bind fun v9 =>
      (rI h v9 0 l1).bind fun v13 =>
      some v13
  else none
def fX0_hasWheel (N : Nat) (h : Hp) (l0 : Option Nat) (l1 : Int32) : Option (Int32) :=
  if l1 < 0 then
    some (0 : Int32)
  else
    (gI h l0 0 4).bind fun v6 =>
    if v6 ≤ l1 then
      some (0 : Int32)
    else
      some (1 : Int32)
def fX0_cogsOf (N : Nat) (h : Hp) (l0 : Option Nat) (l1 : Int32) : Option (Int32) :=
  if isO h l0 0 = true then
  (fX0_hasWheel N h l0 l1).bind fun v2 =>
    if v2 = 0 then
      some (0 : Int32)
    else
      (gA h l0 0 1).bind fun v9 =>
      (rI h v9 0 l1).bind fun v13 =>
      some v13
  else none
def fX0_fits (N : Nat) (h : Hp) (l0 : Option Nat) (l1 : Int32) (l2 : Int32) : Option (Int32) :=
  if isO h l0 0 = true then
  (fX0_hasRing N h l0 l1).bind fun v2 =>
    if v2 = 0 then
      some (0 : Int32)
    else
      if isO h l0 0 = true then
      (fX0_hasWheel N h l0 l2).bind fun v10 =>
        if v10 = 0 then
          some (0 : Int32)
        else
          if isO h l0 0 = true then
          (fX0_cogsOf N h l0 l2).bind fun v18 =>
            if isO h l0 0 = true then
            (fX0_teethOf N h l0 l1).bind fun v23 =>
              if v23 ≤ v18 then
                some (0 : Int32)
              else
                some (1 : Int32)
            else none
          else none
      else none
  else none
def fX5_greatestDivisor_L7 {α : Type} (N : Nat) (h : Hp) (K34 : Int32 → Option α) : Nat → Int32 → Int32 → Int32 → Option α
  | 0, _, _, _ => none
  | n + 1, l2, l3, l4 =>
    if (64 : Int32) ≤ l4 then
      K34 l2
    else
      if l3 = 0 then
        K34 l2
      else
        if l3 = 0 then none else
        fX5_greatestDivisor_L7 N h K34 n l3 (jrem l2 l3) (l4 + 1)
def fX5_greatestDivisor (N : Nat) (h : Hp) (l0 : Int32) (l1 : Int32) : Option (Int32) :=
  fX5_greatestDivisor_L7 N h
    (fun l2 =>
      some l2)
    N l0 l1 (0 : Int32)
def fX0_divisorOf (N : Nat) (h : Hp) (l0 : Option Nat) (l1 : Int32) (l2 : Int32) : Option (Int32) :=
  if isO h l0 0 = true then
  (fX0_teethOf N h l0 l1).bind fun v2 =>
    if isO h l0 0 = true then
    (fX0_cogsOf N h l0 l2).bind fun v7 =>
      (fX5_greatestDivisor N h v2 v7).bind fun v10 =>
      some v10
    else none
  else none
def fX5_part (N : Nat) (h : Hp) (l0 : Int32) (l1 : Int32) : Option (Int32) :=
  if l1 = 0 then
    some (0 : Int32)
  else
    if l1 = 0 then none else
    some (l0 / l1)
def fX0_petalsOf (N : Nat) (h : Hp) (l0 : Option Nat) (l1 : Int32) (l2 : Int32) : Option (Int32) :=
  if isO h l0 0 = true then
  (fX0_teethOf N h l0 l1).bind fun v2 =>
    if isO h l0 0 = true then
    (fX0_divisorOf N h l0 l1 l2).bind fun v8 =>
      (fX5_part N h v2 v8).bind fun v11 =>
      some v11
    else none
  else none
def fX0_roundsOf (N : Nat) (h : Hp) (l0 : Option Nat) (l1 : Int32) (l2 : Int32) : Option (Int32) :=
  if isO h l0 0 = true then
  (fX0_cogsOf N h l0 l2).bind fun v2 =>
    if isO h l0 0 = true then
    (fX0_divisorOf N h l0 l1 l2).bind fun v8 =>
      (fX5_part N h v2 v8).bind fun v11 =>
      some v11
    else none
  else none
def fX0_longOf (N : Nat) (h : Hp) (l0 : Option Nat) (l1 : Int32) (l2 : Int32) : Option (Int32) :=
  if isO h l0 0 = true then
  (fX0_teethOf N h l0 l1).bind fun v2 =>
    if isO h l0 0 = true then
    (fX0_roundsOf N h l0 l1 l2).bind fun v8 =>
      some (v2 * v8)
    else none
  else none
def fX5_wheel (N : Nat) (h : Hp) (l0 : Option Nat) (l1 : Int32) (l2 : Int32) (l3 : Int32) : Option (Int32) :=
  (gA h l0 5 2).bind fun v1 =>
  if isO h v1 0 = true then
  (fX0_hasRing N h v1 l1).bind fun v5 =>
    if v5 = 0 then
      some (-1 : Int32)
    else
      (gA h l0 5 2).bind fun v12 =>
      if isO h v12 0 = true then
      (fX0_hasWheel N h v12 l2).bind fun v16 =>
        if v16 = 0 then
          some (-1 : Int32)
        else
          (fX5_within N h l3 (0 : Int32) (3 : Int32)).bind fun v25 =>
          if v25 = 0 then
            some (-1 : Int32)
          else
            if l3 = 0 then
              (gA h l0 5 2).bind fun v38 =>
              if isO h v38 0 = true then
              (fX0_cogsOf N h v38 l2).bind fun v42 =>
                some v42
              else none
            else
              (gA h l0 5 2).bind fun v47 =>
              if isO h v47 0 = true then
              (fX0_fits N h v47 l1 l2).bind fun v52 =>
                if v52 = 0 then
                  some (-9 : Int32)
                else
                  if l3 = 1 then
                    (gA h l0 5 2).bind fun v89 =>
                    if isO h v89 0 = true then
                    (fX0_petalsOf N h v89 l1 l2).bind fun v94 =>
                      some v94
                    else none
                  else
                  if l3 = 2 then
                    (gA h l0 5 2).bind fun v99 =>
                    if isO h v99 0 = true then
                    (fX0_roundsOf N h v99 l1 l2).bind fun v104 =>
                      some v104
                    else none
                  else
                    (gA h l0 5 2).bind fun v109 =>
                    if isO h v109 0 = true then
                    (fX0_longOf N h v109 l1 l2).bind fun v114 =>
                      some v114
                    else none
              else none
      else none
  else none
def fX6_isWheel (N : Nat) (h : Hp) (l0 : Option Nat) (l1 : Int32) : Option (Int32) :=
  (gI h l0 6 1).bind fun v3 =>
  (fX6_in N h l1 (0 : Int32) (v3 - (1 : Int32))).bind fun v8 =>
  if v8 = 0 ∨ v8 = 1 then some v8 else none
def fX6_fits (N : Nat) (h : Hp) (l0 : Option Nat) (l1 : Int32) (l2 : Int32) : Option (Int32) :=
  (gA h l0 6 4).bind fun v1 =>
  (rI h v1 0 l2).bind fun v5 =>
  (gA h l0 6 3).bind fun v7 =>
  (rI h v7 0 l1).bind fun v11 =>
  if v11 ≤ v5 then
    some (0 : Int32)
  else
    some (1 : Int32)
def fX6_common_L4 {α : Type} (N : Nat) (h : Hp) (K21 : Int32 → Option α) : Nat → Int32 → Int32 → Option α
  | 0, _, _ => none
  | n + 1, l2, l3 =>
    if l3 = 0 then
      K21 l2
    else
      if l3 = 0 then none else
      fX6_common_L4 N h K21 n l3 (jrem l2 l3)
def fX6_common (N : Nat) (h : Hp) (l0 : Int32) (l1 : Int32) : Option (Int32) :=
  fX6_common_L4 N h
    (fun l2 =>
      some l2)
    N l0 l1
def fX6_commonOf (N : Nat) (h : Hp) (l0 : Option Nat) (l1 : Int32) (l2 : Int32) : Option (Int32) :=
  (gA h l0 6 3).bind fun v1 =>
  (rI h v1 0 l1).bind fun v5 =>
  (gA h l0 6 4).bind fun v7 =>
  (rI h v7 0 l2).bind fun v11 =>
  (fX6_common N h v5 v11).bind fun v12 =>
  some v12
def fX6_petalsOf (N : Nat) (h : Hp) (l0 : Option Nat) (l1 : Int32) (l2 : Int32) : Option (Int32) :=
  (gA h l0 6 3).bind fun v1 =>
  (rI h v1 0 l1).bind fun v5 =>
  if isO h l0 6 = true then
  (fX6_commonOf N h l0 l1 l2).bind fun v9 =>
    if v9 = 0 then none else
    some (v5 / v9)
  else none
def fX6_roundsOf (N : Nat) (h : Hp) (l0 : Option Nat) (l1 : Int32) (l2 : Int32) : Option (Int32) :=
  (gA h l0 6 4).bind fun v1 =>
  (rI h v1 0 l2).bind fun v5 =>
  if isO h l0 6 = true then
  (fX6_commonOf N h l0 l1 l2).bind fun v9 =>
    if v9 = 0 then none else
    some (v5 / v9)
  else none
def fX6_longOf (N : Nat) (h : Hp) (l0 : Option Nat) (l1 : Int32) (l2 : Int32) : Option (Int32) :=
  (gA h l0 6 3).bind fun v1 =>
  (rI h v1 0 l1).bind fun v5 =>
  if isO h l0 6 = true then
  (fX6_roundsOf N h l0 l1 l2).bind fun v9 =>
    some (v5 * v9)
  else none
def fX6_wheel (N : Nat) (h : Hp) (l0 : Option Nat) (l1 : Int32) (l2 : Int32) (l3 : Int32) : Option (Int32) :=
  if isO h l0 6 = true then
  (fX6_isRing N h l0 l1).bind fun v2 =>
    if v2 = 0 then
      some (-1 : Int32)
    else
      if isO h l0 6 = true then
      (fX6_isWheel N h l0 l2).bind fun v10 =>
        if v10 = 0 then
          some (-1 : Int32)
        else
          (fX6_in N h l3 (0 : Int32) (3 : Int32)).bind fun v19 =>
          if v19 = 0 then
            some (-1 : Int32)
          else
            if l3 = 0 then
              (gA h l0 6 4).bind fun v32 =>
              (rI h v32 0 l2).bind fun v36 =>
              some v36
            else
              if isO h l0 6 = true then
              (fX6_fits N h l0 l1 l2).bind fun v41 =>
                if v41 = 0 then
                  some (-9 : Int32)
                else
                  if l3 = (1 : Int32) then
                    if isO h l0 6 = true then
                    (fX6_petalsOf N h l0 l1 l2).bind fun v58 =>
                      some v58
                    else none
                  else
                    if l3 = (2 : Int32) then
                      if isO h l0 6 = true then
                      (fX6_roundsOf N h l0 l1 l2).bind fun v72 =>
                        some v72
                      else none
                    else
                      if isO h l0 6 = true then
                      (fX6_longOf N h l0 l1 l2).bind fun v81 =>
                        some v81
                      else none
              else none
      else none
  else none
def fX0_hasPen (N : Nat) (h : Hp) (l0 : Option Nat) (l1 : Int32) : Option (Int32) :=
  if l1 < 0 then
    some (0 : Int32)
  else
    (gI h l0 0 5).bind fun v6 =>
    if v6 ≤ l1 then
      some (0 : Int32)
    else
      some (1 : Int32)
def fX2_inkOf (N : Nat) (h : Hp) (l0 : Option Nat) (l1 : Int32) : Option (Int32) :=
  if l1 < 0 then
    some (0 : Int32)
  else
    (gA h l0 2 1).bind fun v6 =>
    (aL h v6).bind fun v9 =>
    if v9 ≤ l1 then
      some (0 : Int32)
    else
      (gA h l0 2 1).bind fun v14 =>
      (rI h v14 0 l1).bind fun v18 =>
      some v18
def fX2_hasCurveIn_L2 {α : Type} (N : Nat) (h : Hp) (K24 : Option α) (K32 : Option α) : Nat → Option Nat → Int32 → Int32 → Option α
  | 0, _, _, _ => none
  | n + 1, l0, l1, l2 =>
    (gA h l0 2 2).bind fun v4 =>
    (aL h v4).bind fun v7 =>
    if v7 ≤ l2 then
      K32
    else
      (gA h l0 2 2).bind fun v12 =>
      (rA h v12 2 l2).bind fun v16 =>
      (gI h v16 1 2).bind fun v17 =>
      if v17 = l1 then
        K24
      else
        fX2_hasCurveIn_L2 N h K24 K32 n l0 l1 (l2 + 1)
def fX2_hasCurveIn (N : Nat) (h : Hp) (l0 : Option Nat) (l1 : Int32) : Option (Int32) :=
  fX2_hasCurveIn_L2 N h
    (
      some (1 : Int32))
    (
      some (0 : Int32))
    N l0 l1 (0 : Int32)
def fJ7_fill_53178_L5 {α : Type} (N : Nat) (K20 : Hp → Option α) : Nat → Hp → Option Nat → Int32 → Int32 → Int32 → Option α
  | 0, _, _, _, _, _ => none
  | n + 1, h, l0, l1, l2, l3 =>
    if l3 ≤ l2 then
      K20 h
    else
      (wI h l0 0 l2 l1).bind fun h13 =>
      fJ7_fill_53178_L5 N K20 n h13 l0 l1 (l2 + 1) l3
def fJ7_fill_53178 (N : Nat) (h : Hp) (l0 : Option Nat) (l1 : Int32) : Option (Hp) :=
  (aL h l0).bind fun v3 =>
  fJ7_fill_53178_L5 N
    (fun h =>
      some h)
    N h l0 l1 (0 : Int32) v3
def fX1_pointOf (N : Nat) (h : Hp) (l0 : Option Nat) (l1 : Int32) : Option (Int32) :=
  (gI h l0 1 9).bind fun v1 =>
  (gI h l0 1 8).bind fun v5 =>
  (fX5_rest N h (v1 + (v5 * l1)) (360 : Int32)).bind fun v14 =>
  some v14
def fX5_noteShown_L44 {α : Type} (N : Nat) (K71 : Hp → Option Nat → Int32 → Int32 → Option α) : Nat → Hp → Option Nat → Int32 → Int32 → Option Nat → Int32 → Option α
  | 0, _, _, _, _, _, _ => none
  | n + 1, h, l0, l1, l2, l3, l4 =>
    (gI h l3 1 6).bind fun v47 =>
    if v47 ≤ l4 then
      K71 h l0 l1 l2
    else
      (gA h l0 5 8).bind fun v54 =>
      if isO h l3 1 = true then
      (fX1_pointOf N h l3 l4).bind fun v60 =>
        (wI h v54 0 v60 l2).bind fun h64 =>
        fX5_noteShown_L44 N K71 n h64 l0 l1 l2 l3 (l4 + 1)
      else none
def fX5_noteShown_L11 {α : Type} (N : Nat) (K77 : Hp → Option α) : Nat → Hp → Option Nat → Int32 → Int32 → Option α
  | 0, _, _, _, _ => none
  | n + 1, h, l0, l1, l2 =>
    (gA h l0 5 3).bind fun v13 =>
    (gA h v13 2 2).bind fun v16 =>
    (aL h v16).bind fun v19 =>
    if v19 ≤ l2 then
      K77 h
    else
      (gA h l0 5 3).bind fun v24 =>
      (gA h v24 2 2).bind fun v27 =>
      (rA h v27 2 l2).bind fun v31 =>
      (gI h v31 1 2).bind fun v34 =>
      if v34 = l1 then
        fX5_noteShown_L44 N
          (fun h l0 l1 l2 =>
            fX5_noteShown_L11 N K77 n h l0 l1 (l2 + 1))
          N h l0 l1 l2 v31 (0 : Int32)
      else
        fX5_noteShown_L11 N K77 n h l0 l1 (l2 + 1)
def fX5_noteShown (N : Nat) (h : Hp) (l0 : Option Nat) (l1 : Int32) : Option (Hp) :=
  (gA h l0 5 8).bind fun v1 =>
  (fJ7_fill_53178 N h v1 (-9 : Int32)).bind fun z6 =>
  fX5_noteShown_L11 N
    (fun h =>
      some h)
    N z6 l0 l1 (0 : Int32)
def fX2_curveAt (N : Nat) (h : Hp) (l0 : Option Nat) (l1 : Int32) : Option (Option Nat) :=
  if l1 < 0 then
    some none
  else
    (gA h l0 2 2).bind fun v6 =>
    (aL h v6).bind fun v9 =>
    if v9 ≤ l1 then
      some none
    else
      (gA h l0 2 2).bind fun v14 =>
      (rA h v14 2 l1).bind fun v18 =>
      some v18
def fX5_notePens_L7 {α : Type} (N : Nat) (K53 : Hp → Option α) : Nat → Hp → Option Nat → Int32 → Option α
  | 0, _, _, _ => none
  | n + 1, h, l0, l2 =>
    if (360 : Int32) ≤ l2 then
      K53 h
    else
      (gA h l0 5 3).bind fun v15 =>
      (gA h l0 5 8).bind fun v19 =>
      (rI h v19 0 l2).bind fun v23 =>
      if isO h v15 2 = true then
      (fX2_curveAt N h v15 v23).bind fun v24 =>
        (gA h l0 5 8).bind fun v29 =>
        if v24 = none then
          (wI h v29 0 l2 (-9 : Int32)).bind fun h46 =>
          fX5_notePens_L7 N K53 n h46 l0 (l2 + 1)
        else
          (gI h v24 1 4).bind fun v43 =>
          (wI h v29 0 l2 v43).bind fun h46 =>
          fX5_notePens_L7 N K53 n h46 l0 (l2 + 1)
      else none
def fX5_notePens (N : Nat) (h : Hp) (l0 : Option Nat) (l1 : Int32) : Option (Hp) :=
  if isO h l0 5 = true then
  (fX5_noteShown N h l0 l1).bind fun z2 =>
    fX5_notePens_L7 N
      (fun h =>
        some h)
      N z2 l0 (0 : Int32)
  else none
def fX5_pointsNoted_L4 {α : Type} (N : Nat) (h : Hp) (K30 : Int32 → Option α) : Nat → Option Nat → Int32 → Int32 → Int32 → Option α
  | 0, _, _, _, _ => none
  | n + 1, l0, l1, l2, l3 =>
    if (360 : Int32) ≤ l3 then
      K30 l2
    else
      (gA h l0 5 8).bind fun v12 =>
      (rI h v12 0 l3).bind fun v16 =>
      if v16 = l1 then
        fX5_pointsNoted_L4 N h K30 n l0 l1 (l2 + 1) (l3 + 1)
      else
        fX5_pointsNoted_L4 N h K30 n l0 l1 l2 (l3 + 1)
def fX5_pointsNoted (N : Nat) (h : Hp) (l0 : Option Nat) (l1 : Int32) : Option (Int32) :=
  fX5_pointsNoted_L4 N h
    (fun l2 =>
      some l2)
    N l0 l1 (0 : Int32) (0 : Int32)
def fX5_pointsOfPen_L4 {α : Type} (N : Nat) (K40 : Hp → Int32 → Option α) : Nat → Hp → Option Nat → Int32 → Int32 → Int32 → Option α
  | 0, _, _, _, _, _ => none
  | n + 1, h, l0, l1, l2, l3 =>
    if (9 : Int32) < l3 then
      K40 h l2
    else
      (gA h l0 5 3).bind fun v11 =>
      if isO h v11 2 = true then
      (fX2_hasCurveIn N h v11 l3).bind fun v15 =>
        if v15 = 0 then
          fX5_pointsOfPen_L4 N K40 n h l0 l1 l2 (l3 + 1)
        else
          if isO h l0 5 = true then
          (fX5_notePens N h l0 l3).bind fun z23 =>
            if isO z23 l0 5 = true then
            (fX5_pointsNoted N z23 l0 l1).bind fun v29 =>
              fX5_pointsOfPen_L4 N K40 n z23 l0 l1 (l2 + v29) (l3 + 1)
            else none
          else none
      else none
def fX5_pointsOfPen (N : Nat) (h : Hp) (l0 : Option Nat) (l1 : Int32) : Option (Int32 × Hp) :=
  fX5_pointsOfPen_L4 N
    (fun h l2 =>
      some (l2, h))
    N h l0 l1 (0 : Int32) (1 : Int32)
def fX5_pen (N : Nat) (h : Hp) (l0 : Option Nat) (l1 : Int32) (l2 : Int32) : Option (Int32 × Hp) :=
  (gA h l0 5 2).bind fun v1 =>
  if isO h v1 0 = true then
  (fX0_hasPen N h v1 l1).bind fun v5 =>
    if v5 = 0 then
      some ((-1 : Int32), h)
    else
      (fX5_within N h l2 (0 : Int32) (1 : Int32)).bind fun v14 =>
      if v14 = 0 then
        some ((-1 : Int32), h)
      else
        if l2 = 0 then
          (gA h l0 5 3).bind fun v27 =>
          if isO h v27 2 = true then
          (fX2_inkOf N h v27 l1).bind fun v31 =>
            some (v31, h)
          else none
        else
          if isO h l0 5 = true then
          (fX5_pointsOfPen N h l0 l1).bind fun z39 =>
            some (z39.1, z39.2)
          else none
  else none
def fX6_isPen (N : Nat) (h : Hp) (l0 : Option Nat) (l1 : Int32) : Option (Int32) :=
  (gI h l0 6 2).bind fun v3 =>
  (fX6_in N h l1 (0 : Int32) (v3 - (1 : Int32))).bind fun v8 =>
  if v8 = 0 ∨ v8 = 1 then some v8 else none
def fX6_toothAt (N : Nat) (h : Hp) (l0 : Option Nat) (l1 : Int32) (l2 : Int32) (l3 : Int32) : Option (Int32) :=
  (gA h l0 6 3).bind fun v17 =>
  (rI h v17 0 l1).bind fun v21 =>
  if v21 = 0 then none else
  if ((360 : Int32) / v21) = 0 then none else
  if (jrem (jrem ((l3 - l2) + (360 : Int32)) (360 : Int32)) ((360 : Int32) / v21)) = 0 then
    if ((360 : Int32) / v21) = 0 then none else
    some ((jrem ((l3 - l2) + (360 : Int32)) (360 : Int32)) / ((360 : Int32) / v21))
  else
    some (-9 : Int32)
def fX6_isTip (N : Nat) (h : Hp) (l0 : Int32) (l1 : Int32) (l2 : Int32) : Option (Int32) :=
  if l0 = 0 then none else
  if (jrem (l1 - l2) l0) = 0 then
    some (1 : Int32)
  else
    some (0 : Int32)
def fX6_hasTip (N : Nat) (h : Hp) (l0 : Option Nat) (l1 : Int32) (l2 : Int32) (l3 : Int32) : Option (Int32) :=
  (gA h l0 6 8).bind fun v7 =>
  (rI h v7 0 ((6 : Int32) * l1)).bind fun v12 =>
  (gA h l0 6 8).bind fun v16 =>
  (rI h v16 0 (((6 : Int32) * l1) + (2 : Int32))).bind fun v23 =>
  if v23 = l3 then
    (gA h l0 6 8).bind fun v34 =>
    (rI h v34 0 (((6 : Int32) * l1) + (5 : Int32))).bind fun v41 =>
    if isO h l0 6 = true then
    (fX6_toothAt N h l0 v12 v41 l2).bind fun v43 =>
      if v43 = (-9 : Int32) then
        some (0 : Int32)
      else
        (gA h l0 6 8).bind fun v59 =>
        (rI h v59 0 (((6 : Int32) * l1) + (1 : Int32))).bind fun v66 =>
        if isO h l0 6 = true then
        (fX6_commonOf N h l0 v12 v66).bind fun v67 =>
          (gA h l0 6 8).bind fun v73 =>
          (rI h v73 0 (((6 : Int32) * l1) + (3 : Int32))).bind fun v80 =>
          (fX6_isTip N h v67 v43 v80).bind fun v81 =>
          if v81 = 0 then
            some (0 : Int32)
          else
            some (1 : Int32)
        else none
    else none
  else
    some (0 : Int32)
def fX6_shownAt_L7 {α : Type} (N : Nat) (h : Hp) (K27 : Int32 → Option α) : Nat → Option Nat → Int32 → Int32 → Int32 → Option α
  | 0, _, _, _, _ => none
  | n + 1, l0, l1, l2, l3 =>
    if l3 < 0 then
      K27 l3
    else
      if isO h l0 6 = true then
      (fX6_hasTip N h l0 l3 l1 l2).bind fun v15 =>
        if v15 = 0 then
          fX6_shownAt_L7 N h K27 n l0 l1 l2 (l3 + (-1))
        else
          K27 l3
      else none
def fX6_shownAt_j27 (N : Nat) (h : Hp) (l3 : Int32) : Option (Int32) :=
  if 0 ≤ l3 then
    some l3
  else
    some (-9 : Int32)
def fX6_shownAt (N : Nat) (h : Hp) (l0 : Option Nat) (l1 : Int32) (l2 : Int32) : Option (Int32) :=
  (gI h l0 6 6).bind fun v1 =>
  fX6_shownAt_L7 N h
    (fun l3 =>
      fX6_shownAt_j27 N h l3)
    N l0 l1 l2 (v1 - (1 : Int32))
def fX6_penAt (N : Nat) (h : Hp) (l0 : Option Nat) (l1 : Int32) (l2 : Int32) : Option (Int32) :=
  if isO h l0 6 = true then
  (fX6_shownAt N h l0 l1 l2).bind fun v3 =>
    if v3 = (-9 : Int32) then
      some (-9 : Int32)
    else
      (gA h l0 6 8).bind fun v19 =>
      (rI h v19 0 (((6 : Int32) * v3) + (4 : Int32))).bind fun v28 =>
      some v28
  else none
def fX6_penShown_L14 {α : Type} (N : Nat) (h : Hp) (K46 : Option Nat → Int32 → Int32 → Int32 → Option α) : Nat → Option Nat → Int32 → Int32 → Int32 → Int32 → Option α
  | 0, _, _, _, _, _ => none
  | n + 1, l0, l1, l2, l3, l4 =>
    if (9 : Int32) < l4 then
      K46 l0 l1 l2 l3
    else
      if isO h l0 6 = true then
      (fX6_penAt N h l0 l3 l4).bind fun v26 =>
        if v26 = l1 then
          fX6_penShown_L14 N h K46 n l0 l1 (l2 + (1 : Int32)) l3 (l4 + 1)
        else
          fX6_penShown_L14 N h K46 n l0 l1 (l2 + (0 : Int32)) l3 (l4 + 1)
      else none
def fX6_penShown_L4 {α : Type} (N : Nat) (h : Hp) (K52 : Int32 → Option α) : Nat → Option Nat → Int32 → Int32 → Int32 → Option α
  | 0, _, _, _, _ => none
  | n + 1, l0, l1, l2, l3 =>
    if (360 : Int32) ≤ l3 then
      K52 l2
    else
      fX6_penShown_L14 N h
        (fun l0 l1 l2 l3 =>
          fX6_penShown_L4 N h K52 n l0 l1 l2 (l3 + 1))
        N l0 l1 l2 l3 (1 : Int32)
def fX6_penShown (N : Nat) (h : Hp) (l0 : Option Nat) (l1 : Int32) : Option (Int32) :=
  fX6_penShown_L4 N h
    (fun l2 =>
      some l2)
    N l0 l1 (0 : Int32) (0 : Int32)
def fX6_pen (N : Nat) (h : Hp) (l0 : Option Nat) (l1 : Int32) (l2 : Int32) : Option (Int32) :=
  if isO h l0 6 = true then
  (fX6_isPen N h l0 l1).bind fun v2 =>
    if v2 = 0 then
      some (-1 : Int32)
    else
      (fX6_in N h l2 (0 : Int32) (1 : Int32)).bind fun v11 =>
      if v11 = 0 then
        some (-1 : Int32)
      else
        if l2 = 0 then
          (gA h l0 6 7).bind fun v24 =>
          (rI h v24 0 l1).bind fun v28 =>
          some v28
        else
          if isO h l0 6 = true then
          (fX6_penShown N h l0 l1).bind fun v34 =>
            some v34
          else none
  else none
def fX5_tipsShown (N : Nat) (h : Hp) (l0 : Option Nat) (l1 : Int32) (l2 : Int32) : Option (Int32 × Hp) :=
  if isO h l0 5 = true then
  (fX5_noteShown N h l0 l2).bind fun z2 =>
    if isO z2 l0 5 = true then
    (fX5_pointsNoted N z2 l0 l1).bind fun v7 =>
      some (v7, z2)
    else none
  else none
def fX5_curve (N : Nat) (h : Hp) (l0 : Option Nat) (l1 : Int32) (l2 : Int32) : Option (Int32 × Hp) :=
  (gA h l0 5 3).bind fun v1 =>
  if isO h v1 2 = true then
  (fX2_curveAt N h v1 l1).bind fun v5 =>
    if v5 = none then
      some ((-1 : Int32), h)
    else
      if l2 = 0 then
        (gI h v5 1 0).bind fun v61 =>
        some (v61, h)
      else
      if l2 = 1 then
        (gI h v5 1 1).bind fun v66 =>
        some (v66, h)
      else
      if l2 = 2 then
        (gI h v5 1 2).bind fun v71 =>
        some (v71, h)
      else
      if l2 = 3 then
        (gI h v5 1 3).bind fun v76 =>
        some (v76, h)
      else
      if l2 = 4 then
        (gI h v5 1 4).bind fun v81 =>
        some (v81, h)
      else
      if l2 = 5 then
        (gI h v5 1 5).bind fun v86 =>
        some (v86, h)
      else
      if l2 = 6 then
        (gI h v5 1 2).bind fun v93 =>
        if isO h l0 5 = true then
        (fX5_tipsShown N h l0 l1 v93).bind fun z96 =>
          some (z96.1, z96.2)
        else none
      else
        some ((-1 : Int32), h)
  else none
def fX6_isCurve (N : Nat) (h : Hp) (l0 : Option Nat) (l1 : Int32) : Option (Int32) :=
  (gI h l0 6 6).bind fun v3 =>
  (fX6_in N h l1 (0 : Int32) (v3 - (1 : Int32))).bind fun v8 =>
  if v8 = 0 ∨ v8 = 1 then some v8 else none
def fX6_curveShown_L4 {α : Type} (N : Nat) (h : Hp) (K45 : Int32 → Option α) : Nat → Option Nat → Int32 → Int32 → Int32 → Option α
  | 0, _, _, _, _ => none
  | n + 1, l0, l1, l2, l3 =>
    if (360 : Int32) ≤ l3 then
      K45 l2
    else
      (gA h l0 6 8).bind fun v15 =>
      (rI h v15 0 (((6 : Int32) * l1) + (2 : Int32))).bind fun v24 =>
      if isO h l0 6 = true then
      (fX6_shownAt N h l0 l3 v24).bind fun v25 =>
        if v25 = l1 then
          fX6_curveShown_L4 N h K45 n l0 l1 (l2 + (1 : Int32)) (l3 + 1)
        else
          fX6_curveShown_L4 N h K45 n l0 l1 (l2 + (0 : Int32)) (l3 + 1)
      else none
def fX6_curveShown (N : Nat) (h : Hp) (l0 : Option Nat) (l1 : Int32) : Option (Int32) :=
  fX6_curveShown_L4 N h
    (fun l2 =>
      some l2)
    N l0 l1 (0 : Int32) (0 : Int32)
def fX6_curve (N : Nat) (h : Hp) (l0 : Option Nat) (l1 : Int32) (l2 : Int32) : Option (Int32) :=
  if isO h l0 6 = true then
  (fX6_isCurve N h l0 l1).bind fun v2 =>
    if v2 = 0 then
      some (-1 : Int32)
    else
      (fX6_in N h l2 (0 : Int32) (6 : Int32)).bind fun v12 =>
      if v12 = 0 then
        some (-1 : Int32)
      else
        if (6 : Int32) ≤ l2 then
          if isO h l0 6 = true then
          (fX6_curveShown N h l0 l1).bind fun v42 =>
            some v42
          else none
        else
          (gA h l0 6 8).bind fun v27 =>
          (rI h v27 0 (((6 : Int32) * l1) + l2)).bind fun v36 =>
          some v36
  else none
def fX0_stepOf (N : Nat) (h : Hp) (l0 : Option Nat) (l1 : Int32) : Option (Int32) :=
  if isO h l0 0 = true then
  (fX0_teethOf N h l0 l1).bind fun v5 =>
    (fX5_part N h (360 : Int32) v5).bind fun v8 =>
    some v8
  else none
def fX1_init (N : Nat) (h : Hp) (l0 : Option Nat) (l1 : Option Nat) (l2 : Int32) (l3 : Int32) (l4 : Int32) (l5 : Int32) (l6 : Int32) (l7 : Int32) : Option (Hp) :=
  if l0 = none then none else
  (pV h l0 1 0 (.int l2)).bind fun h6 =>
  (pV h6 l0 1 1 (.int l3)).bind fun h11 =>
  (pV h11 l0 1 2 (.int l4)).bind fun h17 =>
  (pV h17 l0 1 3 (.int l5)).bind fun h23 =>
  (pV h23 l0 1 4 (.int l6)).bind fun h29 =>
  (pV h29 l0 1 5 (.int l7)).bind fun h35 =>
  if isO h35 l1 0 = true then
  (fX0_petalsOf N h35 l1 l2 l3).bind fun v42 =>
    (pV h35 l0 1 6 (.int v42)).bind fun h45 =>
    if isO h45 l1 0 = true then
    (fX0_roundsOf N h45 l1 l2 l3).bind fun v52 =>
      (pV h45 l0 1 7 (.int v52)).bind fun h55 =>
      (gI h55 l0 1 6).bind fun v63 =>
      (fX5_part N h55 (360 : Int32) v63).bind fun v66 =>
      (pV h55 l0 1 8 (.int v66)).bind fun h69 =>
      if isO h69 l1 0 = true then
      (fX0_stepOf N h69 l1 l2).bind fun v75 =>
        (pV h69 l0 1 9 (.int ((v75 * l5) + l7))).bind fun h84 =>
        some h84
      else none
    else none
  else none
def fX2_inkWith (N : Nat) (h : Hp) (sz : Nat) (l0 : Option Nat) (l1 : Int32) (l2 : Int32) : Option (Option Nat × Hp × Nat) :=
  (gA h l0 2 1).bind fun v1 =>
  (clI h sz v1).bind fun h4 =>
  if isI h4 (some sz) = true then
    if l1 < 0 then
      some (some sz, h4, sz + 1)
    else
      (aL h4 (some sz)).bind fun v17 =>
      if v17 ≤ l1 then
        some (some sz, h4, sz + 1)
      else
        (wI h4 (some sz) 0 l1 l2).bind fun h24 =>
        some (some sz, h24, sz + 1)
  else none
def fX2_drawn_L14 {α : Type} (N : Nat) (K41 : Hp → Nat → Option Nat → Option Nat → Int32 → Option Nat → Option α) : Nat → Hp → Nat → Option Nat → Option Nat → Int32 → Option Nat → Int32 → Option α
  | 0, _, _, _, _, _, _, _ => none
  | n + 1, h, sz, l0, l1, l2, l3, l4 =>
    (gA h l0 2 2).bind fun v17 =>
    (aL h v17).bind fun v20 =>
    if v20 ≤ l4 then
      K41 h sz l0 l1 l2 l3
    else
      (gA h l0 2 2).bind fun v28 =>
      (rA h v28 2 l4).bind fun v33 =>
      (wA h l3 2 l4 v33).bind fun h34 =>
      fX2_drawn_L14 N K41 n h34 sz l0 l1 l2 l3 (l4 + 1)
def fX2_drawn (N : Nat) (h : Hp) (sz : Nat) (l0 : Option Nat) (l1 : Option Nat) (l2 : Int32) : Option (Option Nat × Hp × Nat) :=
  (gA h l0 2 2).bind fun v1 =>
  (aL h v1).bind fun v4 =>
  if ¬ (v4 + (1 : Int32)) < 0 ∧ (v4 + (1 : Int32)).toNatClampNeg ≤ 16 then
    fX2_drawn_L14 N
      (fun h sz l0 l1 l2 l3 =>
        (gA h l0 2 2).bind fun v43 =>
        (aL h v43).bind fun v46 =>
        (wA h l3 2 v46 l1).bind fun h48 =>
        (gI (up h48 sz (oO 2 [.int 0, .null, .null, .null])) l0 2 0).bind fun v54 =>
        (gI (up h48 sz (oO 2 [.int 0, .null, .null, .null])) l1 1 4).bind fun v59 =>
        (gI (up h48 sz (oO 2 [.int 0, .null, .null, .null])) l1 1 4).bind fun v64 =>
        if isO (up h48 sz (oO 2 [.int 0, .null, .null, .null])) l0 2 = true then
        (fX2_inkOf N (up h48 sz (oO 2 [.int 0, .null, .null, .null])) l0 v64).bind fun v67 =>
          if isO (up h48 sz (oO 2 [.int 0, .null, .null, .null])) l0 2 = true then
          (fX2_inkWith N (up h48 sz (oO 2 [.int 0, .null, .null, .null])) (sz + 1) l0 v59 (v67 - l2)).bind fun z72 =>
            (fX2_init N z72.2.1 (some sz) v54 z72.1 l3 l0).bind fun z77 =>
            some (some sz, z77, z72.2.2)
          else none
        else none)
      N (up h sz (oA 2 ((v4 + (1 : Int32)).toNatClampNeg) (fun _ => none))) (sz + 1) l0 l1 l2 (some sz) (0 : Int32)
  else none
def fX5_changeTo (N : Nat) (h : Hp) (l0 : Option Nat) (l1 : Option Nat) : Option (Hp) :=
  (pV h l0 5 3 (va_rf l1)).bind fun h2 =>
  (gI h2 l0 5 4).bind fun v7 =>
  (pV h2 l0 5 4 (.int (jmin (v7 + (1 : Int32)) (10 : Int32)))).bind fun h17 =>
  some h17
def fX5_draws (N : Nat) (h : Hp) (sz : Nat) (l0 : Option Nat) (l1 : Int32) (l2 : Int32) (l3 : Int32) (l4 : Int32) (l5 : Int32) : Option (Int32 × Hp × Nat) :=
  (gA h l0 5 2).bind fun v1 =>
  if isO h v1 0 = true then
  (fX0_hasRing N h v1 l1).bind fun v5 =>
    if v5 = 0 then
      some ((-1 : Int32), h, sz)
    else
      (gA h l0 5 2).bind fun v12 =>
      if isO h v12 0 = true then
      (fX0_hasWheel N h v12 l2).bind fun v16 =>
        if v16 = 0 then
          some ((-1 : Int32), h, sz)
        else
          (gA h l0 5 2).bind fun v23 =>
          if isO h v23 0 = true then
          (fX0_hasPen N h v23 l5).bind fun v28 =>
            if v28 = 0 then
              some ((-1 : Int32), h, sz)
            else
              (fX5_within N h l3 (1 : Int32) (9 : Int32)).bind fun v40 =>
              if v40 = 0 then
                some ((-1 : Int32), h, sz)
              else
                (gA h l0 5 2).bind fun v50 =>
                if isO h v50 0 = true then
                (fX0_teethOf N h v50 l1).bind fun v54 =>
                  (fX5_within N h l4 (0 : Int32) (v54 - (1 : Int32))).bind fun v59 =>
                  if v59 = 0 then
                    some ((-1 : Int32), h, sz)
                  else
                    (gA h l0 5 2).bind fun v68 =>
                    if isO h v68 0 = true then
                    (fX0_fits N h v68 l1 l2).bind fun v73 =>
                      if v73 = 0 then
                        some ((-2 : Int32), h, sz)
                      else
                        (gA h l0 5 3).bind fun v80 =>
                        if isO h v80 2 = true then
                        (fX2_inkOf N h v80 l5).bind fun v85 =>
                          (gA h l0 5 2).bind fun v89 =>
                          if isO h v89 0 = true then
                          (fX0_longOf N h v89 l1 l2).bind fun v94 =>
                            if v94 ≤ v85 then
                              (gA h l0 5 3).bind fun v104 =>
                              (gA h v104 2 2).bind fun v107 =>
                              (aL h v107).bind fun v110 =>
                              if v110 < (12 : Int32) then
                                (gA (up h sz (oO 1 [.int 0, .int 0, .int 0, .int 0, .int 0, .int 0, .int 0, .int 0, .int 0, .int 0])) l0 5 2).bind fun v128 =>
                                (gA (up h sz (oO 1 [.int 0, .int 0, .int 0, .int 0, .int 0, .int 0, .int 0, .int 0, .int 0, .int 0])) l0 5 3).bind fun v139 =>
                                (gI (up h sz (oO 1 [.int 0, .int 0, .int 0, .int 0, .int 0, .int 0, .int 0, .int 0, .int 0, .int 0])) v139 2 0).bind fun v142 =>
                                (fX1_init N (up h sz (oO 1 [.int 0, .int 0, .int 0, .int 0, .int 0, .int 0, .int 0, .int 0, .int 0, .int 0])) (some sz) v128 l1 l2 l3 l4 l5 v142).bind fun z145 =>
                                (gA z145 l0 5 3).bind fun v152 =>
                                (gA z145 l0 5 2).bind fun v158 =>
                                if isO z145 v158 0 = true then
                                (fX0_longOf N z145 v158 l1 l2).bind fun v163 =>
                                  if isO z145 v152 2 = true then
                                  (fX2_drawn N z145 (sz + 1) v152 (some sz) v163).bind fun z166 =>
                                    if isO z166.2.1 l0 5 = true then
                                    (fX5_changeTo N z166.2.1 l0 z166.1).bind fun z169 =>
                                      some (v110, z169, z166.2.2)
                                    else none
                                  else none
                                else none
                              else
                                some ((-3 : Int32), h, sz)
                            else
                              some ((-2 : Int32), h, sz)
                          else none
                        else none
                    else none
                else none
          else none
      else none
  else none
def fX6_lays_L18 {α : Type} (N : Nat) (K42 : Hp → Option Nat → Option Nat → Int32 → Option α) : Nat → Hp → Option Nat → Option Nat → Int32 → Int32 → Option α
  | 0, _, _, _, _, _ => none
  | n + 1, h, l0, l1, l2, l3 =>
    if (4 : Int32) ≤ l3 then
      K42 h l0 l1 l2
    else
      (gA h l0 6 7).bind fun v30 =>
      (rI h v30 0 l3).bind fun v34 =>
      (wI h l1 0 ((l2 + (2 : Int32)) + l3) v34).bind fun h35 =>
      fX6_lays_L18 N K42 n h35 l0 l1 l2 (l3 + 1)
def fX6_lays_L44 {α : Type} (N : Nat) (K70 : Hp → Option α) : Nat → Hp → Option Nat → Option Nat → Int32 → Int32 → Option α
  | 0, _, _, _, _, _ => none
  | n + 1, h, l0, l1, l2, l3 =>
    if (72 : Int32) ≤ l3 then
      K70 h
    else
      (gA h l0 6 8).bind fun v58 =>
      (rI h v58 0 l3).bind fun v62 =>
      (wI h l1 0 ((l2 + (6 : Int32)) + l3) v62).bind fun h63 =>
      fX6_lays_L44 N K70 n h63 l0 l1 l2 (l3 + 1)
def fX6_lays (N : Nat) (h : Hp) (l0 : Option Nat) (l1 : Option Nat) (l2 : Int32) : Option (Hp) :=
  (gI h l0 6 5).bind fun v3 =>
  (wI h l1 0 l2 v3).bind fun h6 =>
  (gI h6 l0 6 6).bind fun v12 =>
  (wI h6 l1 0 (l2 + (1 : Int32)) v12).bind fun h15 =>
  fX6_lays_L18 N
    (fun h l0 l1 l2 =>
      fX6_lays_L44 N
        (fun h =>
          some h)
        N h l0 l1 l2 (0 : Int32))
    N h15 l0 l1 l2 (0 : Int32)
def fX6_notes_L11 {α : Type} (N : Nat) (K39 : Hp → Option Nat → Option α) : Nat → Hp → Option Nat → Int32 → Option α
  | 0, _, _, _ => none
  | n + 1, h, l0, l1 =>
    if (702 : Int32) ≤ l1 then
      K39 h l0
    else
      (gA h l0 6 23).bind fun v19 =>
      (gA h l0 6 23).bind fun v24 =>
      (rI h v24 0 (l1 + (78 : Int32))).bind fun v31 =>
      (wI h v19 0 l1 v31).bind fun h32 =>
      fX6_notes_L11 N K39 n h32 l0 (l1 + 1)
def fX6_notes_j49 (N : Nat) (h : Hp) (l0 : Option Nat) : Option (Hp) :=
  (gA h l0 6 23).bind fun v51 =>
  (gI h l0 6 24).bind fun v57 =>
  if isO h l0 6 = true then
  (fX6_lays N h l0 v51 ((78 : Int32) * v57)).bind fun z61 =>
    (gI z61 l0 6 24).bind fun v66 =>
    (pV z61 l0 6 24 (.int (v66 + (1 : Int32)))).bind fun h71 =>
    some h71
  else none
def fX6_notes (N : Nat) (h : Hp) (l0 : Option Nat) : Option (Hp) :=
  (gI h l0 6 24).bind fun v1 =>
  if v1 = (10 : Int32) then
    fX6_notes_L11 N
      (fun h l0 =>
        (gI h l0 6 24).bind fun v41 =>
        (pV h l0 6 24 (.int (v41 - (1 : Int32)))).bind fun h46 =>
        fX6_notes_j49 N h46 l0)
      N h l0 (0 : Int32)
  else
    fX6_notes_j49 N h l0
def fX6_draws (N : Nat) (h : Hp) (l0 : Option Nat) (l1 : Int32) (l2 : Int32) (l3 : Int32) (l4 : Int32) (l5 : Int32) : Option (Int32 × Hp) :=
  if isO h l0 6 = true then
  (fX6_isRing N h l0 l1).bind fun v2 =>
    if v2 = 0 then
      some ((-1 : Int32), h)
    else
      if isO h l0 6 = true then
      (fX6_isWheel N h l0 l2).bind fun v10 =>
        if v10 = 0 then
          some ((-1 : Int32), h)
        else
          (fX6_in N h l3 (1 : Int32) (9 : Int32)).bind fun v20 =>
          if v20 = 0 then
            some ((-1 : Int32), h)
          else
            (gA h l0 6 3).bind fun v30 =>
            (rI h v30 0 l1).bind fun v34 =>
            (fX6_in N h l4 (0 : Int32) (v34 - (1 : Int32))).bind fun v37 =>
            if v37 = 0 then
              some ((-1 : Int32), h)
            else
              if isO h l0 6 = true then
              (fX6_isPen N h l0 l5).bind fun v46 =>
                if v46 = 0 then
                  some ((-1 : Int32), h)
                else
                  if isO h l0 6 = true then
                  (fX6_fits N h l0 l1 l2).bind fun v57 =>
                    if v57 = 0 then
                      some ((-2 : Int32), h)
                    else
                      if isO h l0 6 = true then
                      (fX6_longOf N h l0 l1 l2).bind fun v66 =>
                        (gA h l0 6 7).bind fun v70 =>
                        (rI h v70 0 l5).bind fun v75 =>
                        if v66 ≤ v75 then
                          (gI h l0 6 6).bind fun v83 =>
                          if v83 = (12 : Int32) then
                            some ((-3 : Int32), h)
                          else
                            if isO h l0 6 = true then
                            (fX6_notes N h l0).bind fun z95 =>
                              (gI z95 l0 6 6).bind fun v101 =>
                              (gA z95 l0 6 8).bind fun v108 =>
                              (wI z95 v108 0 ((6 : Int32) * v101) l1).bind fun h114 =>
                              (gA h114 l0 6 8).bind fun v116 =>
                              (wI h114 v116 0 (((6 : Int32) * v101) + (1 : Int32)) l2).bind fun h124 =>
                              (gA h124 l0 6 8).bind fun v126 =>
                              (wI h124 v126 0 (((6 : Int32) * v101) + (2 : Int32)) l3).bind fun h134 =>
                              (gA h134 l0 6 8).bind fun v136 =>
                              (wI h134 v136 0 (((6 : Int32) * v101) + (3 : Int32)) l4).bind fun h145 =>
                              (gA h145 l0 6 8).bind fun v147 =>
                              (wI h145 v147 0 (((6 : Int32) * v101) + (4 : Int32)) l5).bind fun h156 =>
                              (gA h156 l0 6 8).bind fun v158 =>
                              (gI h156 l0 6 5).bind fun v166 =>
                              (wI h156 v158 0 (((6 : Int32) * v101) + (5 : Int32)) v166).bind fun h169 =>
                              (gA h169 l0 6 7).bind fun v171 =>
                              (rI h169 v171 0 l5).bind fun v177 =>
                              if isO h169 l0 6 = true then
                              (fX6_longOf N h169 l0 l1 l2).bind fun v181 =>
                                (wI h169 v171 0 l5 (v177 - v181)).bind fun h185 =>
                                (gI h185 l0 6 6).bind fun v188 =>
                                (pV h185 l0 6 6 (.int (v188 + (1 : Int32)))).bind fun h193 =>
                                (gI h193 l0 6 6).bind fun v197 =>
                                some (v197 - (1 : Int32), h193)
                              else none
                            else none
                        else
                          some ((-2 : Int32), h)
                      else none
                  else none
              else none
      else none
  else none
def fX2_rubbed_L17 {α : Type} (N : Nat) (K49 : Hp → Nat → Option Nat → Option Nat → Option α) : Nat → Hp → Nat → Option Nat → Int32 → Option Nat → Int32 → Option α
  | 0, _, _, _, _, _, _ => none
  | n + 1, h, sz, l0, l1, l2, l3 =>
    (aL h l2).bind fun v19 =>
    if v19 ≤ l3 then
      K49 h sz l0 l2
    else
      (gA h l0 2 2).bind fun v26 =>
      if l1 ≤ l3 then
        (rA h v26 2 (l3 + (1 : Int32))).bind fun v41 =>
        (wA h l2 2 l3 v41).bind fun h42 =>
        fX2_rubbed_L17 N K49 n h42 sz l0 l1 l2 (l3 + 1)
      else
        (rA h v26 2 l3).bind fun v41 =>
        (wA h l2 2 l3 v41).bind fun h42 =>
        fX2_rubbed_L17 N K49 n h42 sz l0 l1 l2 (l3 + 1)
def fX2_rubbed (N : Nat) (h : Hp) (sz : Nat) (l0 : Option Nat) (l1 : Int32) : Option (Option Nat × Hp × Nat) :=
  (gA h l0 2 2).bind fun v1 =>
  (aL h v1).bind fun v4 =>
  if ¬ (jmax (v4 - (1 : Int32)) (0 : Int32)) < 0 ∧ (jmax (v4 - (1 : Int32)) (0 : Int32)).toNatClampNeg ≤ 16 then
    fX2_rubbed_L17 N
      (fun h sz l0 l2 =>
        (gI (up h sz (oO 2 [.int 0, .null, .null, .null])) l0 2 0).bind fun v54 =>
        (gA (up h sz (oO 2 [.int 0, .null, .null, .null])) l0 2 1).bind fun v58 =>
        (fX2_init N (up h sz (oO 2 [.int 0, .null, .null, .null])) (some sz) v54 v58 l2 l0).bind fun z63 =>
        some (some sz, z63, sz + 1))
      N (up h sz (oA 2 ((jmax (v4 - (1 : Int32)) (0 : Int32)).toNatClampNeg) (fun _ => none))) (sz + 1) l0 l1 (some sz) (0 : Int32)
  else none
def fX5_rubs (N : Nat) (h : Hp) (sz : Nat) (l0 : Option Nat) (l1 : Int32) : Option (Int32 × Hp × Nat) :=
  (gA h l0 5 3).bind fun v1 =>
  if isO h v1 2 = true then
  (fX2_curveAt N h v1 l1).bind fun v5 =>
    if v5 = none then
      some ((-1 : Int32), h, sz)
    else
      (gA h l0 5 3).bind fun v15 =>
      if isO h v15 2 = true then
      (fX2_rubbed N h sz v15 l1).bind fun z19 =>
        if isO z19.2.1 l0 5 = true then
        (fX5_changeTo N z19.2.1 l0 z19.1).bind fun z22 =>
          (gA z22 l0 5 3).bind fun v26 =>
          (gA z22 v26 2 2).bind fun v29 =>
          (aL z22 v29).bind fun v32 =>
          some (v32, z22, z19.2.2)
        else none
      else none
  else none
def fX6_rubs_L29 {α : Type} (N : Nat) (K61 : Hp → Option Nat → Option α) : Nat → Hp → Option Nat → Int32 → Option α
  | 0, _, _, _ => none
  | n + 1, h, l0, l2 =>
    (gI h l0 6 6).bind fun v33 =>
    if ((6 : Int32) * v33) ≤ l2 then
      K61 h l0
    else
      (gA h l0 6 8).bind fun v41 =>
      (gA h l0 6 8).bind fun v46 =>
      (rI h v46 0 (l2 + (6 : Int32))).bind fun v53 =>
      (wI h v41 0 l2 v53).bind fun h54 =>
      fX6_rubs_L29 N K61 n h54 l0 (l2 + 1)
def fX6_rubs (N : Nat) (h : Hp) (l0 : Option Nat) (l1 : Int32) : Option (Int32 × Hp) :=
  if isO h l0 6 = true then
  (fX6_isCurve N h l0 l1).bind fun v2 =>
    if v2 = 0 then
      some ((-1 : Int32), h)
    else
      if isO h l0 6 = true then
      (fX6_notes N h l0).bind fun z11 =>
        (gI z11 l0 6 6).bind fun v16 =>
        (pV z11 l0 6 6 (.int (v16 - (1 : Int32)))).bind fun h21 =>
        fX6_rubs_L29 N
          (fun h l0 =>
            (gI h l0 6 6).bind fun v62 =>
            some (v62, h))
          N h21 l0 ((6 : Int32) * l1)
      else none
  else none
def fX2_turned (N : Nat) (h : Hp) (sz : Nat) (l0 : Option Nat) (l1 : Int32) : Option (Option Nat × Hp × Nat) :=
  (gI (up h sz (oO 2 [.int 0, .null, .null, .null])) l0 2 0).bind fun v5 =>
  (fX5_rest N (up h sz (oO 2 [.int 0, .null, .null, .null])) (v5 + l1) (360 : Int32)).bind fun v13 =>
  (gA (up h sz (oO 2 [.int 0, .null, .null, .null])) l0 2 1).bind fun v17 =>
  (gA (up h sz (oO 2 [.int 0, .null, .null, .null])) l0 2 2).bind fun v21 =>
  (fX2_init N (up h sz (oO 2 [.int 0, .null, .null, .null])) (some sz) v13 v17 v21 l0).bind fun z25 =>
  some (some sz, z25, sz + 1)
def fX5_spins (N : Nat) (h : Hp) (sz : Nat) (l0 : Option Nat) (l1 : Int32) : Option (Int32 × Hp × Nat) :=
  (fX5_within N h l1 (1 : Int32) (359 : Int32)).bind fun v5 =>
  if v5 = 0 then
    some ((-1 : Int32), h, sz)
  else
    (gA h l0 5 3).bind fun v15 =>
    if isO h v15 2 = true then
    (fX2_turned N h sz v15 l1).bind fun z19 =>
      if isO z19.2.1 l0 5 = true then
      (fX5_changeTo N z19.2.1 l0 z19.1).bind fun z22 =>
        (gA z22 l0 5 3).bind fun v26 =>
        (gI z22 v26 2 0).bind fun v29 =>
        some (v29, z22, z19.2.2)
      else none
    else none
def fX6_spins (N : Nat) (h : Hp) (l0 : Option Nat) (l1 : Int32) : Option (Int32 × Hp) :=
  (fX6_in N h l1 (1 : Int32) (359 : Int32)).bind fun v5 =>
  if v5 = 0 then
    some ((-1 : Int32), h)
  else
    if isO h l0 6 = true then
    (fX6_notes N h l0).bind fun z14 =>
      (gI z14 l0 6 5).bind fun v19 =>
      (pV z14 l0 6 5 (.int (jrem (v19 + l1) (360 : Int32)))).bind fun h28 =>
      (gI h28 l0 6 5).bind fun v32 =>
      some (v32, h28)
    else none
def fX2_filled (N : Nat) (h : Hp) (sz : Nat) (l0 : Option Nat) (l1 : Int32) (l2 : Int32) : Option (Option Nat × Hp × Nat) :=
  if isO h l0 2 = true then
  (fX2_inkOf N h l0 l1).bind fun v4 =>
    if isO h l0 2 = true then
    (fX2_inkWith N h sz l0 l1 (jmin (v4 + l2) (999 : Int32))).bind fun z15 =>
      (gI (up z15.2.1 z15.2.2 (oO 2 [.int 0, .null, .null, .null])) l0 2 0).bind fun v24 =>
      (gA (up z15.2.1 z15.2.2 (oO 2 [.int 0, .null, .null, .null])) l0 2 2).bind fun v29 =>
      (fX2_init N (up z15.2.1 z15.2.2 (oO 2 [.int 0, .null, .null, .null])) (some z15.2.2) v24 z15.1 v29 l0).bind fun z33 =>
      some (some z15.2.2, z33, z15.2.2 + 1)
    else none
  else none
def fX5_fills (N : Nat) (h : Hp) (sz : Nat) (l0 : Option Nat) (l1 : Int32) (l2 : Int32) : Option (Int32 × Hp × Nat) :=
  (gA h l0 5 2).bind fun v1 =>
  if isO h v1 0 = true then
  (fX0_hasPen N h v1 l1).bind fun v5 =>
    if v5 = 0 then
      some ((-1 : Int32), h, sz)
    else
      (fX5_within N h l2 (1 : Int32) (999 : Int32)).bind fun v16 =>
      if v16 = 0 then
        some ((-1 : Int32), h, sz)
      else
        (gA h l0 5 3).bind fun v25 =>
        if isO h v25 2 = true then
        (fX2_inkOf N h v25 l1).bind fun v29 =>
          if v29 < (999 : Int32) then
            (gA h l0 5 3).bind fun v43 =>
            if isO h v43 2 = true then
            (fX2_filled N h sz v43 l1 l2).bind fun z48 =>
              if isO z48.2.1 l0 5 = true then
              (fX5_changeTo N z48.2.1 l0 z48.1).bind fun z51 =>
                (gA z51 l0 5 3).bind fun v55 =>
                if isO z51 v55 2 = true then
                (fX2_inkOf N z51 v55 l1).bind fun v59 =>
                  some (v59, z51, z48.2.2)
                else none
              else none
            else none
          else
            some ((-2 : Int32), h, sz)
        else none
  else none
def fX6_fills (N : Nat) (h : Hp) (l0 : Option Nat) (l1 : Int32) (l2 : Int32) : Option (Int32 × Hp) :=
  if isO h l0 6 = true then
  (fX6_isPen N h l0 l1).bind fun v2 =>
    if v2 = 0 then
      some ((-1 : Int32), h)
    else
      (fX6_in N h l2 (1 : Int32) (999 : Int32)).bind fun v13 =>
      if v13 = 0 then
        some ((-1 : Int32), h)
      else
        (gA h l0 6 7).bind fun v22 =>
        (rI h v22 0 l1).bind fun v26 =>
        if v26 = (999 : Int32) then
          some ((-2 : Int32), h)
        else
          if isO h l0 6 = true then
          (fX6_notes N h l0).bind fun z37 =>
            (gA z37 l0 6 7).bind fun v41 =>
            (gA z37 l0 6 7).bind fun v46 =>
            (rI z37 v46 0 l1).bind fun v50 =>
            if (v50 + l2) ≤ (999 : Int32) then
              (gA z37 l0 6 7).bind fun v66 =>
              (rI z37 v66 0 l1).bind fun v70 =>
              (wI z37 v41 0 l1 (v70 + l2)).bind fun h73 =>
              (gA h73 l0 6 7).bind fun v75 =>
              (rI h73 v75 0 l1).bind fun v79 =>
              some (v79, h73)
            else
              (wI z37 v41 0 l1 (999 : Int32)).bind fun h73 =>
              (gA h73 l0 6 7).bind fun v75 =>
              (rI h73 v75 0 l1).bind fun v79 =>
              some (v79, h73)
          else none
  else none
def fX5_undo (N : Nat) (h : Hp) (l0 : Option Nat) : Option (Int32 × Hp) :=
  (gA h l0 5 3).bind fun v1 =>
  (gA h v1 2 3).bind fun v4 =>
  (gI h l0 5 4).bind fun v9 =>
  if v9 ≤ 0 then
    some ((-2 : Int32), h)
  else
    if v4 = none then
      some ((-2 : Int32), h)
    else
      (pV h l0 5 3 (va_rf v4)).bind fun h24 =>
      (gI h24 l0 5 4).bind fun v29 =>
      (pV h24 l0 5 4 (.int (v29 - (1 : Int32)))).bind fun h34 =>
      (gI h34 l0 5 4).bind fun v38 =>
      some (v38, h34)
def fX6_takes_L18 {α : Type} (N : Nat) (K42 : Hp → Option Nat → Option Nat → Int32 → Option α) : Nat → Hp → Option Nat → Option Nat → Int32 → Int32 → Option α
  | 0, _, _, _, _, _ => none
  | n + 1, h, l0, l1, l2, l3 =>
    if (4 : Int32) ≤ l3 then
      K42 h l0 l1 l2
    else
      (gA h l0 6 7).bind fun v24 =>
      (rI h l1 0 ((l2 + (2 : Int32)) + l3)).bind fun v34 =>
      (wI h v24 0 l3 v34).bind fun h35 =>
      fX6_takes_L18 N K42 n h35 l0 l1 l2 (l3 + 1)
def fX6_takes_L44 {α : Type} (N : Nat) (K70 : Hp → Option α) : Nat → Hp → Option Nat → Option Nat → Int32 → Int32 → Option α
  | 0, _, _, _, _, _ => none
  | n + 1, h, l0, l1, l2, l3 =>
    if (72 : Int32) ≤ l3 then
      K70 h
    else
      (gA h l0 6 8).bind fun v51 =>
      (rI h l1 0 ((l2 + (6 : Int32)) + l3)).bind fun v62 =>
      (wI h v51 0 l3 v62).bind fun h63 =>
      fX6_takes_L44 N K70 n h63 l0 l1 l2 (l3 + 1)
def fX6_takes (N : Nat) (h : Hp) (l0 : Option Nat) (l1 : Option Nat) (l2 : Int32) : Option (Hp) :=
  (rI h l1 0 l2).bind fun v3 =>
  (pV h l0 6 5 (.int v3)).bind fun h4 =>
  (rI h4 l1 0 (l2 + (1 : Int32))).bind fun v12 =>
  (pV h4 l0 6 6 (.int v12)).bind fun h13 =>
  fX6_takes_L18 N
    (fun h l0 l1 l2 =>
      fX6_takes_L44 N
        (fun h =>
          some h)
        N h l0 l1 l2 (0 : Int32))
    N h13 l0 l1 l2 (0 : Int32)
def fX6_undo (N : Nat) (h : Hp) (l0 : Option Nat) : Option (Int32 × Hp) :=
  (gI h l0 6 24).bind fun v1 =>
  if v1 = 0 then
    some ((-2 : Int32), h)
  else
    (gI h l0 6 24).bind fun v12 =>
    (pV h l0 6 24 (.int (v12 - (1 : Int32)))).bind fun h17 =>
    (gA h17 l0 6 23).bind fun v22 =>
    (gI h17 l0 6 24).bind fun v28 =>
    if isO h17 l0 6 = true then
    (fX6_takes N h17 l0 v22 ((78 : Int32) * v28)).bind fun z32 =>
      (gI z32 l0 6 24).bind fun v36 =>
      some (v36, z32)
    else none
def fX5_pointsShown_L4 {α : Type} (N : Nat) (K45 : Hp → Int32 → Option α) : Nat → Hp → Option Nat → Int32 → Int32 → Option α
  | 0, _, _, _, _ => none
  | n + 1, h, l0, l1, l2 =>
    if (9 : Int32) < l2 then
      K45 h l1
    else
      (gA h l0 5 3).bind fun v11 =>
      if isO h v11 2 = true then
      (fX2_hasCurveIn N h v11 l2).bind fun v15 =>
        if v15 = 0 then
          fX5_pointsShown_L4 N K45 n h l0 l1 (l2 + 1)
        else
          if isO h l0 5 = true then
          (fX5_noteShown N h l0 l2).bind fun z23 =>
            if isO z23 l0 5 = true then
            (fX5_pointsNoted N z23 l0 (-9 : Int32)).bind fun v33 =>
              fX5_pointsShown_L4 N K45 n z23 l0 (l1 + ((360 : Int32) - v33)) (l2 + 1)
            else none
          else none
      else none
def fX5_pointsShown (N : Nat) (h : Hp) (l0 : Option Nat) : Option (Int32 × Hp) :=
  fX5_pointsShown_L4 N
    (fun h l1 =>
      some (l1, h))
    N h l0 (0 : Int32) (1 : Int32)
def fX5_isSameTurned_L2 {α : Type} (N : Nat) (h : Hp) (K32 : Option α) (K40 : Option α) : Nat → Option Nat → Int32 → Int32 → Option α
  | 0, _, _, _ => none
  | n + 1, l0, l1, l2 =>
    if (360 : Int32) ≤ l2 then
      K40
    else
      (gA h l0 5 8).bind fun v10 =>
      (rI h v10 0 l2).bind fun v14 =>
      (gA h l0 5 8).bind fun v16 =>
      (fX5_rest N h (l2 + l1) (360 : Int32)).bind fun v25 =>
      (rI h v16 0 v25).bind fun v28 =>
      if v14 = v28 then
        fX5_isSameTurned_L2 N h K32 K40 n l0 l1 (l2 + 1)
      else
        K32
def fX5_isSameTurned (N : Nat) (h : Hp) (l0 : Option Nat) (l1 : Int32) : Option (Int32) :=
  fX5_isSameTurned_L2 N h
    (
      some (0 : Int32))
    (
      some (1 : Int32))
    N l0 l1 (0 : Int32)
def fX5_likeOfRow_L4 {α : Type} (N : Nat) (h : Hp) (K29 : Int32 → Option α) (K37 : Option α) : Nat → Option Nat → Int32 → Option α
  | 0, _, _ => none
  | n + 1, l0, l1 =>
    if l1 ≤ (1 : Int32) then
      K37
    else
      if l1 = 0 then none else
      if (jrem (360 : Int32) l1) = 0 then
        if l1 = 0 then none else
        if isO h l0 5 = true then
        (fX5_isSameTurned N h l0 ((360 : Int32) / l1)).bind fun v23 =>
          if v23 = 0 then
            fX5_likeOfRow_L4 N h K29 K37 n l0 (l1 + (-1))
          else
            K29 l1
        else none
      else
        fX5_likeOfRow_L4 N h K29 K37 n l0 (l1 + (-1))
def fX5_likeOfRow (N : Nat) (h : Hp) (l0 : Option Nat) : Option (Int32) :=
  fX5_likeOfRow_L4 N h
    (fun l1 =>
      some l1)
    (
      some (1 : Int32))
    N l0 (360 : Int32)
def fX5_like_L6 {α : Type} (N : Nat) (K43 : Hp → Int32 → Option α) : Nat → Hp → Option Nat → Int32 → Int32 → Option α
  | 0, _, _, _, _ => none
  | n + 1, h, l0, l1, l2 =>
    if (9 : Int32) < l2 then
      K43 h l1
    else
      (gA h l0 5 3).bind fun v13 =>
      if isO h v13 2 = true then
      (fX2_hasCurveIn N h v13 l2).bind fun v17 =>
        if v17 = 0 then
          fX5_like_L6 N K43 n h l0 l1 (l2 + 1)
        else
          if isO h l0 5 = true then
          (fX5_notePens N h l0 l2).bind fun z25 =>
            if isO z25 l0 5 = true then
            (fX5_likeOfRow N z25 l0).bind fun v30 =>
              (fX5_greatestDivisor N z25 l1 v30).bind fun v33 =>
              fX5_like_L6 N K43 n z25 l0 v33 (l2 + 1)
            else none
          else none
      else none
def fX5_like (N : Nat) (h : Hp) (l0 : Option Nat) : Option (Int32 × Hp) :=
  fX5_like_L6 N
    (fun h l1 =>
      some (l1, h))
    N h l0 (360 : Int32) (1 : Int32)
def fX5_now (N : Nat) (h : Hp) (l0 : Option Nat) (l1 : Int32) : Option (Int32 × Hp) :=
  if l1 = 0 then
    (gA h l0 5 3).bind fun v33 =>
    (gI h v33 2 0).bind fun v36 =>
    some (v36, h)
  else
  if l1 = 1 then
    (gA h l0 5 3).bind fun v41 =>
    (gA h v41 2 2).bind fun v44 =>
    (aL h v44).bind fun v47 =>
    some (v47, h)
  else
  if l1 = 2 then
    if isO h l0 5 = true then
    (fX5_pointsShown N h l0).bind fun z50 =>
      some (z50.1, z50.2)
    else none
  else
  if l1 = 3 then
    if isO h l0 5 = true then
    (fX5_like N h l0).bind fun z55 =>
      some (z55.1, z55.2)
    else none
  else
    some ((-1 : Int32), h)
def fX6_shownMany_L13 {α : Type} (N : Nat) (h : Hp) (K44 : Option Nat → Int32 → Int32 → Option α) : Nat → Option Nat → Int32 → Int32 → Int32 → Option α
  | 0, _, _, _, _ => none
  | n + 1, l0, l1, l2, l3 =>
    if (9 : Int32) < l3 then
      K44 l0 l1 l2
    else
      if isO h l0 6 = true then
      (fX6_shownAt N h l0 l2 l3).bind fun v23 =>
        if v23 = (-9 : Int32) then
          fX6_shownMany_L13 N h K44 n l0 (l1 + (0 : Int32)) l2 (l3 + 1)
        else
          fX6_shownMany_L13 N h K44 n l0 (l1 + (1 : Int32)) l2 (l3 + 1)
      else none
def fX6_shownMany_L4 {α : Type} (N : Nat) (h : Hp) (K50 : Int32 → Option α) : Nat → Option Nat → Int32 → Int32 → Option α
  | 0, _, _, _ => none
  | n + 1, l0, l1, l2 =>
    if (360 : Int32) ≤ l2 then
      K50 l1
    else
      fX6_shownMany_L13 N h
        (fun l0 l1 l2 =>
          fX6_shownMany_L4 N h K50 n l0 l1 (l2 + 1))
        N l0 l1 l2 (1 : Int32)
def fX6_shownMany (N : Nat) (h : Hp) (l0 : Option Nat) : Option (Int32) :=
  fX6_shownMany_L4 N h
    (fun l1 =>
      some l1)
    N l0 (0 : Int32) (0 : Int32)
def fX6_isLike_L23 {α : Type} (N : Nat) (h : Hp) (K74 : Option Nat → Int32 → Int32 → Int32 → Option α) : Nat → Option Nat → Int32 → Int32 → Int32 → Int32 → Int32 → Option α
  | 0, _, _, _, _, _, _ => none
  | n + 1, l0, l1, l2, l3, l4, l5 =>
    if (9 : Int32) ≤ l5 then
      K74 l0 l1 l2 l3
    else
      if l2 = 0 then
        fX6_isLike_L23 N h K74 n l0 l1 (0 : Int32) l3 l4 (l5 + 1)
      else
        (gA h l0 6 25).bind fun v35 =>
        (rI h v35 0 (((9 : Int32) * l3) + l5)).bind fun v45 =>
        (gA h l0 6 25).bind fun v47 =>
        (rI h v47 0 (((9 : Int32) * l4) + l5)).bind fun v58 =>
        if v45 = v58 then
          fX6_isLike_L23 N h K74 n l0 l1 (1 : Int32) l3 l4 (l5 + 1)
        else
          fX6_isLike_L23 N h K74 n l0 l1 (0 : Int32) l3 l4 (l5 + 1)
def fX6_isLike_L4 {α : Type} (N : Nat) (h : Hp) (K80 : Int32 → Option α) : Nat → Option Nat → Int32 → Int32 → Int32 → Option α
  | 0, _, _, _, _ => none
  | n + 1, l0, l1, l2, l3 =>
    if (360 : Int32) ≤ l3 then
      K80 l2
    else
      fX6_isLike_L23 N h
        (fun l0 l1 l2 l3 =>
          fX6_isLike_L4 N h K80 n l0 l1 l2 (l3 + 1))
        N l0 l1 l2 l3 (jrem (l3 + l1) (360 : Int32)) (0 : Int32)
def fX6_isLike (N : Nat) (h : Hp) (l0 : Option Nat) (l1 : Int32) : Option (Int32) :=
  fX6_isLike_L4 N h
    (fun l2 =>
      if l2 = 0 ∨ l2 = 1 then some l2 else none)
    N l0 l1 (1 : Int32) (0 : Int32)
def fX6_like_L11 {α : Type} (N : Nat) (K42 : Hp → Option Nat → Int32 → Option α) : Nat → Hp → Option Nat → Int32 → Int32 → Option α
  | 0, _, _, _, _ => none
  | n + 1, h, l0, l1, l2 =>
    if (9 : Int32) ≤ l2 then
      K42 h l0 l1
    else
      (gA h l0 6 25).bind fun v18 =>
      if isO h l0 6 = true then
      (fX6_penAt N h l0 l1 (l2 + (1 : Int32))).bind fun v32 =>
        (wI h v18 0 (((9 : Int32) * l1) + l2) v32).bind fun h35 =>
        fX6_like_L11 N K42 n h35 l0 l1 (l2 + 1)
      else none
def fX6_like_L2 {α : Type} (N : Nat) (K48 : Hp → Option Nat → Option α) : Nat → Hp → Option Nat → Int32 → Option α
  | 0, _, _, _ => none
  | n + 1, h, l0, l1 =>
    if (360 : Int32) ≤ l1 then
      K48 h l0
    else
      fX6_like_L11 N
        (fun h l0 l1 =>
          fX6_like_L2 N K48 n h l0 (l1 + 1))
        N h l0 l1 (0 : Int32)
def fX6_like_L52 {α : Type} (N : Nat) (K78 : Hp → Int32 → Option α) : Nat → Hp → Option Nat → Int32 → Option α
  | 0, _, _, _ => none
  | n + 1, h, l0, l1 =>
    if l1 = 0 then none else
    if (jrem (360 : Int32) l1) = 0 then
      if l1 = 0 then none else
      if isO h l0 6 = true then
      (fX6_isLike N h l0 ((360 : Int32) / l1)).bind fun v66 =>
        if v66 = 0 then
          fX6_like_L52 N K78 n h l0 (l1 + (-1))
        else
          K78 h l1
      else none
    else
      fX6_like_L52 N K78 n h l0 (l1 + (-1))
def fX6_like (N : Nat) (h : Hp) (l0 : Option Nat) : Option (Int32 × Hp) :=
  fX6_like_L2 N
    (fun h l0 =>
      fX6_like_L52 N
        (fun h l1 =>
          some (l1, h))
        N h l0 (360 : Int32))
    N h l0 (0 : Int32)
def fX6_now (N : Nat) (h : Hp) (l0 : Option Nat) (l1 : Int32) : Option (Int32 × Hp) :=
  (fX6_in N h l1 (0 : Int32) (3 : Int32)).bind fun v3 =>
  if v3 = 0 then
    some ((-1 : Int32), h)
  else
    if l1 = 0 then
      (gI h l0 6 5).bind fun v16 =>
      some (v16, h)
    else
      if l1 = (1 : Int32) then
        (gI h l0 6 6).bind fun v28 =>
        some (v28, h)
      else
        if l1 = (2 : Int32) then
          if isO h l0 6 = true then
          (fX6_shownMany N h l0).bind fun v40 =>
            some (v40, h)
          else none
        else
          if isO h l0 6 = true then
          (fX6_like N h l0).bind fun z47 =>
            some (z47.1, z47.2)
          else none
def fX1_hasTip (N : Nat) (h : Hp) (l0 : Option Nat) (l1 : Int32) (l2 : Int32) : Option (Int32) :=
  (gI h l0 1 2).bind fun v2 =>
  if l2 = v2 then
    (gI h l0 1 9).bind fun v10 =>
    (gI h l0 1 8).bind fun v15 =>
    (fX5_rest N h (l1 - v10) v15).bind fun v18 =>
    if v18 = 0 then
      some (1 : Int32)
    else
      some (0 : Int32)
  else
    some (0 : Int32)
def fX5_shown_L34 {α : Type} (N : Nat) (h : Hp) (K55 : Int32 → Option α) (K63 : Option α) : Nat → Option Nat → Int32 → Int32 → Int32 → Option α
  | 0, _, _, _, _ => none
  | n + 1, l0, l1, l2, l3 =>
    if l3 < 0 then
      K63
    else
      (gA h l0 5 3).bind fun v39 =>
      (gA h v39 2 2).bind fun v42 =>
      (rA h v42 2 l3).bind fun v46 =>
      if isO h v46 1 = true then
      (fX1_hasTip N h v46 l1 l2).bind fun v49 =>
        if v49 = 0 then
          fX5_shown_L34 N h K55 K63 n l0 l1 l2 (l3 + (-1))
        else
          K55 l3
      else none
def fX5_shown (N : Nat) (h : Hp) (l0 : Option Nat) (l1 : Int32) (l2 : Int32) : Option (Int32) :=
  (fX5_within N h l1 (0 : Int32) (359 : Int32)).bind fun v5 =>
  if v5 = 0 then
    some (-1 : Int32)
  else
    (fX5_within N h l2 (1 : Int32) (9 : Int32)).bind fun v15 =>
    if v15 = 0 then
      some (-1 : Int32)
    else
      (gA h l0 5 3).bind fun v24 =>
      (gA h v24 2 2).bind fun v27 =>
      (aL h v27).bind fun v30 =>
      fX5_shown_L34 N h
        (fun l3 =>
          some l3)
        (
          some (-9 : Int32))
        N l0 l1 l2 (v30 - (1 : Int32))
def fX6_shown (N : Nat) (h : Hp) (l0 : Option Nat) (l1 : Int32) (l2 : Int32) : Option (Int32) :=
  (fX6_in N h l1 (0 : Int32) (359 : Int32)).bind fun v5 =>
  if v5 = 0 then
    some (-1 : Int32)
  else
    (fX6_in N h l2 (1 : Int32) (9 : Int32)).bind fun v15 =>
    if v15 = 0 then
      some (-1 : Int32)
    else
      if isO h l0 6 = true then
      (fX6_shownAt N h l0 l1 l2).bind fun v24 =>
        some v24
      else none
def fX5_petals_L25 {α : Type} (N : Nat) (h : Hp) (K61 : Int32 → Option α) (K69 : Option α) : Nat → Option Nat → Int32 → Int32 → Int32 → Option α
  | 0, _, _, _, _ => none
  | n + 1, l0, l1, l2, l3 =>
    (gA h l0 5 2).bind fun v27 =>
    (gI h v27 0 4).bind fun v30 =>
    if v30 ≤ l3 then
      K69
    else
      (gA h l0 5 2).bind fun v37 =>
      if isO h v37 0 = true then
      (fX0_fits N h v37 l1 l3).bind fun v42 =>
        if v42 = 0 then
          fX5_petals_L25 N h K61 K69 n l0 l1 l2 (l3 + 1)
        else
          (gA h l0 5 2).bind fun v49 =>
          if isO h v49 0 = true then
          (fX0_petalsOf N h v49 l1 l3).bind fun v54 =>
            if v54 = l2 then
              K61 l3
            else
              fX5_petals_L25 N h K61 K69 n l0 l1 l2 (l3 + 1)
          else none
      else none
def fX5_petals (N : Nat) (h : Hp) (l0 : Option Nat) (l1 : Int32) (l2 : Int32) : Option (Int32) :=
  (gA h l0 5 2).bind fun v1 =>
  if isO h v1 0 = true then
  (fX0_hasRing N h v1 l1).bind fun v5 =>
    if v5 = 0 then
      some (-1 : Int32)
    else
      (fX5_within N h l2 (1 : Int32) (120 : Int32)).bind fun v15 =>
      if v15 = 0 then
        some (-1 : Int32)
      else
        fX5_petals_L25 N h
          (fun l3 =>
            some l3)
          (
            some (-9 : Int32))
          N l0 l1 l2 (0 : Int32)
  else none
def fX6_petals_L22 {α : Type} (N : Nat) (h : Hp) (K49 : Int32 → Option α) (K57 : Option α) : Nat → Option Nat → Int32 → Int32 → Int32 → Option α
  | 0, _, _, _, _ => none
  | n + 1, l0, l1, l2, l3 =>
    (gI h l0 6 1).bind fun v24 =>
    if v24 ≤ l3 then
      K57
    else
      if isO h l0 6 = true then
      (fX6_fits N h l0 l1 l3).bind fun v33 =>
        if v33 = 0 then
          fX6_petals_L22 N h K49 K57 n l0 l1 l2 (l3 + 1)
        else
          if isO h l0 6 = true then
          (fX6_petalsOf N h l0 l1 l3).bind fun v42 =>
            if v42 = l2 then
              K49 l3
            else
              fX6_petals_L22 N h K49 K57 n l0 l1 l2 (l3 + 1)
          else none
      else none
def fX6_petals (N : Nat) (h : Hp) (l0 : Option Nat) (l1 : Int32) (l2 : Int32) : Option (Int32) :=
  if isO h l0 6 = true then
  (fX6_isRing N h l0 l1).bind fun v2 =>
    if v2 = 0 then
      some (-1 : Int32)
    else
      (fX6_in N h l2 (1 : Int32) (120 : Int32)).bind fun v12 =>
      if v12 = 0 then
        some (-1 : Int32)
      else
        fX6_petals_L22 N h
          (fun l3 =>
            some l3)
          (
            some (-9 : Int32))
          N l0 l1 l2 (0 : Int32)
  else none
def fX5_noteBareTeeth_j86 {α : Type} (N : Nat) (K20 : Hp → Option Nat → Int32 → Int32 → Int32 → Int32 → Option α) (h : Hp) (l0 : Option Nat) (l1 : Int32) (l3 : Int32) (l4 : Int32) (l5 : Int32) (s0 : Int32) (s1 : Int32) (s2 : Option Nat) : Option α :=
  (wI h s2 0 s1 s0).bind fun h86 =>
  (gA h86 l0 5 9).bind fun v90 =>
  (rI h86 v90 0 l5).bind fun v95 =>
  K20 h86 l0 l1 l3 (l4 + v95) (l5 + 1)
def fX5_noteBareTeeth_L20 {α : Type} (N : Nat) (K105 : Hp → Int32 → Option α) : Nat → Hp → Option Nat → Int32 → Int32 → Int32 → Int32 → Option α
  | 0, _, _, _, _, _, _ => none
  | n + 1, h, l0, l1, l3, l4, l5 =>
    (gA h l0 5 2).bind fun v23 =>
    if isO h v23 0 = true then
    (fX0_teethOf N h v23 l1).bind fun v27 =>
      if v27 ≤ l5 then
        K105 h l4
      else
        (gA h l0 5 9).bind fun v36 =>
        (aL h v36).bind fun v39 =>
        if v39 ≤ l5 then
          K105 h l4
        else
          (gA h l0 5 3).bind fun v48 =>
          (gI h v48 2 0).bind fun v51 =>
          (fX5_rest N h ((l3 * l5) + v51) (360 : Int32)).bind fun v58 =>
          (gA h l0 5 9).bind fun v64 =>
          (gA h l0 5 8).bind fun v70 =>
          (rI h v70 0 v58).bind fun v75 =>
          if v75 = (-9 : Int32) then
            fX5_noteBareTeeth_j86 N (fX5_noteBareTeeth_L20 N K105 n) h l0 l1 l3 l4 l5 (1 : Int32) l5 v64
          else
            fX5_noteBareTeeth_j86 N (fX5_noteBareTeeth_L20 N K105 n) h l0 l1 l3 l4 l5 (0 : Int32) l5 v64
    else none
def fX5_noteBareTeeth (N : Nat) (h : Hp) (l0 : Option Nat) (l1 : Int32) (l2 : Int32) : Option (Int32 × Hp) :=
  if isO h l0 5 = true then
  (fX5_noteShown N h l0 l2).bind fun z2 =>
    (gA z2 l0 5 2).bind fun v6 =>
    if isO z2 v6 0 = true then
    (fX0_stepOf N z2 v6 l1).bind fun v10 =>
      fX5_noteBareTeeth_L20 N
        (fun h l4 =>
          some (l4, h))
        N z2 l0 l1 v10 (0 : Int32) (0 : Int32)
    else none
  else none
def fX5_isClassBare_L10 {α : Type} (N : Nat) (h : Hp) (K37 : Option α) (K49 : Option α) : Nat → Option Nat → Int32 → Int32 → Int32 → Option α
  | 0, _, _, _, _ => none
  | n + 1, l0, l2, l4, l5 =>
    if l2 ≤ l5 then
      K49
    else
      (gA h l0 5 9).bind fun v19 =>
      (aL h v19).bind fun v22 =>
      if v22 ≤ l5 then
        K49
      else
        (gA h l0 5 9).bind fun v27 =>
        (rI h v27 0 l5).bind fun v32 =>
        if v32 = (1 : Int32) then
          K37
        else
          fX5_isClassBare_L10 N h K37 K49 n l0 l2 l4 (l5 + l4)
def fX5_isClassBare (N : Nat) (h : Hp) (l0 : Option Nat) (l1 : Int32) (l2 : Int32) (l3 : Int32) : Option (Int32) :=
  fX5_isClassBare_L10 N h
    (
      some (1 : Int32))
    (
      some (0 : Int32))
    N l0 l2 (jmax l3 (1 : Int32)) l1
def fX5_curvesNeeded_L5 {α : Type} (N : Nat) (h : Hp) (K31 : Int32 → Option α) : Nat → Option Nat → Int32 → Int32 → Int32 → Int32 → Option α
  | 0, _, _, _, _, _ => none
  | n + 1, l0, l1, l2, l3, l4 =>
    if l2 ≤ l4 then
      K31 l3
    else
      if isO h l0 5 = true then
      (fX5_isClassBare N h l0 l4 l1 l2).bind fun v16 =>
        if v16 = 0 then
          fX5_curvesNeeded_L5 N h K31 n l0 l1 l2 l3 (l4 + 1)
        else
          fX5_curvesNeeded_L5 N h K31 n l0 l1 l2 (l3 + 1) (l4 + 1)
      else none
def fX5_curvesNeeded (N : Nat) (h : Hp) (l0 : Option Nat) (l1 : Int32) (l2 : Int32) : Option (Int32) :=
  fX5_curvesNeeded_L5 N h
    (fun l3 =>
      some l3)
    N l0 l1 l2 (0 : Int32) (0 : Int32)
def fX5_closes_L63 {α : Type} (N : Nat) (K140 : Hp → Int32 → Int32 → Int32 → Option α) : Nat → Hp → Option Nat → Int32 → Int32 → Int32 → Int32 → Int32 → Option α
  | 0, _, _, _, _, _, _, _ => none
  | n + 1, h, l0, l1, l3, l4, l5, l6 =>
    (gA h l0 5 2).bind fun v66 =>
    (gI h v66 0 4).bind fun v69 =>
    if v69 ≤ l6 then
      K140 h l3 l4 l5
    else
      (gA h l0 5 2).bind fun v76 =>
      if isO h v76 0 = true then
      (fX0_fits N h v76 l1 l6).bind fun v82 =>
        if v82 = 0 then
          fX5_closes_L63 N K140 n h l0 l1 l3 l4 l5 (l6 + 1)
        else
          (gA h l0 5 2).bind fun v90 =>
          if isO h v90 0 = true then
          (fX0_teethOf N h v90 l1).bind fun v94 =>
            (gA h l0 5 2).bind fun v98 =>
            if isO h v98 0 = true then
            (fX0_divisorOf N h v98 l1 l6).bind fun v104 =>
              if isO h l0 5 = true then
              (fX5_curvesNeeded N h l0 v94 v104).bind fun v107 =>
                if l5 = (-9 : Int32) then
                  fX5_closes_L63 N K140 n h l0 l1 l3 v107 l6 (l6 + 1)
                else
                  if l4 ≤ v107 then
                    fX5_closes_L63 N K140 n h l0 l1 l3 l4 l5 (l6 + 1)
                  else
                    fX5_closes_L63 N K140 n h l0 l1 l3 v107 l6 (l6 + 1)
              else none
            else none
          else none
      else none
def fX5_closes (N : Nat) (h : Hp) (l0 : Option Nat) (l1 : Int32) (l2 : Int32) (l3 : Int32) : Option (Int32 × Hp) :=
  (gA h l0 5 2).bind fun v1 =>
  if isO h v1 0 = true then
  (fX0_hasRing N h v1 l1).bind fun v5 =>
    if v5 = 0 then
      some ((-1 : Int32), h)
    else
      (fX5_within N h l2 (1 : Int32) (9 : Int32)).bind fun v15 =>
      if v15 = 0 then
        some ((-1 : Int32), h)
      else
        (fX5_within N h l3 (0 : Int32) (1 : Int32)).bind fun v24 =>
        if v24 = 0 then
          some ((-1 : Int32), h)
        else
          if isO h l0 5 = true then
          (fX5_noteBareTeeth N h l0 l1 l2).bind fun z35 =>
            if z35.1 = 0 then
              if l3 = 0 then
                some ((0 : Int32), z35.2)
              else
                some ((-9 : Int32), z35.2)
            else
              fX5_closes_L63 N
                (fun h l3 l4 l5 =>
                  if l3 = 0 then
                    some (l4, h)
                  else
                    some (l5, h))
                N z35.2 l0 l1 l3 (-9 : Int32) (-9 : Int32) (0 : Int32)
          else none
  else none
def fX6_pointOf (N : Nat) (h : Hp) (l0 : Option Nat) (l1 : Int32) (l2 : Int32) (l3 : Int32) : Option (Int32) :=
  (gA h l0 6 3).bind fun v4 =>
  (rI h v4 0 l1).bind fun v8 =>
  if v8 = 0 then none else
  some (jrem ((((360 : Int32) / v8) * l3) + l2) (360 : Int32))
def fX6_openMany_L4 {α : Type} (N : Nat) (h : Hp) (K37 : Int32 → Option α) : Nat → Option Nat → Int32 → Int32 → Int32 → Option α
  | 0, _, _, _, _ => none
  | n + 1, l0, l1, l2, l3 =>
    (gA h l0 6 3).bind fun v6 =>
    (rI h v6 0 l1).bind fun v10 =>
    if v10 ≤ l3 then
      K37 l2
    else
      (gA h l0 6 26).bind fun v16 =>
      (rI h v16 0 l3).bind fun v20 =>
      if v20 = 0 then
        fX6_openMany_L4 N h K37 n l0 l1 (l2 + (1 : Int32)) (l3 + 1)
      else
        fX6_openMany_L4 N h K37 n l0 l1 (l2 + (0 : Int32)) (l3 + 1)
def fX6_openMany (N : Nat) (h : Hp) (l0 : Option Nat) (l1 : Int32) : Option (Int32) :=
  fX6_openMany_L4 N h
    (fun l2 =>
      some l2)
    N l0 l1 (0 : Int32) (0 : Int32)
def fX6_openRests_L18 {α : Type} (N : Nat) (h : Hp) (K60 : Option Nat → Int32 → Int32 → Int32 → Int32 → Int32 → Option α) : Nat → Option Nat → Int32 → Int32 → Int32 → Int32 → Int32 → Int32 → Option α
  | 0, _, _, _, _, _, _, _ => none
  | n + 1, l0, l1, l2, l3, l4, l5, l6 =>
    (gA h l0 6 3).bind fun v21 =>
    (rI h v21 0 l1).bind fun v25 =>
    if v25 ≤ l6 then
      K60 l0 l1 l2 l3 l4 l5
    else
      if l5 = 0 then
        (gA h l0 6 26).bind fun v35 =>
        (rI h v35 0 l6).bind fun v40 =>
        if v40 = 0 then
          fX6_openRests_L18 N h K60 n l0 l1 l2 l3 l4 (1 : Int32) (l6 + l2)
        else
          fX6_openRests_L18 N h K60 n l0 l1 l2 l3 l4 (0 : Int32) (l6 + l2)
      else
        fX6_openRests_L18 N h K60 n l0 l1 l2 l3 l4 (1 : Int32) (l6 + l2)
def fX6_openRests_L5 {α : Type} (N : Nat) (h : Hp) (K79 : Int32 → Option α) : Nat → Option Nat → Int32 → Int32 → Int32 → Int32 → Option α
  | 0, _, _, _, _, _ => none
  | n + 1, l0, l1, l2, l3, l4 =>
    if l2 ≤ l4 then
      K79 l3
    else
      fX6_openRests_L18 N h
        (fun l0 l1 l2 l3 l4 l5 =>
          if l5 = 0 then
            fX6_openRests_L5 N h K79 n l0 l1 l2 (l3 + (0 : Int32)) (l4 + 1)
          else
            fX6_openRests_L5 N h K79 n l0 l1 l2 (l3 + (1 : Int32)) (l4 + 1))
        N l0 l1 l2 l3 l4 (0 : Int32) l4
def fX6_openRests (N : Nat) (h : Hp) (l0 : Option Nat) (l1 : Int32) (l2 : Int32) : Option (Int32) :=
  fX6_openRests_L5 N h
    (fun l3 =>
      some l3)
    N l0 l1 l2 (0 : Int32) (0 : Int32)
def fX6_closes_L32 {α : Type} (N : Nat) (K82 : Hp → Option Nat → Int32 → Int32 → Option α) : Nat → Hp → Option Nat → Int32 → Int32 → Int32 → Int32 → Option α
  | 0, _, _, _, _, _, _ => none
  | n + 1, h, l0, l1, l2, l3, l4 =>
    (gA h l0 6 3).bind fun v35 =>
    (rI h v35 0 l1).bind fun v39 =>
    if v39 ≤ l4 then
      K82 h l0 l1 l3
    else
      (gA h l0 6 26).bind fun v44 =>
      (gI h l0 6 5).bind fun v53 =>
      if isO h l0 6 = true then
      (fX6_pointOf N h l0 l1 v53 l4).bind fun v58 =>
        if isO h l0 6 = true then
        (fX6_shownAt N h l0 v58 l2).bind fun v62 =>
          if v62 = (-9 : Int32) then
            (wI h v44 0 l4 (0 : Int32)).bind fun h75 =>
            fX6_closes_L32 N K82 n h75 l0 l1 l2 l3 (l4 + 1)
          else
            (wI h v44 0 l4 (1 : Int32)).bind fun h75 =>
            fX6_closes_L32 N K82 n h75 l0 l1 l2 l3 (l4 + 1)
        else none
      else none
def fX6_closes_j164 {α : Type} (N : Nat) (K112 : Hp → Option Nat → Int32 → Int32 → Int32 → Int32 → Int32 → Option α) (h : Hp) (l0 : Option Nat) (l1 : Int32) (l3 : Int32) (l5 : Int32) (l6 : Int32) (l7 : Int32) (s0 : Int32) : Option α :=
  if l5 ≤ l7 then
    K112 h l0 l1 l3 s0 l5 (l6 + 1)
  else
    K112 h l0 l1 l3 s0 l7 (l6 + 1)
def fX6_closes_j148 {α : Type} (N : Nat) (K112 : Hp → Option Nat → Int32 → Int32 → Int32 → Int32 → Int32 → Option α) (h : Hp) (l0 : Option Nat) (l1 : Int32) (l3 : Int32) (l4 : Int32) (l5 : Int32) (l6 : Int32) (s0 : Int32) : Option α :=
  if l5 ≤ s0 then
    fX6_closes_j164 N K112 h l0 l1 l3 l5 l6 s0 l4
  else
    fX6_closes_j164 N K112 h l0 l1 l3 l5 l6 s0 l6
def fX6_closes_L112 {α : Type} (N : Nat) (K188 : Hp → Int32 → Int32 → Int32 → Option α) : Nat → Hp → Option Nat → Int32 → Int32 → Int32 → Int32 → Int32 → Option α
  | 0, _, _, _, _, _, _, _ => none
  | n + 1, h, l0, l1, l3, l4, l5, l6 =>
    (gI h l0 6 1).bind fun v115 =>
    if v115 ≤ l6 then
      K188 h l3 l4 l5
    else
      if isO h l0 6 = true then
      (fX6_fits N h l0 l1 l6).bind fun v125 =>
        if v125 = 0 then
          fX6_closes_j148 N (fX6_closes_L112 N K188 n) h l0 l1 l3 l4 l5 l6 (1048576 : Int32)
        else
          if isO h l0 6 = true then
          (fX6_commonOf N h l0 l1 l6).bind fun v137 =>
            if isO h l0 6 = true then
            (fX6_openRests N h l0 l1 v137).bind fun v140 =>
              fX6_closes_j148 N (fX6_closes_L112 N K188 n) h l0 l1 l3 l4 l5 l6 v140
            else none
          else none
      else none
def fX6_closes (N : Nat) (h : Hp) (l0 : Option Nat) (l1 : Int32) (l2 : Int32) (l3 : Int32) : Option (Int32 × Hp) :=
  if isO h l0 6 = true then
  (fX6_isRing N h l0 l1).bind fun v2 =>
    if v2 = 0 then
      some ((-1 : Int32), h)
    else
      (fX6_in N h l2 (1 : Int32) (9 : Int32)).bind fun v12 =>
      if v12 = 0 then
        some ((-1 : Int32), h)
      else
        (fX6_in N h l3 (0 : Int32) (1 : Int32)).bind fun v21 =>
        if v21 = 0 then
          some ((-1 : Int32), h)
        else
          fX6_closes_L32 N
            (fun h l0 l1 l3 =>
              if isO h l0 6 = true then
              (fX6_openMany N h l0 l1).bind fun v84 =>
                if v84 = 0 then
                  if l3 = 0 then
                    some ((0 : Int32), h)
                  else
                    some ((-9 : Int32), h)
                else
                  fX6_closes_L112 N
                    (fun h l3 l4 l5 =>
                      if l4 = (-9 : Int32) then
                        some (l4, h)
                      else
                        if l3 = (1 : Int32) then
                          some (l4, h)
                        else
                          some (l5, h))
                    N h l0 l1 l3 (-9 : Int32) (1048576 : Int32) (0 : Int32)
              else none)
            N h l0 l1 l2 l3 (0 : Int32)
  else none
def fX5_addTwo_L11 {α : Type} (N : Nat) (K51 : Hp → Option α) : Nat → Hp → Option Nat → Int32 → Int32 → Int32 → Option α
  | 0, _, _, _, _, _ => none
  | n + 1, h, l0, l2, l3, l4 =>
    if l4 < l3 then
      K51 h
    else
      (gA h l0 5 10).bind fun v18 =>
      (gA h l0 5 10).bind fun v24 =>
      (rI h v24 0 l4).bind fun v29 =>
      (gA h l0 5 10).bind fun v31 =>
      (rI h v31 0 (l4 - l3)).bind fun v38 =>
      (wI h v18 0 l4 (jmax v29 (v38 + l2))).bind fun h44 =>
      fX5_addTwo_L11 N K51 n h44 l0 l2 l3 (l4 + (-1))
def fX5_addTwo (N : Nat) (h : Hp) (l0 : Option Nat) (l1 : Int32) (l2 : Int32) : Option (Hp) :=
  fX5_addTwo_L11 N
    (fun h =>
      some h)
    N h l0 l2 (jmax l1 (0 : Int32)) (999 : Int32)
def fX5_noteMostPetals_L23 {α : Type} (N : Nat) (K74 : Hp → Option Nat → Int32 → Option α) : Nat → Hp → Option Nat → Int32 → Int32 → Option α
  | 0, _, _, _, _ => none
  | n + 1, h, l0, l1, l2 =>
    (gA h l0 5 2).bind fun v25 =>
    (gI h v25 0 4).bind fun v28 =>
    if v28 ≤ l2 then
      K74 h l0 l1
    else
      (gA h l0 5 2).bind fun v35 =>
      if isO h v35 0 = true then
      (fX0_fits N h v35 l1 l2).bind fun v40 =>
        if v40 = 0 then
          fX5_noteMostPetals_L23 N K74 n h l0 l1 (l2 + 1)
        else
          (gA h l0 5 2).bind fun v48 =>
          if isO h v48 0 = true then
          (fX0_longOf N h v48 l1 l2).bind fun v53 =>
            (gA h l0 5 2).bind fun v57 =>
            if isO h v57 0 = true then
            (fX0_petalsOf N h v57 l1 l2).bind fun v62 =>
              if isO h l0 5 = true then
              (fX5_addTwo N h l0 v53 v62).bind fun z65 =>
                fX5_noteMostPetals_L23 N K74 n z65 l0 l1 (l2 + 1)
              else none
            else none
          else none
      else none
def fX5_noteMostPetals_L10 {α : Type} (N : Nat) (K80 : Hp → Option Nat → Option α) : Nat → Hp → Option Nat → Int32 → Option α
  | 0, _, _, _ => none
  | n + 1, h, l0, l1 =>
    (gA h l0 5 2).bind fun v12 =>
    (gI h v12 0 3).bind fun v15 =>
    if v15 ≤ l1 then
      K80 h l0
    else
      fX5_noteMostPetals_L23 N
        (fun h l0 l1 =>
          fX5_noteMostPetals_L10 N K80 n h l0 (l1 + 1))
        N h l0 l1 (0 : Int32)
def fX5_noteMostPetals (N : Nat) (h : Hp) (l0 : Option Nat) : Option (Hp) :=
  (gA h l0 5 10).bind fun v1 =>
  (fJ7_fill_53178 N h v1 (0 : Int32)).bind fun z5 =>
  fX5_noteMostPetals_L10 N
    (fun h l0 =>
      (pV h l0 5 11 (.int (1 : Int32))).bind fun h82 =>
      some h82)
    N z5 l0 (0 : Int32)
def fX5_best_L70 {α : Type} (N : Nat) (K94 : Hp → Int32 → Option α) : Nat → Hp → Option Nat → Int32 → Int32 → Int32 → Option α
  | 0, _, _, _, _, _ => none
  | n + 1, h, l0, l3, l4, l5 =>
    if l3 ≤ l5 then
      K94 h l5
    else
      (gA h l0 5 10).bind fun v77 =>
      (rI h v77 0 l5).bind fun v82 =>
      if l4 ≤ v82 then
        K94 h l5
      else
        fX5_best_L70 N K94 n h l0 l3 l4 (l5 + 1)
def fX5_best_j33 (N : Nat) (h : Hp) (l0 : Option Nat) (l1 : Int32) (l2 : Int32) : Option (Int32 × Hp) :=
  (gA h l0 5 3).bind fun v34 =>
  if isO h v34 2 = true then
  (fX2_inkOf N h v34 l1).bind fun v38 =>
    (gA h l0 5 10).bind fun v53 =>
    (rI h v53 0 (jmin (jmax v38 (0 : Int32)) (999 : Int32))).bind fun v57 =>
    if l2 = 0 then
      some (v57, h)
    else
      fX5_best_L70 N
        (fun h l5 =>
          some (l5, h))
        N h l0 (jmin (jmax v38 (0 : Int32)) (999 : Int32)) v57 (0 : Int32)
  else none
def fX5_best (N : Nat) (h : Hp) (l0 : Option Nat) (l1 : Int32) (l2 : Int32) : Option (Int32 × Hp) :=
  (gA h l0 5 2).bind fun v1 =>
  if isO h v1 0 = true then
  (fX0_hasPen N h v1 l1).bind fun v5 =>
    if v5 = 0 then
      some ((-1 : Int32), h)
    else
      (fX5_within N h l2 (0 : Int32) (1 : Int32)).bind fun v14 =>
      if v14 = 0 then
        some ((-1 : Int32), h)
      else
        (gI h l0 5 11).bind fun v23 =>
        if v23 = 0 then
          if isO h l0 5 = true then
          (fX5_noteMostPetals N h l0).bind fun z30 =>
            fX5_best_j33 N z30 l0 l1 l2
          else none
        else
          fX5_best_j33 N h l0 l1 l2
  else none
def fX6_comesTwo_L3 {α : Type} (N : Nat) (K56 : Hp → Option α) : Nat → Hp → Option Nat → Int32 → Int32 → Int32 → Option α
  | 0, _, _, _, _, _ => none
  | n + 1, h, l0, l1, l2, l4 =>
    if l4 < l2 then
      K56 h
    else
      (gA h l0 6 27).bind fun v10 =>
      (rI h v10 0 (l4 - l2)).bind fun v17 =>
      if v17 < 0 then
        fX6_comesTwo_L3 N K56 n h l0 l1 l2 (l4 + (-1))
      else
        (gA h l0 6 27).bind fun v30 =>
        (rI h v30 0 l4).bind fun v35 =>
        if (v17 + l1) ≤ v35 then
          fX6_comesTwo_L3 N K56 n h l0 l1 l2 (l4 + (-1))
        else
          (gA h l0 6 27).bind fun v40 =>
          (wI h v40 0 l4 (v17 + l1)).bind fun h49 =>
          fX6_comesTwo_L3 N K56 n h49 l0 l1 l2 (l4 + (-1))
def fX6_comesTwo (N : Nat) (h : Hp) (l0 : Option Nat) (l1 : Int32) (l2 : Int32) (l3 : Int32) : Option (Hp) :=
  fX6_comesTwo_L3 N
    (fun h =>
      some h)
    N h l0 l1 l2 l3
def fX6_best_L28 {α : Type} (N : Nat) (K48 : Hp → Option Nat → Int32 → Int32 → Option α) : Nat → Hp → Option Nat → Int32 → Int32 → Int32 → Option α
  | 0, _, _, _, _, _ => none
  | n + 1, h, l0, l1, l2, l3 =>
    if (999 : Int32) < l3 then
      K48 h l0 l1 l2
    else
      (gA h l0 6 27).bind fun v36 =>
      (wI h v36 0 l3 (-1 : Int32)).bind fun h41 =>
      fX6_best_L28 N K48 n h41 l0 l1 l2 (l3 + 1)
def fX6_best_L61 {α : Type} (N : Nat) (K110 : Hp → Option Nat → Int32 → Int32 → Int32 → Option α) : Nat → Hp → Option Nat → Int32 → Int32 → Int32 → Int32 → Option α
  | 0, _, _, _, _, _, _ => none
  | n + 1, h, l0, l1, l2, l3, l4 =>
    (gI h l0 6 1).bind fun v64 =>
    if v64 ≤ l4 then
      K110 h l0 l1 l2 l3
    else
      if isO h l0 6 = true then
      (fX6_fits N h l0 l3 l4).bind fun v74 =>
        if v74 = 0 then
          fX6_best_L61 N K110 n h l0 l1 l2 l3 (l4 + 1)
        else
          if isO h l0 6 = true then
          (fX6_petalsOf N h l0 l3 l4).bind fun v85 =>
            if isO h l0 6 = true then
            (fX6_longOf N h l0 l3 l4).bind fun v92 =>
              (gA h l0 6 7).bind fun v96 =>
              (rI h v96 0 l1).bind fun v100 =>
              if isO h l0 6 = true then
              (fX6_comesTwo N h l0 v85 v92 v100).bind fun z101 =>
                fX6_best_L61 N K110 n z101 l0 l1 l2 l3 (l4 + 1)
              else none
            else none
          else none
      else none
def fX6_best_L50 {α : Type} (N : Nat) (K116 : Hp → Option Nat → Int32 → Int32 → Option α) : Nat → Hp → Option Nat → Int32 → Int32 → Int32 → Option α
  | 0, _, _, _, _, _ => none
  | n + 1, h, l0, l1, l2, l3 =>
    (gI h l0 6 0).bind fun v52 =>
    if v52 ≤ l3 then
      K116 h l0 l1 l2
    else
      fX6_best_L61 N
        (fun h l0 l1 l2 l3 =>
          fX6_best_L50 N K116 n h l0 l1 l2 (l3 + 1))
        N h l0 l1 l2 l3 (0 : Int32)
def fX6_best_L121 {α : Type} (N : Nat) (K161 : Hp → Option Nat → Int32 → Int32 → Option α) : Nat → Hp → Option Nat → Int32 → Int32 → Int32 → Int32 → Option α
  | 0, _, _, _, _, _, _ => none
  | n + 1, h, l0, l1, l2, l3, l4 =>
    (gA h l0 6 7).bind fun v124 =>
    (rI h v124 0 l1).bind fun v128 =>
    if v128 < l4 then
      K161 h l0 l2 l3
    else
      (gA h l0 6 27).bind fun v133 =>
      (rI h v133 0 l4).bind fun v138 =>
      (gA h l0 6 27).bind fun v140 =>
      (rI h v140 0 l3).bind fun v144 =>
      if v138 ≤ v144 then
        fX6_best_L121 N K161 n h l0 l1 l2 l3 (l4 + 1)
      else
        fX6_best_L121 N K161 n h l0 l1 l2 l4 (l4 + 1)
def fX6_best (N : Nat) (h : Hp) (l0 : Option Nat) (l1 : Int32) (l2 : Int32) : Option (Int32 × Hp) :=
  if isO h l0 6 = true then
  (fX6_isPen N h l0 l1).bind fun v2 =>
    if v2 = 0 then
      some ((-1 : Int32), h)
    else
      (fX6_in N h l2 (0 : Int32) (1 : Int32)).bind fun v11 =>
      if v11 = 0 then
        some ((-1 : Int32), h)
      else
        (gA h l0 6 27).bind fun v20 =>
        (wI h v20 0 (0 : Int32) (0 : Int32)).bind fun h25 =>
        fX6_best_L28 N
          (fun h l0 l1 l2 =>
            fX6_best_L50 N
              (fun h l0 l1 l2 =>
                fX6_best_L121 N
                  (fun h l0 l2 l3 =>
                    if l2 = 0 then
                      (gA h l0 6 27).bind fun v166 =>
                      (rI h v166 0 l3).bind fun v170 =>
                      some (v170, h)
                    else
                      some (l3, h))
                  N h l0 l1 l2 (0 : Int32) (1 : Int32))
              N h l0 l1 l2 (0 : Int32))
          N h25 l0 l1 l2 (1 : Int32)
  else none
def fX5_meet_L41 {α : Type} (N : Nat) (h : Hp) (K77 : Int32 → Option α) : Nat → Option Nat → Option Nat → Int32 → Int32 → Option α
  | 0, _, _, _, _ => none
  | n + 1, l3, l4, l5, l6 =>
    (gI h l3 1 6).bind fun v44 =>
    if v44 ≤ l6 then
      K77 l5
    else
      if isO h l3 1 = true then
      (fX1_pointOf N h l3 l6).bind fun v55 =>
        (gI h l3 1 2).bind fun v59 =>
        if isO h l4 1 = true then
        (fX1_hasTip N h l4 v55 v59).bind fun v62 =>
          if v62 = 0 then
            fX5_meet_L41 N h K77 n l3 l4 l5 (l6 + 1)
          else
            fX5_meet_L41 N h K77 n l3 l4 (l5 + 1) (l6 + 1)
        else none
      else none
def fX5_meet (N : Nat) (h : Hp) (l0 : Option Nat) (l1 : Int32) (l2 : Int32) : Option (Int32) :=
  (gA h l0 5 3).bind fun v1 =>
  if isO h v1 2 = true then
  (fX2_curveAt N h v1 l1).bind fun v5 =>
    (gA h l0 5 3).bind fun v10 =>
    if isO h v10 2 = true then
    (fX2_curveAt N h v10 l2).bind fun v14 =>
      if v5 = none then
        some (-1 : Int32)
      else
        if v14 = none then
          some (-1 : Int32)
        else
          if l1 = l2 then
            some (-1 : Int32)
          else
            fX5_meet_L41 N h
              (fun l5 =>
                some l5)
              N v5 v14 (0 : Int32) (0 : Int32)
    else none
  else none
def fX6_meet_L41 {α : Type} (N : Nat) (h : Hp) (K87 : Int32 → Option α) : Nat → Option Nat → Int32 → Int32 → Int32 → Int32 → Int32 → Option α
  | 0, _, _, _, _, _, _ => none
  | n + 1, l0, l1, l2, l3, l4, l5 =>
    if (360 : Int32) ≤ l5 then
      K87 l4
    else
      if isO h l0 6 = true then
      (fX6_hasTip N h l0 l1 l5 l3).bind fun v56 =>
        if v56 = 0 then
          fX6_meet_L41 N h K87 n l0 l1 l2 l3 (l4 + (0 : Int32)) (l5 + 1)
        else
          if isO h l0 6 = true then
          (fX6_hasTip N h l0 l2 l5 l3).bind fun v67 =>
            if v67 = 0 then
              fX6_meet_L41 N h K87 n l0 l1 l2 l3 (l4 + (0 : Int32)) (l5 + 1)
            else
              fX6_meet_L41 N h K87 n l0 l1 l2 l3 (l4 + (1 : Int32)) (l5 + 1)
          else none
      else none
def fX6_meet (N : Nat) (h : Hp) (l0 : Option Nat) (l1 : Int32) (l2 : Int32) : Option (Int32) :=
  if isO h l0 6 = true then
  (fX6_isCurve N h l0 l1).bind fun v2 =>
    if v2 = 0 then
      some (-1 : Int32)
    else
      if isO h l0 6 = true then
      (fX6_isCurve N h l0 l2).bind fun v10 =>
        if v10 = 0 then
          some (-1 : Int32)
        else
          if l1 = l2 then
            some (-1 : Int32)
          else
            (gA h l0 6 8).bind fun v24 =>
            (rI h v24 0 (((6 : Int32) * l1) + (2 : Int32))).bind fun v33 =>
            fX6_meet_L41 N h
              (fun l4 =>
                some l4)
              N l0 l1 l2 v33 (0 : Int32) (0 : Int32)
      else none
  else none
def fX5_odds_j90 (N : Nat) (h : Hp) (l0 : Option Nat) (l1 : Int32) (l2 : Int32) (l4 : Int32) (s0 : Int32) : Option (Int32) :=
  if l4 = 0 then
    if s0 = 0 then
      some (0 : Int32)
    else
      some (1 : Int32)
  else
    if s0 = 0 then
      some (1 : Int32)
    else
      (gA h l0 5 2).bind fun v114 =>
      if isO h v114 0 = true then
      (fX0_divisorOf N h v114 l1 l2).bind fun v119 =>
        some v119
      else none
def fX5_odds (N : Nat) (h : Hp) (l0 : Option Nat) (l1 : Int32) (l2 : Int32) (l3 : Int32) (l4 : Int32) : Option (Int32) :=
  (gA h l0 5 2).bind fun v1 =>
  if isO h v1 0 = true then
  (fX0_hasRing N h v1 l1).bind fun v5 =>
    if v5 = 0 then
      some (-1 : Int32)
    else
      (gA h l0 5 2).bind fun v12 =>
      if isO h v12 0 = true then
      (fX0_hasWheel N h v12 l2).bind fun v16 =>
        if v16 = 0 then
          some (-1 : Int32)
        else
          (fX5_within N h l3 (0 : Int32) (359 : Int32)).bind fun v29 =>
          if v29 = 0 then
            some (-1 : Int32)
          else
            (fX5_within N h l4 (0 : Int32) (1 : Int32)).bind fun v39 =>
            if v39 = 0 then
              some (-1 : Int32)
            else
              (gA h l0 5 2).bind fun v48 =>
              if isO h v48 0 = true then
              (fX0_fits N h v48 l1 l2).bind fun v53 =>
                if v53 = 0 then
                  some (-2 : Int32)
                else
                  (gA h l0 5 3).bind fun v64 =>
                  (gI h v64 2 0).bind fun v67 =>
                  (gA h l0 5 2).bind fun v72 =>
                  if isO h v72 0 = true then
                  (fX0_stepOf N h v72 l1).bind fun v76 =>
                    (fX5_rest N h (l3 - v67) v76).bind fun v79 =>
                    if v79 = 0 then
                      fX5_odds_j90 N h l0 l1 l2 l4 (1 : Int32)
                    else
                      fX5_odds_j90 N h l0 l1 l2 l4 (0 : Int32)
                  else none
              else none
      else none
  else none
def fX6_odds_j71 (N : Nat) (h : Hp) (l0 : Option Nat) (l1 : Int32) (l2 : Int32) (l4 : Int32) (s0 : Int32) : Option (Int32) :=
  if l4 = 0 then
    if s0 = 0 then
      some (0 : Int32)
    else
      some (1 : Int32)
  else
    if s0 = 0 then
      some (1 : Int32)
    else
      if isO h l0 6 = true then
      (fX6_commonOf N h l0 l1 l2).bind fun v99 =>
        some v99
      else none
def fX6_odds (N : Nat) (h : Hp) (l0 : Option Nat) (l1 : Int32) (l2 : Int32) (l3 : Int32) (l4 : Int32) : Option (Int32) :=
  if isO h l0 6 = true then
  (fX6_isRing N h l0 l1).bind fun v2 =>
    if v2 = 0 then
      some (-1 : Int32)
    else
      if isO h l0 6 = true then
      (fX6_isWheel N h l0 l2).bind fun v10 =>
        if v10 = 0 then
          some (-1 : Int32)
        else
          (fX6_in N h l3 (0 : Int32) (359 : Int32)).bind fun v21 =>
          if v21 = 0 then
            some (-1 : Int32)
          else
            (fX6_in N h l4 (0 : Int32) (1 : Int32)).bind fun v31 =>
            if v31 = 0 then
              some (-1 : Int32)
            else
              if isO h l0 6 = true then
              (fX6_fits N h l0 l1 l2).bind fun v42 =>
                if v42 = 0 then
                  some (-2 : Int32)
                else
                  (gI h l0 6 5).bind fun v54 =>
                  if isO h l0 6 = true then
                  (fX6_toothAt N h l0 l1 v54 l3).bind fun v58 =>
                    if v58 = (-9 : Int32) then
                      fX6_odds_j71 N h l0 l1 l2 l4 (0 : Int32)
                    else
                      fX6_odds_j71 N h l0 l1 l2 l4 (1 : Int32)
                  else none
              else none
      else none
  else none
def fX3_adds (N : Nat) (h : Hp) (l0 : Option Nat) (l1 : Int32) (l2 : Int32) : Option (Int32 × Hp) :=
  (gI h l0 3 2).bind fun v1 =>
  if v1 < (6 : Int32) then
    (gA h l0 3 0).bind fun v12 =>
    (gI h l0 3 2).bind fun v16 =>
    (wI h v12 0 v16 l1).bind fun h20 =>
    (gA h20 l0 3 1).bind fun v22 =>
    (gI h20 l0 3 2).bind fun v26 =>
    (wI h20 v22 1 v26 (vp_nar .boolean l2)).bind fun h30 =>
    (gI h30 l0 3 2).bind fun v33 =>
    (pV h30 l0 3 2 (.int (v33 + (1 : Int32)))).bind fun h38 =>
    some ((1 : Int32), h38)
  else
    some ((0 : Int32), h)
def fX5_sees_j36 (N : Nat) (h : Hp) (l0 : Option Nat) (s0 : Int32) (s1 : Int32) (s2 : Option Nat) : Option (Int32 × Hp) :=
  if isO h s2 3 = true then
  (fX3_adds N h s2 s1 s0).bind fun z36 =>
    if z36.1 = 0 then
      some ((-3 : Int32), z36.2)
    else
      (gA z36.2 l0 5 1).bind fun v43 =>
      (gI z36.2 v43 3 2).bind fun v46 =>
      some (v46, z36.2)
  else none
def fX5_sees (N : Nat) (h : Hp) (l0 : Option Nat) (l1 : Int32) (l2 : Int32) : Option (Int32 × Hp) :=
  (fX5_within N h l1 (0 : Int32) (119 : Int32)).bind fun v4 =>
  if v4 = 0 then
    some ((-1 : Int32), h)
  else
    (fX5_within N h l2 (0 : Int32) (1 : Int32)).bind fun v13 =>
    if v13 = 0 then
      some ((-1 : Int32), h)
    else
      (gA h l0 5 1).bind fun v22 =>
      if l2 = (1 : Int32) then
        fX5_sees_j36 N h l0 (1 : Int32) l1 v22
      else
        fX5_sees_j36 N h l0 (0 : Int32) l1 v22
def fX6_sees (N : Nat) (h : Hp) (l0 : Option Nat) (l1 : Int32) (l2 : Int32) : Option (Int32 × Hp) :=
  (fX6_in N h l1 (0 : Int32) (119 : Int32)).bind fun v4 =>
  if v4 = 0 then
    some ((-1 : Int32), h)
  else
    (fX6_in N h l2 (0 : Int32) (1 : Int32)).bind fun v13 =>
    if v13 = 0 then
      some ((-1 : Int32), h)
    else
      (gI h l0 6 9).bind fun v22 =>
      if v22 = (6 : Int32) then
        some ((-3 : Int32), h)
      else
        (gA h l0 6 10).bind fun v34 =>
        (gI h l0 6 9).bind fun v38 =>
        (wI h v34 0 v38 l1).bind fun h42 =>
        (gA h42 l0 6 11).bind fun v44 =>
        (gI h42 l0 6 9).bind fun v48 =>
        (wI h42 v44 0 v48 l2).bind fun h52 =>
        (gI h52 l0 6 9).bind fun v55 =>
        (pV h52 l0 6 9 (.int (v55 + (1 : Int32)))).bind fun h60 =>
        (gI h60 l0 6 9).bind fun v64 =>
        some (v64, h60)
def fX5_forget (N : Nat) (h : Hp) (l0 : Option Nat) : Option (Int32 × Hp) :=
  (gA h l0 5 1).bind fun v1 =>
  if isO h v1 3 = true then
  (fX3_empties N h v1).bind fun z4 =>
    some (z4.1, z4.2)
  else none
def fX6_forget (N : Nat) (h : Hp) (l0 : Option Nat) : Option (Int32 × Hp) :=
  (gI h l0 6 9).bind fun v1 =>
  (pV h l0 6 9 (.int (0 : Int32))).bind fun h7 =>
  some (v1, h7)
def fX3_agree_j44 {α : Type} (N : Nat) (h : Hp) (K3 : Option Nat → Int32 → Int32 → Int32 → Int32 → Option α) (K58 : Option α) (l0 : Option Nat) (l1 : Int32) (l2 : Int32) (l3 : Int32) (l4 : Int32) (s0 : Int32) : Option α :=
  (gA h l0 3 1).bind fun v49 =>
  (rI h v49 1 l4).bind fun v54 =>
  if s0 = v54 then
    K3 l0 l1 l2 l3 (l4 + 1)
  else
    K58
def fX3_agree_L3 {α : Type} (N : Nat) (h : Hp) (K58 : Option α) (K66 : Option α) : Nat → Option Nat → Int32 → Int32 → Int32 → Int32 → Option α
  | 0, _, _, _, _, _ => none
  | n + 1, l0, l1, l2, l3, l4 =>
    (gI h l0 3 2).bind fun v6 =>
    if v6 ≤ l4 then
      K66
    else
      (gA h l0 3 0).bind fun v13 =>
      (rI h v13 0 l4).bind fun v18 =>
      if l1 ≤ v18 then
        fX3_agree_j44 N h (fX3_agree_L3 N h K58 K66 n) K58 l0 l1 l2 l3 l4 (0 : Int32)
      else
        (gA h l0 3 0).bind fun v24 =>
        (rI h v24 0 l4).bind fun v29 =>
        (fX5_rest N h (v29 - l3) l2).bind fun v33 =>
        if v33 = 0 then
          fX3_agree_j44 N h (fX3_agree_L3 N h K58 K66 n) K58 l0 l1 l2 l3 l4 (1 : Int32)
        else
          fX3_agree_j44 N h (fX3_agree_L3 N h K58 K66 n) K58 l0 l1 l2 l3 l4 (0 : Int32)
def fX3_agree (N : Nat) (h : Hp) (l0 : Option Nat) (l1 : Int32) (l2 : Int32) (l3 : Int32) : Option (Int32) :=
  fX3_agree_L3 N h
    (
      some (0 : Int32))
    (
      some (1 : Int32))
    N l0 l1 l2 l3 (0 : Int32)
def fX3_startsAgreeing_L5 {α : Type} (N : Nat) (h : Hp) (K31 : Int32 → Option α) : Nat → Option Nat → Int32 → Int32 → Int32 → Int32 → Option α
  | 0, _, _, _, _, _ => none
  | n + 1, l0, l1, l2, l3, l4 =>
    if l2 ≤ l4 then
      K31 l3
    else
      if isO h l0 3 = true then
      (fX3_agree N h l0 l1 l2 l4).bind fun v16 =>
        if v16 = 0 then
          fX3_startsAgreeing_L5 N h K31 n l0 l1 l2 l3 (l4 + 1)
        else
          fX3_startsAgreeing_L5 N h K31 n l0 l1 l2 (l3 + 1) (l4 + 1)
      else none
def fX3_startsAgreeing (N : Nat) (h : Hp) (l0 : Option Nat) (l1 : Int32) (l2 : Int32) : Option (Int32) :=
  fX3_startsAgreeing_L5 N h
    (fun l3 =>
      some l3)
    N l0 l1 l2 (0 : Int32) (0 : Int32)
def fX5_guesses_L14 {α : Type} (N : Nat) (h : Hp) (K81 : Int32 → Option α) : Nat → Option Nat → Int32 → Int32 → Int32 → Int32 → Option α
  | 0, _, _, _, _, _ => none
  | n + 1, l0, l1, l2, l3, l4 =>
    (gA h l0 5 2).bind fun v17 =>
    (gI h v17 0 4).bind fun v20 =>
    if v20 ≤ l4 then
      K81 l3
    else
      (gA h l0 5 2).bind fun v27 =>
      if isO h v27 0 = true then
      (fX0_fits N h v27 l1 l4).bind fun v33 =>
        if v33 = 0 then
          fX5_guesses_L14 N h K81 n l0 l1 l2 l3 (l4 + 1)
        else
          (gA h l0 5 2).bind fun v40 =>
          if isO h v40 0 = true then
          (fX0_divisorOf N h v40 l1 l4).bind fun v46 =>
            (gA h l0 5 2).bind fun v53 =>
            if isO h v53 0 = true then
            (fX0_petalsOf N h v53 l1 l4).bind fun v59 =>
              (gA h l0 5 1).bind fun v63 =>
              if isO h v63 3 = true then
              (fX3_startsAgreeing N h v63 l2 v46).bind fun v69 =>
                fX5_guesses_L14 N h K81 n l0 l1 l2 (l3 + (v59 * v69)) (l4 + 1)
              else none
            else none
          else none
      else none
def fX5_guesses (N : Nat) (h : Hp) (l0 : Option Nat) (l1 : Int32) : Option (Int32) :=
  (gA h l0 5 2).bind fun v1 =>
  if isO h v1 0 = true then
  (fX0_teethOf N h v1 l1).bind fun v5 =>
    fX5_guesses_L14 N h
      (fun l3 =>
        some l3)
      N l0 l1 v5 (0 : Int32) (0 : Int32)
  else none
def fX3_firstAgreeing_L2 {α : Type} (N : Nat) (h : Hp) (K17 : Int32 → Option α) (K25 : Option α) : Nat → Option Nat → Int32 → Int32 → Int32 → Option α
  | 0, _, _, _, _ => none
  | n + 1, l0, l1, l2, l3 =>
    if l2 ≤ l3 then
      K25
    else
      if isO h l0 3 = true then
      (fX3_agree N h l0 l1 l2 l3).bind fun v11 =>
        if v11 = 0 then
          fX3_firstAgreeing_L2 N h K17 K25 n l0 l1 l2 (l3 + 1)
        else
          K17 l3
      else none
def fX3_firstAgreeing (N : Nat) (h : Hp) (l0 : Option Nat) (l1 : Int32) (l2 : Int32) : Option (Int32) :=
  fX3_firstAgreeing_L2 N h
    (fun l3 =>
      some l3)
    (
      some (-9 : Int32))
    N l0 l1 l2 (0 : Int32)
def fX5_firstGuess_L11 {α : Type} (N : Nat) (h : Hp) (K60 : Int32 → Int32 → Option α) (K75 : Option α) : Nat → Option Nat → Int32 → Int32 → Int32 → Option α
  | 0, _, _, _, _ => none
  | n + 1, l0, l1, l2, l3 =>
    (gA h l0 5 2).bind fun v13 =>
    (gI h v13 0 4).bind fun v16 =>
    if v16 ≤ l3 then
      K75
    else
      (gA h l0 5 2).bind fun v23 =>
      if isO h v23 0 = true then
      (fX0_fits N h v23 l1 l3).bind fun v28 =>
        if v28 = 0 then
          fX5_firstGuess_L11 N h K60 K75 n l0 l1 l2 (l3 + 1)
        else
          (gA h l0 5 1).bind fun v35 =>
          (gA h l0 5 2).bind fun v40 =>
          if isO h v40 0 = true then
          (fX0_divisorOf N h v40 l1 l3).bind fun v45 =>
            if isO h v35 3 = true then
            (fX3_firstAgreeing N h v35 l2 v45).bind fun v48 =>
              if v48 = (-9 : Int32) then
                fX5_firstGuess_L11 N h K60 K75 n l0 l1 l2 (l3 + 1)
              else
                K60 l3 v48
            else none
          else none
      else none
def fX5_firstGuess (N : Nat) (h : Hp) (l0 : Option Nat) (l1 : Int32) : Option (Int32) :=
  (gA h l0 5 2).bind fun v1 =>
  if isO h v1 0 = true then
  (fX0_teethOf N h v1 l1).bind fun v5 =>
    fX5_firstGuess_L11 N h
      (fun l3 l4 =>
        some (((1000 : Int32) * l3) + l4))
      (
        some (-9 : Int32))
      N l0 l1 v5 (0 : Int32)
  else none
def fX5_guess (N : Nat) (h : Hp) (l0 : Option Nat) (l1 : Int32) (l2 : Int32) : Option (Int32) :=
  (gA h l0 5 2).bind fun v1 =>
  if isO h v1 0 = true then
  (fX0_hasRing N h v1 l1).bind fun v5 =>
    if v5 = 0 then
      some (-1 : Int32)
    else
      (fX5_within N h l2 (0 : Int32) (1 : Int32)).bind fun v14 =>
      if v14 = 0 then
        some (-1 : Int32)
      else
        if l2 = 0 then
          if isO h l0 5 = true then
          (fX5_guesses N h l0 l1).bind fun v28 =>
            some v28
          else none
        else
          if isO h l0 5 = true then
          (fX5_firstGuess N h l0 l1).bind fun v36 =>
            some v36
          else none
  else none
def fX6_isSo_j81 {α : Type} (N : Nat) (h : Hp) (K6 : Option Nat → Int32 → Int32 → Int32 → Int32 → Int32 → Option α) (l0 : Option Nat) (l1 : Int32) (l2 : Int32) (l3 : Int32) (l5 : Int32) (s0 : Int32) (s1 : Int32) : Option α :=
  if s1 = s0 then
    K6 l0 l1 l2 l3 (1 : Int32) (l5 + 1)
  else
    K6 l0 l1 l2 l3 (0 : Int32) (l5 + 1)
def fX6_isSo_j56 {α : Type} (N : Nat) (h : Hp) (K6 : Option Nat → Int32 → Int32 → Int32 → Int32 → Int32 → Option α) (l0 : Option Nat) (l1 : Int32) (l2 : Int32) (l3 : Int32) (l4 : Int32) (l5 : Int32) (s0 : Int32) : Option α :=
  if l4 = 0 then
    K6 l0 l1 l2 l3 (0 : Int32) (l5 + 1)
  else
    (gA h l0 6 11).bind fun v66 =>
    (rI h v66 0 l5).bind fun v71 =>
    if v71 = (1 : Int32) then
      fX6_isSo_j81 N h K6 l0 l1 l2 l3 l5 (1 : Int32) s0
    else
      fX6_isSo_j81 N h K6 l0 l1 l2 l3 l5 (0 : Int32) s0
def fX6_isSo_L6 {α : Type} (N : Nat) (h : Hp) (K97 : Int32 → Option α) : Nat → Option Nat → Int32 → Int32 → Int32 → Int32 → Int32 → Option α
  | 0, _, _, _, _, _, _ => none
  | n + 1, l0, l1, l2, l3, l4, l5 =>
    (gI h l0 6 9).bind fun v9 =>
    if v9 ≤ l5 then
      K97 l4
    else
      (gA h l0 6 10).bind fun v16 =>
      (rI h v16 0 l5).bind fun v21 =>
      (gA h l0 6 3).bind fun v23 =>
      (rI h v23 0 l1).bind fun v27 =>
      if v27 ≤ v21 then
        fX6_isSo_j56 N h (fX6_isSo_L6 N h K97 n) l0 l1 l2 l3 l4 l5 (0 : Int32)
      else
        if isO h l0 6 = true then
        (fX6_commonOf N h l0 l1 l2).bind fun v34 =>
          (gA h l0 6 10).bind fun v38 =>
          (rI h v38 0 l5).bind fun v43 =>
          (fX6_isTip N h v34 v43 l3).bind fun v45 =>
          if v45 = 0 then
            fX6_isSo_j56 N h (fX6_isSo_L6 N h K97 n) l0 l1 l2 l3 l4 l5 (0 : Int32)
          else
            fX6_isSo_j56 N h (fX6_isSo_L6 N h K97 n) l0 l1 l2 l3 l4 l5 (1 : Int32)
        else none
def fX6_isSo (N : Nat) (h : Hp) (l0 : Option Nat) (l1 : Int32) (l2 : Int32) (l3 : Int32) : Option (Int32) :=
  fX6_isSo_L6 N h
    (fun l4 =>
      if l4 = 0 ∨ l4 = 1 then some l4 else none)
    N l0 l1 l2 l3 (1 : Int32) (0 : Int32)
def fX6_guess_L48 {α : Type} (N : Nat) (h : Hp) (K95 : Option Nat → Int32 → Int32 → Int32 → Int32 → Int32 → Option α) : Nat → Option Nat → Int32 → Int32 → Int32 → Int32 → Int32 → Int32 → Option α
  | 0, _, _, _, _, _, _, _ => none
  | n + 1, l0, l1, l2, l3, l4, l5, l6 =>
    if l6 < 0 then
      K95 l0 l1 l2 l3 l4 l5
    else
      if isO h l0 6 = true then
      (fX6_fits N h l0 l1 l5).bind fun v57 =>
        if v57 = 0 then
          fX6_guess_L48 N h K95 n l0 l1 l2 l3 l4 l5 (l6 + (-1))
        else
          if isO h l0 6 = true then
          (fX6_isSo N h l0 l1 l5 l6).bind fun v69 =>
            if v69 = 0 then
              fX6_guess_L48 N h K95 n l0 l1 l2 l3 l4 l5 (l6 + (-1))
            else
              fX6_guess_L48 N h K95 n l0 l1 l2 (l3 + 1) (((1000 : Int32) * l5) + l6) l5 (l6 + (-1))
          else none
      else none
def fX6_guess_L33 {α : Type} (N : Nat) (h : Hp) (K101 : Int32 → Int32 → Int32 → Option α) : Nat → Option Nat → Int32 → Int32 → Int32 → Int32 → Int32 → Option α
  | 0, _, _, _, _, _, _ => none
  | n + 1, l0, l1, l2, l3, l4, l5 =>
    if l5 < 0 then
      K101 l2 l3 l4
    else
      (gA h l0 6 3).bind fun v39 =>
      (rI h v39 0 l1).bind fun v43 =>
      fX6_guess_L48 N h
        (fun l0 l1 l2 l3 l4 l5 =>
          fX6_guess_L33 N h K101 n l0 l1 l2 l3 l4 (l5 + (-1)))
        N l0 l1 l2 l3 l4 l5 (v43 - (1 : Int32))
def fX6_guess (N : Nat) (h : Hp) (l0 : Option Nat) (l1 : Int32) (l2 : Int32) : Option (Int32) :=
  if isO h l0 6 = true then
  (fX6_isRing N h l0 l1).bind fun v2 =>
    if v2 = 0 then
      some (-1 : Int32)
    else
      (fX6_in N h l2 (0 : Int32) (1 : Int32)).bind fun v11 =>
      if v11 = 0 then
        some (-1 : Int32)
      else
        (gI h l0 6 1).bind fun v26 =>
        fX6_guess_L33 N h
          (fun l2 l3 l4 =>
            if l2 = 0 then
              some l3
            else
              some l4)
          N l0 l1 l2 (0 : Int32) (-9 : Int32) (v26 - (1 : Int32))
  else none
def fX5_addGuesses_L34 {α : Type} (N : Nat) (K71 : Hp → Option Nat → Int32 → Int32 → Int32 → Int32 → Int32 → Option α) : Nat → Hp → Option Nat → Int32 → Int32 → Int32 → Int32 → Int32 → Int32 → Option α
  | 0, _, _, _, _, _, _, _, _ => none
  | n + 1, h, l0, l1, l2, l3, l4, l5, l6 =>
    if l1 ≤ l6 then
      K71 h l0 l1 l2 l3 l4 l5
    else
      (gA h l0 5 9).bind fun v43 =>
      (aL h v43).bind fun v46 =>
      if v46 ≤ l6 then
        K71 h l0 l1 l2 l3 l4 l5
      else
        (gA h l0 5 9).bind fun v51 =>
        (rI h v51 0 l6).bind fun v57 =>
        (wI h v51 0 l6 (v57 + l3)).bind fun h60 =>
        fX5_addGuesses_L34 N K71 n h60 l0 l1 l2 l3 l4 l5 (l6 + l4)
def fX5_addGuesses_L10 {α : Type} (N : Nat) (K77 : Hp → Option α) : Nat → Hp → Option Nat → Int32 → Int32 → Int32 → Int32 → Int32 → Option α
  | 0, _, _, _, _, _, _, _ => none
  | n + 1, h, l0, l1, l2, l3, l4, l5 =>
    if l2 ≤ l5 then
      K77 h
    else
      (gA h l0 5 1).bind fun v17 =>
      if isO h v17 3 = true then
      (fX3_agree N h v17 l1 l2 l5).bind fun v24 =>
        if v24 = 0 then
          fX5_addGuesses_L10 N K77 n h l0 l1 l2 l3 l4 (l5 + 1)
        else
          fX5_addGuesses_L34 N
            (fun h l0 l1 l2 l3 l4 l5 =>
              fX5_addGuesses_L10 N K77 n h l0 l1 l2 l3 l4 (l5 + 1))
            N h l0 l1 l2 l3 l4 l5 l5
      else none
def fX5_addGuesses (N : Nat) (h : Hp) (l0 : Option Nat) (l1 : Int32) (l2 : Int32) (l3 : Int32) : Option (Hp) :=
  fX5_addGuesses_L10 N
    (fun h =>
      some h)
    N h l0 l1 l2 l3 (jmax l2 (1 : Int32)) (0 : Int32)
def fX5_noteGuessesByTooth_L10 {α : Type} (N : Nat) (K69 : Hp → Option α) : Nat → Hp → Option Nat → Int32 → Int32 → Option α
  | 0, _, _, _, _ => none
  | n + 1, h, l0, l1, l2 =>
    (gA h l0 5 2).bind fun v12 =>
    (gI h v12 0 4).bind fun v15 =>
    if v15 ≤ l2 then
      K69 h
    else
      (gA h l0 5 2).bind fun v22 =>
      if isO h v22 0 = true then
      (fX0_fits N h v22 l1 l2).bind fun v27 =>
        if v27 = 0 then
          fX5_noteGuessesByTooth_L10 N K69 n h l0 l1 (l2 + 1)
        else
          (gA h l0 5 2).bind fun v35 =>
          if isO h v35 0 = true then
          (fX0_teethOf N h v35 l1).bind fun v39 =>
            (gA h l0 5 2).bind fun v43 =>
            if isO h v43 0 = true then
            (fX0_divisorOf N h v43 l1 l2).bind fun v48 =>
              (gA h l0 5 2).bind fun v52 =>
              if isO h v52 0 = true then
              (fX0_petalsOf N h v52 l1 l2).bind fun v57 =>
                if isO h l0 5 = true then
                (fX5_addGuesses N h l0 v39 v48 v57).bind fun z60 =>
                  fX5_noteGuessesByTooth_L10 N K69 n z60 l0 l1 (l2 + 1)
                else none
              else none
            else none
          else none
      else none
def fX5_noteGuessesByTooth (N : Nat) (h : Hp) (l0 : Option Nat) (l1 : Int32) : Option (Hp) :=
  (gA h l0 5 9).bind fun v1 =>
  (fJ7_fill_53178 N h v1 (0 : Int32)).bind fun z5 =>
  fX5_noteGuessesByTooth_L10 N
    (fun h =>
      some h)
    N z5 l0 l1 (0 : Int32)
def fX5_look_L33 {α : Type} (N : Nat) (K96 : Hp → Int32 → Option α) : Nat → Hp → Option Nat → Int32 → Int32 → Int32 → Int32 → Int32 → Option α
  | 0, _, _, _, _, _, _, _ => none
  | n + 1, h, l0, l1, l2, l3, l4, l5 =>
    (gA h l0 5 2).bind fun v36 =>
    if isO h v36 0 = true then
    (fX0_teethOf N h v36 l1).bind fun v40 =>
      if v40 ≤ l5 then
        K96 h l4
      else
        (gA h l0 5 9).bind fun v49 =>
        (aL h v49).bind fun v52 =>
        if v52 ≤ l5 then
          K96 h l4
        else
          (gA h l0 5 9).bind fun v57 =>
          (rI h v57 0 l5).bind fun v62 =>
          (gA h l0 5 9).bind fun v65 =>
          (rI h v65 0 l5).bind fun v70 =>
          if l3 ≤ (jmax v62 (l2 - v70)) then
            fX5_look_L33 N K96 n h l0 l1 l2 l3 l4 (l5 + 1)
          else
            fX5_look_L33 N K96 n h l0 l1 l2 (jmax v62 (l2 - v70)) l5 (l5 + 1)
    else none
def fX5_look (N : Nat) (h : Hp) (l0 : Option Nat) (l1 : Int32) : Option (Int32 × Hp) :=
  (gA h l0 5 2).bind fun v1 =>
  if isO h v1 0 = true then
  (fX0_hasRing N h v1 l1).bind fun v5 =>
    if v5 = 0 then
      some ((-1 : Int32), h)
    else
      if isO h l0 5 = true then
      (fX5_guesses N h l0 l1).bind fun v15 =>
        if isO h l0 5 = true then
        (fX5_noteGuessesByTooth N h l0 l1).bind fun z21 =>
          fX5_look_L33 N
            (fun h l4 =>
              some (l4, h))
            N z21 l0 l1 v15 v15 (-9 : Int32) (0 : Int32)
        else none
      else none
  else none
def fX6_look_L14 {α : Type} (N : Nat) (K37 : Hp → Option Nat → Int32 → Int32 → Option α) : Nat → Hp → Option Nat → Int32 → Int32 → Int32 → Option α
  | 0, _, _, _, _, _ => none
  | n + 1, h, l0, l1, l2, l3 =>
    (gA h l0 6 3).bind fun v16 =>
    (rI h v16 0 l1).bind fun v20 =>
    if v20 ≤ l3 then
      K37 h l0 l1 l2
    else
      (gA h l0 6 28).bind fun v25 =>
      (wI h v25 0 l3 (0 : Int32)).bind fun h30 =>
      fX6_look_L14 N K37 n h30 l0 l1 l2 (l3 + 1)
def fX6_look_L95 {α : Type} (N : Nat) (K131 : Hp → Option Nat → Int32 → Int32 → Int32 → Int32 → Option α) : Nat → Hp → Option Nat → Int32 → Int32 → Int32 → Int32 → Int32 → Option α
  | 0, _, _, _, _, _, _, _ => none
  | n + 1, h, l0, l1, l2, l3, l4, l5 =>
    (gA h l0 6 3).bind fun v98 =>
    (rI h v98 0 l1).bind fun v102 =>
    if v102 ≤ l5 then
      K131 h l0 l1 l2 l3 l4
    else
      (gA h l0 6 28).bind fun v107 =>
      (rI h v107 0 l5).bind fun v113 =>
      (wI h v107 0 l5 (v113 + (1 : Int32))).bind fun h116 =>
      if isO h116 l0 6 = true then
      (fX6_commonOf N h116 l0 l1 l3).bind fun v122 =>
        fX6_look_L95 N K131 n h116 l0 l1 l2 l3 l4 (l5 + v122)
      else none
def fX6_look_L50 {α : Type} (N : Nat) (K137 : Hp → Option Nat → Int32 → Int32 → Int32 → Option α) : Nat → Hp → Option Nat → Int32 → Int32 → Int32 → Int32 → Option α
  | 0, _, _, _, _, _, _ => none
  | n + 1, h, l0, l1, l2, l3, l4 =>
    (gA h l0 6 3).bind fun v53 =>
    (rI h v53 0 l1).bind fun v57 =>
    if v57 ≤ l4 then
      K137 h l0 l1 l2 l3
    else
      if isO h l0 6 = true then
      (fX6_fits N h l0 l1 l3).bind fun v64 =>
        if v64 = 0 then
          fX6_look_L50 N K137 n h l0 l1 l2 l3 (l4 + 1)
        else
          if isO h l0 6 = true then
          (fX6_isSo N h l0 l1 l3 l4).bind fun v75 =>
            if v75 = 0 then
              fX6_look_L50 N K137 n h l0 l1 l2 l3 (l4 + 1)
            else
              if isO h l0 6 = true then
              (fX6_commonOf N h l0 l1 l3).bind fun v89 =>
                if v89 = 0 then none else
                fX6_look_L95 N
                  (fun h l0 l1 l2 l3 l4 =>
                    fX6_look_L50 N K137 n h l0 l1 l2 l3 (l4 + 1))
                  N h l0 l1 (l2 + 1) l3 l4 (jrem l4 v89)
              else none
          else none
      else none
def fX6_look_L39 {α : Type} (N : Nat) (K143 : Hp → Option Nat → Int32 → Int32 → Option α) : Nat → Hp → Option Nat → Int32 → Int32 → Int32 → Option α
  | 0, _, _, _, _, _ => none
  | n + 1, h, l0, l1, l2, l3 =>
    (gI h l0 6 1).bind fun v41 =>
    if v41 ≤ l3 then
      K143 h l0 l1 l2
    else
      fX6_look_L50 N
        (fun h l0 l1 l2 l3 =>
          fX6_look_L39 N K143 n h l0 l1 l2 (l3 + 1))
        N h l0 l1 l2 l3 (0 : Int32)
def fX6_look_j216 {α : Type} (N : Nat) (K152 : Hp → Option Nat → Int32 → Int32 → Int32 → Int32 → Int32 → Option α) (h : Hp) (l0 : Option Nat) (l1 : Int32) (l2 : Int32) (l4 : Int32) (l5 : Int32) (l6 : Int32) (s0 : Int32) : Option α :=
  if l4 ≤ l6 then
    K152 h l0 l1 l2 s0 l4 (l5 + 1)
  else
    K152 h l0 l1 l2 s0 l6 (l5 + 1)
def fX6_look_j201 {α : Type} (N : Nat) (K152 : Hp → Option Nat → Int32 → Int32 → Int32 → Int32 → Int32 → Option α) (h : Hp) (l0 : Option Nat) (l1 : Int32) (l2 : Int32) (l3 : Int32) (l4 : Int32) (l5 : Int32) (s0 : Int32) : Option α :=
  if l4 ≤ s0 then
    fX6_look_j216 N K152 h l0 l1 l2 l4 l5 s0 l3
  else
    fX6_look_j216 N K152 h l0 l1 l2 l4 l5 s0 l5
def fX6_look_L152 {α : Type} (N : Nat) (K239 : Hp → Int32 → Option α) : Nat → Hp → Option Nat → Int32 → Int32 → Int32 → Int32 → Int32 → Option α
  | 0, _, _, _, _, _, _, _ => none
  | n + 1, h, l0, l1, l2, l3, l4, l5 =>
    (gA h l0 6 3).bind fun v155 =>
    (rI h v155 0 l1).bind fun v159 =>
    if v159 ≤ l5 then
      K239 h l3
    else
      (gA h l0 6 28).bind fun v164 =>
      (rI h v164 0 l5).bind fun v169 =>
      (gA h l0 6 28).bind fun v172 =>
      (rI h v172 0 l5).bind fun v177 =>
      if v169 ≤ (l2 - v177) then
        (gA h l0 6 28).bind fun v194 =>
        (rI h v194 0 l5).bind fun v199 =>
        fX6_look_j201 N (fX6_look_L152 N K239 n) h l0 l1 l2 l3 l4 l5 (l2 - v199)
      else
        (gA h l0 6 28).bind fun v183 =>
        (rI h v183 0 l5).bind fun v188 =>
        fX6_look_j201 N (fX6_look_L152 N K239 n) h l0 l1 l2 l3 l4 l5 v188
def fX6_look (N : Nat) (h : Hp) (l0 : Option Nat) (l1 : Int32) : Option (Int32 × Hp) :=
  if isO h l0 6 = true then
  (fX6_isRing N h l0 l1).bind fun v2 =>
    if v2 = 0 then
      some ((-1 : Int32), h)
    else
      fX6_look_L14 N
        (fun h l0 l1 l2 =>
          fX6_look_L39 N
            (fun h l0 l1 l2 =>
              fX6_look_L152 N
                (fun h l3 =>
                  some (l3, h))
                N h l0 l1 l2 (-9 : Int32) l2 (0 : Int32))
            N h l0 l1 l2 (0 : Int32))
        N h l0 l1 (0 : Int32) (0 : Int32)
  else none
def fX5_markOfCurve (N : Nat) (h : Hp) (l0 : Option Nat) (l1 : Option Nat) : Option (Int32 × Hp) :=
  (gJ h l0 5 7).bind fun v2 =>
  (pV h l0 5 7 (.long (v2 + (1 : Int64)))).bind fun h7 =>
  (gI h7 l1 1 6).bind fun v11 =>
  some (v11, h7)
def fX5_markOfRose (N : Nat) (h : Hp) (l0 : Option Nat) (l1 : Option Nat) : Option (Int32 × Hp) :=
  (gJ h l0 5 7).bind fun v2 =>
  (pV h l0 5 7 (.long (v2 + (10 : Int64)))).bind fun h9 =>
  if isO h9 l0 5 = true then
  (fX5_markOfCurve N h9 l0 l1).bind fun z14 =>
    (gI z14.2 l1 1 2).bind fun v18 =>
    some (z14.1 + v18, z14.2)
  else none
def fX5_markOfWeb (N : Nat) (h : Hp) (l0 : Option Nat) (l1 : Option Nat) : Option (Int32 × Hp) :=
  (gJ h l0 5 7).bind fun v2 =>
  (pV h l0 5 7 (.long (v2 + (100 : Int64)))).bind fun h9 =>
  if isO h9 l0 5 = true then
  (fX5_markOfCurve N h9 l0 l1).bind fun z14 =>
    (gI z14.2 l1 1 7).bind fun v18 =>
    some (z14.1 - v18, z14.2)
  else none
def fX5_markOfBouquet (N : Nat) (h : Hp) (l0 : Option Nat) (l1 : Option Nat) : Option (Int32 × Hp) :=
  (gJ h l0 5 7).bind fun v2 =>
  (pV h l0 5 7 (.long (v2 + (1000 : Int64)))).bind fun h9 =>
  if isO h9 l0 5 = true then
  (fX5_markOfRose N h9 l0 l1).bind fun z14 =>
    some (z14.1 * (2 : Int32), z14.2)
  else none
def fX5_markOfLace (N : Nat) (h : Hp) (l0 : Option Nat) (l1 : Option Nat) (l2 : Int32) : Option (Int32 × Hp) :=
  (gJ h l0 5 7).bind fun v2 =>
  (pV h l0 5 7 (.long (v2 + (10000 : Int64)))).bind fun h9 =>
  if isO h9 l0 5 = true then
  (fX5_markOfWeb N h9 l0 l1).bind fun z14 =>
    some (z14.1 + l2, z14.2)
  else none
def fX5_markOfStar (N : Nat) (h : Hp) (l0 : Option Nat) (l1 : Option Nat) : Option (Int32 × Hp) :=
  (gJ h l0 5 7).bind fun v2 =>
  (pV h l0 5 7 (.long (v2 + (100000 : Int64)))).bind fun h9 =>
  if isO h9 l0 5 = true then
  (fX5_markOfCurve N h9 l0 l1).bind fun z14 =>
    (gI z14.2 l1 1 3).bind fun v18 =>
    some (z14.1 + v18, z14.2)
  else none
def fX5_mark (N : Nat) (h : Hp) (l0 : Option Nat) (l1 : Int32) (l2 : Int32) : Option (Int32 × Hp) :=
  (gA h l0 5 3).bind fun v1 =>
  if isO h v1 2 = true then
  (fX2_curveAt N h v1 l2).bind fun v5 =>
    if v5 = none then
      some ((-1000000 : Int32), h)
    else
      if l1 = 0 then
        if isO h l0 5 = true then
        (fX5_markOfCurve N h l0 v5).bind fun z58 =>
          some (z58.1, z58.2)
        else none
      else
      if l1 = 1 then
        if isO h l0 5 = true then
        (fX5_markOfRose N h l0 v5).bind fun z64 =>
          some (z64.1, z64.2)
        else none
      else
      if l1 = 2 then
        if isO h l0 5 = true then
        (fX5_markOfWeb N h l0 v5).bind fun z70 =>
          some (z70.1, z70.2)
        else none
      else
      if l1 = 3 then
        if isO h l0 5 = true then
        (fX5_markOfBouquet N h l0 v5).bind fun z76 =>
          some (z76.1, z76.2)
        else none
      else
      if l1 = 4 then
        if isO h l0 5 = true then
        (fX5_markOfLace N h l0 v5 l2).bind fun z83 =>
          some (z83.1, z83.2)
        else none
      else
      if l1 = 5 then
        if isO h l0 5 = true then
        (fX5_markOfStar N h l0 v5).bind fun z89 =>
          some (z89.1, z89.2)
        else none
      else
        some ((-1000000 : Int32), h)
  else none
def fX6_marked_j161 (N : Nat) (h : Hp) (l0 : Option Nat) (l1 : Int32) (l3 : Int32) (l4 : Int32) : Option (Int32 × Hp) :=
  if l1 = (5 : Int32) then
    (gA h l0 6 8).bind fun v169 =>
    (rI h v169 0 (l3 + (3 : Int32))).bind fun v175 =>
    (gJ h l0 6 12).bind fun v181 =>
    (pV h l0 6 12 (.long (v181 + (100000 : Int64)))).bind fun h188 =>
    some (l4 + v175, h188)
  else
    some (l4, h)
def fX6_marked_j138 (N : Nat) (h : Hp) (l0 : Option Nat) (l1 : Int32) (l2 : Int32) (l3 : Int32) (l4 : Int32) : Option (Int32 × Hp) :=
  if l1 = (4 : Int32) then
    (gJ h l0 6 12).bind fun v151 =>
    (pV h l0 6 12 (.long (v151 + (10000 : Int64)))).bind fun h158 =>
    fX6_marked_j161 N h158 l0 l1 l3 (l4 + l2)
  else
    fX6_marked_j161 N h l0 l1 l3 l4
def fX6_marked_j115 (N : Nat) (h : Hp) (l0 : Option Nat) (l1 : Int32) (l2 : Int32) (l3 : Int32) (l4 : Int32) : Option (Int32 × Hp) :=
  if l1 = (3 : Int32) then
    (gJ h l0 6 12).bind fun v128 =>
    (pV h l0 6 12 (.long (v128 + (1000 : Int64)))).bind fun h135 =>
    fX6_marked_j138 N h135 l0 l1 l2 l3 (l4 * (2 : Int32))
  else
    fX6_marked_j138 N h l0 l1 l2 l3 l4
def fX6_marked_j80 (N : Nat) (h : Hp) (l0 : Option Nat) (l1 : Int32) (l2 : Int32) (l3 : Int32) (l4 : Int32) : Option (Int32 × Hp) :=
  (gA h l0 6 8).bind fun v84 =>
  (rI h v84 0 l3).bind fun v88 =>
  (gA h l0 6 8).bind fun v90 =>
  (rI h v90 0 (l3 + (1 : Int32))).bind fun v96 =>
  if isO h l0 6 = true then
  (fX6_roundsOf N h l0 v88 v96).bind fun v97 =>
    (gJ h l0 6 12).bind fun v105 =>
    (pV h l0 6 12 (.long (v105 + (100 : Int64)))).bind fun h112 =>
    fX6_marked_j115 N h112 l0 l1 l2 l3 (l4 - v97)
  else none
def fX6_marked_j70 (N : Nat) (h : Hp) (l0 : Option Nat) (l1 : Int32) (l2 : Int32) (l3 : Int32) (l4 : Int32) : Option (Int32 × Hp) :=
  if l1 = (2 : Int32) then
    fX6_marked_j80 N h l0 l1 l2 l3 l4
  else
    if l1 = (4 : Int32) then
      fX6_marked_j80 N h l0 l1 l2 l3 l4
    else
      fX6_marked_j115 N h l0 l1 l2 l3 l4
def fX6_marked_j45 (N : Nat) (h : Hp) (l0 : Option Nat) (l1 : Int32) (l2 : Int32) (l3 : Int32) (l4 : Int32) : Option (Int32 × Hp) :=
  (gA h l0 6 8).bind fun v48 =>
  (rI h v48 0 (l3 + (2 : Int32))).bind fun v54 =>
  (gJ h l0 6 12).bind fun v60 =>
  (pV h l0 6 12 (.long (v60 + (10 : Int64)))).bind fun h67 =>
  fX6_marked_j70 N h67 l0 l1 l2 l3 (l4 + v54)
def fX6_marked (N : Nat) (h : Hp) (l0 : Option Nat) (l1 : Int32) (l2 : Int32) : Option (Int32 × Hp) :=
  (gA h l0 6 8).bind fun v7 =>
  (rI h v7 0 ((6 : Int32) * l2)).bind fun v11 =>
  (gA h l0 6 8).bind fun v13 =>
  (rI h v13 0 (((6 : Int32) * l2) + (1 : Int32))).bind fun v19 =>
  if isO h l0 6 = true then
  (fX6_petalsOf N h l0 v11 v19).bind fun v20 =>
    (gJ h l0 6 12).bind fun v27 =>
    (pV h l0 6 12 (.long (v27 + (1 : Int64)))).bind fun h32 =>
    if l1 = (1 : Int32) then
      fX6_marked_j45 N h32 l0 l1 l2 ((6 : Int32) * l2) v20
    else
      if l1 = (3 : Int32) then
        fX6_marked_j45 N h32 l0 l1 l2 ((6 : Int32) * l2) v20
      else
        fX6_marked_j70 N h32 l0 l1 l2 ((6 : Int32) * l2) v20
  else none
def fX6_mark (N : Nat) (h : Hp) (l0 : Option Nat) (l1 : Int32) (l2 : Int32) : Option (Int32 × Hp) :=
  (fX6_in N h l1 (0 : Int32) (5 : Int32)).bind fun v3 =>
  if v3 = 0 then
    some ((-1000000 : Int32), h)
  else
    if isO h l0 6 = true then
    (fX6_isCurve N h l0 l2).bind fun v11 =>
      if v11 = 0 then
        some ((-1000000 : Int32), h)
      else
        if isO h l0 6 = true then
        (fX6_marked N h l0 l1 l2).bind fun z20 =>
          some (z20.1, z20.2)
        else none
    else none
def fX5_keep (N : Nat) (h : Hp) (l0 : Option Nat) (l1 : Int32) : Option (Int32 × Hp) :=
  (fX5_within N h l1 (0 : Int32) (1 : Int32)).bind fun v3 =>
  if v3 = 0 then
    some ((-1 : Int32), h)
  else
    (gA h l0 5 5).bind fun v12 =>
    (gA h l0 5 3).bind fun v17 =>
    (wA h v12 3 l1 v17).bind fun h20 =>
    (gA h20 l0 5 6).bind fun v22 =>
    (gI h20 l0 5 4).bind fun v27 =>
    (wI h20 v22 0 l1 v27).bind fun h30 =>
    (gA h30 l0 5 3).bind fun v32 =>
    (gA h30 v32 2 2).bind fun v35 =>
    (aL h30 v35).bind fun v38 =>
    some (v38, h30)
def fX6_keep_L49 {α : Type} (N : Nat) (K79 : Hp → Option Nat → Option α) : Nat → Hp → Option Nat → Int32 → Int32 → Option α
  | 0, _, _, _, _ => none
  | n + 1, h, l0, l2, l3 =>
    if (780 : Int32) ≤ l3 then
      K79 h l0
    else
      (gA h l0 6 29).bind fun v57 =>
      (gA h l0 6 23).bind fun v67 =>
      (rI h v67 0 l3).bind fun v71 =>
      (wI h v57 0 ((l2 + (80 : Int32)) + l3) v71).bind fun h72 =>
      fX6_keep_L49 N K79 n h72 l0 l2 (l3 + 1)
def fX6_keep (N : Nat) (h : Hp) (l0 : Option Nat) (l1 : Int32) : Option (Int32 × Hp) :=
  (fX6_in N h l1 (0 : Int32) (1 : Int32)).bind fun v3 =>
  if v3 = 0 then
    some ((-1 : Int32), h)
  else
    (gA h l0 6 29).bind fun v18 =>
    (wI h v18 0 ((860 : Int32) * l1) (1 : Int32)).bind fun h23 =>
    (gA h23 l0 6 29).bind fun v25 =>
    (gI h23 l0 6 24).bind fun v32 =>
    (wI h23 v25 0 (((860 : Int32) * l1) + (1 : Int32)) v32).bind fun h35 =>
    (gA h35 l0 6 29).bind fun v38 =>
    if isO h35 l0 6 = true then
    (fX6_lays N h35 l0 v38 (((860 : Int32) * l1) + (2 : Int32))).bind fun z44 =>
      fX6_keep_L49 N
        (fun h l0 =>
          (gI h l0 6 6).bind fun v80 =>
          some (v80, h))
        N z44 l0 ((860 : Int32) * l1) (0 : Int32)
    else none
def fX5_back (N : Nat) (h : Hp) (l0 : Option Nat) (l1 : Int32) : Option (Int32 × Hp) :=
  (fX5_within N h l1 (0 : Int32) (1 : Int32)).bind fun v3 =>
  if v3 = 0 then
    some ((-1 : Int32), h)
  else
    (gA h l0 5 5).bind fun v12 =>
    (rA h v12 3 l1).bind fun v16 =>
    if v16 = none then
      some ((-2 : Int32), h)
    else
      (pV h l0 5 3 (va_rf v16)).bind fun h27 =>
      (gA h27 l0 5 6).bind fun v32 =>
      (rI h27 v32 0 l1).bind fun v36 =>
      (pV h27 l0 5 4 (.int v36)).bind fun h37 =>
      (gA h37 l0 5 3).bind fun v41 =>
      (gA h37 v41 2 2).bind fun v44 =>
      (aL h37 v44).bind fun v47 =>
      some (v47, h37)
def fX6_back_L54 {α : Type} (N : Nat) (K84 : Hp → Option Nat → Option α) : Nat → Hp → Option Nat → Int32 → Int32 → Option α
  | 0, _, _, _, _ => none
  | n + 1, h, l0, l2, l3 =>
    if (780 : Int32) ≤ l3 then
      K84 h l0
    else
      (gA h l0 6 23).bind fun v62 =>
      (gA h l0 6 29).bind fun v67 =>
      (rI h v67 0 ((l2 + (80 : Int32)) + l3)).bind fun v76 =>
      (wI h v62 0 l3 v76).bind fun h77 =>
      fX6_back_L54 N K84 n h77 l0 l2 (l3 + 1)
def fX6_back (N : Nat) (h : Hp) (l0 : Option Nat) (l1 : Int32) : Option (Int32 × Hp) :=
  (fX6_in N h l1 (0 : Int32) (1 : Int32)).bind fun v3 =>
  if v3 = 0 then
    some ((-1 : Int32), h)
  else
    (gA h l0 6 29).bind fun v18 =>
    (rI h v18 0 ((860 : Int32) * l1)).bind fun v22 =>
    if v22 = 0 then
      some ((-2 : Int32), h)
    else
      (gA h l0 6 29).bind fun v31 =>
      (rI h v31 0 (((860 : Int32) * l1) + (1 : Int32))).bind fun v37 =>
      (pV h l0 6 24 (.int v37)).bind fun h38 =>
      (gA h38 l0 6 29).bind fun v43 =>
      if isO h38 l0 6 = true then
      (fX6_takes N h38 l0 v43 (((860 : Int32) * l1) + (2 : Int32))).bind fun z49 =>
        fX6_back_L54 N
          (fun h l0 =>
            (gI h l0 6 6).bind fun v85 =>
            some (v85, h))
          N z49 l0 ((860 : Int32) * l1) (0 : Int32)
      else none
def fX5_count (N : Nat) (h : Hp) (l0 : Option Nat) (l1 : Int32) : Option (Int32) :=
  if l1 = 0 then
    (gA h l0 5 2).bind fun v41 =>
    (gI h v41 0 3).bind fun v44 =>
    some v44
  else
  if l1 = 1 then
    (gA h l0 5 2).bind fun v49 =>
    (gI h v49 0 4).bind fun v52 =>
    some v52
  else
  if l1 = 2 then
    (gA h l0 5 2).bind fun v57 =>
    (gI h v57 0 5).bind fun v60 =>
    some v60
  else
  if l1 = 3 then
    (gA h l0 5 1).bind fun v65 =>
    (gI h v65 3 2).bind fun v68 =>
    some v68
  else
  if l1 = 4 then
    (gI h l0 5 4).bind fun v73 =>
    some v73
  else
  if l1 = 5 then
    (gA h l0 5 0).bind fun v78 =>
    (gI h v78 4 1).bind fun v81 =>
    some v81
  else
    some (-1 : Int32)
def fX6_count (N : Nat) (h : Hp) (l0 : Option Nat) (l1 : Int32) : Option (Int32) :=
  (fX6_in N h l1 (0 : Int32) (5 : Int32)).bind fun v3 =>
  if v3 = 0 then
    some (-1 : Int32)
  else
    if l1 = 0 then
      (gI h l0 6 0).bind fun v16 =>
      some v16
    else
      if l1 = (1 : Int32) then
        (gI h l0 6 1).bind fun v28 =>
        some v28
      else
        if l1 = (2 : Int32) then
          (gI h l0 6 2).bind fun v40 =>
          some v40
        else
          if l1 = (3 : Int32) then
            (gI h l0 6 9).bind fun v52 =>
            some v52
          else
            if l1 = (4 : Int32) then
              (gI h l0 6 24).bind fun v64 =>
              some v64
            else
              (gI h l0 6 14).bind fun v71 =>
              some v71
def fX5_trace (N : Nat) (h : Hp) (l0 : Option Nat) : Option (Int64) :=
  (gJ h l0 5 7).bind fun v1 =>
  some v1
def fX6_trace (N : Nat) (h : Hp) (l0 : Option Nat) : Option (Int64) :=
  (gJ h l0 6 12).bind fun v1 =>
  some v1
end
section
/-! numbers -/
theorem jrem_nI {a d : Nat} (ha : a < 2 ^ 31) (h0 : 0 < d) (hd : d < 2 ^ 31) : jrem (nI a) (nI d) = nI (a % d) := pk_rem ha h0 hd
theorem jmax_nI {a b : Nat} (ha : a < 2 ^ 31) (hb : b < 2 ^ 31) : jmax (nI a) (nI b) = nI (max a b) := by
  unfold jmax
  by_cases h : a < b
  · rw [if_pos ((nI_ltI ha hb).mpr h), Nat.max_eq_right (Nat.le_of_lt h)]
  · rw [if_neg (fun z => h ((nI_ltI ha hb).mp z)), Nat.max_eq_left (Nat.not_lt.mp h)]
theorem jmin_nI {a b : Nat} (ha : a < 2 ^ 31) (hb : b < 2 ^ 31) : jmin (nI a) (nI b) = nI (min a b) := by
  unfold jmin
  by_cases h : b < a
  · rw [if_pos ((nI_ltI hb ha).mpr h), Nat.min_eq_right (Nat.le_of_lt h)]
  · rw [if_neg (fun z => h ((nI_ltI hb ha).mp z)), Nat.min_eq_left (Nat.not_lt.mp h)]
theorem nI_neg {n : Nat} (h : n < 2 ^ 31) : ¬ nI n < 0 := nI_pos h
theorem nI_m1 {n : Nat} (h : 0 < n) : nI n + (-1) = nI (n - 1) := sb_m1 h
theorem ap_if {α β : Type} (c : Prop) [Decidable c] (f : α → β) (a b : α) : f (if c then a else b) = if c then f a else f b := by by_cases h : c <;> simp [h]
theorem nI_neg9 {n : Nat} (h : n < 2 ^ 31) : ¬ nI n = -9 := by
  intro e
  have := congrArg Int32.toInt e
  rw [nI_toInt h] at this
  have h9 : (-9 : Int32).toInt = -9 := by decide
  omega
theorem i_0 : (0 : Int32) = nI 0 := rfl
theorem i_1 : (1 : Int32) = nI 1 := rfl
theorem i_2 : (2 : Int32) = nI 2 := rfl
theorem i_3 : (3 : Int32) = nI 3 := rfl
theorem i_4 : (4 : Int32) = nI 4 := rfl
theorem i_5 : (5 : Int32) = nI 5 := rfl
theorem i_6 : (6 : Int32) = nI 6 := rfl
theorem i_7 : (7 : Int32) = nI 7 := rfl
theorem i_8 : (8 : Int32) = nI 8 := rfl
theorem i_9 : (9 : Int32) = nI 9 := rfl
theorem i_10 : (10 : Int32) = nI 10 := rfl
theorem i_11 : (11 : Int32) = nI 11 := rfl
theorem i_12 : (12 : Int32) = nI 12 := rfl
theorem i_31 : (31 : Int32) = nI 31 := rfl
theorem i_32 : (32 : Int32) = nI 32 := rfl
theorem i_48 : (48 : Int32) = nI 48 := rfl
theorem i_57 : (57 : Int32) = nI 57 := rfl
theorem i_59 : (59 : Int32) = nI 59 := rfl
theorem i_72 : (72 : Int32) = nI 72 := rfl
theorem i_78 : (78 : Int32) = nI 78 := rfl
theorem i_80 : (80 : Int32) = nI 80 := rfl
theorem i_97 : (97 : Int32) = nI 97 := rfl
theorem i_99 : (99 : Int32) = nI 99 := rfl
theorem i_100 : (100 : Int32) = nI 100 := rfl
theorem i_112 : (112 : Int32) = nI 112 := rfl
theorem i_114 : (114 : Int32) = nI 114 := rfl
theorem i_119 : (119 : Int32) = nI 119 := rfl
theorem i_120 : (120 : Int32) = nI 120 := rfl
theorem i_122 : (122 : Int32) = nI 122 := rfl
theorem i_255 : (255 : Int32) = nI 255 := rfl
theorem i_359 : (359 : Int32) = nI 359 := rfl
theorem i_360 : (360 : Int32) = nI 360 := rfl
theorem i_702 : (702 : Int32) = nI 702 := rfl
theorem i_780 : (780 : Int32) = nI 780 := rfl
theorem i_860 : (860 : Int32) = nI 860 := rfl
theorem i_999 : (999 : Int32) = nI 999 := rfl
theorem i_1000 : (1000 : Int32) = nI 1000 := rfl
theorem i_1048576 : (1048576 : Int32) = nI 1048576 := rfl
theorem i_64 : (64 : Int32) = nI 64 := rfl
/-! reads and writes, where the cell is known -/
theorem gV_eq {h : Hp} {a ci j : Nat} {fs : List Value} (e : h a = some (oO ci fs)) : gV h (some a) ci j = fs[j]? := by simp [gV, e]
theorem gI_eq {h : Hp} {a ci j : Nat} {fs : List Value} {v : Int32} (e : h a = some (oO ci fs)) (ev : fs[j]? = some (.int v)) : gI h (some a) ci j = some v := by simp [gI, gV_eq e, ev]
theorem gJ_eq {h : Hp} {a ci j : Nat} {fs : List Value} {v : Int64} (e : h a = some (oO ci fs)) (ev : fs[j]? = some (.long v)) : gJ h (some a) ci j = some v := by simp [gJ, gV_eq e, ev]
theorem gA_eq {h : Hp} {a ci j : Nat} {fs : List Value} {v : Option Nat} (e : h a = some (oO ci fs)) (ev : fs[j]? = some (va_rf v)) : gA h (some a) ci j = some v := by
  cases v <;> simp [gA, gV_eq e, ev, va_rf]
theorem pV_eq {h : Hp} {a ci j : Nat} {fs : List Value} {v : Value} (e : h a = some (oO ci fs)) (hl : j < fs.length) : pV h (some a) ci j v = some (up h a (oO ci (fs.set j v))) := by simp [pV, e, hl]
theorem in_nI {j n : Nat} (hj : j < n) (hb : j < 2 ^ 31) : ¬ (nI j < 0 ∨ n ≤ (nI j).toNatClampNeg) := by
  rw [nI_clamp hb]
  exact fun z => z.elim (nI_pos hb) (by omega)
theorem rI_eq {h : Hp} {a t n j : Nat} {f : Nat → Int32} (e : h a = some (oI t n f)) (hj : j < n) (hb : j < 2 ^ 31) : rI h (some a) t (nI j) = some (f j) := by
  dsimp only [rI]
  rw [e]
  dsimp only
  rw [if_pos ⟨rfl, in_nI hj hb⟩, nI_clamp hb]
theorem wI_eq {h : Hp} {a t n j : Nat} {f : Nat → Int32} {v : Int32} (e : h a = some (oI t n f)) (hj : j < n) (hb : j < 2 ^ 31) : wI h (some a) t (nI j) v = some (up h a (oI t n (upd f j v))) := by
  dsimp only [wI]
  rw [e]
  dsimp only
  rw [if_pos ⟨rfl, in_nI hj hb⟩, nI_clamp hb]
theorem rA_eq {h : Hp} {a t n j : Nat} {f : Nat → Option Nat} (e : h a = some (oA t n f)) (hj : j < n) (hb : j < 2 ^ 31) : rA h (some a) t (nI j) = some (f j) := by
  dsimp only [rA]
  rw [e]
  dsimp only
  rw [if_pos ⟨rfl, in_nI hj hb⟩, nI_clamp hb]
theorem wA_eq {h : Hp} {a t n j : Nat} {f : Nat → Option Nat} {v : Option Nat} (e : h a = some (oA t n f)) (hj : j < n) (hb : j < 2 ^ 31) (hv : v = none ∨ isO h v (t - 1) = true) : wA h (some a) t (nI j) v = some (up h a (oA t n (va_up f j v))) := by
  dsimp only [wA]
  rw [e]
  dsimp only
  rw [if_pos ⟨rfl, in_nI hj hb, hv⟩, nI_clamp hb]
theorem isO_eq {h : Hp} {a ci : Nat} {fs : List Value} (e : h a = some (oO ci fs)) : isO h (some a) ci = true := by simp [isO, e]
theorem aL_I {h : Hp} {a t n : Nat} {f : Nat → Int32} (e : h a = some (oI t n f)) (ht : t < 2) : aL h (some a) = some (nI n) := by simp [aL, e, ht, nI]
theorem aL_A {h : Hp} {a t n : Nat} {f : Nat → Option Nat} (e : h a = some (oA t n f)) (ht : t = 2 ∨ t = 3) : aL h (some a) = some (nI n) := by simp [aL, e, ht, nI]
def ua (a : Nat → Nat → Int32) (k : Nat) (f : Nat → Int32) : Nat → Nat → Int32 := fun q => if q = k then f else a q
theorem ua_s {a : Nat → Nat → Int32} {k : Nat} {f : Nat → Int32} : ua a k f k = f := by simp [ua]
theorem ua_n {a : Nat → Nat → Int32} {k q : Nat} {f : Nat → Int32} (h : q ≠ k) : ua a k f q = a q := by simp [ua, h]
/-! the reference's cells: s its numbers by their slots, t its trace, a its rows by their places behind it -/
def mF (m : Nat) (s : Nat → Int32) (t : Int64) : List Value := [.int (s 0), .int (s 1), .int (s 2), .ref (m + 1), .ref (m + 2), .int (s 5), .int (s 6), .ref (m + 3), .ref (m + 4), .int (s 9), .ref (m + 5), .ref (m + 6), .long t, .ref (m + 7), .int (s 14), .int (s 15), .int (s 16), .int (s 17), .int (s 18), .int (s 19), .ref (m + 8), .ref (m + 9), .ref (m + 10), .ref (m + 11), .int (s 24), .ref (m + 12), .ref (m + 13), .ref (m + 14), .ref (m + 15), .ref (m + 16)]
def mLen (k : Nat) : Nat := match k with
  | 1 => 4
  | 2 => 6
  | 3 => 4
  | 4 => 72
  | 5 => 6
  | 6 => 6
  | 7 => 100
  | 8 => 4
  | 9 => 6
  | 10 => 4
  | 11 => 780
  | 12 => 3240
  | 13 => 120
  | 14 => 1000
  | 15 => 120
  | 16 => 1720
  | _ => 0
def mH (g : Hp) (m : Nat) (s : Nat → Int32) (t : Int64) (a : Nat → Nat → Int32) : Hp := fun q => if q < m then g q else if q = m then some (oO 6 (mF m s t)) else if q ≤ m + 16 then some (oI 0 (mLen (q - m)) (a (q - m))) else g q
section MH
variable {g : Hp} {m : Nat} {s : Nat → Int32} {t : Int64} {a : Nat → Nat → Int32}
theorem mh_m : mH g m s t a m = some (oO 6 (mF m s t)) := by simp [mH]
theorem mh_k {k : Nat} (h1 : 1 ≤ k) (h2 : k ≤ 16) : mH g m s t a (m + k) = some (oI 0 (mLen k) (a k)) := by
  unfold mH
  rw [if_neg (by omega), if_neg (by omega), if_pos (by omega), show m + k - m = k by omega]
theorem mh_out {q : Nat} (h : q < m ∨ m + 16 < q) : mH g m s t a q = g q := by
  unfold mH
  by_cases h1 : q < m
  · rw [if_pos h1]
  · rw [if_neg h1, if_neg (by omega), if_neg (by omega)]
theorem mh_put {s' : Nat → Int32} {t' : Int64} : up (mH g m s t a) m (oO 6 (mF m s' t')) = mH g m s' t' a := by
  funext q
  by_cases e : q = m
  · subst e
    rw [up_s, mh_m]
  · rw [up_n e]
    unfold mH
    by_cases h1 : q < m
    · rw [if_pos h1, if_pos h1]
    · rw [if_neg h1, if_neg e, if_neg h1, if_neg e]
theorem mh_row {k : Nat} {f : Nat → Int32} (h1 : 1 ≤ k) (h2 : k ≤ 16) : up (mH g m s t a) (m + k) (oI 0 (mLen k) f) = mH g m s t (ua a k f) := by
  funext q
  by_cases e : q = m + k
  · subst e
    rw [up_s, mh_k h1 h2, ua_s]
  · rw [up_n e]
    unfold mH
    by_cases h3 : q < m
    · rw [if_pos h3, if_pos h3]
    · rw [if_neg h3, if_neg h3]
      by_cases h4 : q = m
      · rw [if_pos h4, if_pos h4]
      · rw [if_neg h4, if_neg h4]
        by_cases h5 : q ≤ m + 16
        · rw [if_pos h5, if_pos h5, ua_n (by omega)]
        · rw [if_neg h5, if_neg h5]
theorem mh_O : isO (mH g m s t a) (some m) 6 = true := by simp [isO, mh_m]
theorem mh_rd {k j : Nat} (h1 : 1 ≤ k) (h2 : k ≤ 16) (hj : j < mLen k) (hb : j < 2 ^ 31) : rI (mH g m s t a) (some (m + k)) 0 (nI j) = some (a k j) := rI_eq (mh_k h1 h2) hj hb
theorem mh_wr {k j : Nat} {v : Int32} (h1 : 1 ≤ k) (h2 : k ≤ 16) (hj : j < mLen k) (hb : j < 2 ^ 31) : wI (mH g m s t a) (some (m + k)) 0 (nI j) v = some (mH g m s t (ua a k (upd (a k) j v))) := by
  rw [wI_eq (mh_k h1 h2) hj hb, mh_row h1 h2]
theorem mh_gJ : gJ (mH g m s t a) (some m) 6 12 = some t := gJ_eq mh_m rfl
theorem mh_pJ {v : Int64} : pV (mH g m s t a) (some m) 6 12 (.long v) = some (mH g m s v a) := by
  rw [pV_eq mh_m (by simp [mF]), ← mh_put (s' := s) (t' := v) (t := t)]
  rfl
theorem mh_gI0 : gI (mH g m s t a) (some m) 6 0 = some (s 0) := gI_eq mh_m rfl
theorem mh_pI0 {v : Int32} : pV (mH g m s t a) (some m) 6 0 (.int v) = some (mH g m (upd s 0 v) t a) := by
  rw [pV_eq mh_m (by simp [mF]), ← mh_put (s' := upd s 0 v) (t' := t) (s := s)]
  rfl
theorem mh_gI1 : gI (mH g m s t a) (some m) 6 1 = some (s 1) := gI_eq mh_m rfl
theorem mh_pI1 {v : Int32} : pV (mH g m s t a) (some m) 6 1 (.int v) = some (mH g m (upd s 1 v) t a) := by
  rw [pV_eq mh_m (by simp [mF]), ← mh_put (s' := upd s 1 v) (t' := t) (s := s)]
  rfl
theorem mh_gI2 : gI (mH g m s t a) (some m) 6 2 = some (s 2) := gI_eq mh_m rfl
theorem mh_pI2 {v : Int32} : pV (mH g m s t a) (some m) 6 2 (.int v) = some (mH g m (upd s 2 v) t a) := by
  rw [pV_eq mh_m (by simp [mF]), ← mh_put (s' := upd s 2 v) (t' := t) (s := s)]
  rfl
theorem mh_gA3 : gA (mH g m s t a) (some m) 6 3 = some (some (m + 1)) := gA_eq (v := some (m + 1)) mh_m rfl
theorem mh_rd1 {j : Nat} (hj : j < 4) : rI (mH g m s t a) (some (m + 1)) 0 (nI j) = some (a 1 j) := mh_rd (by decide) (by decide) hj (by omega)
theorem mh_wr1 {j : Nat} {v : Int32} (hj : j < 4) : wI (mH g m s t a) (some (m + 1)) 0 (nI j) v = some (mH g m s t (ua a 1 (upd (a 1) j v))) := mh_wr (by decide) (by decide) hj (by omega)
theorem mh_gA4 : gA (mH g m s t a) (some m) 6 4 = some (some (m + 2)) := gA_eq (v := some (m + 2)) mh_m rfl
theorem mh_rd2 {j : Nat} (hj : j < 6) : rI (mH g m s t a) (some (m + 2)) 0 (nI j) = some (a 2 j) := mh_rd (by decide) (by decide) hj (by omega)
theorem mh_wr2 {j : Nat} {v : Int32} (hj : j < 6) : wI (mH g m s t a) (some (m + 2)) 0 (nI j) v = some (mH g m s t (ua a 2 (upd (a 2) j v))) := mh_wr (by decide) (by decide) hj (by omega)
theorem mh_gI5 : gI (mH g m s t a) (some m) 6 5 = some (s 5) := gI_eq mh_m rfl
theorem mh_pI5 {v : Int32} : pV (mH g m s t a) (some m) 6 5 (.int v) = some (mH g m (upd s 5 v) t a) := by
  rw [pV_eq mh_m (by simp [mF]), ← mh_put (s' := upd s 5 v) (t' := t) (s := s)]
  rfl
theorem mh_gI6 : gI (mH g m s t a) (some m) 6 6 = some (s 6) := gI_eq mh_m rfl
theorem mh_pI6 {v : Int32} : pV (mH g m s t a) (some m) 6 6 (.int v) = some (mH g m (upd s 6 v) t a) := by
  rw [pV_eq mh_m (by simp [mF]), ← mh_put (s' := upd s 6 v) (t' := t) (s := s)]
  rfl
theorem mh_gA7 : gA (mH g m s t a) (some m) 6 7 = some (some (m + 3)) := gA_eq (v := some (m + 3)) mh_m rfl
theorem mh_rd3 {j : Nat} (hj : j < 4) : rI (mH g m s t a) (some (m + 3)) 0 (nI j) = some (a 3 j) := mh_rd (by decide) (by decide) hj (by omega)
theorem mh_wr3 {j : Nat} {v : Int32} (hj : j < 4) : wI (mH g m s t a) (some (m + 3)) 0 (nI j) v = some (mH g m s t (ua a 3 (upd (a 3) j v))) := mh_wr (by decide) (by decide) hj (by omega)
theorem mh_gA8 : gA (mH g m s t a) (some m) 6 8 = some (some (m + 4)) := gA_eq (v := some (m + 4)) mh_m rfl
theorem mh_rd4 {j : Nat} (hj : j < 72) : rI (mH g m s t a) (some (m + 4)) 0 (nI j) = some (a 4 j) := mh_rd (by decide) (by decide) hj (by omega)
theorem mh_wr4 {j : Nat} {v : Int32} (hj : j < 72) : wI (mH g m s t a) (some (m + 4)) 0 (nI j) v = some (mH g m s t (ua a 4 (upd (a 4) j v))) := mh_wr (by decide) (by decide) hj (by omega)
theorem mh_gI9 : gI (mH g m s t a) (some m) 6 9 = some (s 9) := gI_eq mh_m rfl
theorem mh_pI9 {v : Int32} : pV (mH g m s t a) (some m) 6 9 (.int v) = some (mH g m (upd s 9 v) t a) := by
  rw [pV_eq mh_m (by simp [mF]), ← mh_put (s' := upd s 9 v) (t' := t) (s := s)]
  rfl
theorem mh_gA10 : gA (mH g m s t a) (some m) 6 10 = some (some (m + 5)) := gA_eq (v := some (m + 5)) mh_m rfl
theorem mh_rd5 {j : Nat} (hj : j < 6) : rI (mH g m s t a) (some (m + 5)) 0 (nI j) = some (a 5 j) := mh_rd (by decide) (by decide) hj (by omega)
theorem mh_wr5 {j : Nat} {v : Int32} (hj : j < 6) : wI (mH g m s t a) (some (m + 5)) 0 (nI j) v = some (mH g m s t (ua a 5 (upd (a 5) j v))) := mh_wr (by decide) (by decide) hj (by omega)
theorem mh_gA11 : gA (mH g m s t a) (some m) 6 11 = some (some (m + 6)) := gA_eq (v := some (m + 6)) mh_m rfl
theorem mh_rd6 {j : Nat} (hj : j < 6) : rI (mH g m s t a) (some (m + 6)) 0 (nI j) = some (a 6 j) := mh_rd (by decide) (by decide) hj (by omega)
theorem mh_wr6 {j : Nat} {v : Int32} (hj : j < 6) : wI (mH g m s t a) (some (m + 6)) 0 (nI j) v = some (mH g m s t (ua a 6 (upd (a 6) j v))) := mh_wr (by decide) (by decide) hj (by omega)
theorem mh_gA13 : gA (mH g m s t a) (some m) 6 13 = some (some (m + 7)) := gA_eq (v := some (m + 7)) mh_m rfl
theorem mh_rd7 {j : Nat} (hj : j < 100) : rI (mH g m s t a) (some (m + 7)) 0 (nI j) = some (a 7 j) := mh_rd (by decide) (by decide) hj (by omega)
theorem mh_wr7 {j : Nat} {v : Int32} (hj : j < 100) : wI (mH g m s t a) (some (m + 7)) 0 (nI j) v = some (mH g m s t (ua a 7 (upd (a 7) j v))) := mh_wr (by decide) (by decide) hj (by omega)
theorem mh_gI14 : gI (mH g m s t a) (some m) 6 14 = some (s 14) := gI_eq mh_m rfl
theorem mh_pI14 {v : Int32} : pV (mH g m s t a) (some m) 6 14 (.int v) = some (mH g m (upd s 14 v) t a) := by
  rw [pV_eq mh_m (by simp [mF]), ← mh_put (s' := upd s 14 v) (t' := t) (s := s)]
  rfl
theorem mh_gI15 : gI (mH g m s t a) (some m) 6 15 = some (s 15) := gI_eq mh_m rfl
theorem mh_pI15 {v : Int32} : pV (mH g m s t a) (some m) 6 15 (.int v) = some (mH g m (upd s 15 v) t a) := by
  rw [pV_eq mh_m (by simp [mF]), ← mh_put (s' := upd s 15 v) (t' := t) (s := s)]
  rfl
theorem mh_gI16 : gI (mH g m s t a) (some m) 6 16 = some (s 16) := gI_eq mh_m rfl
theorem mh_pI16 {v : Int32} : pV (mH g m s t a) (some m) 6 16 (.int v) = some (mH g m (upd s 16 v) t a) := by
  rw [pV_eq mh_m (by simp [mF]), ← mh_put (s' := upd s 16 v) (t' := t) (s := s)]
  rfl
theorem mh_gI17 : gI (mH g m s t a) (some m) 6 17 = some (s 17) := gI_eq mh_m rfl
theorem mh_pI17 {v : Int32} : pV (mH g m s t a) (some m) 6 17 (.int v) = some (mH g m (upd s 17 v) t a) := by
  rw [pV_eq mh_m (by simp [mF]), ← mh_put (s' := upd s 17 v) (t' := t) (s := s)]
  rfl
theorem mh_gI18 : gI (mH g m s t a) (some m) 6 18 = some (s 18) := gI_eq mh_m rfl
theorem mh_pI18 {v : Int32} : pV (mH g m s t a) (some m) 6 18 (.int v) = some (mH g m (upd s 18 v) t a) := by
  rw [pV_eq mh_m (by simp [mF]), ← mh_put (s' := upd s 18 v) (t' := t) (s := s)]
  rfl
theorem mh_gI19 : gI (mH g m s t a) (some m) 6 19 = some (s 19) := gI_eq mh_m rfl
theorem mh_pI19 {v : Int32} : pV (mH g m s t a) (some m) 6 19 (.int v) = some (mH g m (upd s 19 v) t a) := by
  rw [pV_eq mh_m (by simp [mF]), ← mh_put (s' := upd s 19 v) (t' := t) (s := s)]
  rfl
theorem mh_gA20 : gA (mH g m s t a) (some m) 6 20 = some (some (m + 8)) := gA_eq (v := some (m + 8)) mh_m rfl
theorem mh_rd8 {j : Nat} (hj : j < 4) : rI (mH g m s t a) (some (m + 8)) 0 (nI j) = some (a 8 j) := mh_rd (by decide) (by decide) hj (by omega)
theorem mh_wr8 {j : Nat} {v : Int32} (hj : j < 4) : wI (mH g m s t a) (some (m + 8)) 0 (nI j) v = some (mH g m s t (ua a 8 (upd (a 8) j v))) := mh_wr (by decide) (by decide) hj (by omega)
theorem mh_gA21 : gA (mH g m s t a) (some m) 6 21 = some (some (m + 9)) := gA_eq (v := some (m + 9)) mh_m rfl
theorem mh_rd9 {j : Nat} (hj : j < 6) : rI (mH g m s t a) (some (m + 9)) 0 (nI j) = some (a 9 j) := mh_rd (by decide) (by decide) hj (by omega)
theorem mh_wr9 {j : Nat} {v : Int32} (hj : j < 6) : wI (mH g m s t a) (some (m + 9)) 0 (nI j) v = some (mH g m s t (ua a 9 (upd (a 9) j v))) := mh_wr (by decide) (by decide) hj (by omega)
theorem mh_gA22 : gA (mH g m s t a) (some m) 6 22 = some (some (m + 10)) := gA_eq (v := some (m + 10)) mh_m rfl
theorem mh_rd10 {j : Nat} (hj : j < 4) : rI (mH g m s t a) (some (m + 10)) 0 (nI j) = some (a 10 j) := mh_rd (by decide) (by decide) hj (by omega)
theorem mh_wr10 {j : Nat} {v : Int32} (hj : j < 4) : wI (mH g m s t a) (some (m + 10)) 0 (nI j) v = some (mH g m s t (ua a 10 (upd (a 10) j v))) := mh_wr (by decide) (by decide) hj (by omega)
theorem mh_gA23 : gA (mH g m s t a) (some m) 6 23 = some (some (m + 11)) := gA_eq (v := some (m + 11)) mh_m rfl
theorem mh_rd11 {j : Nat} (hj : j < 780) : rI (mH g m s t a) (some (m + 11)) 0 (nI j) = some (a 11 j) := mh_rd (by decide) (by decide) hj (by omega)
theorem mh_wr11 {j : Nat} {v : Int32} (hj : j < 780) : wI (mH g m s t a) (some (m + 11)) 0 (nI j) v = some (mH g m s t (ua a 11 (upd (a 11) j v))) := mh_wr (by decide) (by decide) hj (by omega)
theorem mh_gI24 : gI (mH g m s t a) (some m) 6 24 = some (s 24) := gI_eq mh_m rfl
theorem mh_pI24 {v : Int32} : pV (mH g m s t a) (some m) 6 24 (.int v) = some (mH g m (upd s 24 v) t a) := by
  rw [pV_eq mh_m (by simp [mF]), ← mh_put (s' := upd s 24 v) (t' := t) (s := s)]
  rfl
theorem mh_gA25 : gA (mH g m s t a) (some m) 6 25 = some (some (m + 12)) := gA_eq (v := some (m + 12)) mh_m rfl
theorem mh_rd12 {j : Nat} (hj : j < 3240) : rI (mH g m s t a) (some (m + 12)) 0 (nI j) = some (a 12 j) := mh_rd (by decide) (by decide) hj (by omega)
theorem mh_wr12 {j : Nat} {v : Int32} (hj : j < 3240) : wI (mH g m s t a) (some (m + 12)) 0 (nI j) v = some (mH g m s t (ua a 12 (upd (a 12) j v))) := mh_wr (by decide) (by decide) hj (by omega)
theorem mh_gA26 : gA (mH g m s t a) (some m) 6 26 = some (some (m + 13)) := gA_eq (v := some (m + 13)) mh_m rfl
theorem mh_rd13 {j : Nat} (hj : j < 120) : rI (mH g m s t a) (some (m + 13)) 0 (nI j) = some (a 13 j) := mh_rd (by decide) (by decide) hj (by omega)
theorem mh_wr13 {j : Nat} {v : Int32} (hj : j < 120) : wI (mH g m s t a) (some (m + 13)) 0 (nI j) v = some (mH g m s t (ua a 13 (upd (a 13) j v))) := mh_wr (by decide) (by decide) hj (by omega)
theorem mh_gA27 : gA (mH g m s t a) (some m) 6 27 = some (some (m + 14)) := gA_eq (v := some (m + 14)) mh_m rfl
theorem mh_rd14 {j : Nat} (hj : j < 1000) : rI (mH g m s t a) (some (m + 14)) 0 (nI j) = some (a 14 j) := mh_rd (by decide) (by decide) hj (by omega)
theorem mh_wr14 {j : Nat} {v : Int32} (hj : j < 1000) : wI (mH g m s t a) (some (m + 14)) 0 (nI j) v = some (mH g m s t (ua a 14 (upd (a 14) j v))) := mh_wr (by decide) (by decide) hj (by omega)
theorem mh_gA28 : gA (mH g m s t a) (some m) 6 28 = some (some (m + 15)) := gA_eq (v := some (m + 15)) mh_m rfl
theorem mh_rd15 {j : Nat} (hj : j < 120) : rI (mH g m s t a) (some (m + 15)) 0 (nI j) = some (a 15 j) := mh_rd (by decide) (by decide) hj (by omega)
theorem mh_wr15 {j : Nat} {v : Int32} (hj : j < 120) : wI (mH g m s t a) (some (m + 15)) 0 (nI j) v = some (mH g m s t (ua a 15 (upd (a 15) j v))) := mh_wr (by decide) (by decide) hj (by omega)
theorem mh_gA29 : gA (mH g m s t a) (some m) 6 29 = some (some (m + 16)) := gA_eq (v := some (m + 16)) mh_m rfl
theorem mh_rd16 {j : Nat} (hj : j < 1720) : rI (mH g m s t a) (some (m + 16)) 0 (nI j) = some (a 16 j) := mh_rd (by decide) (by decide) hj (by omega)
theorem mh_wr16 {j : Nat} {v : Int32} (hj : j < 1720) : wI (mH g m s t a) (some (m + 16)) 0 (nI j) v = some (mH g m s t (ua a 16 (upd (a 16) j v))) := mh_wr (by decide) (by decide) hj (by omega)
end MH
end
section
theorem ix_iff {r : Int32} {R : Nat} (hR : R ≤ 100000) : (0 ≤ r ∧ r ≤ nI R - 1) ↔ vp_in r R := by
  rw [vp_in_iff, Int32.le_iff_toInt_le, Int32.le_iff_toInt_le]
  have e : (nI R - 1).toInt = (R : Int) - 1 := pk_sub_toInt (a := R) (b := 1) (by omega) (by omega)
  have e0 : (0 : Int32).toInt = 0 := by decide
  rw [e, e0]
  omega
theorem m_in_y {N : Nat} {h : Hp} {v lo hi : Int32} (h1 : lo ≤ v) (h2 : v ≤ hi) : fX6_in N h v lo hi = some 1 := by
  simp only [fX6_in]
  rw [if_neg (Int32.not_lt.mpr h1), if_neg (Int32.not_lt.mpr h2)]
theorem m_in_n {N : Nat} {h : Hp} {v lo hi : Int32} (h1 : ¬ (lo ≤ v ∧ v ≤ hi)) : fX6_in N h v lo hi = some 0 := by
  simp only [fX6_in]
  by_cases c : v < lo
  · rw [if_pos c]
  · rw [if_neg c]
    by_cases d : hi < v
    · rw [if_pos d]
    · exact absurd ⟨Int32.not_lt.mp c, Int32.not_lt.mp d⟩ h1
section MA
variable {g : Hp} {m : Nat} {s : Nat → Int32} {t : Int64} {a : Nat → Nat → Int32} {N R W P : Nat} {T C : Nat → Nat}
theorem m_isRing_y {j : Nat} (hs : s 0 = nI R) (hR : R ≤ 4) (hj : j < R) : fX6_isRing N (mH g m s t a) (some m) (nI j) = some 1 := by
  have h := (ix_iff (r := nI j) (R := R) (by omega)).mpr (vp_in_nI hj (by omega))
  simp only [fX6_isRing, mh_O, mh_gJ, mh_pJ, mh_gI0, mh_gI1, mh_gI2, mh_gI5, mh_gI6, mh_gI9, mh_gI14, mh_gI15, mh_gI16, mh_gI17, mh_gI18, mh_gI19, mh_gI24, mh_pI0, mh_pI1, mh_pI2, mh_pI5, mh_pI6, mh_pI9, mh_pI14, mh_pI15, mh_pI16, mh_pI17, mh_pI18, mh_pI19, mh_pI24, mh_gA3, mh_gA4, mh_gA7, mh_gA8, mh_gA10, mh_gA11, mh_gA13, mh_gA20, mh_gA21, mh_gA22, mh_gA23, mh_gA25, mh_gA26, mh_gA27, mh_gA28, mh_gA29, Option.bind_some, Option.bind_none, ↓reduceIte, if_true, if_false, hs, m_in_y h.1 h.2, or_true]
theorem m_isRing_n {r : Int32} (hs : s 0 = nI R) (hR : R ≤ 4) (hj : ¬ vp_in r R) : fX6_isRing N (mH g m s t a) (some m) r = some 0 := by
  have h : ¬ (0 ≤ r ∧ r ≤ nI R - 1) := fun z => hj ((ix_iff (by omega)).mp z)
  simp only [fX6_isRing, mh_O, mh_gJ, mh_pJ, mh_gI0, mh_gI1, mh_gI2, mh_gI5, mh_gI6, mh_gI9, mh_gI14, mh_gI15, mh_gI16, mh_gI17, mh_gI18, mh_gI19, mh_gI24, mh_pI0, mh_pI1, mh_pI2, mh_pI5, mh_pI6, mh_pI9, mh_pI14, mh_pI15, mh_pI16, mh_pI17, mh_pI18, mh_pI19, mh_pI24, mh_gA3, mh_gA4, mh_gA7, mh_gA8, mh_gA10, mh_gA11, mh_gA13, mh_gA20, mh_gA21, mh_gA22, mh_gA23, mh_gA25, mh_gA26, mh_gA27, mh_gA28, mh_gA29, Option.bind_some, Option.bind_none, ↓reduceIte, if_true, if_false, hs, m_in_n h, true_or]
theorem m_commonL {h : Hp} {α : Type} {K : Int32 → Option α} : ∀ (n x y : Nat), y < n → x < 2 ^ 31 → y < 2 ^ 31 → fX6_common_L4 N h K n (nI x) (nI y) = K (nI (Nat.gcd x y)) := by
  intro n
  induction n with
  | zero => intro x y h; omega
  | succ n ih =>
    intro x y h hx hy
    rw [fX6_common_L4]
    by_cases c : y = 0
    · subst c
      rw [if_pos nI_0, Nat.gcd_zero_right]
    · have c' : ¬ nI y = 0 := nI_ne0 (by omega) hy
      have hl : x % y < y := Nat.mod_lt _ (by omega)
      rw [if_neg c', if_neg c', jrem_nI hx (by omega) hy, ih y (x % y) (by omega) hy (by omega)]
      rw [Nat.gcd_comm y, ← Nat.gcd_rec, Nat.gcd_comm]
theorem m_common {h : Hp} {x y : Nat} (hx : x ≤ 1000) (hy : y ≤ 1000) (hN : 2000 ≤ N) : fX6_common N h (nI x) (nI y) = some (nI (Nat.gcd x y)) := by
  simp only [fX6_common]
  rw [m_commonL N x y (by omega) (by omega) (by omega)]
theorem m_isWheel_y {j : Nat} (hs : s 1 = nI W) (hR : W ≤ 6) (hj : j < W) : fX6_isWheel N (mH g m s t a) (some m) (nI j) = some 1 := by
  have h := (ix_iff (r := nI j) (R := W) (by omega)).mpr (vp_in_nI hj (by omega))
  simp only [fX6_isWheel, mh_O, mh_gJ, mh_pJ, mh_gI0, mh_gI1, mh_gI2, mh_gI5, mh_gI6, mh_gI9, mh_gI14, mh_gI15, mh_gI16, mh_gI17, mh_gI18, mh_gI19, mh_gI24, mh_pI0, mh_pI1, mh_pI2, mh_pI5, mh_pI6, mh_pI9, mh_pI14, mh_pI15, mh_pI16, mh_pI17, mh_pI18, mh_pI19, mh_pI24, mh_gA3, mh_gA4, mh_gA7, mh_gA8, mh_gA10, mh_gA11, mh_gA13, mh_gA20, mh_gA21, mh_gA22, mh_gA23, mh_gA25, mh_gA26, mh_gA27, mh_gA28, mh_gA29, Option.bind_some, Option.bind_none, ↓reduceIte, if_true, if_false, hs, m_in_y h.1 h.2, or_true]
theorem m_isWheel_n {r : Int32} (hs : s 1 = nI W) (hR : W ≤ 6) (hj : ¬ vp_in r W) : fX6_isWheel N (mH g m s t a) (some m) r = some 0 := by
  have h : ¬ (0 ≤ r ∧ r ≤ nI W - 1) := fun z => hj ((ix_iff (by omega)).mp z)
  simp only [fX6_isWheel, mh_O, mh_gJ, mh_pJ, mh_gI0, mh_gI1, mh_gI2, mh_gI5, mh_gI6, mh_gI9, mh_gI14, mh_gI15, mh_gI16, mh_gI17, mh_gI18, mh_gI19, mh_gI24, mh_pI0, mh_pI1, mh_pI2, mh_pI5, mh_pI6, mh_pI9, mh_pI14, mh_pI15, mh_pI16, mh_pI17, mh_pI18, mh_pI19, mh_pI24, mh_gA3, mh_gA4, mh_gA7, mh_gA8, mh_gA10, mh_gA11, mh_gA13, mh_gA20, mh_gA21, mh_gA22, mh_gA23, mh_gA25, mh_gA26, mh_gA27, mh_gA28, mh_gA29, Option.bind_some, Option.bind_none, ↓reduceIte, if_true, if_false, hs, m_in_n h, true_or]
theorem m_isPen_y {j : Nat} (hs : s 2 = nI P) (hR : P ≤ 4) (hj : j < P) : fX6_isPen N (mH g m s t a) (some m) (nI j) = some 1 := by
  have h := (ix_iff (r := nI j) (R := P) (by omega)).mpr (vp_in_nI hj (by omega))
  simp only [fX6_isPen, mh_O, mh_gJ, mh_pJ, mh_gI0, mh_gI1, mh_gI2, mh_gI5, mh_gI6, mh_gI9, mh_gI14, mh_gI15, mh_gI16, mh_gI17, mh_gI18, mh_gI19, mh_gI24, mh_pI0, mh_pI1, mh_pI2, mh_pI5, mh_pI6, mh_pI9, mh_pI14, mh_pI15, mh_pI16, mh_pI17, mh_pI18, mh_pI19, mh_pI24, mh_gA3, mh_gA4, mh_gA7, mh_gA8, mh_gA10, mh_gA11, mh_gA13, mh_gA20, mh_gA21, mh_gA22, mh_gA23, mh_gA25, mh_gA26, mh_gA27, mh_gA28, mh_gA29, Option.bind_some, Option.bind_none, ↓reduceIte, if_true, if_false, hs, m_in_y h.1 h.2, or_true]
theorem m_isPen_n {r : Int32} (hs : s 2 = nI P) (hR : P ≤ 4) (hj : ¬ vp_in r P) : fX6_isPen N (mH g m s t a) (some m) r = some 0 := by
  have h : ¬ (0 ≤ r ∧ r ≤ nI P - 1) := fun z => hj ((ix_iff (by omega)).mp z)
  simp only [fX6_isPen, mh_O, mh_gJ, mh_pJ, mh_gI0, mh_gI1, mh_gI2, mh_gI5, mh_gI6, mh_gI9, mh_gI14, mh_gI15, mh_gI16, mh_gI17, mh_gI18, mh_gI19, mh_gI24, mh_pI0, mh_pI1, mh_pI2, mh_pI5, mh_pI6, mh_pI9, mh_pI14, mh_pI15, mh_pI16, mh_pI17, mh_pI18, mh_pI19, mh_pI24, mh_gA3, mh_gA4, mh_gA7, mh_gA8, mh_gA10, mh_gA11, mh_gA13, mh_gA20, mh_gA21, mh_gA22, mh_gA23, mh_gA25, mh_gA26, mh_gA27, mh_gA28, mh_gA29, Option.bind_some, Option.bind_none, ↓reduceIte, if_true, if_false, hs, m_in_n h, true_or]
theorem m_isCurve_y {j n : Nat} (hs : s 6 = nI n) (hR : n ≤ 12) (hj : j < n) : fX6_isCurve N (mH g m s t a) (some m) (nI j) = some 1 := by
  have h := (ix_iff (r := nI j) (R := n) (by omega)).mpr (vp_in_nI hj (by omega))
  simp only [fX6_isCurve, mh_O, mh_gJ, mh_pJ, mh_gI0, mh_gI1, mh_gI2, mh_gI5, mh_gI6, mh_gI9, mh_gI14, mh_gI15, mh_gI16, mh_gI17, mh_gI18, mh_gI19, mh_gI24, mh_pI0, mh_pI1, mh_pI2, mh_pI5, mh_pI6, mh_pI9, mh_pI14, mh_pI15, mh_pI16, mh_pI17, mh_pI18, mh_pI19, mh_pI24, mh_gA3, mh_gA4, mh_gA7, mh_gA8, mh_gA10, mh_gA11, mh_gA13, mh_gA20, mh_gA21, mh_gA22, mh_gA23, mh_gA25, mh_gA26, mh_gA27, mh_gA28, mh_gA29, Option.bind_some, Option.bind_none, ↓reduceIte, if_true, if_false, hs, m_in_y h.1 h.2, or_true]
theorem m_isCurve_n {r : Int32} {n : Nat} (hs : s 6 = nI n) (hR : n ≤ 12) (hj : ¬ vp_in r n) : fX6_isCurve N (mH g m s t a) (some m) r = some 0 := by
  have h : ¬ (0 ≤ r ∧ r ≤ nI n - 1) := fun z => hj ((ix_iff (by omega)).mp z)
  simp only [fX6_isCurve, mh_O, mh_gJ, mh_pJ, mh_gI0, mh_gI1, mh_gI2, mh_gI5, mh_gI6, mh_gI9, mh_gI14, mh_gI15, mh_gI16, mh_gI17, mh_gI18, mh_gI19, mh_gI24, mh_pI0, mh_pI1, mh_pI2, mh_pI5, mh_pI6, mh_pI9, mh_pI14, mh_pI15, mh_pI16, mh_pI17, mh_pI18, mh_pI19, mh_pI24, mh_gA3, mh_gA4, mh_gA7, mh_gA8, mh_gA10, mh_gA11, mh_gA13, mh_gA20, mh_gA21, mh_gA22, mh_gA23, mh_gA25, mh_gA26, mh_gA27, mh_gA28, mh_gA29, Option.bind_some, Option.bind_none, ↓reduceIte, if_true, if_false, hs, m_in_n h, true_or]
/-- what a text may tell -/
def okB (R W P : Nat) (T C : Nat → Nat) : Prop := R ≤ 4 ∧ W ≤ 6 ∧ P ≤ 4 ∧ (∀ i, i < R → 12 ≤ T i ∧ T i ≤ 120 ∧ T i ∣ 360) ∧ (∀ i, i < W → 3 ≤ C i ∧ C i ≤ 99)
def mB (s : Nat → Int32) (a : Nat → Nat → Int32) (R W P : Nat) (T C : Nat → Nat) : Prop := s 0 = nI R ∧ s 1 = nI W ∧ s 2 = nI P ∧ (∀ i, i < R → a 1 i = nI (T i)) ∧ (∀ i, i < W → a 2 i = nI (C i))
variable {i j : Nat}
theorem m_fits (B : okB R W P T C) (H : mB s a R W P T C) (hi : i < R) (hj : j < W) : fX6_fits N (mH g m s t a) (some m) (nI i) (nI j) = some (if C j < T i then 1 else 0) := by
  obtain ⟨b1, b2, b3, b4, b5⟩ := B
  obtain ⟨h1, h2, h3, h4, h5⟩ := H
  have := b4 i hi
  have := b5 j hj
  simp (disch := omega) only [fX6_fits, mh_O, mh_gJ, mh_pJ, mh_gI0, mh_gI1, mh_gI2, mh_gI5, mh_gI6, mh_gI9, mh_gI14, mh_gI15, mh_gI16, mh_gI17, mh_gI18, mh_gI19, mh_gI24, mh_pI0, mh_pI1, mh_pI2, mh_pI5, mh_pI6, mh_pI9, mh_pI14, mh_pI15, mh_pI16, mh_pI17, mh_pI18, mh_pI19, mh_pI24, mh_gA3, mh_gA4, mh_gA7, mh_gA8, mh_gA10, mh_gA11, mh_gA13, mh_gA20, mh_gA21, mh_gA22, mh_gA23, mh_gA25, mh_gA26, mh_gA27, mh_gA28, mh_gA29, mh_rd1, mh_rd2, mh_rd3, mh_rd4, mh_rd5, mh_rd6, mh_rd7, mh_rd8, mh_rd9, mh_rd10, mh_rd11, mh_rd12, mh_rd13, mh_rd14, mh_rd15, mh_rd16, mh_wr1, mh_wr2, mh_wr3, mh_wr4, mh_wr5, mh_wr6, mh_wr7, mh_wr8, mh_wr9, mh_wr10, mh_wr11, mh_wr12, mh_wr13, mh_wr14, mh_wr15, mh_wr16, Option.bind_some, Option.bind_none, ↓reduceIte, if_true, if_false, h4 i hi, h5 j hj, nI_leI]
  by_cases c : C j < T i
  · rw [if_neg (by omega), if_pos c]
  · rw [if_pos (by omega), if_neg c]
theorem m_commonOf (hN : 2000 ≤ N) (B : okB R W P T C) (H : mB s a R W P T C) (hi : i < R) (hj : j < W) : fX6_commonOf N (mH g m s t a) (some m) (nI i) (nI j) = some (nI (Nat.gcd (T i) (C j))) := by
  obtain ⟨b1, b2, b3, b4, b5⟩ := B
  obtain ⟨h1, h2, h3, h4, h5⟩ := H
  have := b4 i hi
  have := b5 j hj
  simp (disch := omega) only [fX6_commonOf, mh_O, mh_gJ, mh_pJ, mh_gI0, mh_gI1, mh_gI2, mh_gI5, mh_gI6, mh_gI9, mh_gI14, mh_gI15, mh_gI16, mh_gI17, mh_gI18, mh_gI19, mh_gI24, mh_pI0, mh_pI1, mh_pI2, mh_pI5, mh_pI6, mh_pI9, mh_pI14, mh_pI15, mh_pI16, mh_pI17, mh_pI18, mh_pI19, mh_pI24, mh_gA3, mh_gA4, mh_gA7, mh_gA8, mh_gA10, mh_gA11, mh_gA13, mh_gA20, mh_gA21, mh_gA22, mh_gA23, mh_gA25, mh_gA26, mh_gA27, mh_gA28, mh_gA29, mh_rd1, mh_rd2, mh_rd3, mh_rd4, mh_rd5, mh_rd6, mh_rd7, mh_rd8, mh_rd9, mh_rd10, mh_rd11, mh_rd12, mh_rd13, mh_rd14, mh_rd15, mh_rd16, mh_wr1, mh_wr2, mh_wr3, mh_wr4, mh_wr5, mh_wr6, mh_wr7, mh_wr8, mh_wr9, mh_wr10, mh_wr11, mh_wr12, mh_wr13, mh_wr14, mh_wr15, mh_wr16, Option.bind_some, Option.bind_none, ↓reduceIte, if_true, if_false, h4 i hi, h5 j hj, m_common]
theorem gcd_in {x y : Nat} (hx : 0 < x) : 0 < Nat.gcd x y ∧ Nat.gcd x y ≤ x := ⟨Nat.gcd_pos_of_pos_left _ hx, Nat.le_of_dvd hx (Nat.gcd_dvd_left x y)⟩
theorem m_petalsOf (hN : 2000 ≤ N) (B : okB R W P T C) (H : mB s a R W P T C) (hi : i < R) (hj : j < W) : fX6_petalsOf N (mH g m s t a) (some m) (nI i) (nI j) = some (nI (T i / Nat.gcd (T i) (C j))) := by
  have e := m_commonOf (g := g) (m := m) (t := t) hN B H hi hj
  obtain ⟨b1, b2, b3, b4, b5⟩ := B
  obtain ⟨h1, h2, h3, h4, h5⟩ := H
  have := b4 i hi
  have := b5 j hj
  have := gcd_in (x := T i) (y := C j) (by omega)
  have e0 : ¬ nI (Nat.gcd (T i) (C j)) = 0 := nI_ne0 (by omega) (by omega)
  simp (disch := omega) only [fX6_petalsOf, mh_O, mh_gJ, mh_pJ, mh_gI0, mh_gI1, mh_gI2, mh_gI5, mh_gI6, mh_gI9, mh_gI14, mh_gI15, mh_gI16, mh_gI17, mh_gI18, mh_gI19, mh_gI24, mh_pI0, mh_pI1, mh_pI2, mh_pI5, mh_pI6, mh_pI9, mh_pI14, mh_pI15, mh_pI16, mh_pI17, mh_pI18, mh_pI19, mh_pI24, mh_gA3, mh_gA4, mh_gA7, mh_gA8, mh_gA10, mh_gA11, mh_gA13, mh_gA20, mh_gA21, mh_gA22, mh_gA23, mh_gA25, mh_gA26, mh_gA27, mh_gA28, mh_gA29, mh_rd1, mh_rd2, mh_rd3, mh_rd4, mh_rd5, mh_rd6, mh_rd7, mh_rd8, mh_rd9, mh_rd10, mh_rd11, mh_rd12, mh_rd13, mh_rd14, mh_rd15, mh_rd16, mh_wr1, mh_wr2, mh_wr3, mh_wr4, mh_wr5, mh_wr6, mh_wr7, mh_wr8, mh_wr9, mh_wr10, mh_wr11, mh_wr12, mh_wr13, mh_wr14, mh_wr15, mh_wr16, Option.bind_some, Option.bind_none, ↓reduceIte, if_true, if_false, h4 i hi, e, e0, pk_div]
theorem m_roundsOf (hN : 2000 ≤ N) (B : okB R W P T C) (H : mB s a R W P T C) (hi : i < R) (hj : j < W) : fX6_roundsOf N (mH g m s t a) (some m) (nI i) (nI j) = some (nI (C j / Nat.gcd (T i) (C j))) := by
  have e := m_commonOf (g := g) (m := m) (t := t) hN B H hi hj
  obtain ⟨b1, b2, b3, b4, b5⟩ := B
  obtain ⟨h1, h2, h3, h4, h5⟩ := H
  have := b4 i hi
  have := b5 j hj
  have := gcd_in (x := T i) (y := C j) (by omega)
  have e0 : ¬ nI (Nat.gcd (T i) (C j)) = 0 := nI_ne0 (by omega) (by omega)
  simp (disch := omega) only [fX6_roundsOf, mh_O, mh_gJ, mh_pJ, mh_gI0, mh_gI1, mh_gI2, mh_gI5, mh_gI6, mh_gI9, mh_gI14, mh_gI15, mh_gI16, mh_gI17, mh_gI18, mh_gI19, mh_gI24, mh_pI0, mh_pI1, mh_pI2, mh_pI5, mh_pI6, mh_pI9, mh_pI14, mh_pI15, mh_pI16, mh_pI17, mh_pI18, mh_pI19, mh_pI24, mh_gA3, mh_gA4, mh_gA7, mh_gA8, mh_gA10, mh_gA11, mh_gA13, mh_gA20, mh_gA21, mh_gA22, mh_gA23, mh_gA25, mh_gA26, mh_gA27, mh_gA28, mh_gA29, mh_rd1, mh_rd2, mh_rd3, mh_rd4, mh_rd5, mh_rd6, mh_rd7, mh_rd8, mh_rd9, mh_rd10, mh_rd11, mh_rd12, mh_rd13, mh_rd14, mh_rd15, mh_rd16, mh_wr1, mh_wr2, mh_wr3, mh_wr4, mh_wr5, mh_wr6, mh_wr7, mh_wr8, mh_wr9, mh_wr10, mh_wr11, mh_wr12, mh_wr13, mh_wr14, mh_wr15, mh_wr16, Option.bind_some, Option.bind_none, ↓reduceIte, if_true, if_false, h5 j hj, e, e0, pk_div]
theorem m_longOf (hN : 2000 ≤ N) (B : okB R W P T C) (H : mB s a R W P T C) (hi : i < R) (hj : j < W) : fX6_longOf N (mH g m s t a) (some m) (nI i) (nI j) = some (nI (T i * (C j / Nat.gcd (T i) (C j)))) := by
  have e := m_roundsOf (g := g) (m := m) (t := t) hN B H hi hj
  obtain ⟨b1, b2, b3, b4, b5⟩ := B
  obtain ⟨h1, h2, h3, h4, h5⟩ := H
  simp (disch := omega) only [fX6_longOf, mh_O, mh_gJ, mh_pJ, mh_gI0, mh_gI1, mh_gI2, mh_gI5, mh_gI6, mh_gI9, mh_gI14, mh_gI15, mh_gI16, mh_gI17, mh_gI18, mh_gI19, mh_gI24, mh_pI0, mh_pI1, mh_pI2, mh_pI5, mh_pI6, mh_pI9, mh_pI14, mh_pI15, mh_pI16, mh_pI17, mh_pI18, mh_pI19, mh_pI24, mh_gA3, mh_gA4, mh_gA7, mh_gA8, mh_gA10, mh_gA11, mh_gA13, mh_gA20, mh_gA21, mh_gA22, mh_gA23, mh_gA25, mh_gA26, mh_gA27, mh_gA28, mh_gA29, mh_rd1, mh_rd2, mh_rd3, mh_rd4, mh_rd5, mh_rd6, mh_rd7, mh_rd8, mh_rd9, mh_rd10, mh_rd11, mh_rd12, mh_rd13, mh_rd14, mh_rd15, mh_rd16, mh_wr1, mh_wr2, mh_wr3, mh_wr4, mh_wr5, mh_wr6, mh_wr7, mh_wr8, mh_wr9, mh_wr10, mh_wr11, mh_wr12, mh_wr13, mh_wr14, mh_wr15, mh_wr16, Option.bind_some, Option.bind_none, ↓reduceIte, if_true, if_false, h4 i hi, e, pk_mul]
/-! where a tip is -/
theorem nI_sab {x y z : Nat} (h : y ≤ x + z) : nI x - nI y + nI z = nI (x + z - y) := by
  rw [← pk_sub h, ← nI_add, Int32.sub_eq_add_neg, Int32.sub_eq_add_neg, Int32.add_assoc, Int32.add_comm (-nI y), ← Int32.add_assoc]
def frm (lay pt : Nat) : Nat := (pt + 360 - lay) % 360
theorem dv_360 {x : Nat} (h : x ∣ 360) (h1 : 12 ≤ x) (h2 : x ≤ 120) : 3 ≤ 360 / x ∧ 360 / x ≤ 30 ∧ 360 / x * x = 360 := by
  obtain ⟨k, hk⟩ := h
  have e : 360 / x = k := by rw [hk]; exact Nat.mul_div_cancel_left k (by omega)
  rw [e, Nat.mul_comm]
  refine ⟨?_, ?_, hk.symm⟩
  · apply Nat.le_of_not_lt
    intro z
    have : x * k ≤ 120 * 2 := Nat.mul_le_mul h2 (by omega)
    omega
  · apply Nat.le_of_not_lt
    intro z
    have : 12 * 31 ≤ x * k := Nat.mul_le_mul h1 (by omega)
    omega
theorem m_toothAt (B : okB R W P T C) (H : mB s a R W P T C) {lay pt : Nat} (hi : i < R) (hl : lay < 360) (hp : pt < 360) : fX6_toothAt N (mH g m s t a) (some m) (nI i) (nI lay) (nI pt) = some (if frm lay pt % (360 / T i) = 0 then nI (frm lay pt / (360 / T i)) else -9) := by
  obtain ⟨b1, b2, b3, b4, b5⟩ := B
  obtain ⟨h1, h2, h3, h4, h5⟩ := H
  have ht := b4 i hi
  have hd := dv_360 ht.2.2 ht.1 ht.2.1
  have e0 : ¬ nI (T i) = 0 := nI_ne0 (by omega) (by omega)
  have e1 : ¬ nI (360 / T i) = 0 := nI_ne0 (by omega) (by omega)
  have hf : frm lay pt < 360 := Nat.mod_lt _ (by decide)
  have hm : frm lay pt % (360 / T i) < 360 / T i := Nat.mod_lt _ (by omega)
  have e2 : jrem ((nI pt - nI lay) + nI 360) (nI 360) = nI (frm lay pt) := by
    rw [nI_sab (by omega), jrem_nI (by omega) (by omega) (by omega)]; rfl
  simp (disch := omega) only [fX6_toothAt, mh_O, mh_gJ, mh_pJ, mh_gI0, mh_gI1, mh_gI2, mh_gI5, mh_gI6, mh_gI9, mh_gI14, mh_gI15, mh_gI16, mh_gI17, mh_gI18, mh_gI19, mh_gI24, mh_pI0, mh_pI1, mh_pI2, mh_pI5, mh_pI6, mh_pI9, mh_pI14, mh_pI15, mh_pI16, mh_pI17, mh_pI18, mh_pI19, mh_pI24, mh_gA3, mh_gA4, mh_gA7, mh_gA8, mh_gA10, mh_gA11, mh_gA13, mh_gA20, mh_gA21, mh_gA22, mh_gA23, mh_gA25, mh_gA26, mh_gA27, mh_gA28, mh_gA29, mh_rd1, mh_rd2, mh_rd3, mh_rd4, mh_rd5, mh_rd6, mh_rd7, mh_rd8, mh_rd9, mh_rd10, mh_rd11, mh_rd12, mh_rd13, mh_rd14, mh_rd15, mh_rd16, mh_wr1, mh_wr2, mh_wr3, mh_wr4, mh_wr5, mh_wr6, mh_wr7, mh_wr8, mh_wr9, mh_wr10, mh_wr11, mh_wr12, mh_wr13, mh_wr14, mh_wr15, mh_wr16, Option.bind_some, Option.bind_none, ↓reduceIte, if_true, if_false, h4 i hi, i_360, pk_div, e0, e1, e2, jrem_nI]
  by_cases c : frm lay pt % (360 / T i) = 0
  · rw [if_pos c, if_pos (by rw [c]; exact nI_0)]
  · rw [if_neg c, if_neg (nI_ne0 (by omega) (by omega))]
end MA
end
section
theorem bmod_id {x : Int} (h1 : -2147483648 ≤ x) (h2 : x < 2147483648) : x.bmod (2 ^ 32) = x := Int.bmod_eq_of_le (by simpa using h1) (by simpa using h2)
theorem jrem_toInt {x y : Int32} (hx1 : -1073741824 < x.toInt) (hx2 : x.toInt < 1073741824) (hy1 : 0 < y.toInt) (hy2 : y.toInt < 1073741824) : (jrem x y).toInt = x.toInt.tmod y.toInt := by
  have hne : y ≠ -1 := by
    intro e
    rw [e] at hy1
    exact absurd hy1 (by decide)
  have hb := tmod_bounds (a := x.toInt) hy1
  have he := Int.tmod_add_tdiv_mul x.toInt y.toInt
  unfold jrem
  rw [Int32.toInt_sub, Int32.toInt_mul, Int32.toInt_div_of_ne_right _ _ hne, bmod_id (x := x.toInt.tdiv y.toInt * y.toInt) (by omega) (by omega), bmod_id (by omega) (by omega)]
  omega
theorem jrem_dvd {t st g : Nat} (ht : t < 2 ^ 29) (hs : st < 2 ^ 29) (hg : 0 < g) (hg2 : g < 2 ^ 29) : jrem (nI t - nI st) (nI g) = 0 ↔ (g : Int) ∣ (t : Int) - (st : Int) := by
  have e := pk_sub_toInt (a := t) (b := st) (by omega) (by omega)
  have e2 := nI_toInt (n := g) (by omega)
  rw [← Int32.toInt_inj, jrem_toInt (by rw [e]; omega) (by rw [e]; omega) (by rw [e2]; omega) (by rw [e2]; omega), e, e2, Int.dvd_iff_tmod_eq_zero]
  rfl
theorem m_isTip {N : Nat} {h : Hp} {t st g : Nat} (ht : t < 2 ^ 29) (hs : st < 2 ^ 29) (hg : 0 < g) (hg2 : g < 2 ^ 29) : fX6_isTip N h (nI g) (nI t) (nI st) = some (if (g : Int) ∣ (t : Int) - (st : Int) then 1 else 0) := by
  have e0 : ¬ nI g = 0 := nI_ne0 hg (by omega)
  simp only [fX6_isTip, e0, Option.bind_some, Option.bind_none, ↓reduceIte, if_true, if_false]
  by_cases c : (g : Int) ∣ (t : Int) - (st : Int)
  · rw [if_pos c, if_pos ((jrem_dvd ht hs hg hg2).mpr c)]
  · rw [if_neg c, if_neg (fun z => c ((jrem_dvd ht hs hg hg2).mp z))]
theorem frm_int {lay pt : Nat} (hl : lay < 360) (hp : pt < 360) : ∃ e : Int, (frm lay pt : Int) = (pt : Int) - (lay : Int) + 360 * e := by
  unfold frm
  by_cases c : lay ≤ pt
  · exact ⟨0, by omega⟩
  · exact ⟨1, by omega⟩
theorem tip_iff {s g T lay pt st : Nat} (hs : 0 < s) (h : s * T = 360) (hg : g ∣ T) (hl : lay < 360) (hp : pt < 360) : (frm lay pt % s = 0 ∧ (g : Int) ∣ ((frm lay pt / s : Nat) : Int) - (st : Int)) ↔ ((s * g : Nat) : Int) ∣ (pt : Int) - ((s * st + lay : Nat) : Int) := by
  obtain ⟨e, he⟩ := frm_int hl hp
  obtain ⟨u, hu⟩ := hg
  have h36 : (360 : Int) = (s : Int) * (g : Int) * (u : Int) := by
    have : 360 = s * g * u := by rw [← h, hu, Nat.mul_assoc]
    rw [← Int.natCast_mul, ← Int.natCast_mul, ← this]
    rfl
  constructor
  · rintro ⟨h1, c, hc⟩
    have h2 : frm lay pt = s * (frm lay pt / s) := by
      have := Nat.div_add_mod (frm lay pt) s
      omega
    have h3 : (frm lay pt : Int) = (s : Int) * ((frm lay pt / s : Nat) : Int) := by exact_mod_cast h2
    refine ⟨c - u * e, ?_⟩
    push_cast
    have h4 : ((frm lay pt / s : Nat) : Int) = st + g * c := by omega
    rw [h4] at h3
    rw [h36] at he
    grind
  · rintro ⟨c, hc⟩
    push_cast at hc
    have h5 : (frm lay pt : Int) = (s : Int) * ((st : Int) + g * (c + u * e)) := by
      rw [he, h36]
      grind
    have h6 : s ∣ frm lay pt := by
      have : (s : Int) ∣ (frm lay pt : Int) := ⟨_, h5⟩
      exact_mod_cast this
    refine ⟨Nat.mod_eq_zero_of_dvd h6, c + u * e, ?_⟩
    have h2 : frm lay pt = s * (frm lay pt / s) := (Nat.mul_div_cancel' h6).symm
    have h3 : (frm lay pt : Int) = (s : Int) * ((frm lay pt / s : Nat) : Int) := by exact_mod_cast h2
    have h7 : ((frm lay pt / s : Nat) : Int) = (st : Int) + g * (c + u * e) := by
      have : (s : Int) * ((frm lay pt / s : Nat) : Int) = (s : Int) * ((st : Int) + g * (c + u * e)) := by rw [← h3, h5]
      exact Int.eq_of_mul_eq_mul_left (by omega) this
    omega

/-! a note: how the paper lies, curves, inks (from 2 on), six numbers a curve (from 6 on) -/
abbrev cF (φ : Nat → Nat) (k f : Nat) : Nat := φ (6 + (6 * k + f))
def okC (R W P : Nat) (T C φ : Nat → Nat) (k : Nat) : Prop := cF φ k 0 < R ∧ cF φ k 1 < W ∧ C (cF φ k 1) < T (cF φ k 0) ∧ 1 ≤ cF φ k 2 ∧ cF φ k 2 ≤ 9 ∧ cF φ k 3 < T (cF φ k 0) ∧ cF φ k 4 < P ∧ cF φ k 5 < 360
def okN (R W P : Nat) (T C φ : Nat → Nat) : Prop := φ 0 < 360 ∧ φ 1 ≤ 12 ∧ (∀ p, p < P → φ (2 + p) ≤ 999) ∧ ∀ k, k < φ 1 → okC R W P T C φ k
def mN (s : Nat → Int32) (a : Nat → Nat → Int32) (P : Nat) (φ : Nat → Nat) : Prop := s 5 = nI (φ 0) ∧ s 6 = nI (φ 1) ∧ (∀ p, p < P → a 3 p = nI (φ (2 + p))) ∧ ∀ q, q < 6 * φ 1 → a 4 q = nI (φ (6 + q))
/-- a curve has a tip at a point (its line aside) -/
def tipB (T C φ : Nat → Nat) (k pt : Nat) : Bool := decide (((360 / T (cF φ k 0) * Nat.gcd (T (cF φ k 0)) (C (cF φ k 1)) : Nat) : Int) ∣ (pt : Int) - ((360 / T (cF φ k 0) * cF φ k 3 + cF φ k 5 : Nat) : Int))
/-- a curve has a tip there, in that line -/
def tipL (T C φ : Nat → Nat) (line pt k : Nat) : Bool := (cF φ k 2 == line) && tipB T C φ k pt
/-- the latest below n, or none -/
def lastK (p : Nat → Bool) : Nat → Int32
  | 0 => -9
  | n + 1 => if p n = true then nI n else lastK p n
section MB
variable {g : Hp} {m : Nat} {s : Nat → Int32} {t : Int64} {a : Nat → Nat → Int32} {N R W P : Nat} {T C φ : Nat → Nat}
theorem m_hasTip (hN : 2000 ≤ N) (B : okB R W P T C) (H : mB s a R W P T C) (O : okN R W P T C φ) (J : mN s a P φ) {k pt line : Nat} (hk : k < φ 1) (hp : pt < 360) (hl : line < 10) : fX6_hasTip N (mH g m s t a) (some m) (nI k) (nI pt) (nI line) = some (if tipL T C φ line pt k = true then 1 else 0) := by
  obtain ⟨o1, o2, o3, o4⟩ := O
  obtain ⟨j1, j2, j3, j4⟩ := J
  obtain ⟨c0, c1, c2, c3, c4, c5, c6, c7⟩ := o4 k hk
  have e0 : a 4 (6 * k) = nI (cF φ k 0) := j4 (6 * k) (by omega)
  have e1 : a 4 (6 * k + 1) = nI (cF φ k 1) := j4 (6 * k + 1) (by omega)
  have e2 : a 4 (6 * k + 2) = nI (cF φ k 2) := j4 (6 * k + 2) (by omega)
  have e3 : a 4 (6 * k + 3) = nI (cF φ k 3) := j4 (6 * k + 3) (by omega)
  have e5 : a 4 (6 * k + 5) = nI (cF φ k 5) := j4 (6 * k + 5) (by omega)
  have ht := B.2.2.2.1 _ c0
  have hd := dv_360 ht.2.2 ht.1 ht.2.1
  have hg := gcd_in (x := T (cF φ k 0)) (y := C (cF φ k 1)) (by omega)
  have tA := m_toothAt (N := N) (g := g) (m := m) (t := t) B H c0 c7 hp
  have cO := m_commonOf (g := g) (m := m) (t := t) hN B H c0 c1
  have iff_ := tip_iff (s := 360 / T (cF φ k 0)) (g := Nat.gcd (T (cF φ k 0)) (C (cF φ k 1))) (T := T (cF φ k 0)) (lay := cF φ k 5) (pt := pt) (st := cF φ k 3) (by omega) hd.2.2 (Nat.gcd_dvd_left _ _) c7 hp
  have hfr : frm (cF φ k 5) pt < 360 := Nat.mod_lt _ (by decide)
  have hfd : frm (cF φ k 5) pt / (360 / T (cF φ k 0)) < 360 := Nat.lt_of_le_of_lt (Nat.div_le_self _ _) hfr
  simp (disch := omega) only [fX6_hasTip, mh_O, mh_gJ, mh_pJ, mh_gI0, mh_gI1, mh_gI2, mh_gI5, mh_gI6, mh_gI9, mh_gI14, mh_gI15, mh_gI16, mh_gI17, mh_gI18, mh_gI19, mh_gI24, mh_pI0, mh_pI1, mh_pI2, mh_pI5, mh_pI6, mh_pI9, mh_pI14, mh_pI15, mh_pI16, mh_pI17, mh_pI18, mh_pI19, mh_pI24, mh_gA3, mh_gA4, mh_gA7, mh_gA8, mh_gA10, mh_gA11, mh_gA13, mh_gA20, mh_gA21, mh_gA22, mh_gA23, mh_gA25, mh_gA26, mh_gA27, mh_gA28, mh_gA29, mh_rd1, mh_rd2, mh_rd3, mh_rd4, mh_rd5, mh_rd6, mh_rd7, mh_rd8, mh_rd9, mh_rd10, mh_rd11, mh_rd12, mh_rd13, mh_rd14, mh_rd15, mh_rd16, mh_wr1, mh_wr2, mh_wr3, mh_wr4, mh_wr5, mh_wr6, mh_wr7, mh_wr8, mh_wr9, mh_wr10, mh_wr11, mh_wr12, mh_wr13, mh_wr14, mh_wr15, mh_wr16, Option.bind_some, Option.bind_none, ↓reduceIte, if_true, if_false, i_6, i_2, i_5, i_1, i_3, pk_mul, nI_add, e0, e1, e2, e3, e5, nI_eq]
  by_cases hh : cF φ k 2 = line
  · rw [if_pos hh]
    simp only [tA, Option.bind_some, Option.bind_none, ↓reduceIte, if_true, if_false]
    by_cases hm : frm (cF φ k 5) pt % (360 / T (cF φ k 0)) = 0
    · rw [if_pos hm, if_neg (nI_neg9 (by omega))]
      simp (disch := omega) only [cO, m_isTip, Option.bind_some, Option.bind_none, ↓reduceIte, if_true, if_false]
      by_cases hdv : ((Nat.gcd (T (cF φ k 0)) (C (cF φ k 1)) : Nat) : Int) ∣ ((frm (cF φ k 5) pt / (360 / T (cF φ k 0)) : Nat) : Int) - ((cF φ k 3 : Nat) : Int)
      · have ht : tipL T C φ line pt k = true := by
          simp only [tipL, tipB, Bool.and_eq_true, beq_iff_eq, decide_eq_true_eq]
          exact ⟨hh, iff_.mp ⟨hm, hdv⟩⟩
        rw [if_pos hdv, if_neg (by decide), if_pos ht]
      · have ht : ¬ tipL T C φ line pt k = true := by
          simp only [tipL, tipB, Bool.and_eq_true, beq_iff_eq, decide_eq_true_eq]
          exact fun z => hdv (iff_.mpr z.2).2
        rw [if_neg hdv, if_pos rfl, if_neg ht]
    · have ht : ¬ tipL T C φ line pt k = true := by
        simp only [tipL, tipB, Bool.and_eq_true, beq_iff_eq, decide_eq_true_eq]
        exact fun z => hm (iff_.mpr z.2).1
      rw [if_neg hm, if_pos rfl, if_neg ht]
  · have ht : ¬ tipL T C φ line pt k = true := by
      simp only [tipL, Bool.and_eq_true, beq_iff_eq]
      exact fun z => hh z.1
    rw [if_neg hh, if_neg ht]
theorem m_shownL (hN : 2000 ≤ N) (B : okB R W P T C) (H : mB s a R W P T C) (O : okN R W P T C φ) (J : mN s a P φ) {pt line : Nat} (hp : pt < 360) (hl : line < 10) {α : Type} {K : Int32 → Option α} : ∀ (n k : Nat), k ≤ φ 1 → k < n → ∃ v : Int32, fX6_shownAt_L7 N (mH g m s t a) K n (some m) (nI pt) (nI line) (nI k - 1) = K v ∧ ((lastK (tipL T C φ line pt) k = -9 ∧ v < 0) ∨ ∃ j, j < k ∧ v = nI j ∧ lastK (tipL T C φ line pt) k = nI j) := by
  intro n
  induction n with
  | zero => intro k _ h; omega
  | succ n ih =>
    intro k hk hn
    rw [fX6_shownAt_L7]
    cases k with
    | zero => exact ⟨_, if_pos (by decide), Or.inl ⟨rfl, by decide⟩⟩
    | succ k =>
      have ht := m_hasTip (g := g) (m := m) (t := t) hN B H O J (k := k) (pt := pt) (line := line) (by omega) hp hl
      have hφ := O.2.1
      rw [nI_pred, if_neg (nI_neg (by omega))]
      simp only [mh_O, mh_gJ, mh_pJ, mh_gI0, mh_gI1, mh_gI2, mh_gI5, mh_gI6, mh_gI9, mh_gI14, mh_gI15, mh_gI16, mh_gI17, mh_gI18, mh_gI19, mh_gI24, mh_pI0, mh_pI1, mh_pI2, mh_pI5, mh_pI6, mh_pI9, mh_pI14, mh_pI15, mh_pI16, mh_pI17, mh_pI18, mh_pI19, mh_pI24, mh_gA3, mh_gA4, mh_gA7, mh_gA8, mh_gA10, mh_gA11, mh_gA13, mh_gA20, mh_gA21, mh_gA22, mh_gA23, mh_gA25, mh_gA26, mh_gA27, mh_gA28, mh_gA29, Option.bind_some, Option.bind_none, ↓reduceIte, if_true, if_false, ht]
      unfold lastK
      by_cases c : tipL T C φ line pt k = true
      · simp only [c, Option.bind_some, Option.bind_none, ↓reduceIte, if_true, if_false]
        exact ⟨nI k, if_neg (by decide), Or.inr ⟨k, by omega, rfl, rfl⟩⟩
      · simp only [c, Option.bind_some, Option.bind_none, ↓reduceIte, if_true, if_false]
        obtain ⟨v, h1, h2⟩ := ih k (by omega) (by omega)
        refine ⟨v, ?_, ?_⟩
        · rw [← h1, Int32.sub_eq_add_neg]; rfl
        · rcases h2 with h2 | ⟨j, h3, h4⟩
          · exact Or.inl h2
          · exact Or.inr ⟨j, by omega, h4⟩
theorem m_shownAt (hN : 2000 ≤ N) (B : okB R W P T C) (H : mB s a R W P T C) (O : okN R W P T C φ) (J : mN s a P φ) {pt line : Nat} (hp : pt < 360) (hl : line < 10) : fX6_shownAt N (mH g m s t a) (some m) (nI pt) (nI line) = some (lastK (tipL T C φ line pt) (φ 1)) := by
  have hφ := O.2.1
  obtain ⟨v, h1, h2⟩ := m_shownL (g := g) (m := m) (t := t) hN B H O J hp hl (K := fun l3 => fX6_shownAt_j27 N (mH g m s t a) l3) N (φ 1) (Nat.le_refl _) (by omega)
  simp only [fX6_shownAt, mh_O, mh_gJ, mh_pJ, mh_gI0, mh_gI1, mh_gI2, mh_gI5, mh_gI6, mh_gI9, mh_gI14, mh_gI15, mh_gI16, mh_gI17, mh_gI18, mh_gI19, mh_gI24, mh_pI0, mh_pI1, mh_pI2, mh_pI5, mh_pI6, mh_pI9, mh_pI14, mh_pI15, mh_pI16, mh_pI17, mh_pI18, mh_pI19, mh_pI24, mh_gA3, mh_gA4, mh_gA7, mh_gA8, mh_gA10, mh_gA11, mh_gA13, mh_gA20, mh_gA21, mh_gA22, mh_gA23, mh_gA25, mh_gA26, mh_gA27, mh_gA28, mh_gA29, Option.bind_some, Option.bind_none, ↓reduceIte, if_true, if_false, J.2.1]
  refine h1.trans ?_
  simp only [fX6_shownAt_j27]
  rcases h2 with ⟨h3, h4⟩ | ⟨j, h5, h3, h4⟩
  · rw [if_neg (Int32.not_le.mpr h4), h3]
  · rw [h3, h4, if_pos (nI_pos' (by omega))]
end MB
end
section
def cnt (p : Nat → Bool) : Nat → Nat
  | 0 => 0
  | n + 1 => cnt p n + (if p n = true then 1 else 0)
def sumN (f : Nat → Nat) : Nat → Nat
  | 0 => 0
  | n + 1 => sumN f n + f n
theorem cnt_t {p : Nat → Bool} {n : Nat} (h : p n = true) : cnt p (n + 1) = cnt p n + 1 := by
  show cnt p n + (if p n = true then 1 else 0) = _
  rw [if_pos h]
theorem cnt_f {p : Nat → Bool} {n : Nat} (h : ¬ p n = true) : cnt p (n + 1) = cnt p n := by
  show cnt p n + (if p n = true then 1 else 0) = _
  rw [if_neg h]
  rfl
theorem cnt_le (p : Nat → Bool) (n : Nat) : cnt p n ≤ n := by
  induction n with
  | zero => exact Nat.le_refl _
  | succ n ih =>
    unfold cnt
    split <;> omega
/-- what the latest below n has, or none -/
def lastP (p : Nat → Bool) (f : Nat → Nat) : Nat → Int32
  | 0 => -9
  | n + 1 => if p n = true then nI (f n) else lastP p f n
theorem lastK_cases (p : Nat → Bool) (f : Nat → Nat) (n : Nat) : (lastK p n = -9 ∧ lastP p f n = -9 ∧ ∀ k, k < n → p k = false) ∨ ∃ k, k < n ∧ lastK p n = nI k ∧ lastP p f n = nI (f k) ∧ p k = true ∧ ∀ j, k < j → j < n → p j = false := by
  induction n with
  | zero => exact Or.inl ⟨rfl, rfl, fun k h => by omega⟩
  | succ n ih =>
    unfold lastK lastP
    cases hp : p n with
    | true => exact Or.inr ⟨n, by omega, by simp, by simp, hp, fun j h1 h2 => by omega⟩
    | false =>
      simp only [Bool.false_eq_true, if_false]
      rcases ih with ⟨h1, h2, h3⟩ | ⟨k, h1, h2, h3, h4, h5⟩
      · refine Or.inl ⟨h1, h2, fun k hk => ?_⟩
        rcases Nat.lt_or_ge k n with c | c
        · exact h3 k c
        · rw [show k = n by omega]; exact hp
      · refine Or.inr ⟨k, by omega, h2, h3, h4, fun j c1 c2 => ?_⟩
        rcases Nat.lt_or_ge j n with c | c
        · exact h5 j c1 c
        · rw [show j = n by omega]; exact hp
/-- the pen that shows -/
def penK (T C φ : Nat → Nat) (line pt : Nat) : Int32 := lastP (tipL T C φ line pt) (fun k => cF φ k 4) (φ 1)
theorem mB_ua {s : Nat → Int32} {a : Nat → Nat → Int32} {R W P : Nat} {T C : Nat → Nat} {k : Nat} {f : Nat → Int32} (h : mB s a R W P T C) (hk : 3 ≤ k) : mB s (ua a k f) R W P T C := by
  unfold mB
  rw [ua_n (by omega), ua_n (by omega)]
  exact h
theorem mN_ua {s : Nat → Int32} {a : Nat → Nat → Int32} {P : Nat} {φ : Nat → Nat} {k : Nat} {f : Nat → Int32} (h : mN s a P φ) (hk : 5 ≤ k) : mN s (ua a k f) P φ := by
  unfold mN
  rw [ua_n (by omega), ua_n (by omega)]
  exact h
section MC
variable {g : Hp} {m : Nat} {s : Nat → Int32} {t : Int64} {a : Nat → Nat → Int32} {N R W P : Nat} {T C φ : Nat → Nat}
theorem m_penAt (hN : 2000 ≤ N) (B : okB R W P T C) (H : mB s a R W P T C) (O : okN R W P T C φ) (J : mN s a P φ) {pt line : Nat} (hp : pt < 360) (hl : line < 10) : fX6_penAt N (mH g m s t a) (some m) (nI pt) (nI line) = some (penK T C φ line pt) := by
  have e := m_shownAt (g := g) (m := m) (t := t) hN B H O J hp hl
  have hφ := O.2.1
  simp only [fX6_penAt, mh_O, mh_gJ, mh_pJ, mh_gI0, mh_gI1, mh_gI2, mh_gI5, mh_gI6, mh_gI9, mh_gI14, mh_gI15, mh_gI16, mh_gI17, mh_gI18, mh_gI19, mh_gI24, mh_pI0, mh_pI1, mh_pI2, mh_pI5, mh_pI6, mh_pI9, mh_pI14, mh_pI15, mh_pI16, mh_pI17, mh_pI18, mh_pI19, mh_pI24, mh_gA3, mh_gA4, mh_gA7, mh_gA8, mh_gA10, mh_gA11, mh_gA13, mh_gA20, mh_gA21, mh_gA22, mh_gA23, mh_gA25, mh_gA26, mh_gA27, mh_gA28, mh_gA29, Option.bind_some, Option.bind_none, ↓reduceIte, if_true, if_false, e]
  rcases lastK_cases (tipL T C φ line pt) (fun k => cF φ k 4) (φ 1) with ⟨h1, h2, -⟩ | ⟨k, h1, h2, h3, -, -⟩
  · rw [h1, if_pos rfl, penK, h2]
  · have e4 : a 4 (6 * k + 4) = nI (cF φ k 4) := J.2.2.2 _ (by omega)
    rw [h2, if_neg (nI_neg9 (by omega)), penK, h3]
    simp (disch := omega) only [i_6, i_4, pk_mul, nI_add, mh_rd4, e4, Option.bind_some, Option.bind_none, ↓reduceIte, if_true, if_false]
theorem m_penL (hN : 2000 ≤ N) (B : okB R W P T C) (H : mB s a R W P T C) (O : okN R W P T C φ) (J : mN s a P φ) {p pt A : Nat} (hp : pt < 360) {α : Type} {K : Option Nat → Int32 → Int32 → Int32 → Option α} : ∀ (n d j : Nat), j + d = 9 → d < n → fX6_penShown_L14 N (mH g m s t a) K n (some m) (nI p) (nI (A + cnt (fun i => penK T C φ (i + 1) pt == nI p) j)) (nI pt) (nI (j + 1)) = K (some m) (nI p) (nI (A + cnt (fun i => penK T C φ (i + 1) pt == nI p) 9)) (nI pt) := by
  intro n
  induction n with
  | zero => intro d j _ h; omega
  | succ n ih =>
    intro d j hj hd
    rw [fX6_penShown_L14]
    cases d with
    | zero =>
      have : j = 9 := by omega
      subst this
      rw [i_9, if_pos (nI_lt (by omega) (by omega))]
    | succ d =>
      have e := m_penAt (g := g) (m := m) (t := t) hN B H O J (line := j + 1) hp (by omega)
      rw [i_9, if_neg (nI_nlt (by omega) (by omega))]
      simp only [mh_O, mh_gJ, mh_pJ, mh_gI0, mh_gI1, mh_gI2, mh_gI5, mh_gI6, mh_gI9, mh_gI14, mh_gI15, mh_gI16, mh_gI17, mh_gI18, mh_gI19, mh_gI24, mh_pI0, mh_pI1, mh_pI2, mh_pI5, mh_pI6, mh_pI9, mh_pI14, mh_pI15, mh_pI16, mh_pI17, mh_pI18, mh_pI19, mh_pI24, mh_gA3, mh_gA4, mh_gA7, mh_gA8, mh_gA10, mh_gA11, mh_gA13, mh_gA20, mh_gA21, mh_gA22, mh_gA23, mh_gA25, mh_gA26, mh_gA27, mh_gA28, mh_gA29, Option.bind_some, Option.bind_none, ↓reduceIte, if_true, if_false, e, i_0, i_1, nI_add, Nat.add_zero]
      have ih' := ih d (j + 1) (by omega) (by omega)
      by_cases c : penK T C φ (j + 1) pt = nI p
      · rw [cnt_t (n := j) (by simpa using c)] at ih'
        rw [if_pos c]
        exact ih'
      · rw [cnt_f (n := j) (by simpa using c)] at ih'
        rw [if_neg c]
        exact ih'
theorem m_penLL (hN : 2000 ≤ N) (B : okB R W P T C) (H : mB s a R W P T C) (O : okN R W P T C φ) (J : mN s a P φ) {p : Nat} {α : Type} {K : Int32 → Option α} : ∀ (n d j : Nat), j + d = 360 → d < n → fX6_penShown_L4 N (mH g m s t a) K n (some m) (nI p) (nI (sumN (fun pt => cnt (fun i => penK T C φ (i + 1) pt == nI p) 9) j)) (nI j) = K (nI (sumN (fun pt => cnt (fun i => penK T C φ (i + 1) pt == nI p) 9) 360)) := by
  intro n
  induction n with
  | zero => intro d j _ h; omega
  | succ n ih =>
    intro d j hj hd
    rw [fX6_penShown_L4]
    cases d with
    | zero =>
      have : j = 360 := by omega
      subst this
      rw [i_360, if_pos (nI_le (by omega) (by omega))]
    | succ d =>
      rw [i_360, if_neg (nI_ge (by omega) (by omega))]
      have e := m_penL (g := g) (m := m) (t := t) (p := p) (pt := j) (A := sumN (fun pt => cnt (fun i => penK T C φ (i + 1) pt == nI p) 9) j) hN B H O J (by omega) (K := fun l0 l1 l2 l3 => fX6_penShown_L4 N (mH g m s t a) K n l0 l1 l2 (l3 + 1)) N 9 0 (by omega) (by omega)
      refine e.trans ?_
      simp only [i_1, nI_add]
      exact ih d (j + 1) (by omega) (by omega)
theorem m_penShown (hN : 2000 ≤ N) (B : okB R W P T C) (H : mB s a R W P T C) (O : okN R W P T C φ) (J : mN s a P φ) {p : Nat} : fX6_penShown N (mH g m s t a) (some m) (nI p) = some (nI (sumN (fun pt => cnt (fun i => penK T C φ (i + 1) pt == nI p) 9) 360)) := by
  simp only [fX6_penShown]
  exact m_penLL (g := g) (m := m) (t := t) (p := p) hN B H O J (K := fun l2 => some l2) N 360 0 (by omega) (by omega)
theorem m_curveL (hN : 2000 ≤ N) (B : okB R W P T C) (H : mB s a R W P T C) (O : okN R W P T C φ) (J : mN s a P φ) {k : Nat} (hk : k < φ 1) {α : Type} {K : Int32 → Option α} : ∀ (n d j : Nat), j + d = 360 → d < n → fX6_curveShown_L4 N (mH g m s t a) K n (some m) (nI k) (nI (cnt (fun pt => lastK (tipL T C φ (cF φ k 2) pt) (φ 1) == nI k) j)) (nI j) = K (nI (cnt (fun pt => lastK (tipL T C φ (cF φ k 2) pt) (φ 1) == nI k) 360)) := by
  have hφ := O.2.1
  have hc := O.2.2.2 k hk
  have e2 : a 4 (6 * k + 2) = nI (cF φ k 2) := J.2.2.2 _ (by omega)
  intro n
  induction n with
  | zero => intro d j _ h; omega
  | succ n ih =>
    intro d j hj hd
    rw [fX6_curveShown_L4]
    cases d with
    | zero =>
      have : j = 360 := by omega
      subst this
      rw [i_360, if_pos (nI_le (by omega) (by omega))]
    | succ d =>
      have h9 : cF φ k 2 ≤ 9 := hc.2.2.2.2.1
      have e := m_shownAt (g := g) (m := m) (t := t) hN B H O J (pt := j) (line := cF φ k 2) (by omega) (by omega)
      rw [i_360, if_neg (nI_ge (by omega) (by omega))]
      simp (disch := omega) only [mh_O, mh_gJ, mh_pJ, mh_gI0, mh_gI1, mh_gI2, mh_gI5, mh_gI6, mh_gI9, mh_gI14, mh_gI15, mh_gI16, mh_gI17, mh_gI18, mh_gI19, mh_gI24, mh_pI0, mh_pI1, mh_pI2, mh_pI5, mh_pI6, mh_pI9, mh_pI14, mh_pI15, mh_pI16, mh_pI17, mh_pI18, mh_pI19, mh_pI24, mh_gA3, mh_gA4, mh_gA7, mh_gA8, mh_gA10, mh_gA11, mh_gA13, mh_gA20, mh_gA21, mh_gA22, mh_gA23, mh_gA25, mh_gA26, mh_gA27, mh_gA28, mh_gA29, Option.bind_some, Option.bind_none, ↓reduceIte, if_true, if_false, i_0, i_1, i_6, i_2, pk_mul, nI_add, Nat.add_zero, mh_rd4, e2, e]
      have ih' := ih d (j + 1) (by omega) (by omega)
      by_cases c : lastK (tipL T C φ (cF φ k 2) j) (φ 1) = nI k
      · rw [cnt_t (n := j) (by simpa using c)] at ih'
        rw [if_pos c]
        exact ih'
      · rw [cnt_f (n := j) (by simpa using c)] at ih'
        rw [if_neg c]
        exact ih'
theorem m_curveShown (hN : 2000 ≤ N) (B : okB R W P T C) (H : mB s a R W P T C) (O : okN R W P T C φ) (J : mN s a P φ) {k : Nat} (hk : k < φ 1) : fX6_curveShown N (mH g m s t a) (some m) (nI k) = some (nI (cnt (fun pt => lastK (tipL T C φ (cF φ k 2) pt) (φ 1) == nI k) 360)) := by
  simp only [fX6_curveShown]
  exact m_curveL (g := g) (m := m) (t := t) hN B H O J hk (K := fun l2 => some l2) N 360 0 (by omega) (by omega)
theorem m_shML (hN : 2000 ≤ N) (B : okB R W P T C) (H : mB s a R W P T C) (O : okN R W P T C φ) (J : mN s a P φ) {pt A : Nat} (hp : pt < 360) {α : Type} {K : Option Nat → Int32 → Int32 → Option α} : ∀ (n d j : Nat), j + d = 9 → d < n → fX6_shownMany_L13 N (mH g m s t a) K n (some m) (nI (A + cnt (fun i => !(lastK (tipL T C φ (i + 1) pt) (φ 1) == -9)) j)) (nI pt) (nI (j + 1)) = K (some m) (nI (A + cnt (fun i => !(lastK (tipL T C φ (i + 1) pt) (φ 1) == -9)) 9)) (nI pt) := by
  intro n
  induction n with
  | zero => intro d j _ h; omega
  | succ n ih =>
    intro d j hj hd
    rw [fX6_shownMany_L13]
    cases d with
    | zero =>
      have : j = 9 := by omega
      subst this
      rw [i_9, if_pos (nI_lt (by omega) (by omega))]
    | succ d =>
      have e := m_shownAt (g := g) (m := m) (t := t) hN B H O J (line := j + 1) hp (by omega)
      rw [if_neg (show ¬ (9 : Int32) < nI (j + 1) from nI_nlt (a := 9) (b := j + 1) (by omega) (by omega))]
      simp only [mh_O, mh_gJ, mh_pJ, mh_gI0, mh_gI1, mh_gI2, mh_gI5, mh_gI6, mh_gI9, mh_gI14, mh_gI15, mh_gI16, mh_gI17, mh_gI18, mh_gI19, mh_gI24, mh_pI0, mh_pI1, mh_pI2, mh_pI5, mh_pI6, mh_pI9, mh_pI14, mh_pI15, mh_pI16, mh_pI17, mh_pI18, mh_pI19, mh_pI24, mh_gA3, mh_gA4, mh_gA7, mh_gA8, mh_gA10, mh_gA11, mh_gA13, mh_gA20, mh_gA21, mh_gA22, mh_gA23, mh_gA25, mh_gA26, mh_gA27, mh_gA28, mh_gA29, Option.bind_some, Option.bind_none, ↓reduceIte, if_true, if_false, e]
      have ih' := ih d (j + 1) (by omega) (by omega)
      by_cases c : lastK (tipL T C φ (j + 1) pt) (φ 1) = -9
      · rw [cnt_f (n := j) (by simpa using c)] at ih'
        rw [if_pos c]
        simp only [show (0 : Int32) = nI 0 from rfl, show (1 : Int32) = nI 1 from rfl, nI_add, Nat.add_zero]
        exact ih'
      · rw [cnt_t (n := j) (by simpa using c)] at ih'
        rw [if_neg c]
        simp only [show (1 : Int32) = nI 1 from rfl, nI_add]
        exact ih'
theorem m_shMLL (hN : 2000 ≤ N) (B : okB R W P T C) (H : mB s a R W P T C) (O : okN R W P T C φ) (J : mN s a P φ) {α : Type} {K : Int32 → Option α} : ∀ (n d j : Nat), j + d = 360 → d < n → fX6_shownMany_L4 N (mH g m s t a) K n (some m) (nI (sumN (fun pt => cnt (fun i => !(lastK (tipL T C φ (i + 1) pt) (φ 1) == -9)) 9) j)) (nI j) = K (nI (sumN (fun pt => cnt (fun i => !(lastK (tipL T C φ (i + 1) pt) (φ 1) == -9)) 9) 360)) := by
  intro n
  induction n with
  | zero => intro d j _ h; omega
  | succ n ih =>
    intro d j hj hd
    rw [fX6_shownMany_L4]
    cases d with
    | zero =>
      have : j = 360 := by omega
      subst this
      rw [i_360, if_pos (nI_le (by omega) (by omega))]
    | succ d =>
      rw [i_360, if_neg (nI_ge (by omega) (by omega))]
      have e := m_shML (g := g) (m := m) (t := t) (pt := j) (A := sumN (fun pt => cnt (fun i => !(lastK (tipL T C φ (i + 1) pt) (φ 1) == -9)) 9) j) hN B H O J (by omega) (K := fun l0 l1 l2 => fX6_shownMany_L4 N (mH g m s t a) K n l0 l1 (l2 + 1)) N 9 0 (by omega) (by omega)
      refine e.trans ?_
      simp only [show (1 : Int32) = nI 1 from rfl, nI_add]
      exact ih d (j + 1) (by omega) (by omega)
theorem m_shownMany (hN : 2000 ≤ N) (B : okB R W P T C) (H : mB s a R W P T C) (O : okN R W P T C φ) (J : mN s a P φ) : fX6_shownMany N (mH g m s t a) (some m) = some (nI (sumN (fun pt => cnt (fun i => !(lastK (tipL T C φ (i + 1) pt) (φ 1) == -9)) 9) 360)) := by
  simp only [fX6_shownMany]
  exact m_shMLL (g := g) (m := m) (t := t) hN B H O J (K := fun l2 => some l2) N 360 0 (by omega) (by omega)
end MC
end
