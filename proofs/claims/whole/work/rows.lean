section
-- ===== PART A: goes FIRST, ahead of the names: the tables' words, and 'selects' of the private methods out of them =====
/-- a private method of a class that the tables say can be made, by its rows of tables_1 -/
def lw_okq (q : MethodName × Nat) : Prop := (q.1.cls ≠ "java/lang/invoke/MethodHandle" ∧ q.1.cls ≠ "java/lang/invoke/VarHandle") ∧ Cond.instantiable q.1.cls q.2 ∈ tables_1 ∧ Cond.privateMethod q.1 ∈ tables_1 ∧ Cond.instanceMethod q.1 ∈ tables_1
theorem lw_p0 : lw_okq (⟨"CoreRope$Rope", "putBit", "(III)V"⟩, 7) := ⟨⟨by decide +kernel, by decide +kernel⟩, List.mem_of_getElem? (i := 17) (by decide +kernel), List.mem_of_getElem? (i := 31) (by decide +kernel), List.mem_of_getElem? (i := 32) (by decide +kernel)⟩
theorem lw_p1 : lw_okq (⟨"CoreRope$Rope", "ringOf", "(I)I"⟩, 7) := ⟨⟨by decide +kernel, by decide +kernel⟩, List.mem_of_getElem? (i := 17) (by decide +kernel), List.mem_of_getElem? (i := 43) (by decide +kernel), List.mem_of_getElem? (i := 44) (by decide +kernel)⟩
theorem lw_p2 : lw_okq (⟨"CoreRope$Rope", "setOf", "(I)I"⟩, 7) := ⟨⟨by decide +kernel, by decide +kernel⟩, List.mem_of_getElem? (i := 17) (by decide +kernel), List.mem_of_getElem? (i := 47) (by decide +kernel), List.mem_of_getElem? (i := 48) (by decide +kernel)⟩
theorem lw_p3 : lw_okq (⟨"CoreRope$Rope", "senseWire", "(II)I"⟩, 7) := ⟨⟨by decide +kernel, by decide +kernel⟩, List.mem_of_getElem? (i := 17) (by decide +kernel), List.mem_of_getElem? (i := 51) (by decide +kernel), List.mem_of_getElem? (i := 52) (by decide +kernel)⟩
theorem lw_p4 : lw_okq (⟨"CoreRope$Rope", "crossedWires", "()I"⟩, 7) := ⟨⟨by decide +kernel, by decide +kernel⟩, List.mem_of_getElem? (i := 17) (by decide +kernel), List.mem_of_getElem? (i := 161) (by decide +kernel), List.mem_of_getElem? (i := 162) (by decide +kernel)⟩
theorem lw_p5 : lw_okq (⟨"CoreRope$Rope", "wrongWeaveCount", "()I"⟩, 7) := ⟨⟨by decide +kernel, by decide +kernel⟩, List.mem_of_getElem? (i := 17) (by decide +kernel), List.mem_of_getElem? (i := 165) (by decide +kernel), List.mem_of_getElem? (i := 166) (by decide +kernel)⟩
theorem lw_p6 : lw_okq (⟨"CoreRope$Rope", "wholeCost", "()I"⟩, 7) := ⟨⟨by decide +kernel, by decide +kernel⟩, List.mem_of_getElem? (i := 17) (by decide +kernel), List.mem_of_getElem? (i := 173) (by decide +kernel), List.mem_of_getElem? (i := 174) (by decide +kernel)⟩
theorem lw_p7 : lw_okq (⟨"CoreRope$Rope", "rightWeave", "(I)I"⟩, 7) := ⟨⟨by decide +kernel, by decide +kernel⟩, List.mem_of_getElem? (i := 17) (by decide +kernel), List.mem_of_getElem? (i := 181) (by decide +kernel), List.mem_of_getElem? (i := 182) (by decide +kernel)⟩
theorem lw_p8 : lw_okq (⟨"CoreRope$Rope", "rightBits", "(II)I"⟩, 7) := ⟨⟨by decide +kernel, by decide +kernel⟩, List.mem_of_getElem? (i := 17) (by decide +kernel), List.mem_of_getElem? (i := 227) (by decide +kernel), List.mem_of_getElem? (i := 228) (by decide +kernel)⟩
theorem lw_p9 : lw_okq (⟨"CoreRope$Rope", "bitFrom", "(III)I"⟩, 7) := ⟨⟨by decide +kernel, by decide +kernel⟩, List.mem_of_getElem? (i := 17) (by decide +kernel), List.mem_of_getElem? (i := 231) (by decide +kernel), List.mem_of_getElem? (i := 232) (by decide +kernel)⟩
theorem lw_p10 : lw_okq (⟨"CoreRope$Rope", "rawBits", "(I)I"⟩, 7) := ⟨⟨by decide +kernel, by decide +kernel⟩, List.mem_of_getElem? (i := 17) (by decide +kernel), List.mem_of_getElem? (i := 290) (by decide +kernel), List.mem_of_getElem? (i := 291) (by decide +kernel)⟩
theorem lw_p11 : lw_okq (⟨"CoreRope$Rope", "isWrong", "(II)Z"⟩, 7) := ⟨⟨by decide +kernel, by decide +kernel⟩, List.mem_of_getElem? (i := 17) (by decide +kernel), List.mem_of_getElem? (i := 319) (by decide +kernel), List.mem_of_getElem? (i := 320) (by decide +kernel)⟩
theorem lw_p12 : lw_okq (⟨"CoreRope$Rope", "isMisread", "(I)Z"⟩, 7) := ⟨⟨by decide +kernel, by decide +kernel⟩, List.mem_of_getElem? (i := 17) (by decide +kernel), List.mem_of_getElem? (i := 323) (by decide +kernel), List.mem_of_getElem? (i := 324) (by decide +kernel)⟩
theorem lw_p13 : lw_okq (⟨"CoreRope$Rope", "strayRings", "()I"⟩, 7) := ⟨⟨by decide +kernel, by decide +kernel⟩, List.mem_of_getElem? (i := 17) (by decide +kernel), List.mem_of_getElem? (i := 347) (by decide +kernel), List.mem_of_getElem? (i := 348) (by decide +kernel)⟩
theorem lw_p14 : lw_okq (⟨"CoreRope$Rope", "isExplainedBy", "(III)Z"⟩, 7) := ⟨⟨by decide +kernel, by decide +kernel⟩, List.mem_of_getElem? (i := 17) (by decide +kernel), List.mem_of_getElem? (i := 351) (by decide +kernel), List.mem_of_getElem? (i := 352) (by decide +kernel)⟩
theorem lw_p15 : lw_okq (⟨"CoreRope$Rope", "inhibitExplains", "(III)Z"⟩, 7) := ⟨⟨by decide +kernel, by decide +kernel⟩, List.mem_of_getElem? (i := 17) (by decide +kernel), List.mem_of_getElem? (i := 355) (by decide +kernel), List.mem_of_getElem? (i := 356) (by decide +kernel)⟩
def lw_privs_1 : List (MethodName × Nat) := [(⟨"CoreRope$Rope", "putBit", "(III)V"⟩, 7), (⟨"CoreRope$Rope", "ringOf", "(I)I"⟩, 7), (⟨"CoreRope$Rope", "setOf", "(I)I"⟩, 7), (⟨"CoreRope$Rope", "senseWire", "(II)I"⟩, 7), (⟨"CoreRope$Rope", "crossedWires", "()I"⟩, 7), (⟨"CoreRope$Rope", "wrongWeaveCount", "()I"⟩, 7), (⟨"CoreRope$Rope", "wholeCost", "()I"⟩, 7), (⟨"CoreRope$Rope", "rightWeave", "(I)I"⟩, 7), (⟨"CoreRope$Rope", "rightBits", "(II)I"⟩, 7), (⟨"CoreRope$Rope", "bitFrom", "(III)I"⟩, 7), (⟨"CoreRope$Rope", "rawBits", "(I)I"⟩, 7), (⟨"CoreRope$Rope", "isWrong", "(II)Z"⟩, 7), (⟨"CoreRope$Rope", "isMisread", "(I)Z"⟩, 7), (⟨"CoreRope$Rope", "strayRings", "()I"⟩, 7), (⟨"CoreRope$Rope", "isExplainedBy", "(III)Z"⟩, 7), (⟨"CoreRope$Rope", "inhibitExplains", "(III)Z"⟩, 7)]
theorem lw_r1 : ∀ q ∈ lw_privs_1, lw_okq q := List.forall_mem_cons.mpr ⟨lw_p0, List.forall_mem_cons.mpr ⟨lw_p1, List.forall_mem_cons.mpr ⟨lw_p2, List.forall_mem_cons.mpr ⟨lw_p3, List.forall_mem_cons.mpr ⟨lw_p4, List.forall_mem_cons.mpr ⟨lw_p5, List.forall_mem_cons.mpr ⟨lw_p6, List.forall_mem_cons.mpr ⟨lw_p7, List.forall_mem_cons.mpr ⟨lw_p8, List.forall_mem_cons.mpr ⟨lw_p9, List.forall_mem_cons.mpr ⟨lw_p10, List.forall_mem_cons.mpr ⟨lw_p11, List.forall_mem_cons.mpr ⟨lw_p12, List.forall_mem_cons.mpr ⟨lw_p13, List.forall_mem_cons.mpr ⟨lw_p14, List.forall_mem_cons.mpr ⟨lw_p15, fun _ h => absurd h List.not_mem_nil⟩⟩⟩⟩⟩⟩⟩⟩⟩⟩⟩⟩⟩⟩⟩⟩
theorem lw_p16 : lw_okq (⟨"CoreRope$Rope", "senseExplains", "(III)Z"⟩, 7) := ⟨⟨by decide +kernel, by decide +kernel⟩, List.mem_of_getElem? (i := 17) (by decide +kernel), List.mem_of_getElem? (i := 360) (by decide +kernel), List.mem_of_getElem? (i := 361) (by decide +kernel)⟩
theorem lw_p17 : lw_okq (⟨"CoreRopeModel", "begins", "(III)V"⟩, 9) := ⟨⟨by decide +kernel, by decide +kernel⟩, List.mem_of_getElem? (i := 462) (by decide +kernel), List.mem_of_getElem? (i := 468) (by decide +kernel), List.mem_of_getElem? (i := 469) (by decide +kernel)⟩
theorem lw_p18 : lw_okq (⟨"CoreRopeModel", "saves", "()V"⟩, 9) := ⟨⟨by decide +kernel, by decide +kernel⟩, List.mem_of_getElem? (i := 462) (by decide +kernel), List.mem_of_getElem? (i := 507) (by decide +kernel), List.mem_of_getElem? (i := 508) (by decide +kernel)⟩
theorem lw_p19 : lw_okq (⟨"CoreRopeModel", "copies", "(II)V"⟩, 9) := ⟨⟨by decide +kernel, by decide +kernel⟩, List.mem_of_getElem? (i := 462) (by decide +kernel), List.mem_of_getElem? (i := 511) (by decide +kernel), List.mem_of_getElem? (i := 512) (by decide +kernel)⟩
theorem lw_p20 : lw_okq (⟨"CoreRopeModel", "addresses", "()I"⟩, 9) := ⟨⟨by decide +kernel, by decide +kernel⟩, List.mem_of_getElem? (i := 462) (by decide +kernel), List.mem_of_getElem? (i := 515) (by decide +kernel), List.mem_of_getElem? (i := 516) (by decide +kernel)⟩
theorem lw_p21 : lw_okq (⟨"CoreRopeModel", "wires", "()I"⟩, 9) := ⟨⟨by decide +kernel, by decide +kernel⟩, List.mem_of_getElem? (i := 462) (by decide +kernel), List.mem_of_getElem? (i := 523) (by decide +kernel), List.mem_of_getElem? (i := 524) (by decide +kernel)⟩
theorem lw_p22 : lw_okq (⟨"CoreRopeModel", "costOf", "(I)I"⟩, 9) := ⟨⟨by decide +kernel, by decide +kernel⟩, List.mem_of_getElem? (i := 462) (by decide +kernel), List.mem_of_getElem? (i := 530) (by decide +kernel), List.mem_of_getElem? (i := 531) (by decide +kernel)⟩
theorem lw_p23 : lw_okq (⟨"CoreRopeModel", "right", "(I)I"⟩, 9) := ⟨⟨by decide +kernel, by decide +kernel⟩, List.mem_of_getElem? (i := 462) (by decide +kernel), List.mem_of_getElem? (i := 534) (by decide +kernel), List.mem_of_getElem? (i := 535) (by decide +kernel)⟩
theorem lw_p24 : lw_okq (⟨"CoreRopeModel", "allRings", "()I"⟩, 9) := ⟨⟨by decide +kernel, by decide +kernel⟩, List.mem_of_getElem? (i := 462) (by decide +kernel), List.mem_of_getElem? (i := 538) (by decide +kernel), List.mem_of_getElem? (i := 539) (by decide +kernel)⟩
theorem lw_p25 : lw_okq (⟨"CoreRopeModel", "told", "(I)I"⟩, 9) := ⟨⟨by decide +kernel, by decide +kernel⟩, List.mem_of_getElem? (i := 462) (by decide +kernel), List.mem_of_getElem? (i := 542) (by decide +kernel), List.mem_of_getElem? (i := 543) (by decide +kernel)⟩
theorem lw_p26 : lw_okq (⟨"CoreRopeModel", "bit", "(II)I"⟩, 9) := ⟨⟨by decide +kernel, by decide +kernel⟩, List.mem_of_getElem? (i := 462) (by decide +kernel), List.mem_of_getElem? (i := 546) (by decide +kernel), List.mem_of_getElem? (i := 547) (by decide +kernel)⟩
theorem lw_p27 : lw_okq (⟨"CoreRopeModel", "patches", "()I"⟩, 9) := ⟨⟨by decide +kernel, by decide +kernel⟩, List.mem_of_getElem? (i := 462) (by decide +kernel), List.mem_of_getElem? (i := 550) (by decide +kernel), List.mem_of_getElem? (i := 551) (by decide +kernel)⟩
theorem lw_p28 : lw_okq (⟨"CoreRopeModel", "isRing", "(I)Z"⟩, 9) := ⟨⟨by decide +kernel, by decide +kernel⟩, List.mem_of_getElem? (i := 462) (by decide +kernel), List.mem_of_getElem? (i := 558) (by decide +kernel), List.mem_of_getElem? (i := 559) (by decide +kernel)⟩
theorem lw_p29 : lw_okq (⟨"CoreRopeModel", "isAddress", "(I)Z"⟩, 9) := ⟨⟨by decide +kernel, by decide +kernel⟩, List.mem_of_getElem? (i := 462) (by decide +kernel), List.mem_of_getElem? (i := 570) (by decide +kernel), List.mem_of_getElem? (i := 571) (by decide +kernel)⟩
theorem lw_p30 : lw_okq (⟨"CoreRopeModel", "isWord", "(I)Z"⟩, 9) := ⟨⟨by decide +kernel, by decide +kernel⟩, List.mem_of_getElem? (i := 462) (by decide +kernel), List.mem_of_getElem? (i := 574) (by decide +kernel), List.mem_of_getElem? (i := 575) (by decide +kernel)⟩
theorem lw_p31 : lw_okq (⟨"CoreRopeModel", "isWire", "(I)Z"⟩, 9) := ⟨⟨by decide +kernel, by decide +kernel⟩, List.mem_of_getElem? (i := 462) (by decide +kernel), List.mem_of_getElem? (i := 586) (by decide +kernel), List.mem_of_getElem? (i := 587) (by decide +kernel)⟩
def lw_privs_2 : List (MethodName × Nat) := [(⟨"CoreRope$Rope", "senseExplains", "(III)Z"⟩, 7), (⟨"CoreRopeModel", "begins", "(III)V"⟩, 9), (⟨"CoreRopeModel", "saves", "()V"⟩, 9), (⟨"CoreRopeModel", "copies", "(II)V"⟩, 9), (⟨"CoreRopeModel", "addresses", "()I"⟩, 9), (⟨"CoreRopeModel", "wires", "()I"⟩, 9), (⟨"CoreRopeModel", "costOf", "(I)I"⟩, 9), (⟨"CoreRopeModel", "right", "(I)I"⟩, 9), (⟨"CoreRopeModel", "allRings", "()I"⟩, 9), (⟨"CoreRopeModel", "told", "(I)I"⟩, 9), (⟨"CoreRopeModel", "bit", "(II)I"⟩, 9), (⟨"CoreRopeModel", "patches", "()I"⟩, 9), (⟨"CoreRopeModel", "isRing", "(I)Z"⟩, 9), (⟨"CoreRopeModel", "isAddress", "(I)Z"⟩, 9), (⟨"CoreRopeModel", "isWord", "(I)Z"⟩, 9), (⟨"CoreRopeModel", "isWire", "(I)Z"⟩, 9)]
theorem lw_r2 : ∀ q ∈ lw_privs_2, lw_okq q := List.forall_mem_cons.mpr ⟨lw_p16, List.forall_mem_cons.mpr ⟨lw_p17, List.forall_mem_cons.mpr ⟨lw_p18, List.forall_mem_cons.mpr ⟨lw_p19, List.forall_mem_cons.mpr ⟨lw_p20, List.forall_mem_cons.mpr ⟨lw_p21, List.forall_mem_cons.mpr ⟨lw_p22, List.forall_mem_cons.mpr ⟨lw_p23, List.forall_mem_cons.mpr ⟨lw_p24, List.forall_mem_cons.mpr ⟨lw_p25, List.forall_mem_cons.mpr ⟨lw_p26, List.forall_mem_cons.mpr ⟨lw_p27, List.forall_mem_cons.mpr ⟨lw_p28, List.forall_mem_cons.mpr ⟨lw_p29, List.forall_mem_cons.mpr ⟨lw_p30, List.forall_mem_cons.mpr ⟨lw_p31, fun _ h => absurd h List.not_mem_nil⟩⟩⟩⟩⟩⟩⟩⟩⟩⟩⟩⟩⟩⟩⟩⟩
theorem lw_p32 : lw_okq (⟨"CoreRopeModel", "weaves", "()V"⟩, 9) := ⟨⟨by decide +kernel, by decide +kernel⟩, List.mem_of_getElem? (i := 462) (by decide +kernel), List.mem_of_getElem? (i := 606) (by decide +kernel), List.mem_of_getElem? (i := 607) (by decide +kernel)⟩
theorem lw_p33 : lw_okq (⟨"CoreRopeModel", "picks", "(I)I"⟩, 9) := ⟨⟨by decide +kernel, by decide +kernel⟩, List.mem_of_getElem? (i := 462) (by decide +kernel), List.mem_of_getElem? (i := 610) (by decide +kernel), List.mem_of_getElem? (i := 611) (by decide +kernel)⟩
theorem lw_p34 : lw_okq (⟨"CoreRopeModel", "reads", "(I)I"⟩, 9) := ⟨⟨by decide +kernel, by decide +kernel⟩, List.mem_of_getElem? (i := 462) (by decide +kernel), List.mem_of_getElem? (i := 618) (by decide +kernel), List.mem_of_getElem? (i := 619) (by decide +kernel)⟩
theorem lw_p35 : lw_okq (⟨"CoreRopeModel", "rawWord", "(I)I"⟩, 9) := ⟨⟨by decide +kernel, by decide +kernel⟩, List.mem_of_getElem? (i := 462) (by decide +kernel), List.mem_of_getElem? (i := 622) (by decide +kernel), List.mem_of_getElem? (i := 623) (by decide +kernel)⟩
theorem lw_p36 : lw_okq (⟨"CoreRopeModel", "raw", "(I)I"⟩, 9) := ⟨⟨by decide +kernel, by decide +kernel⟩, List.mem_of_getElem? (i := 462) (by decide +kernel), List.mem_of_getElem? (i := 626) (by decide +kernel), List.mem_of_getElem? (i := 627) (by decide +kernel)⟩
theorem lw_p37 : lw_okq (⟨"CoreRopeModel", "isEven", "(I)Z"⟩, 9) := ⟨⟨by decide +kernel, by decide +kernel⟩, List.mem_of_getElem? (i := 462) (by decide +kernel), List.mem_of_getElem? (i := 638) (by decide +kernel), List.mem_of_getElem? (i := 639) (by decide +kernel)⟩
theorem lw_p38 : lw_okq (⟨"CoreRopeModel", "wrongs", "(I)I"⟩, 9) := ⟨⟨by decide +kernel, by decide +kernel⟩, List.mem_of_getElem? (i := 462) (by decide +kernel), List.mem_of_getElem? (i := 646) (by decide +kernel), List.mem_of_getElem? (i := 647) (by decide +kernel)⟩
theorem lw_p39 : lw_okq (⟨"CoreRopeModel", "isAsNow", "()Z"⟩, 9) := ⟨⟨by decide +kernel, by decide +kernel⟩, List.mem_of_getElem? (i := 462) (by decide +kernel), List.mem_of_getElem? (i := 658) (by decide +kernel), List.mem_of_getElem? (i := 659) (by decide +kernel)⟩
theorem lw_p40 : lw_okq (⟨"CoreRopeModel", "readsText", "(Z)Z"⟩, 9) := ⟨⟨by decide +kernel, by decide +kernel⟩, List.mem_of_getElem? (i := 462) (by decide +kernel), List.mem_of_getElem? (i := 694) (by decide +kernel), List.mem_of_getElem? (i := 695) (by decide +kernel)⟩
theorem lw_p41 : lw_okq (⟨"CoreRopeModel", "readsWord", "(Z)Z"⟩, 9) := ⟨⟨by decide +kernel, by decide +kernel⟩, List.mem_of_getElem? (i := 462) (by decide +kernel), List.mem_of_getElem? (i := 698) (by decide +kernel), List.mem_of_getElem? (i := 699) (by decide +kernel)⟩
theorem lw_p42 : lw_okq (⟨"CoreRopeModel", "here", "()I"⟩, 9) := ⟨⟨by decide +kernel, by decide +kernel⟩, List.mem_of_getElem? (i := 462) (by decide +kernel), List.mem_of_getElem? (i := 702) (by decide +kernel), List.mem_of_getElem? (i := 703) (by decide +kernel)⟩
theorem lw_p43 : lw_okq (⟨"CoreRopeModel", "note", "(I)V"⟩, 9) := ⟨⟨by decide +kernel, by decide +kernel⟩, List.mem_of_getElem? (i := 462) (by decide +kernel), List.mem_of_getElem? (i := 716) (by decide +kernel), List.mem_of_getElem? (i := 717) (by decide +kernel)⟩
def lw_privs_3 : List (MethodName × Nat) := [(⟨"CoreRopeModel", "weaves", "()V"⟩, 9), (⟨"CoreRopeModel", "picks", "(I)I"⟩, 9), (⟨"CoreRopeModel", "reads", "(I)I"⟩, 9), (⟨"CoreRopeModel", "rawWord", "(I)I"⟩, 9), (⟨"CoreRopeModel", "raw", "(I)I"⟩, 9), (⟨"CoreRopeModel", "isEven", "(I)Z"⟩, 9), (⟨"CoreRopeModel", "wrongs", "(I)I"⟩, 9), (⟨"CoreRopeModel", "isAsNow", "()Z"⟩, 9), (⟨"CoreRopeModel", "readsText", "(Z)Z"⟩, 9), (⟨"CoreRopeModel", "readsWord", "(Z)Z"⟩, 9), (⟨"CoreRopeModel", "here", "()I"⟩, 9), (⟨"CoreRopeModel", "note", "(I)V"⟩, 9)]
theorem lw_r3 : ∀ q ∈ lw_privs_3, lw_okq q := List.forall_mem_cons.mpr ⟨lw_p32, List.forall_mem_cons.mpr ⟨lw_p33, List.forall_mem_cons.mpr ⟨lw_p34, List.forall_mem_cons.mpr ⟨lw_p35, List.forall_mem_cons.mpr ⟨lw_p36, List.forall_mem_cons.mpr ⟨lw_p37, List.forall_mem_cons.mpr ⟨lw_p38, List.forall_mem_cons.mpr ⟨lw_p39, List.forall_mem_cons.mpr ⟨lw_p40, List.forall_mem_cons.mpr ⟨lw_p41, List.forall_mem_cons.mpr ⟨lw_p42, List.forall_mem_cons.mpr ⟨lw_p43, fun _ h => absurd h List.not_mem_nil⟩⟩⟩⟩⟩⟩⟩⟩⟩⟩⟩⟩
def lw_privs : List (MethodName × Nat) := lw_privs_1 ++ (lw_privs_2 ++ (lw_privs_3))
def lw_tbl : List Cond := k2_sels lw_privs ++ tables_1
theorem lw_privs_ok : ∀ q ∈ lw_privs, lw_okq q := by
  show ∀ q ∈ lw_privs_1 ++ (lw_privs_2 ++ (lw_privs_3)), lw_okq q
  exact List.forall_mem_append.mpr ⟨lw_r1, List.forall_mem_append.mpr ⟨lw_r2, lw_r3⟩⟩
-- ===== end of PART A; then your names; then what follows =====
end
section
/-! ===== BEGIN words of one list among another's, by their places ===== -/
theorem goodIn_r {big : List Cond} (ws : List Cond) (ps : List Nat) (hp : ws = ps.filterMap (fun i => big[i]?)) (h : ws.all goodWord = true) : GoodIn big ws := by
  intro w hw
  have h1 := List.all_eq_true.mp h w hw
  rw [hp] at hw
  obtain ⟨i, -, hi⟩ := List.mem_filterMap.mp hw
  have hm : w ∈ big := by first | exact List.mem_of_getElem? hi | exact List.getElem?_mem hi
  exact ⟨hm, good_of_word h1⟩
theorem goodIn_app {big a b : List Cond} (ha : GoodIn big a) (hb : GoodIn big b) : GoodIn big (a ++ b) := fun w h => (List.mem_append.mp h).elim (ha w) (hb w)
theorem goodIn_ca {big a b : List Cond} {c : Cond} (ha : GoodIn big (c :: a)) (hb : GoodIn big b) : GoodIn big (c :: (a ++ b)) := fun w h => (List.mem_cons.mp h).elim (fun e => ha w (List.mem_cons.mpr (Or.inl e))) (fun h => (List.mem_append.mp h).elim (fun h => ha w (List.mem_cons.mpr (Or.inr h))) (hb w))
theorem goodIn_sub {big ws : List Cond} (hm : ∀ w ∈ ws, w ∈ big) (h : ws.all goodWord = true) : GoodIn big ws := fun w hw => ⟨hm w hw, good_of_word (List.all_eq_true.mp h w hw)⟩
/-! ===== END ===== -/

/-! ===== BEGIN printed: names, fields, word lists, decode rows ===== -/
def RX0 : String := "CoreRope$History"
def TX0 : u_T := fun k => match k with
  | 0 => ("CoreRope$History", "states", "[LCoreRope$Rope;", true)
  | 1 => ("CoreRope$History", "oldest", "I", false)
  | _ => ("CoreRope$History", "size", "I", false)
def tyX0 : Nat → FieldType := fun k => match k with
  | 0 => .array (.object "CoreRope$Rope")
  | 1 => .int
  | _ => .int
abbrev wsX00 : List Cond := u_ws RX0 TX0 3
theorem nmX0 : ∀ a, a < 3 → ∀ b, b < 3 → a ≠ b → (TX0 a).2.1 ≠ (TX0 b).2.1 := by decide +kernel
theorem tyX0_ok : ∀ k, k < 3 → parseFieldDescriptor (TX0 k).2.2.1 = some (tyX0 k) := by decide +kernel
abbrev cX0_init : ByteArray := prog_2_method_1_code
def yX0_init : MethodName := ⟨RX0, "<init>", "()V"⟩
abbrev cX0_isEmpty : ByteArray := prog_2_method_2_code
def yX0_isEmpty : MethodName := ⟨RX0, "isEmpty", "()Z"⟩
abbrev cX0_keep : ByteArray := prog_2_method_3_code
def yX0_keep : MethodName := ⟨RX0, "keep", "(LCoreRope$Rope;)V"⟩
abbrev cX0_restore : ByteArray := prog_2_method_4_code
def yX0_restore : MethodName := ⟨RX0, "restore", "(LCoreRope$Rope;)I"⟩
def RX1 : String := "CoreRope$Rope"
def TX1 : u_T := fun k => match k with
  | 0 => ("CoreRope$Rope", "rings", "I", false)
  | 1 => ("CoreRope$Rope", "bits", "I", false)
  | 2 => ("CoreRope$Rope", "sets", "I", false)
  | 3 => ("CoreRope$Rope", "ones", "[I", true)
  | 4 => ("CoreRope$Rope", "wrongWeaves", "[I", true)
  | 5 => ("CoreRope$Rope", "crossed", "[I", true)
  | _ => ("CoreRope$Rope", "patches", "[I", true)
def tyX1 : Nat → FieldType := fun k => match k with
  | 0 => .int
  | 1 => .int
  | 2 => .int
  | 3 => .array .int
  | 4 => .array .int
  | 5 => .array .int
  | _ => .array .int
abbrev wsX10 : List Cond := u_ws RX1 TX1 7
theorem nmX1 : ∀ a, a < 7 → ∀ b, b < 7 → a ≠ b → (TX1 a).2.1 ≠ (TX1 b).2.1 := by decide +kernel
theorem tyX1_ok : ∀ k, k < 7 → parseFieldDescriptor (TX1 k).2.2.1 = some (tyX1 k) := by decide +kernel
abbrev cX1_init : ByteArray := prog_3_method_1_code
def yX1_init : MethodName := ⟨RX1, "<init>", "()V"⟩
abbrev cX1_start : ByteArray := prog_3_method_2_code
def yX1_start : MethodName := ⟨RX1, "start", "(III)V"⟩
abbrev cX1_become : ByteArray := prog_3_method_3_code
def yX1_become : MethodName := ⟨RX1, "become", "(LCoreRope$Rope;)V"⟩
abbrev cX1_addresses : ByteArray := prog_3_method_4_code
def yX1_addresses : MethodName := ⟨RX1, "addresses", "()I"⟩
abbrev cX1_wires : ByteArray := prog_3_method_5_code
def yX1_wires : MethodName := ⟨RX1, "wires", "()I"⟩
abbrev cX1_highestWord : ByteArray := prog_3_method_6_code
def yX1_highestWord : MethodName := ⟨RX1, "highestWord", "()I"⟩
abbrev cX1_hasRing : ByteArray := prog_3_method_7_code
def yX1_hasRing : MethodName := ⟨RX1, "hasRing", "(I)Z"⟩
abbrev cX1_hasWire : ByteArray := prog_3_method_8_code
def yX1_hasWire : MethodName := ⟨RX1, "hasWire", "(I)Z"⟩
abbrev cX1_hasAddress : ByteArray := prog_3_method_9_code
def yX1_hasAddress : MethodName := ⟨RX1, "hasAddress", "(I)Z"⟩
abbrev cX1_fits : ByteArray := prog_3_method_10_code
def yX1_fits : MethodName := ⟨RX1, "fits", "(I)Z"⟩
abbrev cX1_ringOf : ByteArray := prog_3_method_11_code
def yX1_ringOf : MethodName := ⟨RX1, "ringOf", "(I)I"⟩
abbrev cX1_setOf : ByteArray := prog_3_method_12_code
def yX1_setOf : MethodName := ⟨RX1, "setOf", "(I)I"⟩
abbrev cX1_senseWire : ByteArray := prog_3_method_13_code
def yX1_senseWire : MethodName := ⟨RX1, "senseWire", "(II)I"⟩
abbrev cX1_number : ByteArray := prog_3_method_14_code
def yX1_number : MethodName := ⟨RX1, "number", "(I)I"⟩
abbrev cX1_crossedWires : ByteArray := prog_3_method_15_code
def yX1_crossedWires : MethodName := ⟨RX1, "crossedWires", "()I"⟩
abbrev cX1_wrongWeaveCount : ByteArray := prog_3_method_16_code
def yX1_wrongWeaveCount : MethodName := ⟨RX1, "wrongWeaveCount", "()I"⟩
abbrev cX1_wholeCost : ByteArray := prog_3_method_17_code
def yX1_wholeCost : MethodName := ⟨RX1, "wholeCost", "()I"⟩
abbrev cX1_putBit : ByteArray := prog_3_method_18_code
def yX1_putBit : MethodName := ⟨RX1, "putBit", "(III)V"⟩
abbrev cX1_codeOf : ByteArray := prog_3_method_19_code
def yX1_codeOf : MethodName := ⟨RX1, "codeOf", "(I)I"⟩
abbrev cX1_putCode : ByteArray := prog_3_method_20_code
def yX1_putCode : MethodName := ⟨RX1, "putCode", "(II)V"⟩
abbrev cX1_ringWithCode : ByteArray := prog_3_method_21_code
def yX1_ringWithCode : MethodName := ⟨RX1, "ringWithCode", "(I)I"⟩
abbrev cX1_wordAt : ByteArray := prog_3_method_22_code
def yX1_wordAt : MethodName := ⟨RX1, "wordAt", "(I)I"⟩
abbrev cX1_putWord : ByteArray := prog_3_method_23_code
def yX1_putWord : MethodName := ⟨RX1, "putWord", "(II)V"⟩
abbrev cX1_turn : ByteArray := prog_3_method_24_code
def yX1_turn : MethodName := ⟨RX1, "turn", "(I)I"⟩
abbrev cX1_spoilOrMend : ByteArray := prog_3_method_25_code
def yX1_spoilOrMend : MethodName := ⟨RX1, "spoilOrMend", "(II)I"⟩
abbrev cX1_rightWeave : ByteArray := prog_3_method_26_code
def yX1_rightWeave : MethodName := ⟨RX1, "rightWeave", "(I)I"⟩
abbrev cX1_goesThrough : ByteArray := prog_3_method_27_code
def yX1_goesThrough : MethodName := ⟨RX1, "goesThrough", "(II)I"⟩
abbrev cX1_costOf : ByteArray := prog_3_method_28_code
def yX1_costOf : MethodName := ⟨RX1, "costOf", "(I)I"⟩
abbrev cX1_makeCheap : ByteArray := prog_3_method_29_code
def yX1_makeCheap : MethodName := ⟨RX1, "makeCheap", "()I"⟩
abbrev cX1_pickedBy : ByteArray := prog_3_method_30_code
def yX1_pickedBy : MethodName := ⟨RX1, "pickedBy", "(I)I"⟩
abbrev cX1_bitFrom : ByteArray := prog_3_method_31_code
def yX1_bitFrom : MethodName := ⟨RX1, "bitFrom", "(III)I"⟩
abbrev cX1_rawBits : ByteArray := prog_3_method_32_code
def yX1_rawBits : MethodName := ⟨RX1, "rawBits", "(I)I"⟩
abbrev cX1_rightBits : ByteArray := prog_3_method_33_code
def yX1_rightBits : MethodName := ⟨RX1, "rightBits", "(II)I"⟩
abbrev cX1_rawWord : ByteArray := prog_3_method_34_code
def yX1_rawWord : MethodName := ⟨RX1, "rawWord", "(I)I"⟩
abbrev cX1_wordRead : ByteArray := prog_3_method_35_code
def yX1_wordRead : MethodName := ⟨RX1, "wordRead", "(I)I"⟩
abbrev cX1_parityIsRight : ByteArray := prog_3_method_36_code
def yX1_parityIsRight : MethodName := ⟨RX1, "parityIsRight", "(I)Z"⟩
abbrev cX1_wrongAddresses : ByteArray := prog_3_method_37_code
def yX1_wrongAddresses : MethodName := ⟨RX1, "wrongAddresses", "(I)I"⟩
abbrev cX1_isWrong : ByteArray := prog_3_method_38_code
def yX1_isWrong : MethodName := ⟨RX1, "isWrong", "(II)Z"⟩
abbrev cX1_isMisread : ByteArray := prog_3_method_39_code
def yX1_isMisread : MethodName := ⟨RX1, "isMisread", "(I)Z"⟩
abbrev cX1_explanation : ByteArray := prog_3_method_40_code
def yX1_explanation : MethodName := ⟨RX1, "explanation", "(I)I"⟩
abbrev cX1_strayRings : ByteArray := prog_3_method_41_code
def yX1_strayRings : MethodName := ⟨RX1, "strayRings", "()I"⟩
abbrev cX1_isExplainedBy : ByteArray := prog_3_method_42_code
def yX1_isExplainedBy : MethodName := ⟨RX1, "isExplainedBy", "(III)Z"⟩
abbrev cX1_inhibitExplains : ByteArray := prog_3_method_43_code
def yX1_inhibitExplains : MethodName := ⟨RX1, "inhibitExplains", "(III)Z"⟩
abbrev cX1_senseExplains : ByteArray := prog_3_method_44_code
def yX1_senseExplains : MethodName := ⟨RX1, "senseExplains", "(III)Z"⟩
abbrev cX1_patchAt : ByteArray := prog_3_method_45_code
def yX1_patchAt : MethodName := ⟨RX1, "patchAt", "(I)I"⟩
abbrev cX1_putPatch : ByteArray := prog_3_method_46_code
def yX1_putPatch : MethodName := ⟨RX1, "putPatch", "(II)V"⟩
abbrev cX1_patchCount : ByteArray := prog_3_method_47_code
def yX1_patchCount : MethodName := ⟨RX1, "patchCount", "()I"⟩
abbrev cX1_mendPatches : ByteArray := prog_3_method_48_code
def yX1_mendPatches : MethodName := ⟨RX1, "mendPatches", "()V"⟩
abbrev cX1_addPatches : ByteArray := prog_3_method_49_code
def yX1_addPatches : MethodName := ⟨RX1, "addPatches", "()V"⟩
abbrev cX1_hash : ByteArray := prog_3_method_50_code
def yX1_hash : MethodName := ⟨RX1, "hash", "()J"⟩
def RX2 : String := "CoreRope$Text"
def TX2 : u_T := fun k => match k with
  | 0 => ("CoreRope$Text", "bytes", "[I", true)
  | 1 => ("CoreRope$Text", "length", "I", false)
  | 2 => ("CoreRope$Text", "words", "[I", true)
  | _ => ("CoreRope$Text", "found", "I", false)
def tyX2 : Nat → FieldType := fun k => match k with
  | 0 => .array .int
  | 1 => .int
  | 2 => .array .int
  | _ => .int
abbrev wsX20 : List Cond := u_ws RX2 TX2 4
theorem nmX2 : ∀ a, a < 4 → ∀ b, b < 4 → a ≠ b → (TX2 a).2.1 ≠ (TX2 b).2.1 := by decide +kernel
theorem tyX2_ok : ∀ k, k < 4 → parseFieldDescriptor (TX2 k).2.2.1 = some (tyX2 k) := by decide +kernel
abbrev cX2_init : ByteArray := prog_4_method_1_code
def yX2_init : MethodName := ⟨RX2, "<init>", "()V"⟩
abbrev cX2_isFull : ByteArray := prog_4_method_2_code
def yX2_isFull : MethodName := ⟨RX2, "isFull", "()Z"⟩
abbrev cX2_append : ByteArray := prog_4_method_3_code
def yX2_append : MethodName := ⟨RX2, "append", "(I)I"⟩
abbrev cX2_empty : ByteArray := prog_4_method_4_code
def yX2_empty : MethodName := ⟨RX2, "empty", "()I"⟩
abbrev cX2_wordsFound : ByteArray := prog_4_method_5_code
def yX2_wordsFound : MethodName := ⟨RX2, "wordsFound", "()I"⟩
abbrev cX2_wordFound : ByteArray := prog_4_method_6_code
def yX2_wordFound : MethodName := ⟨RX2, "wordFound", "(I)I"⟩
abbrev cX2_scan : ByteArray := prog_4_method_7_code
def yX2_scan : MethodName := ⟨RX2, "scan", "(II)I"⟩
def RX3 : String := "CoreRope"
def TX3 : u_T := fun k => match k with
  | 0 => ("CoreRope", "rope", "LCoreRope$Rope;", true)
  | 1 => ("CoreRope", "history", "LCoreRope$History;", true)
  | _ => ("CoreRope", "text", "LCoreRope$Text;", true)
def tyX3 : Nat → FieldType := fun k => match k with
  | 0 => .object "CoreRope$Rope"
  | 1 => .object "CoreRope$History"
  | _ => .object "CoreRope$Text"
abbrev wsX30 : List Cond := u_ws RX3 TX3 3
theorem nmX3 : ∀ a, a < 3 → ∀ b, b < 3 → a ≠ b → (TX3 a).2.1 ≠ (TX3 b).2.1 := by decide +kernel
theorem tyX3_ok : ∀ k, k < 3 → parseFieldDescriptor (TX3 k).2.2.1 = some (tyX3 k) := by decide +kernel
abbrev cX3_init : ByteArray := prog_1_method_1_code
def yX3_init : MethodName := ⟨RX3, "<init>", "()V"⟩
abbrev cX3_begin : ByteArray := prog_1_method_2_code
def yX3_begin : MethodName := ⟨RX3, "begin", "(III)I"⟩
abbrev cX3_count : ByteArray := prog_1_method_3_code
def yX3_count : MethodName := ⟨RX3, "count", "(I)I"⟩
abbrev cX3_setCode : ByteArray := prog_1_method_4_code
def yX3_setCode : MethodName := ⟨RX3, "setCode", "(II)I"⟩
abbrev cX3_code : ByteArray := prog_1_method_5_code
def yX3_code : MethodName := ⟨RX3, "code", "(I)I"⟩
abbrev cX3_weave : ByteArray := prog_1_method_6_code
def yX3_weave : MethodName := ⟨RX3, "weave", "(II)I"⟩
abbrev cX3_word : ByteArray := prog_1_method_7_code
def yX3_word : MethodName := ⟨RX3, "word", "(I)I"⟩
abbrev cX3_cross : ByteArray := prog_1_method_8_code
def yX3_cross : MethodName := ⟨RX3, "cross", "(I)I"⟩
abbrev cX3_through : ByteArray := prog_1_method_9_code
def yX3_through : MethodName := ⟨RX3, "through", "(II)I"⟩
abbrev cX3_cost : ByteArray := prog_1_method_10_code
def yX3_cost : MethodName := ⟨RX3, "cost", "(I)I"⟩
abbrev cX3_economize : ByteArray := prog_1_method_11_code
def yX3_economize : MethodName := ⟨RX3, "economize", "()I"⟩
abbrev cX3_picked : ByteArray := prog_1_method_12_code
def yX3_picked : MethodName := ⟨RX3, "picked", "(I)I"⟩
abbrev cX3_read : ByteArray := prog_1_method_13_code
def yX3_read : MethodName := ⟨RX3, "read", "(I)I"⟩
abbrev cX3_readRaw : ByteArray := prog_1_method_14_code
def yX3_readRaw : MethodName := ⟨RX3, "readRaw", "(I)I"⟩
abbrev cX3_parity : ByteArray := prog_1_method_15_code
def yX3_parity : MethodName := ⟨RX3, "parity", "(I)I"⟩
abbrev cX3_wrong : ByteArray := prog_1_method_16_code
def yX3_wrong : MethodName := ⟨RX3, "wrong", "(I)I"⟩
abbrev cX3_spoil : ByteArray := prog_1_method_17_code
def yX3_spoil : MethodName := ⟨RX3, "spoil", "(II)I"⟩
abbrev cX3_explains : ByteArray := prog_1_method_18_code
def yX3_explains : MethodName := ⟨RX3, "explains", "(I)I"⟩
abbrev cX3_patch : ByteArray := prog_1_method_19_code
def yX3_patch : MethodName := ⟨RX3, "patch", "(II)I"⟩
abbrev cX3_unpatch : ByteArray := prog_1_method_20_code
def yX3_unpatch : MethodName := ⟨RX3, "unpatch", "(I)I"⟩
abbrev cX3_patchAll : ByteArray := prog_1_method_21_code
def yX3_patchAll : MethodName := ⟨RX3, "patchAll", "()I"⟩
abbrev cX3_patchOf : ByteArray := prog_1_method_22_code
def yX3_patchOf : MethodName := ⟨RX3, "patchOf", "(I)I"⟩
abbrev cX3_undo : ByteArray := prog_1_method_23_code
def yX3_undo : MethodName := ⟨RX3, "undo", "()I"⟩
abbrev cX3_type : ByteArray := prog_1_method_24_code
def yX3_type : MethodName := ⟨RX3, "type", "(I)I"⟩
abbrev cX3_clearText : ByteArray := prog_1_method_25_code
def yX3_clearText : MethodName := ⟨RX3, "clearText", "()I"⟩
abbrev cX3_textFault : ByteArray := prog_1_method_26_code
def yX3_textFault : MethodName := ⟨RX3, "textFault", "()I"⟩
abbrev cX3_load : ByteArray := prog_1_method_27_code
def yX3_load : MethodName := ⟨RX3, "load", "()I"⟩
abbrev cX3_digest : ByteArray := prog_1_method_28_code
def yX3_digest : MethodName := ⟨RX3, "digest", "()J"⟩
def RX4 : String := "CoreRopeModel"
def TX4 : u_T := fun k => match k with
  | 0 => ("CoreRopeModel", "row", "[I", true)
  | 1 => ("CoreRopeModel", "saved", "I", false)
  | 2 => ("CoreRopeModel", "woven", "[I", true)
  | 3 => ("CoreRopeModel", "now", "[I", true)
  | 4 => ("CoreRopeModel", "text", "[I", true)
  | 5 => ("CoreRopeModel", "length", "I", false)
  | 6 => ("CoreRopeModel", "at", "I", false)
  | 7 => ("CoreRopeModel", "words", "I", false)
  | _ => ("CoreRopeModel", "h", "J", false)
def tyX4 : Nat → FieldType := fun k => match k with
  | 0 => .array .int
  | 1 => .int
  | 2 => .array .int
  | 3 => .array .int
  | 4 => .array .int
  | 5 => .int
  | 6 => .int
  | 7 => .int
  | _ => .long
abbrev wsX40 : List Cond := u_ws RX4 TX4 9
theorem nmX4 : ∀ a, a < 9 → ∀ b, b < 9 → a ≠ b → (TX4 a).2.1 ≠ (TX4 b).2.1 := by decide +kernel
theorem tyX4_ok : ∀ k, k < 9 → parseFieldDescriptor (TX4 k).2.2.1 = some (tyX4 k) := by decide +kernel
abbrev cX4_init : ByteArray := prog_6_method_1_code
def yX4_init : MethodName := ⟨RX4, "<init>", "()V"⟩
abbrev cX4_in : ByteArray := prog_6_method_2_code
def yX4_in : MethodName := ⟨RX4, "in", "(III)Z"⟩
abbrev cX4_copies : ByteArray := prog_6_method_3_code
def yX4_copies : MethodName := ⟨RX4, "copies", "(II)V"⟩
abbrev cX4_saves : ByteArray := prog_6_method_4_code
def yX4_saves : MethodName := ⟨RX4, "saves", "()V"⟩
abbrev cX4_begins : ByteArray := prog_6_method_5_code
def yX4_begins : MethodName := ⟨RX4, "begins", "(III)V"⟩
abbrev cX4_addresses : ByteArray := prog_6_method_6_code
def yX4_addresses : MethodName := ⟨RX4, "addresses", "()I"⟩
abbrev cX4_wires : ByteArray := prog_6_method_7_code
def yX4_wires : MethodName := ⟨RX4, "wires", "()I"⟩
abbrev cX4_isRing : ByteArray := prog_6_method_8_code
def yX4_isRing : MethodName := ⟨RX4, "isRing", "(I)Z"⟩
abbrev cX4_isWire : ByteArray := prog_6_method_9_code
def yX4_isWire : MethodName := ⟨RX4, "isWire", "(I)Z"⟩
abbrev cX4_isAddress : ByteArray := prog_6_method_10_code
def yX4_isAddress : MethodName := ⟨RX4, "isAddress", "(I)Z"⟩
abbrev cX4_isWord : ByteArray := prog_6_method_11_code
def yX4_isWord : MethodName := ⟨RX4, "isWord", "(I)Z"⟩
abbrev cX4_ones : ByteArray := prog_6_method_12_code
def yX4_ones : MethodName := ⟨RX4, "ones", "(I)I"⟩
abbrev cX4_bit : ByteArray := prog_6_method_13_code
def yX4_bit : MethodName := ⟨RX4, "bit", "(II)I"⟩
abbrev cX4_told : ByteArray := prog_6_method_14_code
def yX4_told : MethodName := ⟨RX4, "told", "(I)I"⟩
abbrev cX4_allRings : ByteArray := prog_6_method_15_code
def yX4_allRings : MethodName := ⟨RX4, "allRings", "()I"⟩
abbrev cX4_right : ByteArray := prog_6_method_16_code
def yX4_right : MethodName := ⟨RX4, "right", "(I)I"⟩
abbrev cX4_costOf : ByteArray := prog_6_method_17_code
def yX4_costOf : MethodName := ⟨RX4, "costOf", "(I)I"⟩
abbrev cX4_patches : ByteArray := prog_6_method_18_code
def yX4_patches : MethodName := ⟨RX4, "patches", "()I"⟩
abbrev cX4_begin : ByteArray := prog_6_method_19_code
def yX4_begin : MethodName := ⟨RX4, "begin", "(III)I"⟩
abbrev cX4_count : ByteArray := prog_6_method_20_code
def yX4_count : MethodName := ⟨RX4, "count", "(I)I"⟩
abbrev cX4_setCode : ByteArray := prog_6_method_21_code
def yX4_setCode : MethodName := ⟨RX4, "setCode", "(II)I"⟩
abbrev cX4_code : ByteArray := prog_6_method_22_code
def yX4_code : MethodName := ⟨RX4, "code", "(I)I"⟩
abbrev cX4_weave : ByteArray := prog_6_method_23_code
def yX4_weave : MethodName := ⟨RX4, "weave", "(II)I"⟩
abbrev cX4_word : ByteArray := prog_6_method_24_code
def yX4_word : MethodName := ⟨RX4, "word", "(I)I"⟩
abbrev cX4_cross : ByteArray := prog_6_method_25_code
def yX4_cross : MethodName := ⟨RX4, "cross", "(I)I"⟩
abbrev cX4_through : ByteArray := prog_6_method_26_code
def yX4_through : MethodName := ⟨RX4, "through", "(II)I"⟩
abbrev cX4_cost : ByteArray := prog_6_method_27_code
def yX4_cost : MethodName := ⟨RX4, "cost", "(I)I"⟩
abbrev cX4_economize : ByteArray := prog_6_method_28_code
def yX4_economize : MethodName := ⟨RX4, "economize", "()I"⟩
abbrev cX4_weaves : ByteArray := prog_6_method_29_code
def yX4_weaves : MethodName := ⟨RX4, "weaves", "()V"⟩
abbrev cX4_picks : ByteArray := prog_6_method_30_code
def yX4_picks : MethodName := ⟨RX4, "picks", "(I)I"⟩
abbrev cX4_picked : ByteArray := prog_6_method_31_code
def yX4_picked : MethodName := ⟨RX4, "picked", "(I)I"⟩
abbrev cX4_raw : ByteArray := prog_6_method_32_code
def yX4_raw : MethodName := ⟨RX4, "raw", "(I)I"⟩
abbrev cX4_rawWord : ByteArray := prog_6_method_33_code
def yX4_rawWord : MethodName := ⟨RX4, "rawWord", "(I)I"⟩
abbrev cX4_reads : ByteArray := prog_6_method_34_code
def yX4_reads : MethodName := ⟨RX4, "reads", "(I)I"⟩
abbrev cX4_isEven : ByteArray := prog_6_method_35_code
def yX4_isEven : MethodName := ⟨RX4, "isEven", "(I)Z"⟩
abbrev cX4_read : ByteArray := prog_6_method_36_code
def yX4_read : MethodName := ⟨RX4, "read", "(I)I"⟩
abbrev cX4_readRaw : ByteArray := prog_6_method_37_code
def yX4_readRaw : MethodName := ⟨RX4, "readRaw", "(I)I"⟩
abbrev cX4_parity : ByteArray := prog_6_method_38_code
def yX4_parity : MethodName := ⟨RX4, "parity", "(I)I"⟩
abbrev cX4_wrongs : ByteArray := prog_6_method_39_code
def yX4_wrongs : MethodName := ⟨RX4, "wrongs", "(I)I"⟩
abbrev cX4_wrong : ByteArray := prog_6_method_40_code
def yX4_wrong : MethodName := ⟨RX4, "wrong", "(I)I"⟩
abbrev cX4_spoil : ByteArray := prog_6_method_41_code
def yX4_spoil : MethodName := ⟨RX4, "spoil", "(II)I"⟩
abbrev cX4_isAsNow : ByteArray := prog_6_method_42_code
def yX4_isAsNow : MethodName := ⟨RX4, "isAsNow", "()Z"⟩
abbrev cX4_explains : ByteArray := prog_6_method_43_code
def yX4_explains : MethodName := ⟨RX4, "explains", "(I)I"⟩
abbrev cX4_patch : ByteArray := prog_6_method_44_code
def yX4_patch : MethodName := ⟨RX4, "patch", "(II)I"⟩
abbrev cX4_unpatch : ByteArray := prog_6_method_45_code
def yX4_unpatch : MethodName := ⟨RX4, "unpatch", "(I)I"⟩
abbrev cX4_patchAll : ByteArray := prog_6_method_46_code
def yX4_patchAll : MethodName := ⟨RX4, "patchAll", "()I"⟩
abbrev cX4_patchOf : ByteArray := prog_6_method_47_code
def yX4_patchOf : MethodName := ⟨RX4, "patchOf", "(I)I"⟩
abbrev cX4_undo : ByteArray := prog_6_method_48_code
def yX4_undo : MethodName := ⟨RX4, "undo", "()I"⟩
abbrev cX4_type : ByteArray := prog_6_method_49_code
def yX4_type : MethodName := ⟨RX4, "type", "(I)I"⟩
abbrev cX4_clearText : ByteArray := prog_6_method_50_code
def yX4_clearText : MethodName := ⟨RX4, "clearText", "()I"⟩
abbrev cX4_here : ByteArray := prog_6_method_51_code
def yX4_here : MethodName := ⟨RX4, "here", "()I"⟩
abbrev cX4_readsWord : ByteArray := prog_6_method_52_code
def yX4_readsWord : MethodName := ⟨RX4, "readsWord", "(Z)Z"⟩
abbrev cX4_readsText : ByteArray := prog_6_method_53_code
def yX4_readsText : MethodName := ⟨RX4, "readsText", "(Z)Z"⟩
abbrev cX4_textFault : ByteArray := prog_6_method_54_code
def yX4_textFault : MethodName := ⟨RX4, "textFault", "()I"⟩
abbrev cX4_load : ByteArray := prog_6_method_55_code
def yX4_load : MethodName := ⟨RX4, "load", "()I"⟩
abbrev cX4_note : ByteArray := prog_6_method_56_code
def yX4_note : MethodName := ⟨RX4, "note", "(I)V"⟩
abbrev cX4_digest : ByteArray := prog_6_method_57_code
def yX4_digest : MethodName := ⟨RX4, "digest", "()J"⟩
def RJ6 : String := "java/lang/Integer"
def TJ6 : u_T := fun k => match k with
  | _ => ("", "", "", false)
def tyJ6 : Nat → FieldType := fun k => match k with
  | _ => .int
abbrev wsJ60 : List Cond := u_ws RJ6 TJ6 0
theorem nmJ6 : ∀ a, a < 0 → ∀ b, b < 0 → a ≠ b → (TJ6 a).2.1 ≠ (TJ6 b).2.1 := by decide +kernel
theorem tyJ6_ok : ∀ k, k < 0 → parseFieldDescriptor (TJ6 k).2.2.1 = some (tyJ6 k) := by decide +kernel
abbrev cJ6_bitCount_0f7a4 : ByteArray := prog_7_method_49_code
def yJ6_bitCount_0f7a4 : MethodName := ⟨RJ6, "bitCount", "(I)I"⟩
def RJ10 : String := "java/lang/System"
def TJ10 : u_T := fun k => match k with
  | _ => ("", "", "", false)
def tyJ10 : Nat → FieldType := fun k => match k with
  | _ => .int
abbrev wsJ100 : List Cond := u_ws RJ10 TJ10 0
theorem nmJ10 : ∀ a, a < 0 → ∀ b, b < 0 → a ≠ b → (TJ10 a).2.1 ≠ (TJ10 b).2.1 := by decide +kernel
theorem tyJ10_ok : ∀ k, k < 0 → parseFieldDescriptor (TJ10 k).2.2.1 = some (tyJ10 k) := by decide +kernel
def RL : String := "CoreRopeLaw"
abbrev cL_law : ByteArray := code
def yL_law : MethodName := ⟨RL, "law", "([I)Z"⟩
abbrev vwCl : List vw_C := [(RX0, TX0, 3), (RX1, TX1, 7), (RX2, TX2, 4), (RX3, TX3, 3), (RX4, TX4, 9)]
/-- the words of the tables that a callee may take from its caller -/
def nT : List Cond := lw_tbl.filter goodWord
set_option maxRecDepth 20000 in
theorem inX0 : ∀ w ∈ wsX00, w ∈ nT := fun w h => List.mem_filter.mpr ⟨(show ∀ w ∈ wsX00, w ∈ lw_tbl by decide +kernel) w h, (show ∀ w ∈ wsX00, goodWord w = true by decide +kernel) w h⟩
set_option maxRecDepth 20000 in
theorem inX1 : ∀ w ∈ wsX10, w ∈ nT := fun w h => List.mem_filter.mpr ⟨(show ∀ w ∈ wsX10, w ∈ lw_tbl by decide +kernel) w h, (show ∀ w ∈ wsX10, goodWord w = true by decide +kernel) w h⟩
set_option maxRecDepth 20000 in
theorem inX2 : ∀ w ∈ wsX20, w ∈ nT := fun w h => List.mem_filter.mpr ⟨(show ∀ w ∈ wsX20, w ∈ lw_tbl by decide +kernel) w h, (show ∀ w ∈ wsX20, goodWord w = true by decide +kernel) w h⟩
set_option maxRecDepth 20000 in
theorem inX3 : ∀ w ∈ wsX30, w ∈ nT := fun w h => List.mem_filter.mpr ⟨(show ∀ w ∈ wsX30, w ∈ lw_tbl by decide +kernel) w h, (show ∀ w ∈ wsX30, goodWord w = true by decide +kernel) w h⟩
set_option maxRecDepth 20000 in
theorem inX4 : ∀ w ∈ wsX40, w ∈ nT := fun w h => List.mem_filter.mpr ⟨(show ∀ w ∈ wsX40, w ∈ lw_tbl by decide +kernel) w h, (show ∀ w ∈ wsX40, goodWord w = true by decide +kernel) w h⟩
end
section
theorem dX0_init_0 : decode cX0_init 0 = .ok (.aload_n 0, 1) := by decide +kernel
theorem dX0_init_1 : decode cX0_init 1 = .ok (.invokespecial 3, 3) := by decide +kernel
theorem dX0_init_4 : decode cX0_init 4 = .ok (.aload_n 0, 1) := by decide +kernel
theorem dX0_init_5 : decode cX0_init 5 = .ok (.iconst 5, 1) := by decide +kernel
theorem dX0_init_6 : decode cX0_init 6 = .ok (.anewarray 9, 3) := by decide +kernel
theorem dX0_init_9 : decode cX0_init 9 = .ok (.putfield 11, 3) := by decide +kernel
theorem dX0_init_12 : decode cX0_init 12 = .ok (.iconst 0, 1) := by decide +kernel
theorem dX0_init_13 : decode cX0_init 13 = .ok (.istore_n 1, 1) := by decide +kernel
theorem dX0_init_14 : decode cX0_init 14 = .ok (.iload_n 1, 1) := by decide +kernel
theorem dX0_init_15 : decode cX0_init 15 = .ok (.iconst 5, 1) := by decide +kernel
theorem dX0_init_16 : decode cX0_init 16 = .ok (.if_icmp .ge 22, 3) := by decide +kernel
theorem dX0_init_19 : decode cX0_init 19 = .ok (.aload_n 0, 1) := by decide +kernel
theorem dX0_init_20 : decode cX0_init 20 = .ok (.getfield 11, 3) := by decide +kernel
theorem dX0_init_23 : decode cX0_init 23 = .ok (.iload_n 1, 1) := by decide +kernel
theorem dX0_init_24 : decode cX0_init 24 = .ok (.new 9, 3) := by decide +kernel
theorem dX0_init_27 : decode cX0_init 27 = .ok (.dup, 1) := by decide +kernel
theorem dX0_init_28 : decode cX0_init 28 = .ok (.invokespecial 17, 3) := by decide +kernel
theorem dX0_init_31 : decode cX0_init 31 = .ok (.aastore, 1) := by decide +kernel
theorem dX0_init_32 : decode cX0_init 32 = .ok (.iinc 1 1, 3) := by decide +kernel
theorem dX0_init_35 : decode cX0_init 35 = .ok (.goto (-21), 3) := by decide +kernel
theorem dX0_init_38 : decode cX0_init 38 = .ok (.return_, 1) := by decide +kernel
theorem dX0_isEmpty_0 : decode cX0_isEmpty 0 = .ok (.aload_n 0, 1) := by decide +kernel
theorem dX0_isEmpty_1 : decode cX0_isEmpty 1 = .ok (.getfield 18, 3) := by decide +kernel
theorem dX0_isEmpty_4 : decode cX0_isEmpty 4 = .ok (.ifCond .ne 7, 3) := by decide +kernel
theorem dX0_isEmpty_7 : decode cX0_isEmpty 7 = .ok (.iconst 1, 1) := by decide +kernel
theorem dX0_isEmpty_8 : decode cX0_isEmpty 8 = .ok (.goto 4, 3) := by decide +kernel
theorem dX0_isEmpty_11 : decode cX0_isEmpty 11 = .ok (.iconst 0, 1) := by decide +kernel
theorem dX0_isEmpty_12 : decode cX0_isEmpty 12 = .ok (.ireturn, 1) := by decide +kernel
theorem dX0_keep_0 : decode cX0_keep 0 = .ok (.aload_n 0, 1) := by decide +kernel
theorem dX0_keep_1 : decode cX0_keep 1 = .ok (.getfield 18, 3) := by decide +kernel
theorem dX0_keep_4 : decode cX0_keep 4 = .ok (.iconst 5, 1) := by decide +kernel
theorem dX0_keep_5 : decode cX0_keep 5 = .ok (.if_icmp .ne 25, 3) := by decide +kernel
theorem dX0_keep_8 : decode cX0_keep 8 = .ok (.aload_n 0, 1) := by decide +kernel
theorem dX0_keep_9 : decode cX0_keep 9 = .ok (.aload_n 0, 1) := by decide +kernel
theorem dX0_keep_10 : decode cX0_keep 10 = .ok (.getfield 22, 3) := by decide +kernel
theorem dX0_keep_13 : decode cX0_keep 13 = .ok (.iconst 1, 1) := by decide +kernel
theorem dX0_keep_14 : decode cX0_keep 14 = .ok (.iadd, 1) := by decide +kernel
theorem dX0_keep_15 : decode cX0_keep 15 = .ok (.iconst 5, 1) := by decide +kernel
theorem dX0_keep_16 : decode cX0_keep 16 = .ok (.irem, 1) := by decide +kernel
theorem dX0_keep_17 : decode cX0_keep 17 = .ok (.putfield 22, 3) := by decide +kernel
theorem dX0_keep_20 : decode cX0_keep 20 = .ok (.aload_n 0, 1) := by decide +kernel
theorem dX0_keep_21 : decode cX0_keep 21 = .ok (.dup, 1) := by decide +kernel
theorem dX0_keep_22 : decode cX0_keep 22 = .ok (.getfield 18, 3) := by decide +kernel
theorem dX0_keep_25 : decode cX0_keep 25 = .ok (.iconst 1, 1) := by decide +kernel
theorem dX0_keep_26 : decode cX0_keep 26 = .ok (.isub, 1) := by decide +kernel
theorem dX0_keep_27 : decode cX0_keep 27 = .ok (.putfield 18, 3) := by decide +kernel
theorem dX0_keep_30 : decode cX0_keep 30 = .ok (.aload_n 0, 1) := by decide +kernel
theorem dX0_keep_31 : decode cX0_keep 31 = .ok (.getfield 11, 3) := by decide +kernel
theorem dX0_keep_34 : decode cX0_keep 34 = .ok (.aload_n 0, 1) := by decide +kernel
theorem dX0_keep_35 : decode cX0_keep 35 = .ok (.getfield 22, 3) := by decide +kernel
theorem dX0_keep_38 : decode cX0_keep 38 = .ok (.aload_n 0, 1) := by decide +kernel
theorem dX0_keep_39 : decode cX0_keep 39 = .ok (.getfield 18, 3) := by decide +kernel
theorem dX0_keep_42 : decode cX0_keep 42 = .ok (.iadd, 1) := by decide +kernel
theorem dX0_keep_43 : decode cX0_keep 43 = .ok (.iconst 5, 1) := by decide +kernel
theorem dX0_keep_44 : decode cX0_keep 44 = .ok (.irem, 1) := by decide +kernel
theorem dX0_keep_45 : decode cX0_keep 45 = .ok (.aaload, 1) := by decide +kernel
theorem dX0_keep_46 : decode cX0_keep 46 = .ok (.aload_n 1, 1) := by decide +kernel
theorem dX0_keep_47 : decode cX0_keep 47 = .ok (.invokevirtual 25, 3) := by decide +kernel
theorem dX0_keep_50 : decode cX0_keep 50 = .ok (.aload_n 0, 1) := by decide +kernel
theorem dX0_keep_51 : decode cX0_keep 51 = .ok (.dup, 1) := by decide +kernel
theorem dX0_keep_52 : decode cX0_keep 52 = .ok (.getfield 18, 3) := by decide +kernel
theorem dX0_keep_55 : decode cX0_keep 55 = .ok (.iconst 1, 1) := by decide +kernel
theorem dX0_keep_56 : decode cX0_keep 56 = .ok (.iadd, 1) := by decide +kernel
theorem dX0_keep_57 : decode cX0_keep 57 = .ok (.putfield 18, 3) := by decide +kernel
theorem dX0_keep_60 : decode cX0_keep 60 = .ok (.return_, 1) := by decide +kernel
theorem dX0_restore_0 : decode cX0_restore 0 = .ok (.aload_n 0, 1) := by decide +kernel
theorem dX0_restore_1 : decode cX0_restore 1 = .ok (.dup, 1) := by decide +kernel
theorem dX0_restore_2 : decode cX0_restore 2 = .ok (.getfield 18, 3) := by decide +kernel
theorem dX0_restore_5 : decode cX0_restore 5 = .ok (.iconst 1, 1) := by decide +kernel
theorem dX0_restore_6 : decode cX0_restore 6 = .ok (.isub, 1) := by decide +kernel
theorem dX0_restore_7 : decode cX0_restore 7 = .ok (.putfield 18, 3) := by decide +kernel
theorem dX0_restore_10 : decode cX0_restore 10 = .ok (.aload_n 1, 1) := by decide +kernel
theorem dX0_restore_11 : decode cX0_restore 11 = .ok (.aload_n 0, 1) := by decide +kernel
theorem dX0_restore_12 : decode cX0_restore 12 = .ok (.getfield 11, 3) := by decide +kernel
theorem dX0_restore_15 : decode cX0_restore 15 = .ok (.aload_n 0, 1) := by decide +kernel
theorem dX0_restore_16 : decode cX0_restore 16 = .ok (.getfield 22, 3) := by decide +kernel
theorem dX0_restore_19 : decode cX0_restore 19 = .ok (.aload_n 0, 1) := by decide +kernel
theorem dX0_restore_20 : decode cX0_restore 20 = .ok (.getfield 18, 3) := by decide +kernel
theorem dX0_restore_23 : decode cX0_restore 23 = .ok (.iadd, 1) := by decide +kernel
theorem dX0_restore_24 : decode cX0_restore 24 = .ok (.iconst 5, 1) := by decide +kernel
theorem dX0_restore_25 : decode cX0_restore 25 = .ok (.irem, 1) := by decide +kernel
theorem dX0_restore_26 : decode cX0_restore 26 = .ok (.aaload, 1) := by decide +kernel
theorem dX0_restore_27 : decode cX0_restore 27 = .ok (.invokevirtual 25, 3) := by decide +kernel
theorem dX0_restore_30 : decode cX0_restore 30 = .ok (.aload_n 0, 1) := by decide +kernel
theorem dX0_restore_31 : decode cX0_restore 31 = .ok (.getfield 18, 3) := by decide +kernel
theorem dX0_restore_34 : decode cX0_restore 34 = .ok (.ireturn, 1) := by decide +kernel
theorem dX2_init_0 : decode cX2_init 0 = .ok (.aload_n 0, 1) := by decide +kernel
theorem dX2_init_1 : decode cX2_init 1 = .ok (.invokespecial 3, 3) := by decide +kernel
theorem dX2_init_4 : decode cX2_init 4 = .ok (.aload_n 0, 1) := by decide +kernel
theorem dX2_init_5 : decode cX2_init 5 = .ok (.bipush 100, 2) := by decide +kernel
theorem dX2_init_7 : decode cX2_init 7 = .ok (.newarray .int, 2) := by decide +kernel
theorem dX2_init_9 : decode cX2_init 9 = .ok (.putfield 9, 3) := by decide +kernel
theorem dX2_init_12 : decode cX2_init 12 = .ok (.aload_n 0, 1) := by decide +kernel
theorem dX2_init_13 : decode cX2_init 13 = .ok (.bipush 48, 2) := by decide +kernel
theorem dX2_init_15 : decode cX2_init 15 = .ok (.newarray .int, 2) := by decide +kernel
theorem dX2_init_17 : decode cX2_init 17 = .ok (.putfield 15, 3) := by decide +kernel
theorem dX2_init_20 : decode cX2_init 20 = .ok (.return_, 1) := by decide +kernel
theorem dX2_isFull_0 : decode cX2_isFull 0 = .ok (.aload_n 0, 1) := by decide +kernel
theorem dX2_isFull_1 : decode cX2_isFull 1 = .ok (.getfield 18, 3) := by decide +kernel
theorem dX2_isFull_4 : decode cX2_isFull 4 = .ok (.bipush 100, 2) := by decide +kernel
theorem dX2_isFull_6 : decode cX2_isFull 6 = .ok (.if_icmp .ne 7, 3) := by decide +kernel
theorem dX2_isFull_9 : decode cX2_isFull 9 = .ok (.iconst 1, 1) := by decide +kernel
theorem dX2_isFull_10 : decode cX2_isFull 10 = .ok (.goto 4, 3) := by decide +kernel
theorem dX2_isFull_13 : decode cX2_isFull 13 = .ok (.iconst 0, 1) := by decide +kernel
theorem dX2_isFull_14 : decode cX2_isFull 14 = .ok (.ireturn, 1) := by decide +kernel
theorem dX2_append_0 : decode cX2_append 0 = .ok (.aload_n 0, 1) := by decide +kernel
theorem dX2_append_1 : decode cX2_append 1 = .ok (.getfield 9, 3) := by decide +kernel
theorem dX2_append_4 : decode cX2_append 4 = .ok (.aload_n 0, 1) := by decide +kernel
theorem dX2_append_5 : decode cX2_append 5 = .ok (.getfield 18, 3) := by decide +kernel
theorem dX2_append_8 : decode cX2_append 8 = .ok (.iload_n 1, 1) := by decide +kernel
theorem dX2_append_9 : decode cX2_append 9 = .ok (.iastore, 1) := by decide +kernel
theorem dX2_append_10 : decode cX2_append 10 = .ok (.aload_n 0, 1) := by decide +kernel
theorem dX2_append_11 : decode cX2_append 11 = .ok (.dup, 1) := by decide +kernel
theorem dX2_append_12 : decode cX2_append 12 = .ok (.getfield 18, 3) := by decide +kernel
theorem dX2_append_15 : decode cX2_append 15 = .ok (.iconst 1, 1) := by decide +kernel
theorem dX2_append_16 : decode cX2_append 16 = .ok (.iadd, 1) := by decide +kernel
theorem dX2_append_17 : decode cX2_append 17 = .ok (.putfield 18, 3) := by decide +kernel
theorem dX2_append_20 : decode cX2_append 20 = .ok (.aload_n 0, 1) := by decide +kernel
theorem dX2_append_21 : decode cX2_append 21 = .ok (.getfield 18, 3) := by decide +kernel
theorem dX2_append_24 : decode cX2_append 24 = .ok (.ireturn, 1) := by decide +kernel
theorem dX2_empty_0 : decode cX2_empty 0 = .ok (.aload_n 0, 1) := by decide +kernel
theorem dX2_empty_1 : decode cX2_empty 1 = .ok (.getfield 18, 3) := by decide +kernel
theorem dX2_empty_4 : decode cX2_empty 4 = .ok (.istore_n 1, 1) := by decide +kernel
theorem dX2_empty_5 : decode cX2_empty 5 = .ok (.aload_n 0, 1) := by decide +kernel
theorem dX2_empty_6 : decode cX2_empty 6 = .ok (.iconst 0, 1) := by decide +kernel
theorem dX2_empty_7 : decode cX2_empty 7 = .ok (.putfield 18, 3) := by decide +kernel
theorem dX2_empty_10 : decode cX2_empty 10 = .ok (.iload_n 1, 1) := by decide +kernel
theorem dX2_empty_11 : decode cX2_empty 11 = .ok (.ireturn, 1) := by decide +kernel
theorem dX2_wordsFound_0 : decode cX2_wordsFound 0 = .ok (.aload_n 0, 1) := by decide +kernel
theorem dX2_wordsFound_1 : decode cX2_wordsFound 1 = .ok (.getfield 22, 3) := by decide +kernel
theorem dX2_wordsFound_4 : decode cX2_wordsFound 4 = .ok (.ireturn, 1) := by decide +kernel
theorem dX2_wordFound_0 : decode cX2_wordFound 0 = .ok (.aload_n 0, 1) := by decide +kernel
theorem dX2_wordFound_1 : decode cX2_wordFound 1 = .ok (.getfield 15, 3) := by decide +kernel
theorem dX2_wordFound_4 : decode cX2_wordFound 4 = .ok (.iload_n 1, 1) := by decide +kernel
theorem dX2_wordFound_5 : decode cX2_wordFound 5 = .ok (.iaload, 1) := by decide +kernel
theorem dX2_wordFound_6 : decode cX2_wordFound 6 = .ok (.ireturn, 1) := by decide +kernel
theorem dX2_scan_0 : decode cX2_scan 0 = .ok (.iconst 0, 1) := by decide +kernel
theorem dX2_scan_1 : decode cX2_scan 1 = .ok (.istore_n 3, 1) := by decide +kernel
theorem dX2_scan_2 : decode cX2_scan 2 = .ok (.iconst 0, 1) := by decide +kernel
theorem dX2_scan_3 : decode cX2_scan 3 = .ok (.istore 4, 2) := by decide +kernel
theorem dX2_scan_5 : decode cX2_scan 5 = .ok (.iconst 0, 1) := by decide +kernel
theorem dX2_scan_6 : decode cX2_scan 6 = .ok (.istore 5, 2) := by decide +kernel
theorem dX2_scan_8 : decode cX2_scan 8 = .ok (.aload_n 0, 1) := by decide +kernel
theorem dX2_scan_9 : decode cX2_scan 9 = .ok (.iconst 0, 1) := by decide +kernel
theorem dX2_scan_10 : decode cX2_scan 10 = .ok (.putfield 22, 3) := by decide +kernel
theorem dX2_scan_13 : decode cX2_scan 13 = .ok (.iconst 0, 1) := by decide +kernel
theorem dX2_scan_14 : decode cX2_scan 14 = .ok (.istore 6, 2) := by decide +kernel
theorem dX2_scan_16 : decode cX2_scan 16 = .ok (.iload 6, 2) := by decide +kernel
theorem dX2_scan_18 : decode cX2_scan 18 = .ok (.aload_n 0, 1) := by decide +kernel
theorem dX2_scan_19 : decode cX2_scan 19 = .ok (.getfield 18, 3) := by decide +kernel
theorem dX2_scan_22 : decode cX2_scan 22 = .ok (.if_icmp .ge 162, 3) := by decide +kernel
theorem dX2_scan_25 : decode cX2_scan 25 = .ok (.aload_n 0, 1) := by decide +kernel
theorem dX2_scan_26 : decode cX2_scan 26 = .ok (.getfield 9, 3) := by decide +kernel
theorem dX2_scan_29 : decode cX2_scan 29 = .ok (.iload 6, 2) := by decide +kernel
theorem dX2_scan_31 : decode cX2_scan 31 = .ok (.iaload, 1) := by decide +kernel
theorem dX2_scan_32 : decode cX2_scan 32 = .ok (.istore 7, 2) := by decide +kernel
theorem dX2_scan_34 : decode cX2_scan 34 = .ok (.iload 7, 2) := by decide +kernel
theorem dX2_scan_36 : decode cX2_scan 36 = .ok (.bipush 48, 2) := by decide +kernel
theorem dX2_scan_38 : decode cX2_scan 38 = .ok (.if_icmp .lt 100, 3) := by decide +kernel
theorem dX2_scan_41 : decode cX2_scan 41 = .ok (.iload 7, 2) := by decide +kernel
theorem dX2_scan_43 : decode cX2_scan 43 = .ok (.bipush 56, 2) := by decide +kernel
theorem dX2_scan_45 : decode cX2_scan 45 = .ok (.if_icmp .ge 93, 3) := by decide +kernel
theorem dX2_scan_48 : decode cX2_scan 48 = .ok (.iload_n 3, 1) := by decide +kernel
theorem dX2_scan_49 : decode cX2_scan 49 = .ok (.iconst 2, 1) := by decide +kernel
theorem dX2_scan_50 : decode cX2_scan 50 = .ok (.if_icmp .eq 15, 3) := by decide +kernel
theorem dX2_scan_53 : decode cX2_scan 53 = .ok (.iload_n 3, 1) := by decide +kernel
theorem dX2_scan_54 : decode cX2_scan 54 = .ok (.ifCond .ne 14, 3) := by decide +kernel
theorem dX2_scan_57 : decode cX2_scan 57 = .ok (.aload_n 0, 1) := by decide +kernel
theorem dX2_scan_58 : decode cX2_scan 58 = .ok (.getfield 22, 3) := by decide +kernel
theorem dX2_scan_61 : decode cX2_scan 61 = .ok (.iload_n 1, 1) := by decide +kernel
theorem dX2_scan_62 : decode cX2_scan 62 = .ok (.if_icmp .ne 6, 3) := by decide +kernel
theorem dX2_scan_65 : decode cX2_scan 65 = .ok (.iload 6, 2) := by decide +kernel
theorem dX2_scan_67 : decode cX2_scan 67 = .ok (.ireturn, 1) := by decide +kernel
theorem dX2_scan_68 : decode cX2_scan 68 = .ok (.iload_n 3, 1) := by decide +kernel
theorem dX2_scan_69 : decode cX2_scan 69 = .ok (.ifCond .ne 22, 3) := by decide +kernel
theorem dX2_scan_72 : decode cX2_scan 72 = .ok (.iconst 1, 1) := by decide +kernel
theorem dX2_scan_73 : decode cX2_scan 73 = .ok (.istore_n 3, 1) := by decide +kernel
theorem dX2_scan_74 : decode cX2_scan 74 = .ok (.iload 6, 2) := by decide +kernel
theorem dX2_scan_76 : decode cX2_scan 76 = .ok (.istore 4, 2) := by decide +kernel
theorem dX2_scan_78 : decode cX2_scan 78 = .ok (.iconst 0, 1) := by decide +kernel
theorem dX2_scan_79 : decode cX2_scan 79 = .ok (.istore 5, 2) := by decide +kernel
theorem dX2_scan_81 : decode cX2_scan 81 = .ok (.aload_n 0, 1) := by decide +kernel
theorem dX2_scan_82 : decode cX2_scan 82 = .ok (.dup, 1) := by decide +kernel
theorem dX2_scan_83 : decode cX2_scan 83 = .ok (.getfield 22, 3) := by decide +kernel
theorem dX2_scan_86 : decode cX2_scan 86 = .ok (.iconst 1, 1) := by decide +kernel
theorem dX2_scan_87 : decode cX2_scan 87 = .ok (.iadd, 1) := by decide +kernel
theorem dX2_scan_88 : decode cX2_scan 88 = .ok (.putfield 22, 3) := by decide +kernel
theorem dX2_scan_91 : decode cX2_scan 91 = .ok (.bipush 8, 2) := by decide +kernel
theorem dX2_scan_93 : decode cX2_scan 93 = .ok (.iload 5, 2) := by decide +kernel
theorem dX2_scan_95 : decode cX2_scan 95 = .ok (.imul, 1) := by decide +kernel
theorem dX2_scan_96 : decode cX2_scan 96 = .ok (.iload 7, 2) := by decide +kernel
theorem dX2_scan_98 : decode cX2_scan 98 = .ok (.iadd, 1) := by decide +kernel
theorem dX2_scan_99 : decode cX2_scan 99 = .ok (.bipush 48, 2) := by decide +kernel
theorem dX2_scan_101 : decode cX2_scan 101 = .ok (.isub, 1) := by decide +kernel
theorem dX2_scan_102 : decode cX2_scan 102 = .ok (.istore 5, 2) := by decide +kernel
theorem dX2_scan_104 : decode cX2_scan 104 = .ok (.iload 6, 2) := by decide +kernel
theorem dX2_scan_106 : decode cX2_scan 106 = .ok (.iload 4, 2) := by decide +kernel
theorem dX2_scan_108 : decode cX2_scan 108 = .ok (.isub, 1) := by decide +kernel
theorem dX2_scan_109 : decode cX2_scan 109 = .ok (.iconst 4, 1) := by decide +kernel
theorem dX2_scan_110 : decode cX2_scan 110 = .ok (.if_icmp .ge 9, 3) := by decide +kernel
theorem dX2_scan_113 : decode cX2_scan 113 = .ok (.iload 5, 2) := by decide +kernel
theorem dX2_scan_115 : decode cX2_scan 115 = .ok (.iload_n 2, 1) := by decide +kernel
theorem dX2_scan_116 : decode cX2_scan 116 = .ok (.if_icmp .le 6, 3) := by decide +kernel
theorem dX2_scan_119 : decode cX2_scan 119 = .ok (.iload 4, 2) := by decide +kernel
theorem dX2_scan_121 : decode cX2_scan 121 = .ok (.ireturn, 1) := by decide +kernel
theorem dX2_scan_122 : decode cX2_scan 122 = .ok (.aload_n 0, 1) := by decide +kernel
theorem dX2_scan_123 : decode cX2_scan 123 = .ok (.getfield 15, 3) := by decide +kernel
theorem dX2_scan_126 : decode cX2_scan 126 = .ok (.aload_n 0, 1) := by decide +kernel
theorem dX2_scan_127 : decode cX2_scan 127 = .ok (.getfield 22, 3) := by decide +kernel
theorem dX2_scan_130 : decode cX2_scan 130 = .ok (.iconst 1, 1) := by decide +kernel
theorem dX2_scan_131 : decode cX2_scan 131 = .ok (.isub, 1) := by decide +kernel
theorem dX2_scan_132 : decode cX2_scan 132 = .ok (.iload 5, 2) := by decide +kernel
theorem dX2_scan_134 : decode cX2_scan 134 = .ok (.iastore, 1) := by decide +kernel
theorem dX2_scan_135 : decode cX2_scan 135 = .ok (.goto 43, 3) := by decide +kernel
theorem dX2_scan_138 : decode cX2_scan 138 = .ok (.iload 7, 2) := by decide +kernel
theorem dX2_scan_140 : decode cX2_scan 140 = .ok (.bipush 44, 2) := by decide +kernel
theorem dX2_scan_142 : decode cX2_scan 142 = .ok (.if_icmp .ne 12, 3) := by decide +kernel
theorem dX2_scan_145 : decode cX2_scan 145 = .ok (.iload_n 3, 1) := by decide +kernel
theorem dX2_scan_146 : decode cX2_scan 146 = .ok (.ifCond .eq 8, 3) := by decide +kernel
theorem dX2_scan_149 : decode cX2_scan 149 = .ok (.iconst 0, 1) := by decide +kernel
theorem dX2_scan_150 : decode cX2_scan 150 = .ok (.istore_n 3, 1) := by decide +kernel
theorem dX2_scan_151 : decode cX2_scan 151 = .ok (.goto 27, 3) := by decide +kernel
theorem dX2_scan_154 : decode cX2_scan 154 = .ok (.iload 7, 2) := by decide +kernel
theorem dX2_scan_156 : decode cX2_scan 156 = .ok (.bipush 32, 2) := by decide +kernel
theorem dX2_scan_158 : decode cX2_scan 158 = .ok (.if_icmp .ne 17, 3) := by decide +kernel
theorem dX2_scan_161 : decode cX2_scan 161 = .ok (.iload_n 3, 1) := by decide +kernel
theorem dX2_scan_162 : decode cX2_scan 162 = .ok (.iconst 1, 1) := by decide +kernel
theorem dX2_scan_163 : decode cX2_scan 163 = .ok (.if_icmp .ne 7, 3) := by decide +kernel
theorem dX2_scan_166 : decode cX2_scan 166 = .ok (.iconst 2, 1) := by decide +kernel
theorem dX2_scan_167 : decode cX2_scan 167 = .ok (.goto 4, 3) := by decide +kernel
theorem dX2_scan_170 : decode cX2_scan 170 = .ok (.iload_n 3, 1) := by decide +kernel
theorem dX2_scan_171 : decode cX2_scan 171 = .ok (.istore_n 3, 1) := by decide +kernel
theorem dX2_scan_172 : decode cX2_scan 172 = .ok (.goto 6, 3) := by decide +kernel
theorem dX2_scan_175 : decode cX2_scan 175 = .ok (.iload 6, 2) := by decide +kernel
theorem dX2_scan_177 : decode cX2_scan 177 = .ok (.ireturn, 1) := by decide +kernel
theorem dX2_scan_178 : decode cX2_scan 178 = .ok (.iinc 6 1, 3) := by decide +kernel
theorem dX2_scan_181 : decode cX2_scan 181 = .ok (.goto (-165), 3) := by decide +kernel
theorem dX2_scan_184 : decode cX2_scan 184 = .ok (.iload_n 3, 1) := by decide +kernel
theorem dX2_scan_185 : decode cX2_scan 185 = .ok (.ifCond .ne 10, 3) := by decide +kernel
theorem dX2_scan_188 : decode cX2_scan 188 = .ok (.aload_n 0, 1) := by decide +kernel
theorem dX2_scan_189 : decode cX2_scan 189 = .ok (.getfield 18, 3) := by decide +kernel
theorem dX2_scan_192 : decode cX2_scan 192 = .ok (.goto 4, 3) := by decide +kernel
theorem dX2_scan_195 : decode cX2_scan 195 = .ok (.iconst (-1), 1) := by decide +kernel
theorem dX2_scan_196 : decode cX2_scan 196 = .ok (.ireturn, 1) := by decide +kernel
theorem dX3_init_0 : decode cX3_init 0 = .ok (.aload_n 0, 1) := by decide +kernel
theorem dX3_init_1 : decode cX3_init 1 = .ok (.invokespecial 3, 3) := by decide +kernel
theorem dX3_init_4 : decode cX3_init 4 = .ok (.aload_n 0, 1) := by decide +kernel
theorem dX3_init_5 : decode cX3_init 5 = .ok (.new 9, 3) := by decide +kernel
theorem dX3_init_8 : decode cX3_init 8 = .ok (.dup, 1) := by decide +kernel
theorem dX3_init_9 : decode cX3_init 9 = .ok (.invokespecial 11, 3) := by decide +kernel
theorem dX3_init_12 : decode cX3_init 12 = .ok (.putfield 12, 3) := by decide +kernel
theorem dX3_init_15 : decode cX3_init 15 = .ok (.aload_n 0, 1) := by decide +kernel
theorem dX3_init_16 : decode cX3_init 16 = .ok (.new 16, 3) := by decide +kernel
theorem dX3_init_19 : decode cX3_init 19 = .ok (.dup, 1) := by decide +kernel
theorem dX3_init_20 : decode cX3_init 20 = .ok (.invokespecial 18, 3) := by decide +kernel
theorem dX3_init_23 : decode cX3_init 23 = .ok (.putfield 19, 3) := by decide +kernel
theorem dX3_init_26 : decode cX3_init 26 = .ok (.aload_n 0, 1) := by decide +kernel
theorem dX3_init_27 : decode cX3_init 27 = .ok (.new 23, 3) := by decide +kernel
theorem dX3_init_30 : decode cX3_init 30 = .ok (.dup, 1) := by decide +kernel
theorem dX3_init_31 : decode cX3_init 31 = .ok (.invokespecial 25, 3) := by decide +kernel
theorem dX3_init_34 : decode cX3_init 34 = .ok (.putfield 26, 3) := by decide +kernel
theorem dX3_init_37 : decode cX3_init 37 = .ok (.return_, 1) := by decide +kernel
theorem dX3_begin_0 : decode cX3_begin 0 = .ok (.iload_n 1, 1) := by decide +kernel
theorem dX3_begin_1 : decode cX3_begin 1 = .ok (.iconst 2, 1) := by decide +kernel
theorem dX3_begin_2 : decode cX3_begin 2 = .ok (.if_icmp .lt 30, 3) := by decide +kernel
theorem dX3_begin_5 : decode cX3_begin 5 = .ok (.iload_n 1, 1) := by decide +kernel
theorem dX3_begin_6 : decode cX3_begin 6 = .ok (.bipush 16, 2) := by decide +kernel
theorem dX3_begin_8 : decode cX3_begin 8 = .ok (.if_icmp .gt 24, 3) := by decide +kernel
theorem dX3_begin_11 : decode cX3_begin 11 = .ok (.iload_n 2, 1) := by decide +kernel
theorem dX3_begin_12 : decode cX3_begin 12 = .ok (.iconst 1, 1) := by decide +kernel
theorem dX3_begin_13 : decode cX3_begin 13 = .ok (.if_icmp .lt 19, 3) := by decide +kernel
theorem dX3_begin_16 : decode cX3_begin 16 = .ok (.iload_n 2, 1) := by decide +kernel
theorem dX3_begin_17 : decode cX3_begin 17 = .ok (.bipush 10, 2) := by decide +kernel
theorem dX3_begin_19 : decode cX3_begin 19 = .ok (.if_icmp .gt 13, 3) := by decide +kernel
theorem dX3_begin_22 : decode cX3_begin 22 = .ok (.iload_n 3, 1) := by decide +kernel
theorem dX3_begin_23 : decode cX3_begin 23 = .ok (.iconst 1, 1) := by decide +kernel
theorem dX3_begin_24 : decode cX3_begin 24 = .ok (.if_icmp .lt 8, 3) := by decide +kernel
theorem dX3_begin_27 : decode cX3_begin 27 = .ok (.iload_n 3, 1) := by decide +kernel
theorem dX3_begin_28 : decode cX3_begin 28 = .ok (.iconst 3, 1) := by decide +kernel
theorem dX3_begin_29 : decode cX3_begin 29 = .ok (.if_icmp .le 6, 3) := by decide +kernel
theorem dX3_begin_32 : decode cX3_begin 32 = .ok (.bipush (-3), 2) := by decide +kernel
theorem dX3_begin_34 : decode cX3_begin 34 = .ok (.ireturn, 1) := by decide +kernel
theorem dX3_begin_35 : decode cX3_begin 35 = .ok (.aload_n 0, 1) := by decide +kernel
theorem dX3_begin_36 : decode cX3_begin 36 = .ok (.getfield 12, 3) := by decide +kernel
theorem dX3_begin_39 : decode cX3_begin 39 = .ok (.invokevirtual 30, 3) := by decide +kernel
theorem dX3_begin_42 : decode cX3_begin 42 = .ok (.istore 4, 2) := by decide +kernel
theorem dX3_begin_44 : decode cX3_begin 44 = .ok (.aload_n 0, 1) := by decide +kernel
theorem dX3_begin_45 : decode cX3_begin 45 = .ok (.getfield 19, 3) := by decide +kernel
theorem dX3_begin_48 : decode cX3_begin 48 = .ok (.aload_n 0, 1) := by decide +kernel
theorem dX3_begin_49 : decode cX3_begin 49 = .ok (.getfield 12, 3) := by decide +kernel
theorem dX3_begin_52 : decode cX3_begin 52 = .ok (.invokevirtual 34, 3) := by decide +kernel
theorem dX3_begin_55 : decode cX3_begin 55 = .ok (.aload_n 0, 1) := by decide +kernel
theorem dX3_begin_56 : decode cX3_begin 56 = .ok (.getfield 12, 3) := by decide +kernel
theorem dX3_begin_59 : decode cX3_begin 59 = .ok (.iload_n 1, 1) := by decide +kernel
theorem dX3_begin_60 : decode cX3_begin 60 = .ok (.iload_n 2, 1) := by decide +kernel
theorem dX3_begin_61 : decode cX3_begin 61 = .ok (.iload_n 3, 1) := by decide +kernel
theorem dX3_begin_62 : decode cX3_begin 62 = .ok (.invokevirtual 38, 3) := by decide +kernel
theorem dX3_begin_65 : decode cX3_begin 65 = .ok (.iload 4, 2) := by decide +kernel
theorem dX3_begin_67 : decode cX3_begin 67 = .ok (.ireturn, 1) := by decide +kernel
theorem dX3_count_0 : decode cX3_count 0 = .ok (.iload_n 1, 1) := by decide +kernel
theorem dX3_count_1 : decode cX3_count 1 = .ok (.ifCond .lt 9, 3) := by decide +kernel
theorem dX3_count_4 : decode cX3_count 4 = .ok (.iload_n 1, 1) := by decide +kernel
theorem dX3_count_5 : decode cX3_count 5 = .ok (.bipush 9, 2) := by decide +kernel
theorem dX3_count_7 : decode cX3_count 7 = .ok (.if_icmp .lt 8, 3) := by decide +kernel
theorem dX3_count_10 : decode cX3_count 10 = .ok (.bipush (-3), 2) := by decide +kernel
theorem dX3_count_12 : decode cX3_count 12 = .ok (.goto 11, 3) := by decide +kernel
theorem dX3_count_15 : decode cX3_count 15 = .ok (.aload_n 0, 1) := by decide +kernel
theorem dX3_count_16 : decode cX3_count 16 = .ok (.getfield 12, 3) := by decide +kernel
theorem dX3_count_19 : decode cX3_count 19 = .ok (.iload_n 1, 1) := by decide +kernel
theorem dX3_count_20 : decode cX3_count 20 = .ok (.invokevirtual 42, 3) := by decide +kernel
theorem dX3_count_23 : decode cX3_count 23 = .ok (.ireturn, 1) := by decide +kernel
theorem dX3_setCode_0 : decode cX3_setCode 0 = .ok (.aload_n 0, 1) := by decide +kernel
theorem dX3_setCode_1 : decode cX3_setCode 1 = .ok (.getfield 12, 3) := by decide +kernel
theorem dX3_setCode_4 : decode cX3_setCode 4 = .ok (.iload_n 1, 1) := by decide +kernel
theorem dX3_setCode_5 : decode cX3_setCode 5 = .ok (.invokevirtual 46, 3) := by decide +kernel
theorem dX3_setCode_8 : decode cX3_setCode 8 = .ok (.ifCond .ne 6, 3) := by decide +kernel
theorem dX3_setCode_11 : decode cX3_setCode 11 = .ok (.bipush (-2), 2) := by decide +kernel
theorem dX3_setCode_13 : decode cX3_setCode 13 = .ok (.ireturn, 1) := by decide +kernel
theorem dX3_setCode_14 : decode cX3_setCode 14 = .ok (.iload_n 2, 1) := by decide +kernel
theorem dX3_setCode_15 : decode cX3_setCode 15 = .ok (.ifCond .lt 9, 3) := by decide +kernel
theorem dX3_setCode_18 : decode cX3_setCode 18 = .ok (.iload_n 2, 1) := by decide +kernel
theorem dX3_setCode_19 : decode cX3_setCode 19 = .ok (.bipush 16, 2) := by decide +kernel
theorem dX3_setCode_21 : decode cX3_setCode 21 = .ok (.if_icmp .lt 6, 3) := by decide +kernel
theorem dX3_setCode_24 : decode cX3_setCode 24 = .ok (.bipush (-3), 2) := by decide +kernel
theorem dX3_setCode_26 : decode cX3_setCode 26 = .ok (.ireturn, 1) := by decide +kernel
theorem dX3_setCode_27 : decode cX3_setCode 27 = .ok (.aload_n 0, 1) := by decide +kernel
theorem dX3_setCode_28 : decode cX3_setCode 28 = .ok (.getfield 12, 3) := by decide +kernel
theorem dX3_setCode_31 : decode cX3_setCode 31 = .ok (.iload_n 2, 1) := by decide +kernel
theorem dX3_setCode_32 : decode cX3_setCode 32 = .ok (.invokevirtual 50, 3) := by decide +kernel
theorem dX3_setCode_35 : decode cX3_setCode 35 = .ok (.istore_n 3, 1) := by decide +kernel
theorem dX3_setCode_36 : decode cX3_setCode 36 = .ok (.iload_n 3, 1) := by decide +kernel
theorem dX3_setCode_37 : decode cX3_setCode 37 = .ok (.iconst (-1), 1) := by decide +kernel
theorem dX3_setCode_38 : decode cX3_setCode 38 = .ok (.if_icmp .eq 11, 3) := by decide +kernel
theorem dX3_setCode_41 : decode cX3_setCode 41 = .ok (.iload_n 3, 1) := by decide +kernel
theorem dX3_setCode_42 : decode cX3_setCode 42 = .ok (.iload_n 1, 1) := by decide +kernel
theorem dX3_setCode_43 : decode cX3_setCode 43 = .ok (.if_icmp .eq 6, 3) := by decide +kernel
theorem dX3_setCode_46 : decode cX3_setCode 46 = .ok (.bipush (-4), 2) := by decide +kernel
theorem dX3_setCode_48 : decode cX3_setCode 48 = .ok (.ireturn, 1) := by decide +kernel
theorem dX3_setCode_49 : decode cX3_setCode 49 = .ok (.aload_n 0, 1) := by decide +kernel
theorem dX3_setCode_50 : decode cX3_setCode 50 = .ok (.getfield 12, 3) := by decide +kernel
theorem dX3_setCode_53 : decode cX3_setCode 53 = .ok (.iload_n 1, 1) := by decide +kernel
theorem dX3_setCode_54 : decode cX3_setCode 54 = .ok (.invokevirtual 53, 3) := by decide +kernel
theorem dX3_setCode_57 : decode cX3_setCode 57 = .ok (.istore 4, 2) := by decide +kernel
theorem dX3_setCode_59 : decode cX3_setCode 59 = .ok (.aload_n 0, 1) := by decide +kernel
theorem dX3_setCode_60 : decode cX3_setCode 60 = .ok (.getfield 19, 3) := by decide +kernel
theorem dX3_setCode_63 : decode cX3_setCode 63 = .ok (.aload_n 0, 1) := by decide +kernel
theorem dX3_setCode_64 : decode cX3_setCode 64 = .ok (.getfield 12, 3) := by decide +kernel
theorem dX3_setCode_67 : decode cX3_setCode 67 = .ok (.invokevirtual 34, 3) := by decide +kernel
theorem dX3_setCode_70 : decode cX3_setCode 70 = .ok (.aload_n 0, 1) := by decide +kernel
theorem dX3_setCode_71 : decode cX3_setCode 71 = .ok (.getfield 12, 3) := by decide +kernel
theorem dX3_setCode_74 : decode cX3_setCode 74 = .ok (.iload_n 1, 1) := by decide +kernel
theorem dX3_setCode_75 : decode cX3_setCode 75 = .ok (.iload_n 2, 1) := by decide +kernel
theorem dX3_setCode_76 : decode cX3_setCode 76 = .ok (.invokevirtual 56, 3) := by decide +kernel
theorem dX3_setCode_79 : decode cX3_setCode 79 = .ok (.iload 4, 2) := by decide +kernel
theorem dX3_setCode_81 : decode cX3_setCode 81 = .ok (.ireturn, 1) := by decide +kernel
theorem dX3_code_0 : decode cX3_code 0 = .ok (.aload_n 0, 1) := by decide +kernel
theorem dX3_code_1 : decode cX3_code 1 = .ok (.getfield 12, 3) := by decide +kernel
theorem dX3_code_4 : decode cX3_code 4 = .ok (.iload_n 1, 1) := by decide +kernel
theorem dX3_code_5 : decode cX3_code 5 = .ok (.invokevirtual 46, 3) := by decide +kernel
theorem dX3_code_8 : decode cX3_code 8 = .ok (.ifCond .eq 14, 3) := by decide +kernel
theorem dX3_code_11 : decode cX3_code 11 = .ok (.aload_n 0, 1) := by decide +kernel
theorem dX3_code_12 : decode cX3_code 12 = .ok (.getfield 12, 3) := by decide +kernel
theorem dX3_code_15 : decode cX3_code 15 = .ok (.iload_n 1, 1) := by decide +kernel
theorem dX3_code_16 : decode cX3_code 16 = .ok (.invokevirtual 53, 3) := by decide +kernel
theorem dX3_code_19 : decode cX3_code 19 = .ok (.goto 5, 3) := by decide +kernel
theorem dX3_code_22 : decode cX3_code 22 = .ok (.bipush (-2), 2) := by decide +kernel
theorem dX3_code_24 : decode cX3_code 24 = .ok (.ireturn, 1) := by decide +kernel
theorem dX3_weave_0 : decode cX3_weave 0 = .ok (.aload_n 0, 1) := by decide +kernel
theorem dX3_weave_1 : decode cX3_weave 1 = .ok (.getfield 12, 3) := by decide +kernel
theorem dX3_weave_4 : decode cX3_weave 4 = .ok (.iload_n 1, 1) := by decide +kernel
theorem dX3_weave_5 : decode cX3_weave 5 = .ok (.invokevirtual 60, 3) := by decide +kernel
theorem dX3_weave_8 : decode cX3_weave 8 = .ok (.ifCond .ne 6, 3) := by decide +kernel
theorem dX3_weave_11 : decode cX3_weave 11 = .ok (.bipush (-2), 2) := by decide +kernel
theorem dX3_weave_13 : decode cX3_weave 13 = .ok (.ireturn, 1) := by decide +kernel
theorem dX3_weave_14 : decode cX3_weave 14 = .ok (.aload_n 0, 1) := by decide +kernel
theorem dX3_weave_15 : decode cX3_weave 15 = .ok (.getfield 12, 3) := by decide +kernel
theorem dX3_weave_18 : decode cX3_weave 18 = .ok (.iload_n 2, 1) := by decide +kernel
theorem dX3_weave_19 : decode cX3_weave 19 = .ok (.invokevirtual 63, 3) := by decide +kernel
theorem dX3_weave_22 : decode cX3_weave 22 = .ok (.ifCond .ne 6, 3) := by decide +kernel
theorem dX3_weave_25 : decode cX3_weave 25 = .ok (.bipush (-3), 2) := by decide +kernel
theorem dX3_weave_27 : decode cX3_weave 27 = .ok (.ireturn, 1) := by decide +kernel
theorem dX3_weave_28 : decode cX3_weave 28 = .ok (.aload_n 0, 1) := by decide +kernel
theorem dX3_weave_29 : decode cX3_weave 29 = .ok (.getfield 12, 3) := by decide +kernel
theorem dX3_weave_32 : decode cX3_weave 32 = .ok (.iload_n 1, 1) := by decide +kernel
theorem dX3_weave_33 : decode cX3_weave 33 = .ok (.invokevirtual 66, 3) := by decide +kernel
theorem dX3_weave_36 : decode cX3_weave 36 = .ok (.istore_n 3, 1) := by decide +kernel
theorem dX3_weave_37 : decode cX3_weave 37 = .ok (.aload_n 0, 1) := by decide +kernel
theorem dX3_weave_38 : decode cX3_weave 38 = .ok (.getfield 19, 3) := by decide +kernel
theorem dX3_weave_41 : decode cX3_weave 41 = .ok (.aload_n 0, 1) := by decide +kernel
theorem dX3_weave_42 : decode cX3_weave 42 = .ok (.getfield 12, 3) := by decide +kernel
theorem dX3_weave_45 : decode cX3_weave 45 = .ok (.invokevirtual 34, 3) := by decide +kernel
theorem dX3_weave_48 : decode cX3_weave 48 = .ok (.aload_n 0, 1) := by decide +kernel
theorem dX3_weave_49 : decode cX3_weave 49 = .ok (.getfield 12, 3) := by decide +kernel
theorem dX3_weave_52 : decode cX3_weave 52 = .ok (.iload_n 1, 1) := by decide +kernel
theorem dX3_weave_53 : decode cX3_weave 53 = .ok (.iload_n 2, 1) := by decide +kernel
theorem dX3_weave_54 : decode cX3_weave 54 = .ok (.invokevirtual 69, 3) := by decide +kernel
theorem dX3_weave_57 : decode cX3_weave 57 = .ok (.iload_n 3, 1) := by decide +kernel
theorem dX3_weave_58 : decode cX3_weave 58 = .ok (.ireturn, 1) := by decide +kernel
theorem dX3_word_0 : decode cX3_word 0 = .ok (.aload_n 0, 1) := by decide +kernel
theorem dX3_word_1 : decode cX3_word 1 = .ok (.getfield 12, 3) := by decide +kernel
theorem dX3_word_4 : decode cX3_word 4 = .ok (.iload_n 1, 1) := by decide +kernel
theorem dX3_word_5 : decode cX3_word 5 = .ok (.invokevirtual 60, 3) := by decide +kernel
theorem dX3_word_8 : decode cX3_word 8 = .ok (.ifCond .eq 14, 3) := by decide +kernel
theorem dX3_word_11 : decode cX3_word 11 = .ok (.aload_n 0, 1) := by decide +kernel
theorem dX3_word_12 : decode cX3_word 12 = .ok (.getfield 12, 3) := by decide +kernel
theorem dX3_word_15 : decode cX3_word 15 = .ok (.iload_n 1, 1) := by decide +kernel
theorem dX3_word_16 : decode cX3_word 16 = .ok (.invokevirtual 66, 3) := by decide +kernel
theorem dX3_word_19 : decode cX3_word 19 = .ok (.goto 5, 3) := by decide +kernel
theorem dX3_word_22 : decode cX3_word 22 = .ok (.bipush (-2), 2) := by decide +kernel
theorem dX3_word_24 : decode cX3_word 24 = .ok (.ireturn, 1) := by decide +kernel
theorem dX3_cross_0 : decode cX3_cross 0 = .ok (.aload_n 0, 1) := by decide +kernel
theorem dX3_cross_1 : decode cX3_cross 1 = .ok (.getfield 12, 3) := by decide +kernel
theorem dX3_cross_4 : decode cX3_cross 4 = .ok (.iload_n 1, 1) := by decide +kernel
theorem dX3_cross_5 : decode cX3_cross 5 = .ok (.invokevirtual 72, 3) := by decide +kernel
theorem dX3_cross_8 : decode cX3_cross 8 = .ok (.ifCond .ne 6, 3) := by decide +kernel
theorem dX3_cross_11 : decode cX3_cross 11 = .ok (.bipush (-2), 2) := by decide +kernel
theorem dX3_cross_13 : decode cX3_cross 13 = .ok (.ireturn, 1) := by decide +kernel
theorem dX3_cross_14 : decode cX3_cross 14 = .ok (.iload_n 1, 1) := by decide +kernel
theorem dX3_cross_15 : decode cX3_cross 15 = .ok (.bipush 8, 2) := by decide +kernel
theorem dX3_cross_17 : decode cX3_cross 17 = .ok (.if_icmp .ge 6, 3) := by decide +kernel
theorem dX3_cross_20 : decode cX3_cross 20 = .ok (.bipush (-4), 2) := by decide +kernel
theorem dX3_cross_22 : decode cX3_cross 22 = .ok (.ireturn, 1) := by decide +kernel
theorem dX3_cross_23 : decode cX3_cross 23 = .ok (.aload_n 0, 1) := by decide +kernel
theorem dX3_cross_24 : decode cX3_cross 24 = .ok (.getfield 19, 3) := by decide +kernel
theorem dX3_cross_27 : decode cX3_cross 27 = .ok (.aload_n 0, 1) := by decide +kernel
theorem dX3_cross_28 : decode cX3_cross 28 = .ok (.getfield 12, 3) := by decide +kernel
theorem dX3_cross_31 : decode cX3_cross 31 = .ok (.invokevirtual 34, 3) := by decide +kernel
theorem dX3_cross_34 : decode cX3_cross 34 = .ok (.aload_n 0, 1) := by decide +kernel
theorem dX3_cross_35 : decode cX3_cross 35 = .ok (.getfield 12, 3) := by decide +kernel
theorem dX3_cross_38 : decode cX3_cross 38 = .ok (.iload_n 1, 1) := by decide +kernel
theorem dX3_cross_39 : decode cX3_cross 39 = .ok (.invokevirtual 75, 3) := by decide +kernel
theorem dX3_cross_42 : decode cX3_cross 42 = .ok (.ireturn, 1) := by decide +kernel
theorem dX3_through_0 : decode cX3_through 0 = .ok (.aload_n 0, 1) := by decide +kernel
theorem dX3_through_1 : decode cX3_through 1 = .ok (.getfield 12, 3) := by decide +kernel
theorem dX3_through_4 : decode cX3_through 4 = .ok (.iload_n 1, 1) := by decide +kernel
theorem dX3_through_5 : decode cX3_through 5 = .ok (.invokevirtual 72, 3) := by decide +kernel
theorem dX3_through_8 : decode cX3_through 8 = .ok (.ifCond .eq 14, 3) := by decide +kernel
theorem dX3_through_11 : decode cX3_through 11 = .ok (.aload_n 0, 1) := by decide +kernel
theorem dX3_through_12 : decode cX3_through 12 = .ok (.getfield 12, 3) := by decide +kernel
theorem dX3_through_15 : decode cX3_through 15 = .ok (.iload_n 2, 1) := by decide +kernel
theorem dX3_through_16 : decode cX3_through 16 = .ok (.invokevirtual 46, 3) := by decide +kernel
theorem dX3_through_19 : decode cX3_through 19 = .ok (.ifCond .ne 6, 3) := by decide +kernel
theorem dX3_through_22 : decode cX3_through 22 = .ok (.bipush (-2), 2) := by decide +kernel
theorem dX3_through_24 : decode cX3_through 24 = .ok (.ireturn, 1) := by decide +kernel
theorem dX3_through_25 : decode cX3_through 25 = .ok (.aload_n 0, 1) := by decide +kernel
theorem dX3_through_26 : decode cX3_through 26 = .ok (.getfield 12, 3) := by decide +kernel
theorem dX3_through_29 : decode cX3_through 29 = .ok (.iload_n 1, 1) := by decide +kernel
theorem dX3_through_30 : decode cX3_through 30 = .ok (.iload_n 2, 1) := by decide +kernel
theorem dX3_through_31 : decode cX3_through 31 = .ok (.invokevirtual 78, 3) := by decide +kernel
theorem dX3_through_34 : decode cX3_through 34 = .ok (.ireturn, 1) := by decide +kernel
theorem dX3_cost_0 : decode cX3_cost 0 = .ok (.aload_n 0, 1) := by decide +kernel
theorem dX3_cost_1 : decode cX3_cost 1 = .ok (.getfield 12, 3) := by decide +kernel
theorem dX3_cost_4 : decode cX3_cost 4 = .ok (.iload_n 1, 1) := by decide +kernel
theorem dX3_cost_5 : decode cX3_cost 5 = .ok (.invokevirtual 72, 3) := by decide +kernel
theorem dX3_cost_8 : decode cX3_cost 8 = .ok (.ifCond .eq 14, 3) := by decide +kernel
theorem dX3_cost_11 : decode cX3_cost 11 = .ok (.aload_n 0, 1) := by decide +kernel
theorem dX3_cost_12 : decode cX3_cost 12 = .ok (.getfield 12, 3) := by decide +kernel
theorem dX3_cost_15 : decode cX3_cost 15 = .ok (.iload_n 1, 1) := by decide +kernel
theorem dX3_cost_16 : decode cX3_cost 16 = .ok (.invokevirtual 82, 3) := by decide +kernel
theorem dX3_cost_19 : decode cX3_cost 19 = .ok (.goto 5, 3) := by decide +kernel
theorem dX3_cost_22 : decode cX3_cost 22 = .ok (.bipush (-2), 2) := by decide +kernel
theorem dX3_cost_24 : decode cX3_cost 24 = .ok (.ireturn, 1) := by decide +kernel
theorem dX3_economize_0 : decode cX3_economize 0 = .ok (.aload_n 0, 1) := by decide +kernel
theorem dX3_economize_1 : decode cX3_economize 1 = .ok (.getfield 19, 3) := by decide +kernel
theorem dX3_economize_4 : decode cX3_economize 4 = .ok (.aload_n 0, 1) := by decide +kernel
theorem dX3_economize_5 : decode cX3_economize 5 = .ok (.getfield 12, 3) := by decide +kernel
theorem dX3_economize_8 : decode cX3_economize 8 = .ok (.invokevirtual 34, 3) := by decide +kernel
theorem dX3_economize_11 : decode cX3_economize 11 = .ok (.aload_n 0, 1) := by decide +kernel
theorem dX3_economize_12 : decode cX3_economize 12 = .ok (.getfield 12, 3) := by decide +kernel
theorem dX3_economize_15 : decode cX3_economize 15 = .ok (.invokevirtual 85, 3) := by decide +kernel
theorem dX3_economize_18 : decode cX3_economize 18 = .ok (.ireturn, 1) := by decide +kernel
theorem dX3_picked_0 : decode cX3_picked 0 = .ok (.iload_n 1, 1) := by decide +kernel
theorem dX3_picked_1 : decode cX3_picked 1 = .ok (.ifCond .lt 9, 3) := by decide +kernel
theorem dX3_picked_4 : decode cX3_picked 4 = .ok (.iload_n 1, 1) := by decide +kernel
theorem dX3_picked_5 : decode cX3_picked 5 = .ok (.bipush 16, 2) := by decide +kernel
theorem dX3_picked_7 : decode cX3_picked 7 = .ok (.if_icmp .lt 8, 3) := by decide +kernel
theorem dX3_picked_10 : decode cX3_picked 10 = .ok (.bipush (-3), 2) := by decide +kernel
theorem dX3_picked_12 : decode cX3_picked 12 = .ok (.goto 11, 3) := by decide +kernel
theorem dX3_picked_15 : decode cX3_picked 15 = .ok (.aload_n 0, 1) := by decide +kernel
theorem dX3_picked_16 : decode cX3_picked 16 = .ok (.getfield 12, 3) := by decide +kernel
theorem dX3_picked_19 : decode cX3_picked 19 = .ok (.iload_n 1, 1) := by decide +kernel
theorem dX3_picked_20 : decode cX3_picked 20 = .ok (.invokevirtual 88, 3) := by decide +kernel
theorem dX3_picked_23 : decode cX3_picked 23 = .ok (.ireturn, 1) := by decide +kernel
theorem dX3_read_0 : decode cX3_read 0 = .ok (.aload_n 0, 1) := by decide +kernel
theorem dX3_read_1 : decode cX3_read 1 = .ok (.getfield 12, 3) := by decide +kernel
theorem dX3_read_4 : decode cX3_read 4 = .ok (.iload_n 1, 1) := by decide +kernel
theorem dX3_read_5 : decode cX3_read 5 = .ok (.invokevirtual 60, 3) := by decide +kernel
theorem dX3_read_8 : decode cX3_read 8 = .ok (.ifCond .eq 14, 3) := by decide +kernel
theorem dX3_read_11 : decode cX3_read 11 = .ok (.aload_n 0, 1) := by decide +kernel
theorem dX3_read_12 : decode cX3_read 12 = .ok (.getfield 12, 3) := by decide +kernel
theorem dX3_read_15 : decode cX3_read 15 = .ok (.iload_n 1, 1) := by decide +kernel
theorem dX3_read_16 : decode cX3_read 16 = .ok (.invokevirtual 91, 3) := by decide +kernel
theorem dX3_read_19 : decode cX3_read 19 = .ok (.goto 5, 3) := by decide +kernel
theorem dX3_read_22 : decode cX3_read 22 = .ok (.bipush (-2), 2) := by decide +kernel
theorem dX3_read_24 : decode cX3_read 24 = .ok (.ireturn, 1) := by decide +kernel
theorem dX3_readRaw_0 : decode cX3_readRaw 0 = .ok (.aload_n 0, 1) := by decide +kernel
theorem dX3_readRaw_1 : decode cX3_readRaw 1 = .ok (.getfield 12, 3) := by decide +kernel
theorem dX3_readRaw_4 : decode cX3_readRaw 4 = .ok (.iload_n 1, 1) := by decide +kernel
theorem dX3_readRaw_5 : decode cX3_readRaw 5 = .ok (.invokevirtual 60, 3) := by decide +kernel
theorem dX3_readRaw_8 : decode cX3_readRaw 8 = .ok (.ifCond .eq 14, 3) := by decide +kernel
theorem dX3_readRaw_11 : decode cX3_readRaw 11 = .ok (.aload_n 0, 1) := by decide +kernel
theorem dX3_readRaw_12 : decode cX3_readRaw 12 = .ok (.getfield 12, 3) := by decide +kernel
theorem dX3_readRaw_15 : decode cX3_readRaw 15 = .ok (.iload_n 1, 1) := by decide +kernel
theorem dX3_readRaw_16 : decode cX3_readRaw 16 = .ok (.invokevirtual 94, 3) := by decide +kernel
theorem dX3_readRaw_19 : decode cX3_readRaw 19 = .ok (.goto 5, 3) := by decide +kernel
theorem dX3_readRaw_22 : decode cX3_readRaw 22 = .ok (.bipush (-2), 2) := by decide +kernel
theorem dX3_readRaw_24 : decode cX3_readRaw 24 = .ok (.ireturn, 1) := by decide +kernel
theorem dX3_parity_0 : decode cX3_parity 0 = .ok (.aload_n 0, 1) := by decide +kernel
theorem dX3_parity_1 : decode cX3_parity 1 = .ok (.getfield 12, 3) := by decide +kernel
theorem dX3_parity_4 : decode cX3_parity 4 = .ok (.iload_n 1, 1) := by decide +kernel
theorem dX3_parity_5 : decode cX3_parity 5 = .ok (.invokevirtual 60, 3) := by decide +kernel
theorem dX3_parity_8 : decode cX3_parity 8 = .ok (.ifCond .ne 6, 3) := by decide +kernel
theorem dX3_parity_11 : decode cX3_parity 11 = .ok (.bipush (-2), 2) := by decide +kernel
theorem dX3_parity_13 : decode cX3_parity 13 = .ok (.ireturn, 1) := by decide +kernel
theorem dX3_parity_14 : decode cX3_parity 14 = .ok (.aload_n 0, 1) := by decide +kernel
theorem dX3_parity_15 : decode cX3_parity 15 = .ok (.getfield 12, 3) := by decide +kernel
theorem dX3_parity_18 : decode cX3_parity 18 = .ok (.iload_n 1, 1) := by decide +kernel
theorem dX3_parity_19 : decode cX3_parity 19 = .ok (.invokevirtual 97, 3) := by decide +kernel
theorem dX3_parity_22 : decode cX3_parity 22 = .ok (.ifCond .eq 7, 3) := by decide +kernel
theorem dX3_parity_25 : decode cX3_parity 25 = .ok (.iconst 1, 1) := by decide +kernel
theorem dX3_parity_26 : decode cX3_parity 26 = .ok (.goto 4, 3) := by decide +kernel
theorem dX3_parity_29 : decode cX3_parity 29 = .ok (.iconst 0, 1) := by decide +kernel
theorem dX3_parity_30 : decode cX3_parity 30 = .ok (.ireturn, 1) := by decide +kernel
theorem dX3_wrong_0 : decode cX3_wrong 0 = .ok (.iload_n 1, 1) := by decide +kernel
theorem dX3_wrong_1 : decode cX3_wrong 1 = .ok (.ifCond .lt 8, 3) := by decide +kernel
theorem dX3_wrong_4 : decode cX3_wrong 4 = .ok (.iload_n 1, 1) := by decide +kernel
theorem dX3_wrong_5 : decode cX3_wrong 5 = .ok (.iconst 4, 1) := by decide +kernel
theorem dX3_wrong_6 : decode cX3_wrong 6 = .ok (.if_icmp .lt 8, 3) := by decide +kernel
theorem dX3_wrong_9 : decode cX3_wrong 9 = .ok (.bipush (-3), 2) := by decide +kernel
theorem dX3_wrong_11 : decode cX3_wrong 11 = .ok (.goto 11, 3) := by decide +kernel
theorem dX3_wrong_14 : decode cX3_wrong 14 = .ok (.aload_n 0, 1) := by decide +kernel
theorem dX3_wrong_15 : decode cX3_wrong 15 = .ok (.getfield 12, 3) := by decide +kernel
theorem dX3_wrong_18 : decode cX3_wrong 18 = .ok (.iload_n 1, 1) := by decide +kernel
theorem dX3_wrong_19 : decode cX3_wrong 19 = .ok (.invokevirtual 100, 3) := by decide +kernel
theorem dX3_wrong_22 : decode cX3_wrong 22 = .ok (.ireturn, 1) := by decide +kernel
theorem dX3_spoil_0 : decode cX3_spoil 0 = .ok (.aload_n 0, 1) := by decide +kernel
theorem dX3_spoil_1 : decode cX3_spoil 1 = .ok (.getfield 12, 3) := by decide +kernel
theorem dX3_spoil_4 : decode cX3_spoil 4 = .ok (.iload_n 1, 1) := by decide +kernel
theorem dX3_spoil_5 : decode cX3_spoil 5 = .ok (.invokevirtual 72, 3) := by decide +kernel
theorem dX3_spoil_8 : decode cX3_spoil 8 = .ok (.ifCond .eq 14, 3) := by decide +kernel
theorem dX3_spoil_11 : decode cX3_spoil 11 = .ok (.aload_n 0, 1) := by decide +kernel
theorem dX3_spoil_12 : decode cX3_spoil 12 = .ok (.getfield 12, 3) := by decide +kernel
theorem dX3_spoil_15 : decode cX3_spoil 15 = .ok (.iload_n 2, 1) := by decide +kernel
theorem dX3_spoil_16 : decode cX3_spoil 16 = .ok (.invokevirtual 46, 3) := by decide +kernel
theorem dX3_spoil_19 : decode cX3_spoil 19 = .ok (.ifCond .ne 6, 3) := by decide +kernel
theorem dX3_spoil_22 : decode cX3_spoil 22 = .ok (.bipush (-2), 2) := by decide +kernel
theorem dX3_spoil_24 : decode cX3_spoil 24 = .ok (.ireturn, 1) := by decide +kernel
theorem dX3_spoil_25 : decode cX3_spoil 25 = .ok (.aload_n 0, 1) := by decide +kernel
theorem dX3_spoil_26 : decode cX3_spoil 26 = .ok (.getfield 19, 3) := by decide +kernel
theorem dX3_spoil_29 : decode cX3_spoil 29 = .ok (.aload_n 0, 1) := by decide +kernel
theorem dX3_spoil_30 : decode cX3_spoil 30 = .ok (.getfield 12, 3) := by decide +kernel
theorem dX3_spoil_33 : decode cX3_spoil 33 = .ok (.invokevirtual 34, 3) := by decide +kernel
theorem dX3_spoil_36 : decode cX3_spoil 36 = .ok (.aload_n 0, 1) := by decide +kernel
theorem dX3_spoil_37 : decode cX3_spoil 37 = .ok (.getfield 12, 3) := by decide +kernel
theorem dX3_spoil_40 : decode cX3_spoil 40 = .ok (.iload_n 1, 1) := by decide +kernel
theorem dX3_spoil_41 : decode cX3_spoil 41 = .ok (.iload_n 2, 1) := by decide +kernel
theorem dX3_spoil_42 : decode cX3_spoil 42 = .ok (.invokevirtual 103, 3) := by decide +kernel
theorem dX3_spoil_45 : decode cX3_spoil 45 = .ok (.ireturn, 1) := by decide +kernel
theorem dX3_explains_0 : decode cX3_explains 0 = .ok (.iload_n 1, 1) := by decide +kernel
theorem dX3_explains_1 : decode cX3_explains 1 = .ok (.ifCond .ge 8, 3) := by decide +kernel
theorem dX3_explains_4 : decode cX3_explains 4 = .ok (.bipush (-3), 2) := by decide +kernel
theorem dX3_explains_6 : decode cX3_explains 6 = .ok (.goto 11, 3) := by decide +kernel
theorem dX3_explains_9 : decode cX3_explains 9 = .ok (.aload_n 0, 1) := by decide +kernel
theorem dX3_explains_10 : decode cX3_explains 10 = .ok (.getfield 12, 3) := by decide +kernel
theorem dX3_explains_13 : decode cX3_explains 13 = .ok (.iload_n 1, 1) := by decide +kernel
theorem dX3_explains_14 : decode cX3_explains 14 = .ok (.invokevirtual 106, 3) := by decide +kernel
theorem dX3_explains_17 : decode cX3_explains 17 = .ok (.ireturn, 1) := by decide +kernel
theorem dX3_patch_0 : decode cX3_patch 0 = .ok (.aload_n 0, 1) := by decide +kernel
theorem dX3_patch_1 : decode cX3_patch 1 = .ok (.getfield 12, 3) := by decide +kernel
theorem dX3_patch_4 : decode cX3_patch 4 = .ok (.iload_n 1, 1) := by decide +kernel
theorem dX3_patch_5 : decode cX3_patch 5 = .ok (.invokevirtual 60, 3) := by decide +kernel
theorem dX3_patch_8 : decode cX3_patch 8 = .ok (.ifCond .ne 6, 3) := by decide +kernel
theorem dX3_patch_11 : decode cX3_patch 11 = .ok (.bipush (-2), 2) := by decide +kernel
theorem dX3_patch_13 : decode cX3_patch 13 = .ok (.ireturn, 1) := by decide +kernel
theorem dX3_patch_14 : decode cX3_patch 14 = .ok (.aload_n 0, 1) := by decide +kernel
theorem dX3_patch_15 : decode cX3_patch 15 = .ok (.getfield 12, 3) := by decide +kernel
theorem dX3_patch_18 : decode cX3_patch 18 = .ok (.iload_n 2, 1) := by decide +kernel
theorem dX3_patch_19 : decode cX3_patch 19 = .ok (.invokevirtual 63, 3) := by decide +kernel
theorem dX3_patch_22 : decode cX3_patch 22 = .ok (.ifCond .ne 6, 3) := by decide +kernel
theorem dX3_patch_25 : decode cX3_patch 25 = .ok (.bipush (-3), 2) := by decide +kernel
theorem dX3_patch_27 : decode cX3_patch 27 = .ok (.ireturn, 1) := by decide +kernel
theorem dX3_patch_28 : decode cX3_patch 28 = .ok (.aload_n 0, 1) := by decide +kernel
theorem dX3_patch_29 : decode cX3_patch 29 = .ok (.getfield 12, 3) := by decide +kernel
theorem dX3_patch_32 : decode cX3_patch 32 = .ok (.iload_n 1, 1) := by decide +kernel
theorem dX3_patch_33 : decode cX3_patch 33 = .ok (.invokevirtual 109, 3) := by decide +kernel
theorem dX3_patch_36 : decode cX3_patch 36 = .ok (.iconst (-1), 1) := by decide +kernel
theorem dX3_patch_37 : decode cX3_patch 37 = .ok (.if_icmp .ne 17, 3) := by decide +kernel
theorem dX3_patch_40 : decode cX3_patch 40 = .ok (.aload_n 0, 1) := by decide +kernel
theorem dX3_patch_41 : decode cX3_patch 41 = .ok (.getfield 12, 3) := by decide +kernel
theorem dX3_patch_44 : decode cX3_patch 44 = .ok (.invokevirtual 112, 3) := by decide +kernel
theorem dX3_patch_47 : decode cX3_patch 47 = .ok (.iconst 4, 1) := by decide +kernel
theorem dX3_patch_48 : decode cX3_patch 48 = .ok (.if_icmp .lt 6, 3) := by decide +kernel
theorem dX3_patch_51 : decode cX3_patch 51 = .ok (.bipush (-5), 2) := by decide +kernel
theorem dX3_patch_53 : decode cX3_patch 53 = .ok (.ireturn, 1) := by decide +kernel
theorem dX3_patch_54 : decode cX3_patch 54 = .ok (.aload_n 0, 1) := by decide +kernel
theorem dX3_patch_55 : decode cX3_patch 55 = .ok (.getfield 19, 3) := by decide +kernel
theorem dX3_patch_58 : decode cX3_patch 58 = .ok (.aload_n 0, 1) := by decide +kernel
theorem dX3_patch_59 : decode cX3_patch 59 = .ok (.getfield 12, 3) := by decide +kernel
theorem dX3_patch_62 : decode cX3_patch 62 = .ok (.invokevirtual 34, 3) := by decide +kernel
theorem dX3_patch_65 : decode cX3_patch 65 = .ok (.aload_n 0, 1) := by decide +kernel
theorem dX3_patch_66 : decode cX3_patch 66 = .ok (.getfield 12, 3) := by decide +kernel
theorem dX3_patch_69 : decode cX3_patch 69 = .ok (.iload_n 1, 1) := by decide +kernel
theorem dX3_patch_70 : decode cX3_patch 70 = .ok (.iload_n 2, 1) := by decide +kernel
theorem dX3_patch_71 : decode cX3_patch 71 = .ok (.invokevirtual 115, 3) := by decide +kernel
theorem dX3_patch_74 : decode cX3_patch 74 = .ok (.aload_n 0, 1) := by decide +kernel
theorem dX3_patch_75 : decode cX3_patch 75 = .ok (.getfield 12, 3) := by decide +kernel
theorem dX3_patch_78 : decode cX3_patch 78 = .ok (.invokevirtual 112, 3) := by decide +kernel
theorem dX3_patch_81 : decode cX3_patch 81 = .ok (.ireturn, 1) := by decide +kernel
theorem dX3_unpatch_0 : decode cX3_unpatch 0 = .ok (.aload_n 0, 1) := by decide +kernel
theorem dX3_unpatch_1 : decode cX3_unpatch 1 = .ok (.getfield 12, 3) := by decide +kernel
theorem dX3_unpatch_4 : decode cX3_unpatch 4 = .ok (.iload_n 1, 1) := by decide +kernel
theorem dX3_unpatch_5 : decode cX3_unpatch 5 = .ok (.invokevirtual 60, 3) := by decide +kernel
theorem dX3_unpatch_8 : decode cX3_unpatch 8 = .ok (.ifCond .ne 6, 3) := by decide +kernel
theorem dX3_unpatch_11 : decode cX3_unpatch 11 = .ok (.bipush (-2), 2) := by decide +kernel
theorem dX3_unpatch_13 : decode cX3_unpatch 13 = .ok (.ireturn, 1) := by decide +kernel
theorem dX3_unpatch_14 : decode cX3_unpatch 14 = .ok (.aload_n 0, 1) := by decide +kernel
theorem dX3_unpatch_15 : decode cX3_unpatch 15 = .ok (.getfield 12, 3) := by decide +kernel
theorem dX3_unpatch_18 : decode cX3_unpatch 18 = .ok (.iload_n 1, 1) := by decide +kernel
theorem dX3_unpatch_19 : decode cX3_unpatch 19 = .ok (.invokevirtual 109, 3) := by decide +kernel
theorem dX3_unpatch_22 : decode cX3_unpatch 22 = .ok (.iconst (-1), 1) := by decide +kernel
theorem dX3_unpatch_23 : decode cX3_unpatch 23 = .ok (.if_icmp .ne 6, 3) := by decide +kernel
theorem dX3_unpatch_26 : decode cX3_unpatch 26 = .ok (.bipush (-4), 2) := by decide +kernel
theorem dX3_unpatch_28 : decode cX3_unpatch 28 = .ok (.ireturn, 1) := by decide +kernel
theorem dX3_unpatch_29 : decode cX3_unpatch 29 = .ok (.aload_n 0, 1) := by decide +kernel
theorem dX3_unpatch_30 : decode cX3_unpatch 30 = .ok (.getfield 19, 3) := by decide +kernel
theorem dX3_unpatch_33 : decode cX3_unpatch 33 = .ok (.aload_n 0, 1) := by decide +kernel
theorem dX3_unpatch_34 : decode cX3_unpatch 34 = .ok (.getfield 12, 3) := by decide +kernel
theorem dX3_unpatch_37 : decode cX3_unpatch 37 = .ok (.invokevirtual 34, 3) := by decide +kernel
theorem dX3_unpatch_40 : decode cX3_unpatch 40 = .ok (.aload_n 0, 1) := by decide +kernel
theorem dX3_unpatch_41 : decode cX3_unpatch 41 = .ok (.getfield 12, 3) := by decide +kernel
theorem dX3_unpatch_44 : decode cX3_unpatch 44 = .ok (.iload_n 1, 1) := by decide +kernel
theorem dX3_unpatch_45 : decode cX3_unpatch 45 = .ok (.iconst (-1), 1) := by decide +kernel
theorem dX3_unpatch_46 : decode cX3_unpatch 46 = .ok (.invokevirtual 115, 3) := by decide +kernel
theorem dX3_unpatch_49 : decode cX3_unpatch 49 = .ok (.aload_n 0, 1) := by decide +kernel
theorem dX3_unpatch_50 : decode cX3_unpatch 50 = .ok (.getfield 12, 3) := by decide +kernel
theorem dX3_unpatch_53 : decode cX3_unpatch 53 = .ok (.invokevirtual 112, 3) := by decide +kernel
theorem dX3_unpatch_56 : decode cX3_unpatch 56 = .ok (.ireturn, 1) := by decide +kernel
theorem dX3_patchAll_0 : decode cX3_patchAll 0 = .ok (.aload_n 0, 1) := by decide +kernel
theorem dX3_patchAll_1 : decode cX3_patchAll 1 = .ok (.getfield 19, 3) := by decide +kernel
theorem dX3_patchAll_4 : decode cX3_patchAll 4 = .ok (.aload_n 0, 1) := by decide +kernel
theorem dX3_patchAll_5 : decode cX3_patchAll 5 = .ok (.getfield 12, 3) := by decide +kernel
theorem dX3_patchAll_8 : decode cX3_patchAll 8 = .ok (.invokevirtual 34, 3) := by decide +kernel
theorem dX3_patchAll_11 : decode cX3_patchAll 11 = .ok (.aload_n 0, 1) := by decide +kernel
theorem dX3_patchAll_12 : decode cX3_patchAll 12 = .ok (.getfield 12, 3) := by decide +kernel
theorem dX3_patchAll_15 : decode cX3_patchAll 15 = .ok (.invokevirtual 118, 3) := by decide +kernel
theorem dX3_patchAll_18 : decode cX3_patchAll 18 = .ok (.aload_n 0, 1) := by decide +kernel
theorem dX3_patchAll_19 : decode cX3_patchAll 19 = .ok (.getfield 12, 3) := by decide +kernel
theorem dX3_patchAll_22 : decode cX3_patchAll 22 = .ok (.invokevirtual 121, 3) := by decide +kernel
theorem dX3_patchAll_25 : decode cX3_patchAll 25 = .ok (.aload_n 0, 1) := by decide +kernel
theorem dX3_patchAll_26 : decode cX3_patchAll 26 = .ok (.getfield 12, 3) := by decide +kernel
theorem dX3_patchAll_29 : decode cX3_patchAll 29 = .ok (.iconst 0, 1) := by decide +kernel
theorem dX3_patchAll_30 : decode cX3_patchAll 30 = .ok (.invokevirtual 100, 3) := by decide +kernel
theorem dX3_patchAll_33 : decode cX3_patchAll 33 = .ok (.ireturn, 1) := by decide +kernel
theorem dX3_patchOf_0 : decode cX3_patchOf 0 = .ok (.aload_n 0, 1) := by decide +kernel
theorem dX3_patchOf_1 : decode cX3_patchOf 1 = .ok (.getfield 12, 3) := by decide +kernel
theorem dX3_patchOf_4 : decode cX3_patchOf 4 = .ok (.iload_n 1, 1) := by decide +kernel
theorem dX3_patchOf_5 : decode cX3_patchOf 5 = .ok (.invokevirtual 60, 3) := by decide +kernel
theorem dX3_patchOf_8 : decode cX3_patchOf 8 = .ok (.ifCond .eq 14, 3) := by decide +kernel
theorem dX3_patchOf_11 : decode cX3_patchOf 11 = .ok (.aload_n 0, 1) := by decide +kernel
theorem dX3_patchOf_12 : decode cX3_patchOf 12 = .ok (.getfield 12, 3) := by decide +kernel
theorem dX3_patchOf_15 : decode cX3_patchOf 15 = .ok (.iload_n 1, 1) := by decide +kernel
theorem dX3_patchOf_16 : decode cX3_patchOf 16 = .ok (.invokevirtual 109, 3) := by decide +kernel
theorem dX3_patchOf_19 : decode cX3_patchOf 19 = .ok (.goto 5, 3) := by decide +kernel
theorem dX3_patchOf_22 : decode cX3_patchOf 22 = .ok (.bipush (-2), 2) := by decide +kernel
theorem dX3_patchOf_24 : decode cX3_patchOf 24 = .ok (.ireturn, 1) := by decide +kernel
theorem dX3_undo_0 : decode cX3_undo 0 = .ok (.aload_n 0, 1) := by decide +kernel
theorem dX3_undo_1 : decode cX3_undo 1 = .ok (.getfield 19, 3) := by decide +kernel
theorem dX3_undo_4 : decode cX3_undo 4 = .ok (.invokevirtual 124, 3) := by decide +kernel
theorem dX3_undo_7 : decode cX3_undo 7 = .ok (.ifCond .eq 8, 3) := by decide +kernel
theorem dX3_undo_10 : decode cX3_undo 10 = .ok (.bipush (-4), 2) := by decide +kernel
theorem dX3_undo_12 : decode cX3_undo 12 = .ok (.goto 14, 3) := by decide +kernel
theorem dX3_undo_15 : decode cX3_undo 15 = .ok (.aload_n 0, 1) := by decide +kernel
theorem dX3_undo_16 : decode cX3_undo 16 = .ok (.getfield 19, 3) := by decide +kernel
theorem dX3_undo_19 : decode cX3_undo 19 = .ok (.aload_n 0, 1) := by decide +kernel
theorem dX3_undo_20 : decode cX3_undo 20 = .ok (.getfield 12, 3) := by decide +kernel
theorem dX3_undo_23 : decode cX3_undo 23 = .ok (.invokevirtual 128, 3) := by decide +kernel
theorem dX3_undo_26 : decode cX3_undo 26 = .ok (.ireturn, 1) := by decide +kernel
theorem dX3_type_0 : decode cX3_type 0 = .ok (.iload_n 1, 1) := by decide +kernel
theorem dX3_type_1 : decode cX3_type 1 = .ok (.ifCond .lt 10, 3) := by decide +kernel
theorem dX3_type_4 : decode cX3_type 4 = .ok (.iload_n 1, 1) := by decide +kernel
theorem dX3_type_5 : decode cX3_type 5 = .ok (.sipush 256, 3) := by decide +kernel
theorem dX3_type_8 : decode cX3_type 8 = .ok (.if_icmp .lt 6, 3) := by decide +kernel
theorem dX3_type_11 : decode cX3_type 11 = .ok (.bipush (-3), 2) := by decide +kernel
theorem dX3_type_13 : decode cX3_type 13 = .ok (.ireturn, 1) := by decide +kernel
theorem dX3_type_14 : decode cX3_type 14 = .ok (.aload_n 0, 1) := by decide +kernel
theorem dX3_type_15 : decode cX3_type 15 = .ok (.getfield 26, 3) := by decide +kernel
theorem dX3_type_18 : decode cX3_type 18 = .ok (.invokevirtual 132, 3) := by decide +kernel
theorem dX3_type_21 : decode cX3_type 21 = .ok (.ifCond .eq 8, 3) := by decide +kernel
theorem dX3_type_24 : decode cX3_type 24 = .ok (.bipush (-5), 2) := by decide +kernel
theorem dX3_type_26 : decode cX3_type 26 = .ok (.goto 11, 3) := by decide +kernel
theorem dX3_type_29 : decode cX3_type 29 = .ok (.aload_n 0, 1) := by decide +kernel
theorem dX3_type_30 : decode cX3_type 30 = .ok (.getfield 26, 3) := by decide +kernel
theorem dX3_type_33 : decode cX3_type 33 = .ok (.iload_n 1, 1) := by decide +kernel
theorem dX3_type_34 : decode cX3_type 34 = .ok (.invokevirtual 135, 3) := by decide +kernel
theorem dX3_type_37 : decode cX3_type 37 = .ok (.ireturn, 1) := by decide +kernel
theorem dX3_clearText_0 : decode cX3_clearText 0 = .ok (.aload_n 0, 1) := by decide +kernel
theorem dX3_clearText_1 : decode cX3_clearText 1 = .ok (.getfield 26, 3) := by decide +kernel
theorem dX3_clearText_4 : decode cX3_clearText 4 = .ok (.invokevirtual 138, 3) := by decide +kernel
theorem dX3_clearText_7 : decode cX3_clearText 7 = .ok (.ireturn, 1) := by decide +kernel
theorem dX3_textFault_0 : decode cX3_textFault 0 = .ok (.aload_n 0, 1) := by decide +kernel
end
section
theorem dX3_textFault_1 : decode cX3_textFault 1 = .ok (.getfield 26, 3) := by decide +kernel
theorem dX3_textFault_4 : decode cX3_textFault 4 = .ok (.aload_n 0, 1) := by decide +kernel
theorem dX3_textFault_5 : decode cX3_textFault 5 = .ok (.getfield 12, 3) := by decide +kernel
theorem dX3_textFault_8 : decode cX3_textFault 8 = .ok (.invokevirtual 30, 3) := by decide +kernel
theorem dX3_textFault_11 : decode cX3_textFault 11 = .ok (.aload_n 0, 1) := by decide +kernel
theorem dX3_textFault_12 : decode cX3_textFault 12 = .ok (.getfield 12, 3) := by decide +kernel
theorem dX3_textFault_15 : decode cX3_textFault 15 = .ok (.invokevirtual 141, 3) := by decide +kernel
theorem dX3_textFault_18 : decode cX3_textFault 18 = .ok (.invokevirtual 144, 3) := by decide +kernel
theorem dX3_textFault_21 : decode cX3_textFault 21 = .ok (.ireturn, 1) := by decide +kernel
theorem dX3_load_0 : decode cX3_load 0 = .ok (.aload_n 0, 1) := by decide +kernel
theorem dX3_load_1 : decode cX3_load 1 = .ok (.getfield 26, 3) := by decide +kernel
theorem dX3_load_4 : decode cX3_load 4 = .ok (.aload_n 0, 1) := by decide +kernel
theorem dX3_load_5 : decode cX3_load 5 = .ok (.getfield 12, 3) := by decide +kernel
theorem dX3_load_8 : decode cX3_load 8 = .ok (.invokevirtual 30, 3) := by decide +kernel
theorem dX3_load_11 : decode cX3_load 11 = .ok (.aload_n 0, 1) := by decide +kernel
theorem dX3_load_12 : decode cX3_load 12 = .ok (.getfield 12, 3) := by decide +kernel
theorem dX3_load_15 : decode cX3_load 15 = .ok (.invokevirtual 141, 3) := by decide +kernel
theorem dX3_load_18 : decode cX3_load 18 = .ok (.invokevirtual 144, 3) := by decide +kernel
theorem dX3_load_21 : decode cX3_load 21 = .ok (.iconst (-1), 1) := by decide +kernel
theorem dX3_load_22 : decode cX3_load 22 = .ok (.if_icmp .eq 6, 3) := by decide +kernel
theorem dX3_load_25 : decode cX3_load 25 = .ok (.bipush (-4), 2) := by decide +kernel
theorem dX3_load_27 : decode cX3_load 27 = .ok (.ireturn, 1) := by decide +kernel
theorem dX3_load_28 : decode cX3_load 28 = .ok (.aload_n 0, 1) := by decide +kernel
theorem dX3_load_29 : decode cX3_load 29 = .ok (.getfield 19, 3) := by decide +kernel
theorem dX3_load_32 : decode cX3_load 32 = .ok (.aload_n 0, 1) := by decide +kernel
theorem dX3_load_33 : decode cX3_load 33 = .ok (.getfield 12, 3) := by decide +kernel
theorem dX3_load_36 : decode cX3_load 36 = .ok (.invokevirtual 34, 3) := by decide +kernel
theorem dX3_load_39 : decode cX3_load 39 = .ok (.aload_n 0, 1) := by decide +kernel
theorem dX3_load_40 : decode cX3_load 40 = .ok (.getfield 26, 3) := by decide +kernel
theorem dX3_load_43 : decode cX3_load 43 = .ok (.invokevirtual 147, 3) := by decide +kernel
theorem dX3_load_46 : decode cX3_load 46 = .ok (.istore_n 1, 1) := by decide +kernel
theorem dX3_load_47 : decode cX3_load 47 = .ok (.iconst 0, 1) := by decide +kernel
theorem dX3_load_48 : decode cX3_load 48 = .ok (.istore_n 2, 1) := by decide +kernel
theorem dX3_load_49 : decode cX3_load 49 = .ok (.iload_n 2, 1) := by decide +kernel
theorem dX3_load_50 : decode cX3_load 50 = .ok (.iload_n 1, 1) := by decide +kernel
theorem dX3_load_51 : decode cX3_load 51 = .ok (.if_icmp .ge 25, 3) := by decide +kernel
theorem dX3_load_54 : decode cX3_load 54 = .ok (.aload_n 0, 1) := by decide +kernel
theorem dX3_load_55 : decode cX3_load 55 = .ok (.getfield 12, 3) := by decide +kernel
theorem dX3_load_58 : decode cX3_load 58 = .ok (.iload_n 2, 1) := by decide +kernel
theorem dX3_load_59 : decode cX3_load 59 = .ok (.aload_n 0, 1) := by decide +kernel
theorem dX3_load_60 : decode cX3_load 60 = .ok (.getfield 26, 3) := by decide +kernel
theorem dX3_load_63 : decode cX3_load 63 = .ok (.iload_n 2, 1) := by decide +kernel
theorem dX3_load_64 : decode cX3_load 64 = .ok (.invokevirtual 150, 3) := by decide +kernel
theorem dX3_load_67 : decode cX3_load 67 = .ok (.invokevirtual 69, 3) := by decide +kernel
theorem dX3_load_70 : decode cX3_load 70 = .ok (.iinc 2 1, 3) := by decide +kernel
theorem dX3_load_73 : decode cX3_load 73 = .ok (.goto (-24), 3) := by decide +kernel
theorem dX3_load_76 : decode cX3_load 76 = .ok (.iload_n 1, 1) := by decide +kernel
theorem dX3_load_77 : decode cX3_load 77 = .ok (.ireturn, 1) := by decide +kernel
theorem dX3_digest_0 : decode cX3_digest 0 = .ok (.aload_n 0, 1) := by decide +kernel
theorem dX3_digest_1 : decode cX3_digest 1 = .ok (.getfield 12, 3) := by decide +kernel
theorem dX3_digest_4 : decode cX3_digest 4 = .ok (.invokevirtual 153, 3) := by decide +kernel
theorem dX3_digest_7 : decode cX3_digest 7 = .ok (.lreturn, 1) := by decide +kernel
theorem dJ6_bitCount_0f7a4_0 : decode cJ6_bitCount_0f7a4 0 = .ok (.iload_n 0, 1) := by decide +kernel
theorem dJ6_bitCount_0f7a4_1 : decode cJ6_bitCount_0f7a4 1 = .ok (.iload_n 0, 1) := by decide +kernel
theorem dJ6_bitCount_0f7a4_2 : decode cJ6_bitCount_0f7a4 2 = .ok (.iconst 1, 1) := by decide +kernel
theorem dJ6_bitCount_0f7a4_3 : decode cJ6_bitCount_0f7a4 3 = .ok (.iushr, 1) := by decide +kernel
theorem dJ6_bitCount_0f7a4_4 : decode cJ6_bitCount_0f7a4 4 = .ok (.ldc_w 265, 3) := by decide +kernel
theorem dJ6_bitCount_0f7a4_7 : decode cJ6_bitCount_0f7a4 7 = .ok (.iand, 1) := by decide +kernel
theorem dJ6_bitCount_0f7a4_8 : decode cJ6_bitCount_0f7a4 8 = .ok (.isub, 1) := by decide +kernel
theorem dJ6_bitCount_0f7a4_9 : decode cJ6_bitCount_0f7a4 9 = .ok (.istore_n 0, 1) := by decide +kernel
theorem dJ6_bitCount_0f7a4_10 : decode cJ6_bitCount_0f7a4 10 = .ok (.iload_n 0, 1) := by decide +kernel
theorem dJ6_bitCount_0f7a4_11 : decode cJ6_bitCount_0f7a4 11 = .ok (.ldc_w 266, 3) := by decide +kernel
theorem dJ6_bitCount_0f7a4_14 : decode cJ6_bitCount_0f7a4 14 = .ok (.iand, 1) := by decide +kernel
theorem dJ6_bitCount_0f7a4_15 : decode cJ6_bitCount_0f7a4 15 = .ok (.iload_n 0, 1) := by decide +kernel
theorem dJ6_bitCount_0f7a4_16 : decode cJ6_bitCount_0f7a4 16 = .ok (.iconst 2, 1) := by decide +kernel
theorem dJ6_bitCount_0f7a4_17 : decode cJ6_bitCount_0f7a4 17 = .ok (.iushr, 1) := by decide +kernel
theorem dJ6_bitCount_0f7a4_18 : decode cJ6_bitCount_0f7a4 18 = .ok (.ldc_w 266, 3) := by decide +kernel
theorem dJ6_bitCount_0f7a4_21 : decode cJ6_bitCount_0f7a4 21 = .ok (.iand, 1) := by decide +kernel
theorem dJ6_bitCount_0f7a4_22 : decode cJ6_bitCount_0f7a4 22 = .ok (.iadd, 1) := by decide +kernel
theorem dJ6_bitCount_0f7a4_23 : decode cJ6_bitCount_0f7a4 23 = .ok (.istore_n 0, 1) := by decide +kernel
theorem dJ6_bitCount_0f7a4_24 : decode cJ6_bitCount_0f7a4 24 = .ok (.iload_n 0, 1) := by decide +kernel
theorem dJ6_bitCount_0f7a4_25 : decode cJ6_bitCount_0f7a4 25 = .ok (.iload_n 0, 1) := by decide +kernel
theorem dJ6_bitCount_0f7a4_26 : decode cJ6_bitCount_0f7a4 26 = .ok (.iconst 4, 1) := by decide +kernel
theorem dJ6_bitCount_0f7a4_27 : decode cJ6_bitCount_0f7a4 27 = .ok (.iushr, 1) := by decide +kernel
theorem dJ6_bitCount_0f7a4_28 : decode cJ6_bitCount_0f7a4 28 = .ok (.iadd, 1) := by decide +kernel
theorem dJ6_bitCount_0f7a4_29 : decode cJ6_bitCount_0f7a4 29 = .ok (.ldc_w 267, 3) := by decide +kernel
theorem dJ6_bitCount_0f7a4_32 : decode cJ6_bitCount_0f7a4 32 = .ok (.iand, 1) := by decide +kernel
theorem dJ6_bitCount_0f7a4_33 : decode cJ6_bitCount_0f7a4 33 = .ok (.istore_n 0, 1) := by decide +kernel
theorem dJ6_bitCount_0f7a4_34 : decode cJ6_bitCount_0f7a4 34 = .ok (.iload_n 0, 1) := by decide +kernel
theorem dJ6_bitCount_0f7a4_35 : decode cJ6_bitCount_0f7a4 35 = .ok (.iload_n 0, 1) := by decide +kernel
theorem dJ6_bitCount_0f7a4_36 : decode cJ6_bitCount_0f7a4 36 = .ok (.bipush 8, 2) := by decide +kernel
theorem dJ6_bitCount_0f7a4_38 : decode cJ6_bitCount_0f7a4 38 = .ok (.iushr, 1) := by decide +kernel
theorem dJ6_bitCount_0f7a4_39 : decode cJ6_bitCount_0f7a4 39 = .ok (.iadd, 1) := by decide +kernel
theorem dJ6_bitCount_0f7a4_40 : decode cJ6_bitCount_0f7a4 40 = .ok (.istore_n 0, 1) := by decide +kernel
theorem dJ6_bitCount_0f7a4_41 : decode cJ6_bitCount_0f7a4 41 = .ok (.iload_n 0, 1) := by decide +kernel
theorem dJ6_bitCount_0f7a4_42 : decode cJ6_bitCount_0f7a4 42 = .ok (.iload_n 0, 1) := by decide +kernel
theorem dJ6_bitCount_0f7a4_43 : decode cJ6_bitCount_0f7a4 43 = .ok (.bipush 16, 2) := by decide +kernel
theorem dJ6_bitCount_0f7a4_45 : decode cJ6_bitCount_0f7a4 45 = .ok (.iushr, 1) := by decide +kernel
theorem dJ6_bitCount_0f7a4_46 : decode cJ6_bitCount_0f7a4 46 = .ok (.iadd, 1) := by decide +kernel
theorem dJ6_bitCount_0f7a4_47 : decode cJ6_bitCount_0f7a4 47 = .ok (.istore_n 0, 1) := by decide +kernel
theorem dJ6_bitCount_0f7a4_48 : decode cJ6_bitCount_0f7a4 48 = .ok (.iload_n 0, 1) := by decide +kernel
theorem dJ6_bitCount_0f7a4_49 : decode cJ6_bitCount_0f7a4 49 = .ok (.bipush 63, 2) := by decide +kernel
theorem dJ6_bitCount_0f7a4_51 : decode cJ6_bitCount_0f7a4 51 = .ok (.iand, 1) := by decide +kernel
theorem dJ6_bitCount_0f7a4_52 : decode cJ6_bitCount_0f7a4 52 = .ok (.ireturn, 1) := by decide +kernel
end
section
theorem dL_law_0 : decode cL_law 0 = .ok (.new 7, 3) := by decide +kernel
theorem dL_law_3 : decode cL_law 3 = .ok (.dup, 1) := by decide +kernel
theorem dL_law_4 : decode cL_law 4 = .ok (.invokespecial 9, 3) := by decide +kernel
theorem dL_law_7 : decode cL_law 7 = .ok (.astore_n 1, 1) := by decide +kernel
theorem dL_law_8 : decode cL_law 8 = .ok (.new 10, 3) := by decide +kernel
theorem dL_law_11 : decode cL_law 11 = .ok (.dup, 1) := by decide +kernel
theorem dL_law_12 : decode cL_law 12 = .ok (.invokespecial 12, 3) := by decide +kernel
theorem dL_law_15 : decode cL_law 15 = .ok (.astore_n 2, 1) := by decide +kernel
theorem dL_law_16 : decode cL_law 16 = .ok (.iconst 0, 1) := by decide +kernel
theorem dL_law_17 : decode cL_law 17 = .ok (.istore_n 3, 1) := by decide +kernel
theorem dL_law_18 : decode cL_law 18 = .ok (.iload_n 3, 1) := by decide +kernel
theorem dL_law_19 : decode cL_law 19 = .ok (.aload_n 0, 1) := by decide +kernel
theorem dL_law_20 : decode cL_law 20 = .ok (.arraylength, 1) := by decide +kernel
theorem dL_law_21 : decode cL_law 21 = .ok (.iconst 4, 1) := by decide +kernel
theorem dL_law_22 : decode cL_law 22 = .ok (.isub, 1) := by decide +kernel
theorem dL_law_23 : decode cL_law 23 = .ok (.if_icmp .gt 761, 3) := by decide +kernel
theorem dL_law_26 : decode cL_law 26 = .ok (.aload_n 0, 1) := by decide +kernel
theorem dL_law_27 : decode cL_law 27 = .ok (.iload_n 3, 1) := by decide +kernel
theorem dL_law_28 : decode cL_law 28 = .ok (.iaload, 1) := by decide +kernel
theorem dL_law_29 : decode cL_law 29 = .ok (.bipush 31, 2) := by decide +kernel
theorem dL_law_31 : decode cL_law 31 = .ok (.iand, 1) := by decide +kernel
theorem dL_law_32 : decode cL_law 32 = .ok (.tableswitch 746 0 26 #[124, 167, 190, 223, 246, 279, 302, 325, 358, 381, 394, 417, 440, 463, 486, 509, 542, 565, 598, 621, 634, 657, 670, 693, 706, 719, 732], 124) := by decide +kernel
theorem dL_law_156 : decode cL_law 156 = .ok (.aload_n 1, 1) := by decide +kernel
theorem dL_law_157 : decode cL_law 157 = .ok (.aload_n 0, 1) := by decide +kernel
theorem dL_law_158 : decode cL_law 158 = .ok (.iload_n 3, 1) := by decide +kernel
theorem dL_law_159 : decode cL_law 159 = .ok (.iconst 1, 1) := by decide +kernel
theorem dL_law_160 : decode cL_law 160 = .ok (.iadd, 1) := by decide +kernel
theorem dL_law_161 : decode cL_law 161 = .ok (.iaload, 1) := by decide +kernel
theorem dL_law_162 : decode cL_law 162 = .ok (.aload_n 0, 1) := by decide +kernel
theorem dL_law_163 : decode cL_law 163 = .ok (.iload_n 3, 1) := by decide +kernel
theorem dL_law_164 : decode cL_law 164 = .ok (.iconst 2, 1) := by decide +kernel
theorem dL_law_165 : decode cL_law 165 = .ok (.iadd, 1) := by decide +kernel
theorem dL_law_166 : decode cL_law 166 = .ok (.iaload, 1) := by decide +kernel
theorem dL_law_167 : decode cL_law 167 = .ok (.aload_n 0, 1) := by decide +kernel
theorem dL_law_168 : decode cL_law 168 = .ok (.iload_n 3, 1) := by decide +kernel
theorem dL_law_169 : decode cL_law 169 = .ok (.iconst 3, 1) := by decide +kernel
theorem dL_law_170 : decode cL_law 170 = .ok (.iadd, 1) := by decide +kernel
theorem dL_law_171 : decode cL_law 171 = .ok (.iaload, 1) := by decide +kernel
theorem dL_law_172 : decode cL_law 172 = .ok (.invokevirtual 13, 3) := by decide +kernel
theorem dL_law_175 : decode cL_law 175 = .ok (.aload_n 2, 1) := by decide +kernel
theorem dL_law_176 : decode cL_law 176 = .ok (.aload_n 0, 1) := by decide +kernel
theorem dL_law_177 : decode cL_law 177 = .ok (.iload_n 3, 1) := by decide +kernel
theorem dL_law_178 : decode cL_law 178 = .ok (.iconst 1, 1) := by decide +kernel
theorem dL_law_179 : decode cL_law 179 = .ok (.iadd, 1) := by decide +kernel
theorem dL_law_180 : decode cL_law 180 = .ok (.iaload, 1) := by decide +kernel
theorem dL_law_181 : decode cL_law 181 = .ok (.aload_n 0, 1) := by decide +kernel
theorem dL_law_182 : decode cL_law 182 = .ok (.iload_n 3, 1) := by decide +kernel
theorem dL_law_183 : decode cL_law 183 = .ok (.iconst 2, 1) := by decide +kernel
theorem dL_law_184 : decode cL_law 184 = .ok (.iadd, 1) := by decide +kernel
theorem dL_law_185 : decode cL_law 185 = .ok (.iaload, 1) := by decide +kernel
theorem dL_law_186 : decode cL_law 186 = .ok (.aload_n 0, 1) := by decide +kernel
theorem dL_law_187 : decode cL_law 187 = .ok (.iload_n 3, 1) := by decide +kernel
theorem dL_law_188 : decode cL_law 188 = .ok (.iconst 3, 1) := by decide +kernel
theorem dL_law_189 : decode cL_law 189 = .ok (.iadd, 1) := by decide +kernel
theorem dL_law_190 : decode cL_law 190 = .ok (.iaload, 1) := by decide +kernel
theorem dL_law_191 : decode cL_law 191 = .ok (.invokevirtual 17, 3) := by decide +kernel
theorem dL_law_194 : decode cL_law 194 = .ok (.if_icmp .eq 584, 3) := by decide +kernel
theorem dL_law_197 : decode cL_law 197 = .ok (.iconst 0, 1) := by decide +kernel
theorem dL_law_198 : decode cL_law 198 = .ok (.ireturn, 1) := by decide +kernel
theorem dL_law_199 : decode cL_law 199 = .ok (.aload_n 1, 1) := by decide +kernel
theorem dL_law_200 : decode cL_law 200 = .ok (.aload_n 0, 1) := by decide +kernel
theorem dL_law_201 : decode cL_law 201 = .ok (.iload_n 3, 1) := by decide +kernel
theorem dL_law_202 : decode cL_law 202 = .ok (.iconst 1, 1) := by decide +kernel
theorem dL_law_203 : decode cL_law 203 = .ok (.iadd, 1) := by decide +kernel
theorem dL_law_204 : decode cL_law 204 = .ok (.iaload, 1) := by decide +kernel
theorem dL_law_205 : decode cL_law 205 = .ok (.invokevirtual 18, 3) := by decide +kernel
theorem dL_law_208 : decode cL_law 208 = .ok (.aload_n 2, 1) := by decide +kernel
theorem dL_law_209 : decode cL_law 209 = .ok (.aload_n 0, 1) := by decide +kernel
theorem dL_law_210 : decode cL_law 210 = .ok (.iload_n 3, 1) := by decide +kernel
theorem dL_law_211 : decode cL_law 211 = .ok (.iconst 1, 1) := by decide +kernel
theorem dL_law_212 : decode cL_law 212 = .ok (.iadd, 1) := by decide +kernel
theorem dL_law_213 : decode cL_law 213 = .ok (.iaload, 1) := by decide +kernel
theorem dL_law_214 : decode cL_law 214 = .ok (.invokevirtual 22, 3) := by decide +kernel
theorem dL_law_217 : decode cL_law 217 = .ok (.if_icmp .eq 561, 3) := by decide +kernel
theorem dL_law_220 : decode cL_law 220 = .ok (.iconst 0, 1) := by decide +kernel
theorem dL_law_221 : decode cL_law 221 = .ok (.ireturn, 1) := by decide +kernel
theorem dL_law_222 : decode cL_law 222 = .ok (.aload_n 1, 1) := by decide +kernel
theorem dL_law_223 : decode cL_law 223 = .ok (.aload_n 0, 1) := by decide +kernel
theorem dL_law_224 : decode cL_law 224 = .ok (.iload_n 3, 1) := by decide +kernel
theorem dL_law_225 : decode cL_law 225 = .ok (.iconst 1, 1) := by decide +kernel
theorem dL_law_226 : decode cL_law 226 = .ok (.iadd, 1) := by decide +kernel
theorem dL_law_227 : decode cL_law 227 = .ok (.iaload, 1) := by decide +kernel
theorem dL_law_228 : decode cL_law 228 = .ok (.aload_n 0, 1) := by decide +kernel
theorem dL_law_229 : decode cL_law 229 = .ok (.iload_n 3, 1) := by decide +kernel
theorem dL_law_230 : decode cL_law 230 = .ok (.iconst 2, 1) := by decide +kernel
theorem dL_law_231 : decode cL_law 231 = .ok (.iadd, 1) := by decide +kernel
theorem dL_law_232 : decode cL_law 232 = .ok (.iaload, 1) := by decide +kernel
theorem dL_law_233 : decode cL_law 233 = .ok (.invokevirtual 23, 3) := by decide +kernel
theorem dL_law_236 : decode cL_law 236 = .ok (.aload_n 2, 1) := by decide +kernel
theorem dL_law_237 : decode cL_law 237 = .ok (.aload_n 0, 1) := by decide +kernel
theorem dL_law_238 : decode cL_law 238 = .ok (.iload_n 3, 1) := by decide +kernel
theorem dL_law_239 : decode cL_law 239 = .ok (.iconst 1, 1) := by decide +kernel
theorem dL_law_240 : decode cL_law 240 = .ok (.iadd, 1) := by decide +kernel
theorem dL_law_241 : decode cL_law 241 = .ok (.iaload, 1) := by decide +kernel
theorem dL_law_242 : decode cL_law 242 = .ok (.aload_n 0, 1) := by decide +kernel
theorem dL_law_243 : decode cL_law 243 = .ok (.iload_n 3, 1) := by decide +kernel
theorem dL_law_244 : decode cL_law 244 = .ok (.iconst 2, 1) := by decide +kernel
theorem dL_law_245 : decode cL_law 245 = .ok (.iadd, 1) := by decide +kernel
theorem dL_law_246 : decode cL_law 246 = .ok (.iaload, 1) := by decide +kernel
theorem dL_law_247 : decode cL_law 247 = .ok (.invokevirtual 27, 3) := by decide +kernel
theorem dL_law_250 : decode cL_law 250 = .ok (.if_icmp .eq 528, 3) := by decide +kernel
theorem dL_law_253 : decode cL_law 253 = .ok (.iconst 0, 1) := by decide +kernel
theorem dL_law_254 : decode cL_law 254 = .ok (.ireturn, 1) := by decide +kernel
theorem dL_law_255 : decode cL_law 255 = .ok (.aload_n 1, 1) := by decide +kernel
theorem dL_law_256 : decode cL_law 256 = .ok (.aload_n 0, 1) := by decide +kernel
theorem dL_law_257 : decode cL_law 257 = .ok (.iload_n 3, 1) := by decide +kernel
theorem dL_law_258 : decode cL_law 258 = .ok (.iconst 1, 1) := by decide +kernel
theorem dL_law_259 : decode cL_law 259 = .ok (.iadd, 1) := by decide +kernel
theorem dL_law_260 : decode cL_law 260 = .ok (.iaload, 1) := by decide +kernel
theorem dL_law_261 : decode cL_law 261 = .ok (.invokevirtual 28, 3) := by decide +kernel
theorem dL_law_264 : decode cL_law 264 = .ok (.aload_n 2, 1) := by decide +kernel
theorem dL_law_265 : decode cL_law 265 = .ok (.aload_n 0, 1) := by decide +kernel
theorem dL_law_266 : decode cL_law 266 = .ok (.iload_n 3, 1) := by decide +kernel
theorem dL_law_267 : decode cL_law 267 = .ok (.iconst 1, 1) := by decide +kernel
theorem dL_law_268 : decode cL_law 268 = .ok (.iadd, 1) := by decide +kernel
theorem dL_law_269 : decode cL_law 269 = .ok (.iaload, 1) := by decide +kernel
theorem dL_law_270 : decode cL_law 270 = .ok (.invokevirtual 31, 3) := by decide +kernel
theorem dL_law_273 : decode cL_law 273 = .ok (.if_icmp .eq 505, 3) := by decide +kernel
theorem dL_law_276 : decode cL_law 276 = .ok (.iconst 0, 1) := by decide +kernel
theorem dL_law_277 : decode cL_law 277 = .ok (.ireturn, 1) := by decide +kernel
theorem dL_law_278 : decode cL_law 278 = .ok (.aload_n 1, 1) := by decide +kernel
theorem dL_law_279 : decode cL_law 279 = .ok (.aload_n 0, 1) := by decide +kernel
theorem dL_law_280 : decode cL_law 280 = .ok (.iload_n 3, 1) := by decide +kernel
theorem dL_law_281 : decode cL_law 281 = .ok (.iconst 1, 1) := by decide +kernel
theorem dL_law_282 : decode cL_law 282 = .ok (.iadd, 1) := by decide +kernel
theorem dL_law_283 : decode cL_law 283 = .ok (.iaload, 1) := by decide +kernel
theorem dL_law_284 : decode cL_law 284 = .ok (.aload_n 0, 1) := by decide +kernel
theorem dL_law_285 : decode cL_law 285 = .ok (.iload_n 3, 1) := by decide +kernel
theorem dL_law_286 : decode cL_law 286 = .ok (.iconst 2, 1) := by decide +kernel
theorem dL_law_287 : decode cL_law 287 = .ok (.iadd, 1) := by decide +kernel
theorem dL_law_288 : decode cL_law 288 = .ok (.iaload, 1) := by decide +kernel
theorem dL_law_289 : decode cL_law 289 = .ok (.invokevirtual 32, 3) := by decide +kernel
theorem dL_law_292 : decode cL_law 292 = .ok (.aload_n 2, 1) := by decide +kernel
theorem dL_law_293 : decode cL_law 293 = .ok (.aload_n 0, 1) := by decide +kernel
theorem dL_law_294 : decode cL_law 294 = .ok (.iload_n 3, 1) := by decide +kernel
theorem dL_law_295 : decode cL_law 295 = .ok (.iconst 1, 1) := by decide +kernel
theorem dL_law_296 : decode cL_law 296 = .ok (.iadd, 1) := by decide +kernel
theorem dL_law_297 : decode cL_law 297 = .ok (.iaload, 1) := by decide +kernel
theorem dL_law_298 : decode cL_law 298 = .ok (.aload_n 0, 1) := by decide +kernel
theorem dL_law_299 : decode cL_law 299 = .ok (.iload_n 3, 1) := by decide +kernel
theorem dL_law_300 : decode cL_law 300 = .ok (.iconst 2, 1) := by decide +kernel
theorem dL_law_301 : decode cL_law 301 = .ok (.iadd, 1) := by decide +kernel
theorem dL_law_302 : decode cL_law 302 = .ok (.iaload, 1) := by decide +kernel
theorem dL_law_303 : decode cL_law 303 = .ok (.invokevirtual 35, 3) := by decide +kernel
theorem dL_law_306 : decode cL_law 306 = .ok (.if_icmp .eq 472, 3) := by decide +kernel
theorem dL_law_309 : decode cL_law 309 = .ok (.iconst 0, 1) := by decide +kernel
theorem dL_law_310 : decode cL_law 310 = .ok (.ireturn, 1) := by decide +kernel
theorem dL_law_311 : decode cL_law 311 = .ok (.aload_n 1, 1) := by decide +kernel
theorem dL_law_312 : decode cL_law 312 = .ok (.aload_n 0, 1) := by decide +kernel
theorem dL_law_313 : decode cL_law 313 = .ok (.iload_n 3, 1) := by decide +kernel
theorem dL_law_314 : decode cL_law 314 = .ok (.iconst 1, 1) := by decide +kernel
theorem dL_law_315 : decode cL_law 315 = .ok (.iadd, 1) := by decide +kernel
theorem dL_law_316 : decode cL_law 316 = .ok (.iaload, 1) := by decide +kernel
theorem dL_law_317 : decode cL_law 317 = .ok (.invokevirtual 36, 3) := by decide +kernel
theorem dL_law_320 : decode cL_law 320 = .ok (.aload_n 2, 1) := by decide +kernel
theorem dL_law_321 : decode cL_law 321 = .ok (.aload_n 0, 1) := by decide +kernel
theorem dL_law_322 : decode cL_law 322 = .ok (.iload_n 3, 1) := by decide +kernel
theorem dL_law_323 : decode cL_law 323 = .ok (.iconst 1, 1) := by decide +kernel
theorem dL_law_324 : decode cL_law 324 = .ok (.iadd, 1) := by decide +kernel
theorem dL_law_325 : decode cL_law 325 = .ok (.iaload, 1) := by decide +kernel
theorem dL_law_326 : decode cL_law 326 = .ok (.invokevirtual 39, 3) := by decide +kernel
theorem dL_law_329 : decode cL_law 329 = .ok (.if_icmp .eq 449, 3) := by decide +kernel
theorem dL_law_332 : decode cL_law 332 = .ok (.iconst 0, 1) := by decide +kernel
theorem dL_law_333 : decode cL_law 333 = .ok (.ireturn, 1) := by decide +kernel
theorem dL_law_334 : decode cL_law 334 = .ok (.aload_n 1, 1) := by decide +kernel
theorem dL_law_335 : decode cL_law 335 = .ok (.aload_n 0, 1) := by decide +kernel
theorem dL_law_336 : decode cL_law 336 = .ok (.iload_n 3, 1) := by decide +kernel
theorem dL_law_337 : decode cL_law 337 = .ok (.iconst 1, 1) := by decide +kernel
theorem dL_law_338 : decode cL_law 338 = .ok (.iadd, 1) := by decide +kernel
theorem dL_law_339 : decode cL_law 339 = .ok (.iaload, 1) := by decide +kernel
theorem dL_law_340 : decode cL_law 340 = .ok (.invokevirtual 40, 3) := by decide +kernel
theorem dL_law_343 : decode cL_law 343 = .ok (.aload_n 2, 1) := by decide +kernel
theorem dL_law_344 : decode cL_law 344 = .ok (.aload_n 0, 1) := by decide +kernel
theorem dL_law_345 : decode cL_law 345 = .ok (.iload_n 3, 1) := by decide +kernel
theorem dL_law_346 : decode cL_law 346 = .ok (.iconst 1, 1) := by decide +kernel
theorem dL_law_347 : decode cL_law 347 = .ok (.iadd, 1) := by decide +kernel
theorem dL_law_348 : decode cL_law 348 = .ok (.iaload, 1) := by decide +kernel
theorem dL_law_349 : decode cL_law 349 = .ok (.invokevirtual 43, 3) := by decide +kernel
theorem dL_law_352 : decode cL_law 352 = .ok (.if_icmp .eq 426, 3) := by decide +kernel
theorem dL_law_355 : decode cL_law 355 = .ok (.iconst 0, 1) := by decide +kernel
theorem dL_law_356 : decode cL_law 356 = .ok (.ireturn, 1) := by decide +kernel
theorem dL_law_357 : decode cL_law 357 = .ok (.aload_n 1, 1) := by decide +kernel
theorem dL_law_358 : decode cL_law 358 = .ok (.aload_n 0, 1) := by decide +kernel
theorem dL_law_359 : decode cL_law 359 = .ok (.iload_n 3, 1) := by decide +kernel
theorem dL_law_360 : decode cL_law 360 = .ok (.iconst 1, 1) := by decide +kernel
theorem dL_law_361 : decode cL_law 361 = .ok (.iadd, 1) := by decide +kernel
theorem dL_law_362 : decode cL_law 362 = .ok (.iaload, 1) := by decide +kernel
theorem dL_law_363 : decode cL_law 363 = .ok (.aload_n 0, 1) := by decide +kernel
theorem dL_law_364 : decode cL_law 364 = .ok (.iload_n 3, 1) := by decide +kernel
theorem dL_law_365 : decode cL_law 365 = .ok (.iconst 2, 1) := by decide +kernel
theorem dL_law_366 : decode cL_law 366 = .ok (.iadd, 1) := by decide +kernel
theorem dL_law_367 : decode cL_law 367 = .ok (.iaload, 1) := by decide +kernel
theorem dL_law_368 : decode cL_law 368 = .ok (.invokevirtual 44, 3) := by decide +kernel
theorem dL_law_371 : decode cL_law 371 = .ok (.aload_n 2, 1) := by decide +kernel
theorem dL_law_372 : decode cL_law 372 = .ok (.aload_n 0, 1) := by decide +kernel
theorem dL_law_373 : decode cL_law 373 = .ok (.iload_n 3, 1) := by decide +kernel
theorem dL_law_374 : decode cL_law 374 = .ok (.iconst 1, 1) := by decide +kernel
theorem dL_law_375 : decode cL_law 375 = .ok (.iadd, 1) := by decide +kernel
theorem dL_law_376 : decode cL_law 376 = .ok (.iaload, 1) := by decide +kernel
theorem dL_law_377 : decode cL_law 377 = .ok (.aload_n 0, 1) := by decide +kernel
theorem dL_law_378 : decode cL_law 378 = .ok (.iload_n 3, 1) := by decide +kernel
theorem dL_law_379 : decode cL_law 379 = .ok (.iconst 2, 1) := by decide +kernel
theorem dL_law_380 : decode cL_law 380 = .ok (.iadd, 1) := by decide +kernel
theorem dL_law_381 : decode cL_law 381 = .ok (.iaload, 1) := by decide +kernel
theorem dL_law_382 : decode cL_law 382 = .ok (.invokevirtual 47, 3) := by decide +kernel
theorem dL_law_385 : decode cL_law 385 = .ok (.if_icmp .eq 393, 3) := by decide +kernel
theorem dL_law_388 : decode cL_law 388 = .ok (.iconst 0, 1) := by decide +kernel
theorem dL_law_389 : decode cL_law 389 = .ok (.ireturn, 1) := by decide +kernel
theorem dL_law_390 : decode cL_law 390 = .ok (.aload_n 1, 1) := by decide +kernel
theorem dL_law_391 : decode cL_law 391 = .ok (.aload_n 0, 1) := by decide +kernel
theorem dL_law_392 : decode cL_law 392 = .ok (.iload_n 3, 1) := by decide +kernel
theorem dL_law_393 : decode cL_law 393 = .ok (.iconst 1, 1) := by decide +kernel
theorem dL_law_394 : decode cL_law 394 = .ok (.iadd, 1) := by decide +kernel
theorem dL_law_395 : decode cL_law 395 = .ok (.iaload, 1) := by decide +kernel
theorem dL_law_396 : decode cL_law 396 = .ok (.invokevirtual 48, 3) := by decide +kernel
theorem dL_law_399 : decode cL_law 399 = .ok (.aload_n 2, 1) := by decide +kernel
theorem dL_law_400 : decode cL_law 400 = .ok (.aload_n 0, 1) := by decide +kernel
theorem dL_law_401 : decode cL_law 401 = .ok (.iload_n 3, 1) := by decide +kernel
theorem dL_law_402 : decode cL_law 402 = .ok (.iconst 1, 1) := by decide +kernel
theorem dL_law_403 : decode cL_law 403 = .ok (.iadd, 1) := by decide +kernel
theorem dL_law_404 : decode cL_law 404 = .ok (.iaload, 1) := by decide +kernel
theorem dL_law_405 : decode cL_law 405 = .ok (.invokevirtual 51, 3) := by decide +kernel
theorem dL_law_408 : decode cL_law 408 = .ok (.if_icmp .eq 370, 3) := by decide +kernel
theorem dL_law_411 : decode cL_law 411 = .ok (.iconst 0, 1) := by decide +kernel
theorem dL_law_412 : decode cL_law 412 = .ok (.ireturn, 1) := by decide +kernel
theorem dL_law_413 : decode cL_law 413 = .ok (.aload_n 1, 1) := by decide +kernel
theorem dL_law_414 : decode cL_law 414 = .ok (.invokevirtual 52, 3) := by decide +kernel
theorem dL_law_417 : decode cL_law 417 = .ok (.aload_n 2, 1) := by decide +kernel
theorem dL_law_418 : decode cL_law 418 = .ok (.invokevirtual 56, 3) := by decide +kernel
theorem dL_law_421 : decode cL_law 421 = .ok (.if_icmp .eq 357, 3) := by decide +kernel
theorem dL_law_424 : decode cL_law 424 = .ok (.iconst 0, 1) := by decide +kernel
theorem dL_law_425 : decode cL_law 425 = .ok (.ireturn, 1) := by decide +kernel
theorem dL_law_426 : decode cL_law 426 = .ok (.aload_n 1, 1) := by decide +kernel
theorem dL_law_427 : decode cL_law 427 = .ok (.aload_n 0, 1) := by decide +kernel
theorem dL_law_428 : decode cL_law 428 = .ok (.iload_n 3, 1) := by decide +kernel
theorem dL_law_429 : decode cL_law 429 = .ok (.iconst 1, 1) := by decide +kernel
theorem dL_law_430 : decode cL_law 430 = .ok (.iadd, 1) := by decide +kernel
theorem dL_law_431 : decode cL_law 431 = .ok (.iaload, 1) := by decide +kernel
theorem dL_law_432 : decode cL_law 432 = .ok (.invokevirtual 57, 3) := by decide +kernel
theorem dL_law_435 : decode cL_law 435 = .ok (.aload_n 2, 1) := by decide +kernel
theorem dL_law_436 : decode cL_law 436 = .ok (.aload_n 0, 1) := by decide +kernel
theorem dL_law_437 : decode cL_law 437 = .ok (.iload_n 3, 1) := by decide +kernel
theorem dL_law_438 : decode cL_law 438 = .ok (.iconst 1, 1) := by decide +kernel
theorem dL_law_439 : decode cL_law 439 = .ok (.iadd, 1) := by decide +kernel
theorem dL_law_440 : decode cL_law 440 = .ok (.iaload, 1) := by decide +kernel
theorem dL_law_441 : decode cL_law 441 = .ok (.invokevirtual 60, 3) := by decide +kernel
theorem dL_law_444 : decode cL_law 444 = .ok (.if_icmp .eq 334, 3) := by decide +kernel
theorem dL_law_447 : decode cL_law 447 = .ok (.iconst 0, 1) := by decide +kernel
theorem dL_law_448 : decode cL_law 448 = .ok (.ireturn, 1) := by decide +kernel
theorem dL_law_449 : decode cL_law 449 = .ok (.aload_n 1, 1) := by decide +kernel
theorem dL_law_450 : decode cL_law 450 = .ok (.aload_n 0, 1) := by decide +kernel
theorem dL_law_451 : decode cL_law 451 = .ok (.iload_n 3, 1) := by decide +kernel
theorem dL_law_452 : decode cL_law 452 = .ok (.iconst 1, 1) := by decide +kernel
theorem dL_law_453 : decode cL_law 453 = .ok (.iadd, 1) := by decide +kernel
theorem dL_law_454 : decode cL_law 454 = .ok (.iaload, 1) := by decide +kernel
theorem dL_law_455 : decode cL_law 455 = .ok (.invokevirtual 61, 3) := by decide +kernel
theorem dL_law_458 : decode cL_law 458 = .ok (.aload_n 2, 1) := by decide +kernel
theorem dL_law_459 : decode cL_law 459 = .ok (.aload_n 0, 1) := by decide +kernel
theorem dL_law_460 : decode cL_law 460 = .ok (.iload_n 3, 1) := by decide +kernel
theorem dL_law_461 : decode cL_law 461 = .ok (.iconst 1, 1) := by decide +kernel
theorem dL_law_462 : decode cL_law 462 = .ok (.iadd, 1) := by decide +kernel
theorem dL_law_463 : decode cL_law 463 = .ok (.iaload, 1) := by decide +kernel
theorem dL_law_464 : decode cL_law 464 = .ok (.invokevirtual 64, 3) := by decide +kernel
theorem dL_law_467 : decode cL_law 467 = .ok (.if_icmp .eq 311, 3) := by decide +kernel
theorem dL_law_470 : decode cL_law 470 = .ok (.iconst 0, 1) := by decide +kernel
theorem dL_law_471 : decode cL_law 471 = .ok (.ireturn, 1) := by decide +kernel
theorem dL_law_472 : decode cL_law 472 = .ok (.aload_n 1, 1) := by decide +kernel
theorem dL_law_473 : decode cL_law 473 = .ok (.aload_n 0, 1) := by decide +kernel
theorem dL_law_474 : decode cL_law 474 = .ok (.iload_n 3, 1) := by decide +kernel
theorem dL_law_475 : decode cL_law 475 = .ok (.iconst 1, 1) := by decide +kernel
theorem dL_law_476 : decode cL_law 476 = .ok (.iadd, 1) := by decide +kernel
theorem dL_law_477 : decode cL_law 477 = .ok (.iaload, 1) := by decide +kernel
theorem dL_law_478 : decode cL_law 478 = .ok (.invokevirtual 65, 3) := by decide +kernel
theorem dL_law_481 : decode cL_law 481 = .ok (.aload_n 2, 1) := by decide +kernel
theorem dL_law_482 : decode cL_law 482 = .ok (.aload_n 0, 1) := by decide +kernel
theorem dL_law_483 : decode cL_law 483 = .ok (.iload_n 3, 1) := by decide +kernel
theorem dL_law_484 : decode cL_law 484 = .ok (.iconst 1, 1) := by decide +kernel
theorem dL_law_485 : decode cL_law 485 = .ok (.iadd, 1) := by decide +kernel
theorem dL_law_486 : decode cL_law 486 = .ok (.iaload, 1) := by decide +kernel
theorem dL_law_487 : decode cL_law 487 = .ok (.invokevirtual 68, 3) := by decide +kernel
theorem dL_law_490 : decode cL_law 490 = .ok (.if_icmp .eq 288, 3) := by decide +kernel
theorem dL_law_493 : decode cL_law 493 = .ok (.iconst 0, 1) := by decide +kernel
theorem dL_law_494 : decode cL_law 494 = .ok (.ireturn, 1) := by decide +kernel
theorem dL_law_495 : decode cL_law 495 = .ok (.aload_n 1, 1) := by decide +kernel
theorem dL_law_496 : decode cL_law 496 = .ok (.aload_n 0, 1) := by decide +kernel
theorem dL_law_497 : decode cL_law 497 = .ok (.iload_n 3, 1) := by decide +kernel
theorem dL_law_498 : decode cL_law 498 = .ok (.iconst 1, 1) := by decide +kernel
theorem dL_law_499 : decode cL_law 499 = .ok (.iadd, 1) := by decide +kernel
theorem dL_law_500 : decode cL_law 500 = .ok (.iaload, 1) := by decide +kernel
theorem dL_law_501 : decode cL_law 501 = .ok (.invokevirtual 69, 3) := by decide +kernel
theorem dL_law_504 : decode cL_law 504 = .ok (.aload_n 2, 1) := by decide +kernel
theorem dL_law_505 : decode cL_law 505 = .ok (.aload_n 0, 1) := by decide +kernel
theorem dL_law_506 : decode cL_law 506 = .ok (.iload_n 3, 1) := by decide +kernel
theorem dL_law_507 : decode cL_law 507 = .ok (.iconst 1, 1) := by decide +kernel
theorem dL_law_508 : decode cL_law 508 = .ok (.iadd, 1) := by decide +kernel
theorem dL_law_509 : decode cL_law 509 = .ok (.iaload, 1) := by decide +kernel
theorem dL_law_510 : decode cL_law 510 = .ok (.invokevirtual 72, 3) := by decide +kernel
theorem dL_law_513 : decode cL_law 513 = .ok (.if_icmp .eq 265, 3) := by decide +kernel
theorem dL_law_516 : decode cL_law 516 = .ok (.iconst 0, 1) := by decide +kernel
theorem dL_law_517 : decode cL_law 517 = .ok (.ireturn, 1) := by decide +kernel
theorem dL_law_518 : decode cL_law 518 = .ok (.aload_n 1, 1) := by decide +kernel
theorem dL_law_519 : decode cL_law 519 = .ok (.aload_n 0, 1) := by decide +kernel
theorem dL_law_520 : decode cL_law 520 = .ok (.iload_n 3, 1) := by decide +kernel
theorem dL_law_521 : decode cL_law 521 = .ok (.iconst 1, 1) := by decide +kernel
theorem dL_law_522 : decode cL_law 522 = .ok (.iadd, 1) := by decide +kernel
theorem dL_law_523 : decode cL_law 523 = .ok (.iaload, 1) := by decide +kernel
theorem dL_law_524 : decode cL_law 524 = .ok (.invokevirtual 73, 3) := by decide +kernel
theorem dL_law_527 : decode cL_law 527 = .ok (.aload_n 2, 1) := by decide +kernel
theorem dL_law_528 : decode cL_law 528 = .ok (.aload_n 0, 1) := by decide +kernel
theorem dL_law_529 : decode cL_law 529 = .ok (.iload_n 3, 1) := by decide +kernel
theorem dL_law_530 : decode cL_law 530 = .ok (.iconst 1, 1) := by decide +kernel
theorem dL_law_531 : decode cL_law 531 = .ok (.iadd, 1) := by decide +kernel
theorem dL_law_532 : decode cL_law 532 = .ok (.iaload, 1) := by decide +kernel
theorem dL_law_533 : decode cL_law 533 = .ok (.invokevirtual 76, 3) := by decide +kernel
theorem dL_law_536 : decode cL_law 536 = .ok (.if_icmp .eq 242, 3) := by decide +kernel
theorem dL_law_539 : decode cL_law 539 = .ok (.iconst 0, 1) := by decide +kernel
theorem dL_law_540 : decode cL_law 540 = .ok (.ireturn, 1) := by decide +kernel
theorem dL_law_541 : decode cL_law 541 = .ok (.aload_n 1, 1) := by decide +kernel
theorem dL_law_542 : decode cL_law 542 = .ok (.aload_n 0, 1) := by decide +kernel
theorem dL_law_543 : decode cL_law 543 = .ok (.iload_n 3, 1) := by decide +kernel
theorem dL_law_544 : decode cL_law 544 = .ok (.iconst 1, 1) := by decide +kernel
theorem dL_law_545 : decode cL_law 545 = .ok (.iadd, 1) := by decide +kernel
theorem dL_law_546 : decode cL_law 546 = .ok (.iaload, 1) := by decide +kernel
theorem dL_law_547 : decode cL_law 547 = .ok (.aload_n 0, 1) := by decide +kernel
theorem dL_law_548 : decode cL_law 548 = .ok (.iload_n 3, 1) := by decide +kernel
theorem dL_law_549 : decode cL_law 549 = .ok (.iconst 2, 1) := by decide +kernel
theorem dL_law_550 : decode cL_law 550 = .ok (.iadd, 1) := by decide +kernel
theorem dL_law_551 : decode cL_law 551 = .ok (.iaload, 1) := by decide +kernel
theorem dL_law_552 : decode cL_law 552 = .ok (.invokevirtual 77, 3) := by decide +kernel
theorem dL_law_555 : decode cL_law 555 = .ok (.aload_n 2, 1) := by decide +kernel
theorem dL_law_556 : decode cL_law 556 = .ok (.aload_n 0, 1) := by decide +kernel
theorem dL_law_557 : decode cL_law 557 = .ok (.iload_n 3, 1) := by decide +kernel
theorem dL_law_558 : decode cL_law 558 = .ok (.iconst 1, 1) := by decide +kernel
theorem dL_law_559 : decode cL_law 559 = .ok (.iadd, 1) := by decide +kernel
theorem dL_law_560 : decode cL_law 560 = .ok (.iaload, 1) := by decide +kernel
theorem dL_law_561 : decode cL_law 561 = .ok (.aload_n 0, 1) := by decide +kernel
theorem dL_law_562 : decode cL_law 562 = .ok (.iload_n 3, 1) := by decide +kernel
theorem dL_law_563 : decode cL_law 563 = .ok (.iconst 2, 1) := by decide +kernel
theorem dL_law_564 : decode cL_law 564 = .ok (.iadd, 1) := by decide +kernel
theorem dL_law_565 : decode cL_law 565 = .ok (.iaload, 1) := by decide +kernel
theorem dL_law_566 : decode cL_law 566 = .ok (.invokevirtual 80, 3) := by decide +kernel
theorem dL_law_569 : decode cL_law 569 = .ok (.if_icmp .eq 209, 3) := by decide +kernel
theorem dL_law_572 : decode cL_law 572 = .ok (.iconst 0, 1) := by decide +kernel
theorem dL_law_573 : decode cL_law 573 = .ok (.ireturn, 1) := by decide +kernel
theorem dL_law_574 : decode cL_law 574 = .ok (.aload_n 1, 1) := by decide +kernel
theorem dL_law_575 : decode cL_law 575 = .ok (.aload_n 0, 1) := by decide +kernel
theorem dL_law_576 : decode cL_law 576 = .ok (.iload_n 3, 1) := by decide +kernel
theorem dL_law_577 : decode cL_law 577 = .ok (.iconst 1, 1) := by decide +kernel
theorem dL_law_578 : decode cL_law 578 = .ok (.iadd, 1) := by decide +kernel
theorem dL_law_579 : decode cL_law 579 = .ok (.iaload, 1) := by decide +kernel
theorem dL_law_580 : decode cL_law 580 = .ok (.invokevirtual 81, 3) := by decide +kernel
theorem dL_law_583 : decode cL_law 583 = .ok (.aload_n 2, 1) := by decide +kernel
theorem dL_law_584 : decode cL_law 584 = .ok (.aload_n 0, 1) := by decide +kernel
theorem dL_law_585 : decode cL_law 585 = .ok (.iload_n 3, 1) := by decide +kernel
theorem dL_law_586 : decode cL_law 586 = .ok (.iconst 1, 1) := by decide +kernel
theorem dL_law_587 : decode cL_law 587 = .ok (.iadd, 1) := by decide +kernel
theorem dL_law_588 : decode cL_law 588 = .ok (.iaload, 1) := by decide +kernel
theorem dL_law_589 : decode cL_law 589 = .ok (.invokevirtual 84, 3) := by decide +kernel
theorem dL_law_592 : decode cL_law 592 = .ok (.if_icmp .eq 186, 3) := by decide +kernel
theorem dL_law_595 : decode cL_law 595 = .ok (.iconst 0, 1) := by decide +kernel
theorem dL_law_596 : decode cL_law 596 = .ok (.ireturn, 1) := by decide +kernel
theorem dL_law_597 : decode cL_law 597 = .ok (.aload_n 1, 1) := by decide +kernel
theorem dL_law_598 : decode cL_law 598 = .ok (.aload_n 0, 1) := by decide +kernel
theorem dL_law_599 : decode cL_law 599 = .ok (.iload_n 3, 1) := by decide +kernel
theorem dL_law_600 : decode cL_law 600 = .ok (.iconst 1, 1) := by decide +kernel
theorem dL_law_601 : decode cL_law 601 = .ok (.iadd, 1) := by decide +kernel
theorem dL_law_602 : decode cL_law 602 = .ok (.iaload, 1) := by decide +kernel
theorem dL_law_603 : decode cL_law 603 = .ok (.aload_n 0, 1) := by decide +kernel
theorem dL_law_604 : decode cL_law 604 = .ok (.iload_n 3, 1) := by decide +kernel
theorem dL_law_605 : decode cL_law 605 = .ok (.iconst 2, 1) := by decide +kernel
theorem dL_law_606 : decode cL_law 606 = .ok (.iadd, 1) := by decide +kernel
theorem dL_law_607 : decode cL_law 607 = .ok (.iaload, 1) := by decide +kernel
theorem dL_law_608 : decode cL_law 608 = .ok (.invokevirtual 85, 3) := by decide +kernel
theorem dL_law_611 : decode cL_law 611 = .ok (.aload_n 2, 1) := by decide +kernel
theorem dL_law_612 : decode cL_law 612 = .ok (.aload_n 0, 1) := by decide +kernel
theorem dL_law_613 : decode cL_law 613 = .ok (.iload_n 3, 1) := by decide +kernel
theorem dL_law_614 : decode cL_law 614 = .ok (.iconst 1, 1) := by decide +kernel
theorem dL_law_615 : decode cL_law 615 = .ok (.iadd, 1) := by decide +kernel
theorem dL_law_616 : decode cL_law 616 = .ok (.iaload, 1) := by decide +kernel
theorem dL_law_617 : decode cL_law 617 = .ok (.aload_n 0, 1) := by decide +kernel
theorem dL_law_618 : decode cL_law 618 = .ok (.iload_n 3, 1) := by decide +kernel
theorem dL_law_619 : decode cL_law 619 = .ok (.iconst 2, 1) := by decide +kernel
theorem dL_law_620 : decode cL_law 620 = .ok (.iadd, 1) := by decide +kernel
theorem dL_law_621 : decode cL_law 621 = .ok (.iaload, 1) := by decide +kernel
theorem dL_law_622 : decode cL_law 622 = .ok (.invokevirtual 88, 3) := by decide +kernel
theorem dL_law_625 : decode cL_law 625 = .ok (.if_icmp .eq 153, 3) := by decide +kernel
theorem dL_law_628 : decode cL_law 628 = .ok (.iconst 0, 1) := by decide +kernel
theorem dL_law_629 : decode cL_law 629 = .ok (.ireturn, 1) := by decide +kernel
theorem dL_law_630 : decode cL_law 630 = .ok (.aload_n 1, 1) := by decide +kernel
theorem dL_law_631 : decode cL_law 631 = .ok (.aload_n 0, 1) := by decide +kernel
theorem dL_law_632 : decode cL_law 632 = .ok (.iload_n 3, 1) := by decide +kernel
theorem dL_law_633 : decode cL_law 633 = .ok (.iconst 1, 1) := by decide +kernel
theorem dL_law_634 : decode cL_law 634 = .ok (.iadd, 1) := by decide +kernel
theorem dL_law_635 : decode cL_law 635 = .ok (.iaload, 1) := by decide +kernel
theorem dL_law_636 : decode cL_law 636 = .ok (.invokevirtual 89, 3) := by decide +kernel
theorem dL_law_639 : decode cL_law 639 = .ok (.aload_n 2, 1) := by decide +kernel
theorem dL_law_640 : decode cL_law 640 = .ok (.aload_n 0, 1) := by decide +kernel
theorem dL_law_641 : decode cL_law 641 = .ok (.iload_n 3, 1) := by decide +kernel
theorem dL_law_642 : decode cL_law 642 = .ok (.iconst 1, 1) := by decide +kernel
theorem dL_law_643 : decode cL_law 643 = .ok (.iadd, 1) := by decide +kernel
theorem dL_law_644 : decode cL_law 644 = .ok (.iaload, 1) := by decide +kernel
theorem dL_law_645 : decode cL_law 645 = .ok (.invokevirtual 92, 3) := by decide +kernel
theorem dL_law_648 : decode cL_law 648 = .ok (.if_icmp .eq 130, 3) := by decide +kernel
theorem dL_law_651 : decode cL_law 651 = .ok (.iconst 0, 1) := by decide +kernel
theorem dL_law_652 : decode cL_law 652 = .ok (.ireturn, 1) := by decide +kernel
theorem dL_law_653 : decode cL_law 653 = .ok (.aload_n 1, 1) := by decide +kernel
theorem dL_law_654 : decode cL_law 654 = .ok (.invokevirtual 93, 3) := by decide +kernel
theorem dL_law_657 : decode cL_law 657 = .ok (.aload_n 2, 1) := by decide +kernel
theorem dL_law_658 : decode cL_law 658 = .ok (.invokevirtual 96, 3) := by decide +kernel
theorem dL_law_661 : decode cL_law 661 = .ok (.if_icmp .eq 117, 3) := by decide +kernel
theorem dL_law_664 : decode cL_law 664 = .ok (.iconst 0, 1) := by decide +kernel
theorem dL_law_665 : decode cL_law 665 = .ok (.ireturn, 1) := by decide +kernel
theorem dL_law_666 : decode cL_law 666 = .ok (.aload_n 1, 1) := by decide +kernel
theorem dL_law_667 : decode cL_law 667 = .ok (.aload_n 0, 1) := by decide +kernel
theorem dL_law_668 : decode cL_law 668 = .ok (.iload_n 3, 1) := by decide +kernel
theorem dL_law_669 : decode cL_law 669 = .ok (.iconst 1, 1) := by decide +kernel
theorem dL_law_670 : decode cL_law 670 = .ok (.iadd, 1) := by decide +kernel
theorem dL_law_671 : decode cL_law 671 = .ok (.iaload, 1) := by decide +kernel
theorem dL_law_672 : decode cL_law 672 = .ok (.invokevirtual 97, 3) := by decide +kernel
theorem dL_law_675 : decode cL_law 675 = .ok (.aload_n 2, 1) := by decide +kernel
theorem dL_law_676 : decode cL_law 676 = .ok (.aload_n 0, 1) := by decide +kernel
theorem dL_law_677 : decode cL_law 677 = .ok (.iload_n 3, 1) := by decide +kernel
theorem dL_law_678 : decode cL_law 678 = .ok (.iconst 1, 1) := by decide +kernel
theorem dL_law_679 : decode cL_law 679 = .ok (.iadd, 1) := by decide +kernel
theorem dL_law_680 : decode cL_law 680 = .ok (.iaload, 1) := by decide +kernel
theorem dL_law_681 : decode cL_law 681 = .ok (.invokevirtual 100, 3) := by decide +kernel
theorem dL_law_684 : decode cL_law 684 = .ok (.if_icmp .eq 94, 3) := by decide +kernel
theorem dL_law_687 : decode cL_law 687 = .ok (.iconst 0, 1) := by decide +kernel
theorem dL_law_688 : decode cL_law 688 = .ok (.ireturn, 1) := by decide +kernel
theorem dL_law_689 : decode cL_law 689 = .ok (.aload_n 1, 1) := by decide +kernel
theorem dL_law_690 : decode cL_law 690 = .ok (.invokevirtual 101, 3) := by decide +kernel
theorem dL_law_693 : decode cL_law 693 = .ok (.aload_n 2, 1) := by decide +kernel
theorem dL_law_694 : decode cL_law 694 = .ok (.invokevirtual 104, 3) := by decide +kernel
theorem dL_law_697 : decode cL_law 697 = .ok (.if_icmp .eq 81, 3) := by decide +kernel
theorem dL_law_700 : decode cL_law 700 = .ok (.iconst 0, 1) := by decide +kernel
theorem dL_law_701 : decode cL_law 701 = .ok (.ireturn, 1) := by decide +kernel
theorem dL_law_702 : decode cL_law 702 = .ok (.aload_n 1, 1) := by decide +kernel
theorem dL_law_703 : decode cL_law 703 = .ok (.aload_n 0, 1) := by decide +kernel
theorem dL_law_704 : decode cL_law 704 = .ok (.iload_n 3, 1) := by decide +kernel
theorem dL_law_705 : decode cL_law 705 = .ok (.iconst 1, 1) := by decide +kernel
theorem dL_law_706 : decode cL_law 706 = .ok (.iadd, 1) := by decide +kernel
theorem dL_law_707 : decode cL_law 707 = .ok (.iaload, 1) := by decide +kernel
theorem dL_law_708 : decode cL_law 708 = .ok (.invokevirtual 105, 3) := by decide +kernel
theorem dL_law_711 : decode cL_law 711 = .ok (.aload_n 2, 1) := by decide +kernel
theorem dL_law_712 : decode cL_law 712 = .ok (.aload_n 0, 1) := by decide +kernel
theorem dL_law_713 : decode cL_law 713 = .ok (.iload_n 3, 1) := by decide +kernel
theorem dL_law_714 : decode cL_law 714 = .ok (.iconst 1, 1) := by decide +kernel
theorem dL_law_715 : decode cL_law 715 = .ok (.iadd, 1) := by decide +kernel
theorem dL_law_716 : decode cL_law 716 = .ok (.iaload, 1) := by decide +kernel
theorem dL_law_717 : decode cL_law 717 = .ok (.invokevirtual 108, 3) := by decide +kernel
theorem dL_law_720 : decode cL_law 720 = .ok (.if_icmp .eq 58, 3) := by decide +kernel
theorem dL_law_723 : decode cL_law 723 = .ok (.iconst 0, 1) := by decide +kernel
theorem dL_law_724 : decode cL_law 724 = .ok (.ireturn, 1) := by decide +kernel
theorem dL_law_725 : decode cL_law 725 = .ok (.aload_n 1, 1) := by decide +kernel
theorem dL_law_726 : decode cL_law 726 = .ok (.invokevirtual 109, 3) := by decide +kernel
theorem dL_law_729 : decode cL_law 729 = .ok (.aload_n 2, 1) := by decide +kernel
theorem dL_law_730 : decode cL_law 730 = .ok (.invokevirtual 112, 3) := by decide +kernel
theorem dL_law_733 : decode cL_law 733 = .ok (.if_icmp .eq 45, 3) := by decide +kernel
theorem dL_law_736 : decode cL_law 736 = .ok (.iconst 0, 1) := by decide +kernel
theorem dL_law_737 : decode cL_law 737 = .ok (.ireturn, 1) := by decide +kernel
theorem dL_law_738 : decode cL_law 738 = .ok (.aload_n 1, 1) := by decide +kernel
theorem dL_law_739 : decode cL_law 739 = .ok (.invokevirtual 113, 3) := by decide +kernel
theorem dL_law_742 : decode cL_law 742 = .ok (.aload_n 2, 1) := by decide +kernel
theorem dL_law_743 : decode cL_law 743 = .ok (.invokevirtual 116, 3) := by decide +kernel
theorem dL_law_746 : decode cL_law 746 = .ok (.if_icmp .eq 32, 3) := by decide +kernel
theorem dL_law_749 : decode cL_law 749 = .ok (.iconst 0, 1) := by decide +kernel
theorem dL_law_750 : decode cL_law 750 = .ok (.ireturn, 1) := by decide +kernel
theorem dL_law_751 : decode cL_law 751 = .ok (.aload_n 1, 1) := by decide +kernel
theorem dL_law_752 : decode cL_law 752 = .ok (.invokevirtual 117, 3) := by decide +kernel
theorem dL_law_755 : decode cL_law 755 = .ok (.aload_n 2, 1) := by decide +kernel
theorem dL_law_756 : decode cL_law 756 = .ok (.invokevirtual 120, 3) := by decide +kernel
theorem dL_law_759 : decode cL_law 759 = .ok (.if_icmp .eq 19, 3) := by decide +kernel
theorem dL_law_762 : decode cL_law 762 = .ok (.iconst 0, 1) := by decide +kernel
theorem dL_law_763 : decode cL_law 763 = .ok (.ireturn, 1) := by decide +kernel
theorem dL_law_764 : decode cL_law 764 = .ok (.aload_n 1, 1) := by decide +kernel
theorem dL_law_765 : decode cL_law 765 = .ok (.invokevirtual 121, 3) := by decide +kernel
theorem dL_law_768 : decode cL_law 768 = .ok (.aload_n 2, 1) := by decide +kernel
theorem dL_law_769 : decode cL_law 769 = .ok (.invokevirtual 125, 3) := by decide +kernel
theorem dL_law_772 : decode cL_law 772 = .ok (.lcmp, 1) := by decide +kernel
theorem dL_law_773 : decode cL_law 773 = .ok (.ifCond .eq 5, 3) := by decide +kernel
theorem dL_law_776 : decode cL_law 776 = .ok (.iconst 0, 1) := by decide +kernel
theorem dL_law_777 : decode cL_law 777 = .ok (.ireturn, 1) := by decide +kernel
theorem dL_law_778 : decode cL_law 778 = .ok (.iinc 3 4, 3) := by decide +kernel
theorem dL_law_781 : decode cL_law 781 = .ok (.goto (-763), 3) := by decide +kernel
theorem dL_law_784 : decode cL_law 784 = .ok (.iconst 1, 1) := by decide +kernel
theorem dL_law_785 : decode cL_law 785 = .ok (.ireturn, 1) := by decide +kernel
end
section
theorem dX1_init_0 : decode cX1_init 0 = .ok (.aload_n 0, 1) := by decide +kernel
theorem dX1_init_1 : decode cX1_init 1 = .ok (.invokespecial 3, 3) := by decide +kernel
theorem dX1_init_4 : decode cX1_init 4 = .ok (.aload_n 0, 1) := by decide +kernel
theorem dX1_init_5 : decode cX1_init 5 = .ok (.bipush 41, 2) := by decide +kernel
theorem dX1_init_7 : decode cX1_init 7 = .ok (.newarray .int, 2) := by decide +kernel
theorem dX1_init_9 : decode cX1_init 9 = .ok (.putfield 9, 3) := by decide +kernel
theorem dX1_init_12 : decode cX1_init 12 = .ok (.aload_n 0, 1) := by decide +kernel
theorem dX1_init_13 : decode cX1_init 13 = .ok (.bipush 41, 2) := by decide +kernel
theorem dX1_init_15 : decode cX1_init 15 = .ok (.newarray .int, 2) := by decide +kernel
theorem dX1_init_17 : decode cX1_init 17 = .ok (.putfield 15, 3) := by decide +kernel
theorem dX1_init_20 : decode cX1_init 20 = .ok (.aload_n 0, 1) := by decide +kernel
theorem dX1_init_21 : decode cX1_init 21 = .ok (.bipush 41, 2) := by decide +kernel
theorem dX1_init_23 : decode cX1_init 23 = .ok (.newarray .int, 2) := by decide +kernel
theorem dX1_init_25 : decode cX1_init 25 = .ok (.putfield 18, 3) := by decide +kernel
theorem dX1_init_28 : decode cX1_init 28 = .ok (.aload_n 0, 1) := by decide +kernel
theorem dX1_init_29 : decode cX1_init 29 = .ok (.bipush 48, 2) := by decide +kernel
theorem dX1_init_31 : decode cX1_init 31 = .ok (.newarray .int, 2) := by decide +kernel
theorem dX1_init_33 : decode cX1_init 33 = .ok (.putfield 21, 3) := by decide +kernel
theorem dX1_init_36 : decode cX1_init 36 = .ok (.aload_n 0, 1) := by decide +kernel
theorem dX1_init_37 : decode cX1_init 37 = .ok (.bipush 8, 2) := by decide +kernel
theorem dX1_init_39 : decode cX1_init 39 = .ok (.bipush 6, 2) := by decide +kernel
theorem dX1_init_41 : decode cX1_init 41 = .ok (.iconst 2, 1) := by decide +kernel
theorem dX1_init_42 : decode cX1_init 42 = .ok (.invokevirtual 24, 3) := by decide +kernel
theorem dX1_init_45 : decode cX1_init 45 = .ok (.return_, 1) := by decide +kernel
theorem dX1_start_0 : decode cX1_start 0 = .ok (.aload_n 0, 1) := by decide +kernel
theorem dX1_start_1 : decode cX1_start 1 = .ok (.iload_n 1, 1) := by decide +kernel
theorem dX1_start_2 : decode cX1_start 2 = .ok (.putfield 28, 3) := by decide +kernel
theorem dX1_start_5 : decode cX1_start 5 = .ok (.aload_n 0, 1) := by decide +kernel
theorem dX1_start_6 : decode cX1_start 6 = .ok (.iload_n 2, 1) := by decide +kernel
theorem dX1_start_7 : decode cX1_start 7 = .ok (.putfield 32, 3) := by decide +kernel
theorem dX1_start_10 : decode cX1_start 10 = .ok (.aload_n 0, 1) := by decide +kernel
theorem dX1_start_11 : decode cX1_start 11 = .ok (.iload_n 3, 1) := by decide +kernel
theorem dX1_start_12 : decode cX1_start 12 = .ok (.putfield 35, 3) := by decide +kernel
theorem dX1_start_15 : decode cX1_start 15 = .ok (.iconst 0, 1) := by decide +kernel
theorem dX1_start_16 : decode cX1_start 16 = .ok (.istore 4, 2) := by decide +kernel
theorem dX1_start_18 : decode cX1_start 18 = .ok (.iload 4, 2) := by decide +kernel
theorem dX1_start_20 : decode cX1_start 20 = .ok (.bipush 41, 2) := by decide +kernel
theorem dX1_start_22 : decode cX1_start 22 = .ok (.if_icmp .ge 33, 3) := by decide +kernel
theorem dX1_start_25 : decode cX1_start 25 = .ok (.aload_n 0, 1) := by decide +kernel
theorem dX1_start_26 : decode cX1_start 26 = .ok (.getfield 9, 3) := by decide +kernel
theorem dX1_start_29 : decode cX1_start 29 = .ok (.iload 4, 2) := by decide +kernel
theorem dX1_start_31 : decode cX1_start 31 = .ok (.iconst 0, 1) := by decide +kernel
theorem dX1_start_32 : decode cX1_start 32 = .ok (.iastore, 1) := by decide +kernel
theorem dX1_start_33 : decode cX1_start 33 = .ok (.aload_n 0, 1) := by decide +kernel
theorem dX1_start_34 : decode cX1_start 34 = .ok (.getfield 15, 3) := by decide +kernel
theorem dX1_start_37 : decode cX1_start 37 = .ok (.iload 4, 2) := by decide +kernel
theorem dX1_start_39 : decode cX1_start 39 = .ok (.iconst 0, 1) := by decide +kernel
theorem dX1_start_40 : decode cX1_start 40 = .ok (.iastore, 1) := by decide +kernel
theorem dX1_start_41 : decode cX1_start 41 = .ok (.aload_n 0, 1) := by decide +kernel
theorem dX1_start_42 : decode cX1_start 42 = .ok (.getfield 18, 3) := by decide +kernel
theorem dX1_start_45 : decode cX1_start 45 = .ok (.iload 4, 2) := by decide +kernel
theorem dX1_start_47 : decode cX1_start 47 = .ok (.iconst 0, 1) := by decide +kernel
theorem dX1_start_48 : decode cX1_start 48 = .ok (.iastore, 1) := by decide +kernel
theorem dX1_start_49 : decode cX1_start 49 = .ok (.iinc 4 1, 3) := by decide +kernel
theorem dX1_start_52 : decode cX1_start 52 = .ok (.goto (-34), 3) := by decide +kernel
theorem dX1_start_55 : decode cX1_start 55 = .ok (.iconst 0, 1) := by decide +kernel
theorem dX1_start_56 : decode cX1_start 56 = .ok (.istore 4, 2) := by decide +kernel
theorem dX1_start_58 : decode cX1_start 58 = .ok (.iload 4, 2) := by decide +kernel
theorem dX1_start_60 : decode cX1_start 60 = .ok (.bipush 48, 2) := by decide +kernel
theorem dX1_start_62 : decode cX1_start 62 = .ok (.if_icmp .ge 17, 3) := by decide +kernel
theorem dX1_start_65 : decode cX1_start 65 = .ok (.aload_n 0, 1) := by decide +kernel
theorem dX1_start_66 : decode cX1_start 66 = .ok (.getfield 21, 3) := by decide +kernel
theorem dX1_start_69 : decode cX1_start 69 = .ok (.iload 4, 2) := by decide +kernel
theorem dX1_start_71 : decode cX1_start 71 = .ok (.iconst (-1), 1) := by decide +kernel
theorem dX1_start_72 : decode cX1_start 72 = .ok (.iastore, 1) := by decide +kernel
theorem dX1_start_73 : decode cX1_start 73 = .ok (.iinc 4 1, 3) := by decide +kernel
theorem dX1_start_76 : decode cX1_start 76 = .ok (.goto (-18), 3) := by decide +kernel
theorem dX1_start_79 : decode cX1_start 79 = .ok (.iconst 0, 1) := by decide +kernel
theorem dX1_start_80 : decode cX1_start 80 = .ok (.istore 4, 2) := by decide +kernel
theorem dX1_start_82 : decode cX1_start 82 = .ok (.iload 4, 2) := by decide +kernel
theorem dX1_start_84 : decode cX1_start 84 = .ok (.aload_n 0, 1) := by decide +kernel
theorem dX1_start_85 : decode cX1_start 85 = .ok (.getfield 28, 3) := by decide +kernel
theorem dX1_start_88 : decode cX1_start 88 = .ok (.if_icmp .ge 17, 3) := by decide +kernel
theorem dX1_start_91 : decode cX1_start 91 = .ok (.aload_n 0, 1) := by decide +kernel
theorem dX1_start_92 : decode cX1_start 92 = .ok (.iload 4, 2) := by decide +kernel
theorem dX1_start_94 : decode cX1_start 94 = .ok (.iload 4, 2) := by decide +kernel
theorem dX1_start_96 : decode cX1_start 96 = .ok (.invokevirtual 38, 3) := by decide +kernel
theorem dX1_start_99 : decode cX1_start 99 = .ok (.iinc 4 1, 3) := by decide +kernel
theorem dX1_start_102 : decode cX1_start 102 = .ok (.goto (-20), 3) := by decide +kernel
theorem dX1_start_105 : decode cX1_start 105 = .ok (.iconst 0, 1) := by decide +kernel
theorem dX1_start_106 : decode cX1_start 106 = .ok (.istore 4, 2) := by decide +kernel
theorem dX1_start_108 : decode cX1_start 108 = .ok (.iload 4, 2) := by decide +kernel
theorem dX1_start_110 : decode cX1_start 110 = .ok (.aload_n 0, 1) := by decide +kernel
theorem dX1_start_111 : decode cX1_start 111 = .ok (.invokevirtual 42, 3) := by decide +kernel
theorem dX1_start_114 : decode cX1_start 114 = .ok (.if_icmp .ge 16, 3) := by decide +kernel
theorem dX1_start_117 : decode cX1_start 117 = .ok (.aload_n 0, 1) := by decide +kernel
theorem dX1_start_118 : decode cX1_start 118 = .ok (.iload 4, 2) := by decide +kernel
theorem dX1_start_120 : decode cX1_start 120 = .ok (.iconst 0, 1) := by decide +kernel
theorem dX1_start_121 : decode cX1_start 121 = .ok (.invokevirtual 46, 3) := by decide +kernel
theorem dX1_start_124 : decode cX1_start 124 = .ok (.iinc 4 1, 3) := by decide +kernel
theorem dX1_start_127 : decode cX1_start 127 = .ok (.goto (-19), 3) := by decide +kernel
theorem dX1_start_130 : decode cX1_start 130 = .ok (.return_, 1) := by decide +kernel
theorem dX1_become_0 : decode cX1_become 0 = .ok (.aload_n 0, 1) := by decide +kernel
theorem dX1_become_1 : decode cX1_become 1 = .ok (.aload_n 1, 1) := by decide +kernel
theorem dX1_become_2 : decode cX1_become 2 = .ok (.getfield 28, 3) := by decide +kernel
theorem dX1_become_5 : decode cX1_become 5 = .ok (.putfield 28, 3) := by decide +kernel
theorem dX1_become_8 : decode cX1_become 8 = .ok (.aload_n 0, 1) := by decide +kernel
theorem dX1_become_9 : decode cX1_become 9 = .ok (.aload_n 1, 1) := by decide +kernel
theorem dX1_become_10 : decode cX1_become 10 = .ok (.getfield 32, 3) := by decide +kernel
theorem dX1_become_13 : decode cX1_become 13 = .ok (.putfield 32, 3) := by decide +kernel
theorem dX1_become_16 : decode cX1_become 16 = .ok (.aload_n 0, 1) := by decide +kernel
theorem dX1_become_17 : decode cX1_become 17 = .ok (.aload_n 1, 1) := by decide +kernel
theorem dX1_become_18 : decode cX1_become 18 = .ok (.getfield 35, 3) := by decide +kernel
theorem dX1_become_21 : decode cX1_become 21 = .ok (.putfield 35, 3) := by decide +kernel
theorem dX1_become_24 : decode cX1_become 24 = .ok (.aload_n 1, 1) := by decide +kernel
theorem dX1_become_25 : decode cX1_become 25 = .ok (.getfield 9, 3) := by decide +kernel
theorem dX1_become_28 : decode cX1_become 28 = .ok (.iconst 0, 1) := by decide +kernel
theorem dX1_become_29 : decode cX1_become 29 = .ok (.aload_n 0, 1) := by decide +kernel
theorem dX1_become_30 : decode cX1_become 30 = .ok (.getfield 9, 3) := by decide +kernel
theorem dX1_become_33 : decode cX1_become 33 = .ok (.iconst 0, 1) := by decide +kernel
theorem dX1_become_34 : decode cX1_become 34 = .ok (.bipush 41, 2) := by decide +kernel
theorem dX1_become_36 : decode cX1_become 36 = .ok (.invokestatic 49, 3) := by decide +kernel
theorem dX1_become_39 : decode cX1_become 39 = .ok (.aload_n 1, 1) := by decide +kernel
theorem dX1_become_40 : decode cX1_become 40 = .ok (.getfield 15, 3) := by decide +kernel
theorem dX1_become_43 : decode cX1_become 43 = .ok (.iconst 0, 1) := by decide +kernel
theorem dX1_become_44 : decode cX1_become 44 = .ok (.aload_n 0, 1) := by decide +kernel
theorem dX1_become_45 : decode cX1_become 45 = .ok (.getfield 15, 3) := by decide +kernel
theorem dX1_become_48 : decode cX1_become 48 = .ok (.iconst 0, 1) := by decide +kernel
theorem dX1_become_49 : decode cX1_become 49 = .ok (.bipush 41, 2) := by decide +kernel
theorem dX1_become_51 : decode cX1_become 51 = .ok (.invokestatic 49, 3) := by decide +kernel
theorem dX1_become_54 : decode cX1_become 54 = .ok (.aload_n 1, 1) := by decide +kernel
theorem dX1_become_55 : decode cX1_become 55 = .ok (.getfield 18, 3) := by decide +kernel
theorem dX1_become_58 : decode cX1_become 58 = .ok (.iconst 0, 1) := by decide +kernel
theorem dX1_become_59 : decode cX1_become 59 = .ok (.aload_n 0, 1) := by decide +kernel
theorem dX1_become_60 : decode cX1_become 60 = .ok (.getfield 18, 3) := by decide +kernel
theorem dX1_become_63 : decode cX1_become 63 = .ok (.iconst 0, 1) := by decide +kernel
theorem dX1_become_64 : decode cX1_become 64 = .ok (.bipush 41, 2) := by decide +kernel
theorem dX1_become_66 : decode cX1_become 66 = .ok (.invokestatic 49, 3) := by decide +kernel
theorem dX1_become_69 : decode cX1_become 69 = .ok (.aload_n 1, 1) := by decide +kernel
theorem dX1_become_70 : decode cX1_become 70 = .ok (.getfield 21, 3) := by decide +kernel
theorem dX1_become_73 : decode cX1_become 73 = .ok (.iconst 0, 1) := by decide +kernel
theorem dX1_become_74 : decode cX1_become 74 = .ok (.aload_n 0, 1) := by decide +kernel
theorem dX1_become_75 : decode cX1_become 75 = .ok (.getfield 21, 3) := by decide +kernel
theorem dX1_become_78 : decode cX1_become 78 = .ok (.iconst 0, 1) := by decide +kernel
theorem dX1_become_79 : decode cX1_become 79 = .ok (.bipush 48, 2) := by decide +kernel
theorem dX1_become_81 : decode cX1_become 81 = .ok (.invokestatic 49, 3) := by decide +kernel
theorem dX1_become_84 : decode cX1_become 84 = .ok (.return_, 1) := by decide +kernel
theorem dX1_addresses_0 : decode cX1_addresses 0 = .ok (.aload_n 0, 1) := by decide +kernel
theorem dX1_addresses_1 : decode cX1_addresses 1 = .ok (.getfield 28, 3) := by decide +kernel
theorem dX1_addresses_4 : decode cX1_addresses 4 = .ok (.aload_n 0, 1) := by decide +kernel
theorem dX1_addresses_5 : decode cX1_addresses 5 = .ok (.getfield 35, 3) := by decide +kernel
theorem dX1_addresses_8 : decode cX1_addresses 8 = .ok (.imul, 1) := by decide +kernel
theorem dX1_addresses_9 : decode cX1_addresses 9 = .ok (.ireturn, 1) := by decide +kernel
theorem dX1_wires_0 : decode cX1_wires 0 = .ok (.bipush 8, 2) := by decide +kernel
theorem dX1_wires_2 : decode cX1_wires 2 = .ok (.aload_n 0, 1) := by decide +kernel
theorem dX1_wires_3 : decode cX1_wires 3 = .ok (.getfield 35, 3) := by decide +kernel
theorem dX1_wires_6 : decode cX1_wires 6 = .ok (.aload_n 0, 1) := by decide +kernel
theorem dX1_wires_7 : decode cX1_wires 7 = .ok (.getfield 32, 3) := by decide +kernel
theorem dX1_wires_10 : decode cX1_wires 10 = .ok (.iconst 1, 1) := by decide +kernel
theorem dX1_wires_11 : decode cX1_wires 11 = .ok (.iadd, 1) := by decide +kernel
theorem dX1_wires_12 : decode cX1_wires 12 = .ok (.imul, 1) := by decide +kernel
theorem dX1_wires_13 : decode cX1_wires 13 = .ok (.iadd, 1) := by decide +kernel
theorem dX1_wires_14 : decode cX1_wires 14 = .ok (.ireturn, 1) := by decide +kernel
theorem dX1_highestWord_0 : decode cX1_highestWord 0 = .ok (.iconst 1, 1) := by decide +kernel
theorem dX1_highestWord_1 : decode cX1_highestWord 1 = .ok (.aload_n 0, 1) := by decide +kernel
theorem dX1_highestWord_2 : decode cX1_highestWord 2 = .ok (.getfield 32, 3) := by decide +kernel
theorem dX1_highestWord_5 : decode cX1_highestWord 5 = .ok (.ishl, 1) := by decide +kernel
theorem dX1_highestWord_6 : decode cX1_highestWord 6 = .ok (.iconst 1, 1) := by decide +kernel
theorem dX1_highestWord_7 : decode cX1_highestWord 7 = .ok (.isub, 1) := by decide +kernel
theorem dX1_highestWord_8 : decode cX1_highestWord 8 = .ok (.ireturn, 1) := by decide +kernel
theorem dX1_hasRing_0 : decode cX1_hasRing 0 = .ok (.iload_n 1, 1) := by decide +kernel
theorem dX1_hasRing_1 : decode cX1_hasRing 1 = .ok (.ifCond .lt 15, 3) := by decide +kernel
theorem dX1_hasRing_4 : decode cX1_hasRing 4 = .ok (.iload_n 1, 1) := by decide +kernel
theorem dX1_hasRing_5 : decode cX1_hasRing 5 = .ok (.aload_n 0, 1) := by decide +kernel
theorem dX1_hasRing_6 : decode cX1_hasRing 6 = .ok (.getfield 28, 3) := by decide +kernel
theorem dX1_hasRing_9 : decode cX1_hasRing 9 = .ok (.if_icmp .ge 7, 3) := by decide +kernel
theorem dX1_hasRing_12 : decode cX1_hasRing 12 = .ok (.iconst 1, 1) := by decide +kernel
theorem dX1_hasRing_13 : decode cX1_hasRing 13 = .ok (.goto 4, 3) := by decide +kernel
theorem dX1_hasRing_16 : decode cX1_hasRing 16 = .ok (.iconst 0, 1) := by decide +kernel
theorem dX1_hasRing_17 : decode cX1_hasRing 17 = .ok (.ireturn, 1) := by decide +kernel
theorem dX1_hasWire_0 : decode cX1_hasWire 0 = .ok (.iload_n 1, 1) := by decide +kernel
theorem dX1_hasWire_1 : decode cX1_hasWire 1 = .ok (.ifCond .lt 15, 3) := by decide +kernel
theorem dX1_hasWire_4 : decode cX1_hasWire 4 = .ok (.iload_n 1, 1) := by decide +kernel
theorem dX1_hasWire_5 : decode cX1_hasWire 5 = .ok (.aload_n 0, 1) := by decide +kernel
theorem dX1_hasWire_6 : decode cX1_hasWire 6 = .ok (.invokevirtual 55, 3) := by decide +kernel
theorem dX1_hasWire_9 : decode cX1_hasWire 9 = .ok (.if_icmp .ge 7, 3) := by decide +kernel
theorem dX1_hasWire_12 : decode cX1_hasWire 12 = .ok (.iconst 1, 1) := by decide +kernel
theorem dX1_hasWire_13 : decode cX1_hasWire 13 = .ok (.goto 4, 3) := by decide +kernel
theorem dX1_hasWire_16 : decode cX1_hasWire 16 = .ok (.iconst 0, 1) := by decide +kernel
theorem dX1_hasWire_17 : decode cX1_hasWire 17 = .ok (.ireturn, 1) := by decide +kernel
theorem dX1_hasAddress_0 : decode cX1_hasAddress 0 = .ok (.iload_n 1, 1) := by decide +kernel
theorem dX1_hasAddress_1 : decode cX1_hasAddress 1 = .ok (.ifCond .lt 15, 3) := by decide +kernel
theorem dX1_hasAddress_4 : decode cX1_hasAddress 4 = .ok (.iload_n 1, 1) := by decide +kernel
theorem dX1_hasAddress_5 : decode cX1_hasAddress 5 = .ok (.aload_n 0, 1) := by decide +kernel
theorem dX1_hasAddress_6 : decode cX1_hasAddress 6 = .ok (.invokevirtual 42, 3) := by decide +kernel
theorem dX1_hasAddress_9 : decode cX1_hasAddress 9 = .ok (.if_icmp .ge 7, 3) := by decide +kernel
theorem dX1_hasAddress_12 : decode cX1_hasAddress 12 = .ok (.iconst 1, 1) := by decide +kernel
theorem dX1_hasAddress_13 : decode cX1_hasAddress 13 = .ok (.goto 4, 3) := by decide +kernel
theorem dX1_hasAddress_16 : decode cX1_hasAddress 16 = .ok (.iconst 0, 1) := by decide +kernel
theorem dX1_hasAddress_17 : decode cX1_hasAddress 17 = .ok (.ireturn, 1) := by decide +kernel
theorem dX1_fits_0 : decode cX1_fits 0 = .ok (.iload_n 1, 1) := by decide +kernel
theorem dX1_fits_1 : decode cX1_fits 1 = .ok (.ifCond .lt 15, 3) := by decide +kernel
theorem dX1_fits_4 : decode cX1_fits 4 = .ok (.iload_n 1, 1) := by decide +kernel
theorem dX1_fits_5 : decode cX1_fits 5 = .ok (.aload_n 0, 1) := by decide +kernel
theorem dX1_fits_6 : decode cX1_fits 6 = .ok (.invokevirtual 58, 3) := by decide +kernel
theorem dX1_fits_9 : decode cX1_fits 9 = .ok (.if_icmp .gt 7, 3) := by decide +kernel
theorem dX1_fits_12 : decode cX1_fits 12 = .ok (.iconst 1, 1) := by decide +kernel
theorem dX1_fits_13 : decode cX1_fits 13 = .ok (.goto 4, 3) := by decide +kernel
theorem dX1_fits_16 : decode cX1_fits 16 = .ok (.iconst 0, 1) := by decide +kernel
theorem dX1_fits_17 : decode cX1_fits 17 = .ok (.ireturn, 1) := by decide +kernel
theorem dX1_ringOf_0 : decode cX1_ringOf 0 = .ok (.iload_n 1, 1) := by decide +kernel
theorem dX1_ringOf_1 : decode cX1_ringOf 1 = .ok (.aload_n 0, 1) := by decide +kernel
theorem dX1_ringOf_2 : decode cX1_ringOf 2 = .ok (.getfield 35, 3) := by decide +kernel
theorem dX1_ringOf_5 : decode cX1_ringOf 5 = .ok (.idiv, 1) := by decide +kernel
theorem dX1_ringOf_6 : decode cX1_ringOf 6 = .ok (.ireturn, 1) := by decide +kernel
theorem dX1_setOf_0 : decode cX1_setOf 0 = .ok (.iload_n 1, 1) := by decide +kernel
theorem dX1_setOf_1 : decode cX1_setOf 1 = .ok (.aload_n 0, 1) := by decide +kernel
theorem dX1_setOf_2 : decode cX1_setOf 2 = .ok (.getfield 35, 3) := by decide +kernel
theorem dX1_setOf_5 : decode cX1_setOf 5 = .ok (.irem, 1) := by decide +kernel
theorem dX1_setOf_6 : decode cX1_setOf 6 = .ok (.ireturn, 1) := by decide +kernel
theorem dX1_senseWire_0 : decode cX1_senseWire 0 = .ok (.bipush 8, 2) := by decide +kernel
theorem dX1_senseWire_2 : decode cX1_senseWire 2 = .ok (.iload_n 1, 1) := by decide +kernel
theorem dX1_senseWire_3 : decode cX1_senseWire 3 = .ok (.aload_n 0, 1) := by decide +kernel
theorem dX1_senseWire_4 : decode cX1_senseWire 4 = .ok (.getfield 32, 3) := by decide +kernel
theorem dX1_senseWire_7 : decode cX1_senseWire 7 = .ok (.iconst 1, 1) := by decide +kernel
theorem dX1_senseWire_8 : decode cX1_senseWire 8 = .ok (.iadd, 1) := by decide +kernel
theorem dX1_senseWire_9 : decode cX1_senseWire 9 = .ok (.imul, 1) := by decide +kernel
theorem dX1_senseWire_10 : decode cX1_senseWire 10 = .ok (.iadd, 1) := by decide +kernel
theorem dX1_senseWire_11 : decode cX1_senseWire 11 = .ok (.iload_n 2, 1) := by decide +kernel
theorem dX1_senseWire_12 : decode cX1_senseWire 12 = .ok (.iadd, 1) := by decide +kernel
theorem dX1_senseWire_13 : decode cX1_senseWire 13 = .ok (.ireturn, 1) := by decide +kernel
theorem dX1_number_0 : decode cX1_number 0 = .ok (.iload_n 1, 1) := by decide +kernel
theorem dX1_number_1 : decode cX1_number 1 = .ok (.tableswitch 87 0 7 #[47, 52, 57, 62, 67, 72, 77, 82], 47) := by decide +kernel
theorem dX1_number_48 : decode cX1_number 48 = .ok (.aload_n 0, 1) := by decide +kernel
theorem dX1_number_49 : decode cX1_number 49 = .ok (.getfield 28, 3) := by decide +kernel
theorem dX1_number_52 : decode cX1_number 52 = .ok (.ireturn, 1) := by decide +kernel
theorem dX1_number_53 : decode cX1_number 53 = .ok (.aload_n 0, 1) := by decide +kernel
theorem dX1_number_54 : decode cX1_number 54 = .ok (.getfield 32, 3) := by decide +kernel
theorem dX1_number_57 : decode cX1_number 57 = .ok (.ireturn, 1) := by decide +kernel
theorem dX1_number_58 : decode cX1_number 58 = .ok (.aload_n 0, 1) := by decide +kernel
theorem dX1_number_59 : decode cX1_number 59 = .ok (.getfield 35, 3) := by decide +kernel
theorem dX1_number_62 : decode cX1_number 62 = .ok (.ireturn, 1) := by decide +kernel
theorem dX1_number_63 : decode cX1_number 63 = .ok (.aload_n 0, 1) := by decide +kernel
theorem dX1_number_64 : decode cX1_number 64 = .ok (.invokevirtual 42, 3) := by decide +kernel
theorem dX1_number_67 : decode cX1_number 67 = .ok (.ireturn, 1) := by decide +kernel
theorem dX1_number_68 : decode cX1_number 68 = .ok (.aload_n 0, 1) := by decide +kernel
theorem dX1_number_69 : decode cX1_number 69 = .ok (.invokevirtual 55, 3) := by decide +kernel
theorem dX1_number_72 : decode cX1_number 72 = .ok (.ireturn, 1) := by decide +kernel
theorem dX1_number_73 : decode cX1_number 73 = .ok (.aload_n 0, 1) := by decide +kernel
theorem dX1_number_74 : decode cX1_number 74 = .ok (.invokevirtual 61, 3) := by decide +kernel
theorem dX1_number_77 : decode cX1_number 77 = .ok (.ireturn, 1) := by decide +kernel
theorem dX1_number_78 : decode cX1_number 78 = .ok (.aload_n 0, 1) := by decide +kernel
theorem dX1_number_79 : decode cX1_number 79 = .ok (.invokevirtual 64, 3) := by decide +kernel
theorem dX1_number_82 : decode cX1_number 82 = .ok (.ireturn, 1) := by decide +kernel
theorem dX1_number_83 : decode cX1_number 83 = .ok (.aload_n 0, 1) := by decide +kernel
theorem dX1_number_84 : decode cX1_number 84 = .ok (.invokevirtual 67, 3) := by decide +kernel
theorem dX1_number_87 : decode cX1_number 87 = .ok (.ireturn, 1) := by decide +kernel
theorem dX1_number_88 : decode cX1_number 88 = .ok (.aload_n 0, 1) := by decide +kernel
theorem dX1_number_89 : decode cX1_number 89 = .ok (.invokevirtual 70, 3) := by decide +kernel
theorem dX1_number_92 : decode cX1_number 92 = .ok (.ireturn, 1) := by decide +kernel
theorem dX1_crossedWires_0 : decode cX1_crossedWires 0 = .ok (.iconst 0, 1) := by decide +kernel
theorem dX1_crossedWires_1 : decode cX1_crossedWires 1 = .ok (.istore_n 1, 1) := by decide +kernel
theorem dX1_crossedWires_2 : decode cX1_crossedWires 2 = .ok (.bipush 8, 2) := by decide +kernel
theorem dX1_crossedWires_4 : decode cX1_crossedWires 4 = .ok (.istore_n 2, 1) := by decide +kernel
theorem dX1_crossedWires_5 : decode cX1_crossedWires 5 = .ok (.iload_n 2, 1) := by decide +kernel
theorem dX1_crossedWires_6 : decode cX1_crossedWires 6 = .ok (.aload_n 0, 1) := by decide +kernel
theorem dX1_crossedWires_7 : decode cX1_crossedWires 7 = .ok (.invokevirtual 55, 3) := by decide +kernel
theorem dX1_crossedWires_10 : decode cX1_crossedWires 10 = .ok (.if_icmp .ge 18, 3) := by decide +kernel
theorem dX1_crossedWires_13 : decode cX1_crossedWires 13 = .ok (.iload_n 1, 1) := by decide +kernel
theorem dX1_crossedWires_14 : decode cX1_crossedWires 14 = .ok (.aload_n 0, 1) := by decide +kernel
theorem dX1_crossedWires_15 : decode cX1_crossedWires 15 = .ok (.getfield 18, 3) := by decide +kernel
theorem dX1_crossedWires_18 : decode cX1_crossedWires 18 = .ok (.iload_n 2, 1) := by decide +kernel
theorem dX1_crossedWires_19 : decode cX1_crossedWires 19 = .ok (.iaload, 1) := by decide +kernel
theorem dX1_crossedWires_20 : decode cX1_crossedWires 20 = .ok (.iadd, 1) := by decide +kernel
theorem dX1_crossedWires_21 : decode cX1_crossedWires 21 = .ok (.istore_n 1, 1) := by decide +kernel
theorem dX1_crossedWires_22 : decode cX1_crossedWires 22 = .ok (.iinc 2 1, 3) := by decide +kernel
theorem dX1_crossedWires_25 : decode cX1_crossedWires 25 = .ok (.goto (-20), 3) := by decide +kernel
theorem dX1_crossedWires_28 : decode cX1_crossedWires 28 = .ok (.iload_n 1, 1) := by decide +kernel
theorem dX1_crossedWires_29 : decode cX1_crossedWires 29 = .ok (.ireturn, 1) := by decide +kernel
theorem dX1_wrongWeaveCount_0 : decode cX1_wrongWeaveCount 0 = .ok (.iconst 0, 1) := by decide +kernel
theorem dX1_wrongWeaveCount_1 : decode cX1_wrongWeaveCount 1 = .ok (.istore_n 1, 1) := by decide +kernel
theorem dX1_wrongWeaveCount_2 : decode cX1_wrongWeaveCount 2 = .ok (.iconst 0, 1) := by decide +kernel
theorem dX1_wrongWeaveCount_3 : decode cX1_wrongWeaveCount 3 = .ok (.istore_n 2, 1) := by decide +kernel
theorem dX1_wrongWeaveCount_4 : decode cX1_wrongWeaveCount 4 = .ok (.iload_n 2, 1) := by decide +kernel
theorem dX1_wrongWeaveCount_5 : decode cX1_wrongWeaveCount 5 = .ok (.aload_n 0, 1) := by decide +kernel
theorem dX1_wrongWeaveCount_6 : decode cX1_wrongWeaveCount 6 = .ok (.invokevirtual 55, 3) := by decide +kernel
theorem dX1_wrongWeaveCount_9 : decode cX1_wrongWeaveCount 9 = .ok (.if_icmp .ge 21, 3) := by decide +kernel
theorem dX1_wrongWeaveCount_12 : decode cX1_wrongWeaveCount 12 = .ok (.iload_n 1, 1) := by decide +kernel
theorem dX1_wrongWeaveCount_13 : decode cX1_wrongWeaveCount 13 = .ok (.aload_n 0, 1) := by decide +kernel
theorem dX1_wrongWeaveCount_14 : decode cX1_wrongWeaveCount 14 = .ok (.getfield 15, 3) := by decide +kernel
theorem dX1_wrongWeaveCount_17 : decode cX1_wrongWeaveCount 17 = .ok (.iload_n 2, 1) := by decide +kernel
theorem dX1_wrongWeaveCount_18 : decode cX1_wrongWeaveCount 18 = .ok (.iaload, 1) := by decide +kernel
theorem dX1_wrongWeaveCount_19 : decode cX1_wrongWeaveCount 19 = .ok (.invokestatic 73, 3) := by decide +kernel
theorem dX1_wrongWeaveCount_22 : decode cX1_wrongWeaveCount 22 = .ok (.iadd, 1) := by decide +kernel
theorem dX1_wrongWeaveCount_23 : decode cX1_wrongWeaveCount 23 = .ok (.istore_n 1, 1) := by decide +kernel
theorem dX1_wrongWeaveCount_24 : decode cX1_wrongWeaveCount 24 = .ok (.iinc 2 1, 3) := by decide +kernel
theorem dX1_wrongWeaveCount_27 : decode cX1_wrongWeaveCount 27 = .ok (.goto (-23), 3) := by decide +kernel
theorem dX1_wrongWeaveCount_30 : decode cX1_wrongWeaveCount 30 = .ok (.iload_n 1, 1) := by decide +kernel
theorem dX1_wrongWeaveCount_31 : decode cX1_wrongWeaveCount 31 = .ok (.ireturn, 1) := by decide +kernel
theorem dX1_wholeCost_0 : decode cX1_wholeCost 0 = .ok (.iconst 0, 1) := by decide +kernel
theorem dX1_wholeCost_1 : decode cX1_wholeCost 1 = .ok (.istore_n 1, 1) := by decide +kernel
theorem dX1_wholeCost_2 : decode cX1_wholeCost 2 = .ok (.iconst 0, 1) := by decide +kernel
theorem dX1_wholeCost_3 : decode cX1_wholeCost 3 = .ok (.istore_n 2, 1) := by decide +kernel
theorem dX1_wholeCost_4 : decode cX1_wholeCost 4 = .ok (.iload_n 2, 1) := by decide +kernel
theorem dX1_wholeCost_5 : decode cX1_wholeCost 5 = .ok (.aload_n 0, 1) := by decide +kernel
theorem dX1_wholeCost_6 : decode cX1_wholeCost 6 = .ok (.invokevirtual 55, 3) := by decide +kernel
theorem dX1_wholeCost_9 : decode cX1_wholeCost 9 = .ok (.if_icmp .ge 17, 3) := by decide +kernel
theorem dX1_wholeCost_12 : decode cX1_wholeCost 12 = .ok (.iload_n 1, 1) := by decide +kernel
theorem dX1_wholeCost_13 : decode cX1_wholeCost 13 = .ok (.aload_n 0, 1) := by decide +kernel
theorem dX1_wholeCost_14 : decode cX1_wholeCost 14 = .ok (.iload_n 2, 1) := by decide +kernel
theorem dX1_wholeCost_15 : decode cX1_wholeCost 15 = .ok (.invokevirtual 79, 3) := by decide +kernel
theorem dX1_wholeCost_18 : decode cX1_wholeCost 18 = .ok (.iadd, 1) := by decide +kernel
theorem dX1_wholeCost_19 : decode cX1_wholeCost 19 = .ok (.istore_n 1, 1) := by decide +kernel
theorem dX1_wholeCost_20 : decode cX1_wholeCost 20 = .ok (.iinc 2 1, 3) := by decide +kernel
theorem dX1_wholeCost_23 : decode cX1_wholeCost 23 = .ok (.goto (-19), 3) := by decide +kernel
theorem dX1_wholeCost_26 : decode cX1_wholeCost 26 = .ok (.iload_n 1, 1) := by decide +kernel
theorem dX1_wholeCost_27 : decode cX1_wholeCost 27 = .ok (.ireturn, 1) := by decide +kernel
theorem dX1_putBit_0 : decode cX1_putBit 0 = .ok (.aload_n 0, 1) := by decide +kernel
theorem dX1_putBit_1 : decode cX1_putBit 1 = .ok (.getfield 9, 3) := by decide +kernel
theorem dX1_putBit_4 : decode cX1_putBit 4 = .ok (.iload_n 1, 1) := by decide +kernel
theorem dX1_putBit_5 : decode cX1_putBit 5 = .ok (.aload_n 0, 1) := by decide +kernel
theorem dX1_putBit_6 : decode cX1_putBit 6 = .ok (.getfield 9, 3) := by decide +kernel
theorem dX1_putBit_9 : decode cX1_putBit 9 = .ok (.iload_n 1, 1) := by decide +kernel
theorem dX1_putBit_10 : decode cX1_putBit 10 = .ok (.iaload, 1) := by decide +kernel
theorem dX1_putBit_11 : decode cX1_putBit 11 = .ok (.iconst 1, 1) := by decide +kernel
theorem dX1_putBit_12 : decode cX1_putBit 12 = .ok (.iload_n 2, 1) := by decide +kernel
theorem dX1_putBit_13 : decode cX1_putBit 13 = .ok (.ishl, 1) := by decide +kernel
theorem dX1_putBit_14 : decode cX1_putBit 14 = .ok (.iconst (-1), 1) := by decide +kernel
theorem dX1_putBit_15 : decode cX1_putBit 15 = .ok (.ixor, 1) := by decide +kernel
theorem dX1_putBit_16 : decode cX1_putBit 16 = .ok (.iand, 1) := by decide +kernel
theorem dX1_putBit_17 : decode cX1_putBit 17 = .ok (.iload_n 3, 1) := by decide +kernel
theorem dX1_putBit_18 : decode cX1_putBit 18 = .ok (.iload_n 2, 1) := by decide +kernel
theorem dX1_putBit_19 : decode cX1_putBit 19 = .ok (.ishl, 1) := by decide +kernel
theorem dX1_putBit_20 : decode cX1_putBit 20 = .ok (.ior, 1) := by decide +kernel
theorem dX1_putBit_21 : decode cX1_putBit 21 = .ok (.iastore, 1) := by decide +kernel
theorem dX1_putBit_22 : decode cX1_putBit 22 = .ok (.return_, 1) := by decide +kernel
theorem dX1_codeOf_0 : decode cX1_codeOf 0 = .ok (.iconst 0, 1) := by decide +kernel
theorem dX1_codeOf_1 : decode cX1_codeOf 1 = .ok (.istore_n 2, 1) := by decide +kernel
theorem dX1_codeOf_2 : decode cX1_codeOf 2 = .ok (.iconst 0, 1) := by decide +kernel
theorem dX1_codeOf_3 : decode cX1_codeOf 3 = .ok (.istore_n 3, 1) := by decide +kernel
theorem dX1_codeOf_4 : decode cX1_codeOf 4 = .ok (.iload_n 3, 1) := by decide +kernel
theorem dX1_codeOf_5 : decode cX1_codeOf 5 = .ok (.iconst 4, 1) := by decide +kernel
theorem dX1_codeOf_6 : decode cX1_codeOf 6 = .ok (.if_icmp .ge 28, 3) := by decide +kernel
theorem dX1_codeOf_9 : decode cX1_codeOf 9 = .ok (.iload_n 2, 1) := by decide +kernel
theorem dX1_codeOf_10 : decode cX1_codeOf 10 = .ok (.aload_n 0, 1) := by decide +kernel
theorem dX1_codeOf_11 : decode cX1_codeOf 11 = .ok (.getfield 9, 3) := by decide +kernel
theorem dX1_codeOf_14 : decode cX1_codeOf 14 = .ok (.iconst 2, 1) := by decide +kernel
theorem dX1_codeOf_15 : decode cX1_codeOf 15 = .ok (.iload_n 3, 1) := by decide +kernel
theorem dX1_codeOf_16 : decode cX1_codeOf 16 = .ok (.imul, 1) := by decide +kernel
theorem dX1_codeOf_17 : decode cX1_codeOf 17 = .ok (.iconst 1, 1) := by decide +kernel
theorem dX1_codeOf_18 : decode cX1_codeOf 18 = .ok (.iadd, 1) := by decide +kernel
theorem dX1_codeOf_19 : decode cX1_codeOf 19 = .ok (.iaload, 1) := by decide +kernel
theorem dX1_codeOf_20 : decode cX1_codeOf 20 = .ok (.iload_n 1, 1) := by decide +kernel
theorem dX1_codeOf_21 : decode cX1_codeOf 21 = .ok (.ishr, 1) := by decide +kernel
theorem dX1_codeOf_22 : decode cX1_codeOf 22 = .ok (.iconst 1, 1) := by decide +kernel
theorem dX1_codeOf_23 : decode cX1_codeOf 23 = .ok (.iand, 1) := by decide +kernel
theorem dX1_codeOf_24 : decode cX1_codeOf 24 = .ok (.iload_n 3, 1) := by decide +kernel
theorem dX1_codeOf_25 : decode cX1_codeOf 25 = .ok (.ishl, 1) := by decide +kernel
theorem dX1_codeOf_26 : decode cX1_codeOf 26 = .ok (.ior, 1) := by decide +kernel
theorem dX1_codeOf_27 : decode cX1_codeOf 27 = .ok (.istore_n 2, 1) := by decide +kernel
theorem dX1_codeOf_28 : decode cX1_codeOf 28 = .ok (.iinc 3 1, 3) := by decide +kernel
theorem dX1_codeOf_31 : decode cX1_codeOf 31 = .ok (.goto (-27), 3) := by decide +kernel
theorem dX1_codeOf_34 : decode cX1_codeOf 34 = .ok (.iload_n 2, 1) := by decide +kernel
theorem dX1_codeOf_35 : decode cX1_codeOf 35 = .ok (.ireturn, 1) := by decide +kernel
theorem dX1_putCode_0 : decode cX1_putCode 0 = .ok (.iconst 0, 1) := by decide +kernel
theorem dX1_putCode_1 : decode cX1_putCode 1 = .ok (.istore_n 3, 1) := by decide +kernel
theorem dX1_putCode_2 : decode cX1_putCode 2 = .ok (.iload_n 3, 1) := by decide +kernel
theorem dX1_putCode_3 : decode cX1_putCode 3 = .ok (.iconst 4, 1) := by decide +kernel
theorem dX1_putCode_4 : decode cX1_putCode 4 = .ok (.if_icmp .ge 40, 3) := by decide +kernel
theorem dX1_putCode_7 : decode cX1_putCode 7 = .ok (.iload_n 2, 1) := by decide +kernel
theorem dX1_putCode_8 : decode cX1_putCode 8 = .ok (.iload_n 3, 1) := by decide +kernel
theorem dX1_putCode_9 : decode cX1_putCode 9 = .ok (.ishr, 1) := by decide +kernel
theorem dX1_putCode_10 : decode cX1_putCode 10 = .ok (.iconst 1, 1) := by decide +kernel
theorem dX1_putCode_11 : decode cX1_putCode 11 = .ok (.iand, 1) := by decide +kernel
theorem dX1_putCode_12 : decode cX1_putCode 12 = .ok (.istore 4, 2) := by decide +kernel
theorem dX1_putCode_14 : decode cX1_putCode 14 = .ok (.aload_n 0, 1) := by decide +kernel
theorem dX1_putCode_15 : decode cX1_putCode 15 = .ok (.iconst 2, 1) := by decide +kernel
theorem dX1_putCode_16 : decode cX1_putCode 16 = .ok (.iload_n 3, 1) := by decide +kernel
theorem dX1_putCode_17 : decode cX1_putCode 17 = .ok (.imul, 1) := by decide +kernel
theorem dX1_putCode_18 : decode cX1_putCode 18 = .ok (.iload_n 1, 1) := by decide +kernel
theorem dX1_putCode_19 : decode cX1_putCode 19 = .ok (.iconst 1, 1) := by decide +kernel
theorem dX1_putCode_20 : decode cX1_putCode 20 = .ok (.iload 4, 2) := by decide +kernel
theorem dX1_putCode_22 : decode cX1_putCode 22 = .ok (.isub, 1) := by decide +kernel
theorem dX1_putCode_23 : decode cX1_putCode 23 = .ok (.invokevirtual 82, 3) := by decide +kernel
theorem dX1_putCode_26 : decode cX1_putCode 26 = .ok (.aload_n 0, 1) := by decide +kernel
theorem dX1_putCode_27 : decode cX1_putCode 27 = .ok (.iconst 2, 1) := by decide +kernel
theorem dX1_putCode_28 : decode cX1_putCode 28 = .ok (.iload_n 3, 1) := by decide +kernel
theorem dX1_putCode_29 : decode cX1_putCode 29 = .ok (.imul, 1) := by decide +kernel
theorem dX1_putCode_30 : decode cX1_putCode 30 = .ok (.iconst 1, 1) := by decide +kernel
theorem dX1_putCode_31 : decode cX1_putCode 31 = .ok (.iadd, 1) := by decide +kernel
theorem dX1_putCode_32 : decode cX1_putCode 32 = .ok (.iload_n 1, 1) := by decide +kernel
theorem dX1_putCode_33 : decode cX1_putCode 33 = .ok (.iload 4, 2) := by decide +kernel
theorem dX1_putCode_35 : decode cX1_putCode 35 = .ok (.invokevirtual 82, 3) := by decide +kernel
theorem dX1_putCode_38 : decode cX1_putCode 38 = .ok (.iinc 3 1, 3) := by decide +kernel
theorem dX1_putCode_41 : decode cX1_putCode 41 = .ok (.goto (-39), 3) := by decide +kernel
theorem dX1_putCode_44 : decode cX1_putCode 44 = .ok (.return_, 1) := by decide +kernel
theorem dX1_ringWithCode_0 : decode cX1_ringWithCode 0 = .ok (.iconst 0, 1) := by decide +kernel
theorem dX1_ringWithCode_1 : decode cX1_ringWithCode 1 = .ok (.istore_n 2, 1) := by decide +kernel
theorem dX1_ringWithCode_2 : decode cX1_ringWithCode 2 = .ok (.iload_n 2, 1) := by decide +kernel
theorem dX1_ringWithCode_3 : decode cX1_ringWithCode 3 = .ok (.aload_n 0, 1) := by decide +kernel
theorem dX1_ringWithCode_4 : decode cX1_ringWithCode 4 = .ok (.getfield 28, 3) := by decide +kernel
theorem dX1_ringWithCode_7 : decode cX1_ringWithCode 7 = .ok (.if_icmp .ge 20, 3) := by decide +kernel
theorem dX1_ringWithCode_10 : decode cX1_ringWithCode 10 = .ok (.aload_n 0, 1) := by decide +kernel
theorem dX1_ringWithCode_11 : decode cX1_ringWithCode 11 = .ok (.iload_n 2, 1) := by decide +kernel
theorem dX1_ringWithCode_12 : decode cX1_ringWithCode 12 = .ok (.invokevirtual 85, 3) := by decide +kernel
theorem dX1_ringWithCode_15 : decode cX1_ringWithCode 15 = .ok (.iload_n 1, 1) := by decide +kernel
theorem dX1_ringWithCode_16 : decode cX1_ringWithCode 16 = .ok (.if_icmp .ne 5, 3) := by decide +kernel
theorem dX1_ringWithCode_19 : decode cX1_ringWithCode 19 = .ok (.iload_n 2, 1) := by decide +kernel
theorem dX1_ringWithCode_20 : decode cX1_ringWithCode 20 = .ok (.ireturn, 1) := by decide +kernel
theorem dX1_ringWithCode_21 : decode cX1_ringWithCode 21 = .ok (.iinc 2 1, 3) := by decide +kernel
theorem dX1_ringWithCode_24 : decode cX1_ringWithCode 24 = .ok (.goto (-22), 3) := by decide +kernel
theorem dX1_ringWithCode_27 : decode cX1_ringWithCode 27 = .ok (.iconst (-1), 1) := by decide +kernel
theorem dX1_ringWithCode_28 : decode cX1_ringWithCode 28 = .ok (.ireturn, 1) := by decide +kernel
theorem dX1_wordAt_0 : decode cX1_wordAt 0 = .ok (.aload_n 0, 1) := by decide +kernel
theorem dX1_wordAt_1 : decode cX1_wordAt 1 = .ok (.aload_n 0, 1) := by decide +kernel
theorem dX1_wordAt_2 : decode cX1_wordAt 2 = .ok (.iload_n 1, 1) := by decide +kernel
theorem dX1_wordAt_3 : decode cX1_wordAt 3 = .ok (.invokevirtual 88, 3) := by decide +kernel
theorem dX1_wordAt_6 : decode cX1_wordAt 6 = .ok (.iconst 1, 1) := by decide +kernel
theorem dX1_wordAt_7 : decode cX1_wordAt 7 = .ok (.aload_n 0, 1) := by decide +kernel
theorem dX1_wordAt_8 : decode cX1_wordAt 8 = .ok (.iload_n 1, 1) := by decide +kernel
theorem dX1_wordAt_9 : decode cX1_wordAt 9 = .ok (.invokevirtual 91, 3) := by decide +kernel
theorem dX1_wordAt_12 : decode cX1_wordAt 12 = .ok (.ishl, 1) := by decide +kernel
theorem dX1_wordAt_13 : decode cX1_wordAt 13 = .ok (.invokevirtual 94, 3) := by decide +kernel
theorem dX1_wordAt_16 : decode cX1_wordAt 16 = .ok (.aload_n 0, 1) := by decide +kernel
theorem dX1_wordAt_17 : decode cX1_wordAt 17 = .ok (.invokevirtual 58, 3) := by decide +kernel
theorem dX1_wordAt_20 : decode cX1_wordAt 20 = .ok (.iand, 1) := by decide +kernel
theorem dX1_wordAt_21 : decode cX1_wordAt 21 = .ok (.ireturn, 1) := by decide +kernel
theorem dX1_putWord_0 : decode cX1_putWord 0 = .ok (.aload_n 0, 1) := by decide +kernel
theorem dX1_putWord_1 : decode cX1_putWord 1 = .ok (.iload_n 1, 1) := by decide +kernel
theorem dX1_putWord_2 : decode cX1_putWord 2 = .ok (.invokevirtual 91, 3) := by decide +kernel
theorem dX1_putWord_5 : decode cX1_putWord 5 = .ok (.istore_n 3, 1) := by decide +kernel
theorem dX1_putWord_6 : decode cX1_putWord 6 = .ok (.aload_n 0, 1) := by decide +kernel
theorem dX1_putWord_7 : decode cX1_putWord 7 = .ok (.iload_n 1, 1) := by decide +kernel
theorem dX1_putWord_8 : decode cX1_putWord 8 = .ok (.invokevirtual 88, 3) := by decide +kernel
theorem dX1_putWord_11 : decode cX1_putWord 11 = .ok (.istore 4, 2) := by decide +kernel
theorem dX1_putWord_13 : decode cX1_putWord 13 = .ok (.iconst 0, 1) := by decide +kernel
theorem dX1_putWord_14 : decode cX1_putWord 14 = .ok (.istore 5, 2) := by decide +kernel
theorem dX1_putWord_16 : decode cX1_putWord 16 = .ok (.iload 5, 2) := by decide +kernel
theorem dX1_putWord_18 : decode cX1_putWord 18 = .ok (.aload_n 0, 1) := by decide +kernel
theorem dX1_putWord_19 : decode cX1_putWord 19 = .ok (.getfield 32, 3) := by decide +kernel
theorem dX1_putWord_22 : decode cX1_putWord 22 = .ok (.if_icmp .ge 28, 3) := by decide +kernel
theorem dX1_putWord_25 : decode cX1_putWord 25 = .ok (.aload_n 0, 1) := by decide +kernel
theorem dX1_putWord_26 : decode cX1_putWord 26 = .ok (.aload_n 0, 1) := by decide +kernel
theorem dX1_putWord_27 : decode cX1_putWord 27 = .ok (.iload 4, 2) := by decide +kernel
theorem dX1_putWord_29 : decode cX1_putWord 29 = .ok (.iload 5, 2) := by decide +kernel
theorem dX1_putWord_31 : decode cX1_putWord 31 = .ok (.invokevirtual 98, 3) := by decide +kernel
theorem dX1_putWord_34 : decode cX1_putWord 34 = .ok (.iload_n 3, 1) := by decide +kernel
theorem dX1_putWord_35 : decode cX1_putWord 35 = .ok (.iload_n 2, 1) := by decide +kernel
theorem dX1_putWord_36 : decode cX1_putWord 36 = .ok (.iload 5, 2) := by decide +kernel
theorem dX1_putWord_38 : decode cX1_putWord 38 = .ok (.ishr, 1) := by decide +kernel
theorem dX1_putWord_39 : decode cX1_putWord 39 = .ok (.iconst 1, 1) := by decide +kernel
theorem dX1_putWord_40 : decode cX1_putWord 40 = .ok (.iand, 1) := by decide +kernel
theorem dX1_putWord_41 : decode cX1_putWord 41 = .ok (.invokevirtual 82, 3) := by decide +kernel
theorem dX1_putWord_44 : decode cX1_putWord 44 = .ok (.iinc 5 1, 3) := by decide +kernel
theorem dX1_putWord_47 : decode cX1_putWord 47 = .ok (.goto (-31), 3) := by decide +kernel
theorem dX1_putWord_50 : decode cX1_putWord 50 = .ok (.aload_n 0, 1) := by decide +kernel
theorem dX1_putWord_51 : decode cX1_putWord 51 = .ok (.aload_n 0, 1) := by decide +kernel
theorem dX1_putWord_52 : decode cX1_putWord 52 = .ok (.iload 4, 2) := by decide +kernel
theorem dX1_putWord_54 : decode cX1_putWord 54 = .ok (.aload_n 0, 1) := by decide +kernel
theorem dX1_putWord_55 : decode cX1_putWord 55 = .ok (.getfield 32, 3) := by decide +kernel
theorem dX1_putWord_58 : decode cX1_putWord 58 = .ok (.invokevirtual 98, 3) := by decide +kernel
theorem dX1_putWord_61 : decode cX1_putWord 61 = .ok (.iload_n 3, 1) := by decide +kernel
theorem dX1_putWord_62 : decode cX1_putWord 62 = .ok (.iconst 1, 1) := by decide +kernel
theorem dX1_putWord_63 : decode cX1_putWord 63 = .ok (.iload_n 2, 1) := by decide +kernel
theorem dX1_putWord_64 : decode cX1_putWord 64 = .ok (.invokestatic 73, 3) := by decide +kernel
theorem dX1_putWord_67 : decode cX1_putWord 67 = .ok (.iconst 1, 1) := by decide +kernel
theorem dX1_putWord_68 : decode cX1_putWord 68 = .ok (.iand, 1) := by decide +kernel
theorem dX1_putWord_69 : decode cX1_putWord 69 = .ok (.isub, 1) := by decide +kernel
theorem dX1_putWord_70 : decode cX1_putWord 70 = .ok (.invokevirtual 82, 3) := by decide +kernel
theorem dX1_putWord_73 : decode cX1_putWord 73 = .ok (.return_, 1) := by decide +kernel
theorem dX1_turn_0 : decode cX1_turn 0 = .ok (.aload_n 0, 1) := by decide +kernel
theorem dX1_turn_1 : decode cX1_turn 1 = .ok (.getfield 18, 3) := by decide +kernel
theorem dX1_turn_4 : decode cX1_turn 4 = .ok (.iload_n 1, 1) := by decide +kernel
theorem dX1_turn_5 : decode cX1_turn 5 = .ok (.iconst 1, 1) := by decide +kernel
theorem dX1_turn_6 : decode cX1_turn 6 = .ok (.aload_n 0, 1) := by decide +kernel
theorem dX1_turn_7 : decode cX1_turn 7 = .ok (.getfield 18, 3) := by decide +kernel
theorem dX1_turn_10 : decode cX1_turn 10 = .ok (.iload_n 1, 1) := by decide +kernel
theorem dX1_turn_11 : decode cX1_turn 11 = .ok (.iaload, 1) := by decide +kernel
theorem dX1_turn_12 : decode cX1_turn 12 = .ok (.isub, 1) := by decide +kernel
theorem dX1_turn_13 : decode cX1_turn 13 = .ok (.iastore, 1) := by decide +kernel
theorem dX1_turn_14 : decode cX1_turn 14 = .ok (.aload_n 0, 1) := by decide +kernel
theorem dX1_turn_15 : decode cX1_turn 15 = .ok (.getfield 18, 3) := by decide +kernel
theorem dX1_turn_18 : decode cX1_turn 18 = .ok (.iload_n 1, 1) := by decide +kernel
theorem dX1_turn_19 : decode cX1_turn 19 = .ok (.iaload, 1) := by decide +kernel
theorem dX1_turn_20 : decode cX1_turn 20 = .ok (.ireturn, 1) := by decide +kernel
theorem dX1_spoilOrMend_0 : decode cX1_spoilOrMend 0 = .ok (.aload_n 0, 1) := by decide +kernel
theorem dX1_spoilOrMend_1 : decode cX1_spoilOrMend 1 = .ok (.getfield 15, 3) := by decide +kernel
theorem dX1_spoilOrMend_4 : decode cX1_spoilOrMend 4 = .ok (.iload_n 1, 1) := by decide +kernel
theorem dX1_spoilOrMend_5 : decode cX1_spoilOrMend 5 = .ok (.dup2, 1) := by decide +kernel
theorem dX1_spoilOrMend_6 : decode cX1_spoilOrMend 6 = .ok (.iaload, 1) := by decide +kernel
theorem dX1_spoilOrMend_7 : decode cX1_spoilOrMend 7 = .ok (.iconst 1, 1) := by decide +kernel
theorem dX1_spoilOrMend_8 : decode cX1_spoilOrMend 8 = .ok (.iload_n 2, 1) := by decide +kernel
theorem dX1_spoilOrMend_9 : decode cX1_spoilOrMend 9 = .ok (.ishl, 1) := by decide +kernel
theorem dX1_spoilOrMend_10 : decode cX1_spoilOrMend 10 = .ok (.ixor, 1) := by decide +kernel
theorem dX1_spoilOrMend_11 : decode cX1_spoilOrMend 11 = .ok (.iastore, 1) := by decide +kernel
theorem dX1_spoilOrMend_12 : decode cX1_spoilOrMend 12 = .ok (.aload_n 0, 1) := by decide +kernel
theorem dX1_spoilOrMend_13 : decode cX1_spoilOrMend 13 = .ok (.getfield 15, 3) := by decide +kernel
theorem dX1_spoilOrMend_16 : decode cX1_spoilOrMend 16 = .ok (.iload_n 1, 1) := by decide +kernel
theorem dX1_spoilOrMend_17 : decode cX1_spoilOrMend 17 = .ok (.iaload, 1) := by decide +kernel
theorem dX1_spoilOrMend_18 : decode cX1_spoilOrMend 18 = .ok (.iload_n 2, 1) := by decide +kernel
theorem dX1_spoilOrMend_19 : decode cX1_spoilOrMend 19 = .ok (.ishr, 1) := by decide +kernel
theorem dX1_spoilOrMend_20 : decode cX1_spoilOrMend 20 = .ok (.iconst 1, 1) := by decide +kernel
theorem dX1_spoilOrMend_21 : decode cX1_spoilOrMend 21 = .ok (.iand, 1) := by decide +kernel
theorem dX1_spoilOrMend_22 : decode cX1_spoilOrMend 22 = .ok (.ireturn, 1) := by decide +kernel
theorem dX1_rightWeave_0 : decode cX1_rightWeave 0 = .ok (.aload_n 0, 1) := by decide +kernel
theorem dX1_rightWeave_1 : decode cX1_rightWeave 1 = .ok (.getfield 18, 3) := by decide +kernel
theorem dX1_rightWeave_4 : decode cX1_rightWeave 4 = .ok (.iload_n 1, 1) := by decide +kernel
theorem dX1_rightWeave_5 : decode cX1_rightWeave 5 = .ok (.iaload, 1) := by decide +kernel
theorem dX1_rightWeave_6 : decode cX1_rightWeave 6 = .ok (.iconst 1, 1) := by decide +kernel
theorem dX1_rightWeave_7 : decode cX1_rightWeave 7 = .ok (.if_icmp .ne 21, 3) := by decide +kernel
theorem dX1_rightWeave_10 : decode cX1_rightWeave 10 = .ok (.aload_n 0, 1) := by decide +kernel
theorem dX1_rightWeave_11 : decode cX1_rightWeave 11 = .ok (.getfield 9, 3) := by decide +kernel
theorem dX1_rightWeave_14 : decode cX1_rightWeave 14 = .ok (.iload_n 1, 1) := by decide +kernel
theorem dX1_rightWeave_15 : decode cX1_rightWeave 15 = .ok (.iaload, 1) := by decide +kernel
theorem dX1_rightWeave_16 : decode cX1_rightWeave 16 = .ok (.iconst 1, 1) := by decide +kernel
theorem dX1_rightWeave_17 : decode cX1_rightWeave 17 = .ok (.aload_n 0, 1) := by decide +kernel
theorem dX1_rightWeave_18 : decode cX1_rightWeave 18 = .ok (.getfield 28, 3) := by decide +kernel
theorem dX1_rightWeave_21 : decode cX1_rightWeave 21 = .ok (.ishl, 1) := by decide +kernel
theorem dX1_rightWeave_22 : decode cX1_rightWeave 22 = .ok (.iconst 1, 1) := by decide +kernel
theorem dX1_rightWeave_23 : decode cX1_rightWeave 23 = .ok (.isub, 1) := by decide +kernel
theorem dX1_rightWeave_24 : decode cX1_rightWeave 24 = .ok (.ixor, 1) := by decide +kernel
theorem dX1_rightWeave_25 : decode cX1_rightWeave 25 = .ok (.goto 9, 3) := by decide +kernel
theorem dX1_rightWeave_28 : decode cX1_rightWeave 28 = .ok (.aload_n 0, 1) := by decide +kernel
theorem dX1_rightWeave_29 : decode cX1_rightWeave 29 = .ok (.getfield 9, 3) := by decide +kernel
theorem dX1_rightWeave_32 : decode cX1_rightWeave 32 = .ok (.iload_n 1, 1) := by decide +kernel
theorem dX1_rightWeave_33 : decode cX1_rightWeave 33 = .ok (.iaload, 1) := by decide +kernel
theorem dX1_rightWeave_34 : decode cX1_rightWeave 34 = .ok (.ireturn, 1) := by decide +kernel
theorem dX1_goesThrough_0 : decode cX1_goesThrough 0 = .ok (.aload_n 0, 1) := by decide +kernel
theorem dX1_goesThrough_1 : decode cX1_goesThrough 1 = .ok (.iload_n 1, 1) := by decide +kernel
theorem dX1_goesThrough_2 : decode cX1_goesThrough 2 = .ok (.invokevirtual 101, 3) := by decide +kernel
theorem dX1_goesThrough_5 : decode cX1_goesThrough 5 = .ok (.aload_n 0, 1) := by decide +kernel
theorem dX1_goesThrough_6 : decode cX1_goesThrough 6 = .ok (.getfield 15, 3) := by decide +kernel
theorem dX1_goesThrough_9 : decode cX1_goesThrough 9 = .ok (.iload_n 1, 1) := by decide +kernel
theorem dX1_goesThrough_10 : decode cX1_goesThrough 10 = .ok (.iaload, 1) := by decide +kernel
theorem dX1_goesThrough_11 : decode cX1_goesThrough 11 = .ok (.ixor, 1) := by decide +kernel
theorem dX1_goesThrough_12 : decode cX1_goesThrough 12 = .ok (.iload_n 2, 1) := by decide +kernel
theorem dX1_goesThrough_13 : decode cX1_goesThrough 13 = .ok (.ishr, 1) := by decide +kernel
theorem dX1_goesThrough_14 : decode cX1_goesThrough 14 = .ok (.iconst 1, 1) := by decide +kernel
theorem dX1_goesThrough_15 : decode cX1_goesThrough 15 = .ok (.iand, 1) := by decide +kernel
theorem dX1_goesThrough_16 : decode cX1_goesThrough 16 = .ok (.ireturn, 1) := by decide +kernel
theorem dX1_costOf_0 : decode cX1_costOf 0 = .ok (.aload_n 0, 1) := by decide +kernel
theorem dX1_costOf_1 : decode cX1_costOf 1 = .ok (.iload_n 1, 1) := by decide +kernel
theorem dX1_costOf_2 : decode cX1_costOf 2 = .ok (.invokevirtual 101, 3) := by decide +kernel
theorem dX1_costOf_5 : decode cX1_costOf 5 = .ok (.invokestatic 73, 3) := by decide +kernel
theorem dX1_costOf_8 : decode cX1_costOf 8 = .ok (.aload_n 0, 1) := by decide +kernel
theorem dX1_costOf_9 : decode cX1_costOf 9 = .ok (.getfield 18, 3) := by decide +kernel
theorem dX1_costOf_12 : decode cX1_costOf 12 = .ok (.iload_n 1, 1) := by decide +kernel
theorem dX1_costOf_13 : decode cX1_costOf 13 = .ok (.iaload, 1) := by decide +kernel
theorem dX1_costOf_14 : decode cX1_costOf 14 = .ok (.iadd, 1) := by decide +kernel
theorem dX1_costOf_15 : decode cX1_costOf 15 = .ok (.ireturn, 1) := by decide +kernel
theorem dX1_makeCheap_0 : decode cX1_makeCheap 0 = .ok (.iconst 0, 1) := by decide +kernel
theorem dX1_makeCheap_1 : decode cX1_makeCheap 1 = .ok (.istore_n 1, 1) := by decide +kernel
theorem dX1_makeCheap_2 : decode cX1_makeCheap 2 = .ok (.bipush 8, 2) := by decide +kernel
theorem dX1_makeCheap_4 : decode cX1_makeCheap 4 = .ok (.istore_n 2, 1) := by decide +kernel
theorem dX1_makeCheap_5 : decode cX1_makeCheap 5 = .ok (.iload_n 2, 1) := by decide +kernel
theorem dX1_makeCheap_6 : decode cX1_makeCheap 6 = .ok (.aload_n 0, 1) := by decide +kernel
theorem dX1_makeCheap_7 : decode cX1_makeCheap 7 = .ok (.invokevirtual 55, 3) := by decide +kernel
theorem dX1_makeCheap_10 : decode cX1_makeCheap 10 = .ok (.if_icmp .ge 62, 3) := by decide +kernel
theorem dX1_makeCheap_13 : decode cX1_makeCheap 13 = .ok (.aload_n 0, 1) := by decide +kernel
theorem dX1_makeCheap_14 : decode cX1_makeCheap 14 = .ok (.getfield 9, 3) := by decide +kernel
theorem dX1_makeCheap_17 : decode cX1_makeCheap 17 = .ok (.iload_n 2, 1) := by decide +kernel
theorem dX1_makeCheap_18 : decode cX1_makeCheap 18 = .ok (.iaload, 1) := by decide +kernel
theorem dX1_makeCheap_19 : decode cX1_makeCheap 19 = .ok (.invokestatic 73, 3) := by decide +kernel
theorem dX1_makeCheap_22 : decode cX1_makeCheap 22 = .ok (.istore_n 3, 1) := by decide +kernel
theorem dX1_makeCheap_23 : decode cX1_makeCheap 23 = .ok (.aload_n 0, 1) := by decide +kernel
theorem dX1_makeCheap_24 : decode cX1_makeCheap 24 = .ok (.getfield 28, 3) := by decide +kernel
theorem dX1_makeCheap_27 : decode cX1_makeCheap 27 = .ok (.iload_n 3, 1) := by decide +kernel
theorem dX1_makeCheap_28 : decode cX1_makeCheap 28 = .ok (.isub, 1) := by decide +kernel
theorem dX1_makeCheap_29 : decode cX1_makeCheap 29 = .ok (.iconst 1, 1) := by decide +kernel
theorem dX1_makeCheap_30 : decode cX1_makeCheap 30 = .ok (.iadd, 1) := by decide +kernel
theorem dX1_makeCheap_31 : decode cX1_makeCheap 31 = .ok (.istore 4, 2) := by decide +kernel
theorem dX1_makeCheap_33 : decode cX1_makeCheap 33 = .ok (.iload 4, 2) := by decide +kernel
theorem dX1_makeCheap_35 : decode cX1_makeCheap 35 = .ok (.iload_n 3, 1) := by decide +kernel
theorem dX1_makeCheap_36 : decode cX1_makeCheap 36 = .ok (.if_icmp .ge 7, 3) := by decide +kernel
theorem dX1_makeCheap_39 : decode cX1_makeCheap 39 = .ok (.iconst 1, 1) := by decide +kernel
theorem dX1_makeCheap_40 : decode cX1_makeCheap 40 = .ok (.goto 4, 3) := by decide +kernel
theorem dX1_makeCheap_43 : decode cX1_makeCheap 43 = .ok (.iconst 0, 1) := by decide +kernel
theorem dX1_makeCheap_44 : decode cX1_makeCheap 44 = .ok (.istore 5, 2) := by decide +kernel
theorem dX1_makeCheap_46 : decode cX1_makeCheap 46 = .ok (.aload_n 0, 1) := by decide +kernel
theorem dX1_makeCheap_47 : decode cX1_makeCheap 47 = .ok (.getfield 18, 3) := by decide +kernel
theorem dX1_makeCheap_50 : decode cX1_makeCheap 50 = .ok (.iload_n 2, 1) := by decide +kernel
theorem dX1_makeCheap_51 : decode cX1_makeCheap 51 = .ok (.iaload, 1) := by decide +kernel
theorem dX1_makeCheap_52 : decode cX1_makeCheap 52 = .ok (.iload 5, 2) := by decide +kernel
theorem dX1_makeCheap_54 : decode cX1_makeCheap 54 = .ok (.if_icmp .eq 12, 3) := by decide +kernel
theorem dX1_makeCheap_57 : decode cX1_makeCheap 57 = .ok (.aload_n 0, 1) := by decide +kernel
theorem dX1_makeCheap_58 : decode cX1_makeCheap 58 = .ok (.iload_n 2, 1) := by decide +kernel
theorem dX1_makeCheap_59 : decode cX1_makeCheap 59 = .ok (.invokevirtual 104, 3) := by decide +kernel
theorem dX1_makeCheap_62 : decode cX1_makeCheap 62 = .ok (.pop, 1) := by decide +kernel
theorem dX1_makeCheap_63 : decode cX1_makeCheap 63 = .ok (.iinc 1 1, 3) := by decide +kernel
theorem dX1_makeCheap_66 : decode cX1_makeCheap 66 = .ok (.iinc 2 1, 3) := by decide +kernel
theorem dX1_makeCheap_69 : decode cX1_makeCheap 69 = .ok (.goto (-64), 3) := by decide +kernel
theorem dX1_makeCheap_72 : decode cX1_makeCheap 72 = .ok (.iload_n 1, 1) := by decide +kernel
theorem dX1_makeCheap_73 : decode cX1_makeCheap 73 = .ok (.ireturn, 1) := by decide +kernel
theorem dX1_pickedBy_0 : decode cX1_pickedBy 0 = .ok (.iconst 0, 1) := by decide +kernel
theorem dX1_pickedBy_1 : decode cX1_pickedBy 1 = .ok (.istore_n 2, 1) := by decide +kernel
theorem dX1_pickedBy_2 : decode cX1_pickedBy 2 = .ok (.iconst 0, 1) := by decide +kernel
theorem dX1_pickedBy_3 : decode cX1_pickedBy 3 = .ok (.istore_n 3, 1) := by decide +kernel
theorem dX1_pickedBy_4 : decode cX1_pickedBy 4 = .ok (.iload_n 3, 1) := by decide +kernel
theorem dX1_pickedBy_5 : decode cX1_pickedBy 5 = .ok (.iconst 4, 1) := by decide +kernel
theorem dX1_pickedBy_6 : decode cX1_pickedBy 6 = .ok (.if_icmp .ge 40, 3) := by decide +kernel
theorem dX1_pickedBy_9 : decode cX1_pickedBy 9 = .ok (.iconst 2, 1) := by decide +kernel
theorem dX1_pickedBy_10 : decode cX1_pickedBy 10 = .ok (.iload_n 3, 1) := by decide +kernel
theorem dX1_pickedBy_11 : decode cX1_pickedBy 11 = .ok (.imul, 1) := by decide +kernel
theorem dX1_pickedBy_12 : decode cX1_pickedBy 12 = .ok (.iconst 1, 1) := by decide +kernel
theorem dX1_pickedBy_13 : decode cX1_pickedBy 13 = .ok (.iadd, 1) := by decide +kernel
theorem dX1_pickedBy_14 : decode cX1_pickedBy 14 = .ok (.iload_n 1, 1) := by decide +kernel
theorem dX1_pickedBy_15 : decode cX1_pickedBy 15 = .ok (.iload_n 3, 1) := by decide +kernel
theorem dX1_pickedBy_16 : decode cX1_pickedBy 16 = .ok (.ishr, 1) := by decide +kernel
theorem dX1_pickedBy_17 : decode cX1_pickedBy 17 = .ok (.iconst 1, 1) := by decide +kernel
theorem dX1_pickedBy_18 : decode cX1_pickedBy 18 = .ok (.iand, 1) := by decide +kernel
theorem dX1_pickedBy_19 : decode cX1_pickedBy 19 = .ok (.isub, 1) := by decide +kernel
theorem dX1_pickedBy_20 : decode cX1_pickedBy 20 = .ok (.istore 4, 2) := by decide +kernel
theorem dX1_pickedBy_22 : decode cX1_pickedBy 22 = .ok (.iload_n 2, 1) := by decide +kernel
theorem dX1_pickedBy_23 : decode cX1_pickedBy 23 = .ok (.aload_n 0, 1) := by decide +kernel
theorem dX1_pickedBy_24 : decode cX1_pickedBy 24 = .ok (.getfield 9, 3) := by decide +kernel
theorem dX1_pickedBy_27 : decode cX1_pickedBy 27 = .ok (.iload 4, 2) := by decide +kernel
theorem dX1_pickedBy_29 : decode cX1_pickedBy 29 = .ok (.iaload, 1) := by decide +kernel
theorem dX1_pickedBy_30 : decode cX1_pickedBy 30 = .ok (.aload_n 0, 1) := by decide +kernel
theorem dX1_pickedBy_31 : decode cX1_pickedBy 31 = .ok (.getfield 15, 3) := by decide +kernel
theorem dX1_pickedBy_34 : decode cX1_pickedBy 34 = .ok (.iload 4, 2) := by decide +kernel
theorem dX1_pickedBy_36 : decode cX1_pickedBy 36 = .ok (.iaload, 1) := by decide +kernel
theorem dX1_pickedBy_37 : decode cX1_pickedBy 37 = .ok (.ixor, 1) := by decide +kernel
theorem dX1_pickedBy_38 : decode cX1_pickedBy 38 = .ok (.ior, 1) := by decide +kernel
theorem dX1_pickedBy_39 : decode cX1_pickedBy 39 = .ok (.istore_n 2, 1) := by decide +kernel
theorem dX1_pickedBy_40 : decode cX1_pickedBy 40 = .ok (.iinc 3 1, 3) := by decide +kernel
theorem dX1_pickedBy_43 : decode cX1_pickedBy 43 = .ok (.goto (-39), 3) := by decide +kernel
theorem dX1_pickedBy_46 : decode cX1_pickedBy 46 = .ok (.iload_n 2, 1) := by decide +kernel
theorem dX1_pickedBy_47 : decode cX1_pickedBy 47 = .ok (.iconst (-1), 1) := by decide +kernel
theorem dX1_pickedBy_48 : decode cX1_pickedBy 48 = .ok (.ixor, 1) := by decide +kernel
theorem dX1_pickedBy_49 : decode cX1_pickedBy 49 = .ok (.iconst 1, 1) := by decide +kernel
theorem dX1_pickedBy_50 : decode cX1_pickedBy 50 = .ok (.aload_n 0, 1) := by decide +kernel
theorem dX1_pickedBy_51 : decode cX1_pickedBy 51 = .ok (.getfield 28, 3) := by decide +kernel
theorem dX1_pickedBy_54 : decode cX1_pickedBy 54 = .ok (.ishl, 1) := by decide +kernel
theorem dX1_pickedBy_55 : decode cX1_pickedBy 55 = .ok (.iconst 1, 1) := by decide +kernel
theorem dX1_pickedBy_56 : decode cX1_pickedBy 56 = .ok (.isub, 1) := by decide +kernel
theorem dX1_pickedBy_57 : decode cX1_pickedBy 57 = .ok (.iand, 1) := by decide +kernel
theorem dX1_pickedBy_58 : decode cX1_pickedBy 58 = .ok (.ireturn, 1) := by decide +kernel
theorem dX1_bitFrom_0 : decode cX1_bitFrom 0 = .ok (.iload_n 2, 1) := by decide +kernel
theorem dX1_bitFrom_1 : decode cX1_bitFrom 1 = .ok (.iload_n 3, 1) := by decide +kernel
theorem dX1_bitFrom_2 : decode cX1_bitFrom 2 = .ok (.iand, 1) := by decide +kernel
theorem dX1_bitFrom_3 : decode cX1_bitFrom 3 = .ok (.ifCond .ne 7, 3) := by decide +kernel
theorem dX1_bitFrom_6 : decode cX1_bitFrom 6 = .ok (.iconst 0, 1) := by decide +kernel
theorem dX1_bitFrom_7 : decode cX1_bitFrom 7 = .ok (.goto 4, 3) := by decide +kernel
theorem dX1_bitFrom_10 : decode cX1_bitFrom 10 = .ok (.iconst 1, 1) := by decide +kernel
theorem dX1_bitFrom_11 : decode cX1_bitFrom 11 = .ok (.istore 4, 2) := by decide +kernel
theorem dX1_bitFrom_13 : decode cX1_bitFrom 13 = .ok (.iload 4, 2) := by decide +kernel
theorem dX1_bitFrom_15 : decode cX1_bitFrom 15 = .ok (.aload_n 0, 1) := by decide +kernel
theorem dX1_bitFrom_16 : decode cX1_bitFrom 16 = .ok (.getfield 18, 3) := by decide +kernel
theorem dX1_bitFrom_19 : decode cX1_bitFrom 19 = .ok (.iload_n 1, 1) := by decide +kernel
theorem dX1_bitFrom_20 : decode cX1_bitFrom 20 = .ok (.iaload, 1) := by decide +kernel
theorem dX1_bitFrom_21 : decode cX1_bitFrom 21 = .ok (.ixor, 1) := by decide +kernel
theorem dX1_bitFrom_22 : decode cX1_bitFrom 22 = .ok (.ireturn, 1) := by decide +kernel
theorem dX1_rawBits_0 : decode cX1_rawBits 0 = .ok (.aload_n 0, 1) := by decide +kernel
theorem dX1_rawBits_1 : decode cX1_rawBits 1 = .ok (.aload_n 0, 1) := by decide +kernel
theorem dX1_rawBits_2 : decode cX1_rawBits 2 = .ok (.aload_n 0, 1) := by decide +kernel
theorem dX1_rawBits_3 : decode cX1_rawBits 3 = .ok (.iload_n 1, 1) := by decide +kernel
theorem dX1_rawBits_4 : decode cX1_rawBits 4 = .ok (.invokevirtual 91, 3) := by decide +kernel
theorem dX1_rawBits_7 : decode cX1_rawBits 7 = .ok (.invokevirtual 85, 3) := by decide +kernel
theorem dX1_rawBits_10 : decode cX1_rawBits 10 = .ok (.invokevirtual 107, 3) := by decide +kernel
theorem dX1_rawBits_13 : decode cX1_rawBits 13 = .ok (.istore_n 2, 1) := by decide +kernel
theorem dX1_rawBits_14 : decode cX1_rawBits 14 = .ok (.aload_n 0, 1) := by decide +kernel
theorem dX1_rawBits_15 : decode cX1_rawBits 15 = .ok (.iload_n 1, 1) := by decide +kernel
theorem dX1_rawBits_16 : decode cX1_rawBits 16 = .ok (.invokevirtual 88, 3) := by decide +kernel
theorem dX1_rawBits_19 : decode cX1_rawBits 19 = .ok (.istore_n 3, 1) := by decide +kernel
theorem dX1_rawBits_20 : decode cX1_rawBits 20 = .ok (.iconst 0, 1) := by decide +kernel
theorem dX1_rawBits_21 : decode cX1_rawBits 21 = .ok (.istore 4, 2) := by decide +kernel
theorem dX1_rawBits_23 : decode cX1_rawBits 23 = .ok (.iconst 0, 1) := by decide +kernel
theorem dX1_rawBits_24 : decode cX1_rawBits 24 = .ok (.istore 5, 2) := by decide +kernel
theorem dX1_rawBits_26 : decode cX1_rawBits 26 = .ok (.iload 5, 2) := by decide +kernel
theorem dX1_rawBits_28 : decode cX1_rawBits 28 = .ok (.aload_n 0, 1) := by decide +kernel
theorem dX1_rawBits_29 : decode cX1_rawBits 29 = .ok (.getfield 32, 3) := by decide +kernel
theorem dX1_rawBits_32 : decode cX1_rawBits 32 = .ok (.if_icmp .gt 47, 3) := by decide +kernel
theorem dX1_rawBits_35 : decode cX1_rawBits 35 = .ok (.aload_n 0, 1) := by decide +kernel
theorem dX1_rawBits_36 : decode cX1_rawBits 36 = .ok (.iload_n 3, 1) := by decide +kernel
theorem dX1_rawBits_37 : decode cX1_rawBits 37 = .ok (.iload 5, 2) := by decide +kernel
theorem dX1_rawBits_39 : decode cX1_rawBits 39 = .ok (.invokevirtual 98, 3) := by decide +kernel
theorem dX1_rawBits_42 : decode cX1_rawBits 42 = .ok (.istore 6, 2) := by decide +kernel
theorem dX1_rawBits_44 : decode cX1_rawBits 44 = .ok (.iload 4, 2) := by decide +kernel
theorem dX1_rawBits_46 : decode cX1_rawBits 46 = .ok (.aload_n 0, 1) := by decide +kernel
theorem dX1_rawBits_47 : decode cX1_rawBits 47 = .ok (.iload 6, 2) := by decide +kernel
theorem dX1_rawBits_49 : decode cX1_rawBits 49 = .ok (.aload_n 0, 1) := by decide +kernel
theorem dX1_rawBits_50 : decode cX1_rawBits 50 = .ok (.iload 6, 2) := by decide +kernel
theorem dX1_rawBits_52 : decode cX1_rawBits 52 = .ok (.invokevirtual 101, 3) := by decide +kernel
theorem dX1_rawBits_55 : decode cX1_rawBits 55 = .ok (.aload_n 0, 1) := by decide +kernel
theorem dX1_rawBits_56 : decode cX1_rawBits 56 = .ok (.getfield 15, 3) := by decide +kernel
theorem dX1_rawBits_59 : decode cX1_rawBits 59 = .ok (.iload 6, 2) := by decide +kernel
theorem dX1_rawBits_61 : decode cX1_rawBits 61 = .ok (.iaload, 1) := by decide +kernel
theorem dX1_rawBits_62 : decode cX1_rawBits 62 = .ok (.ixor, 1) := by decide +kernel
theorem dX1_rawBits_63 : decode cX1_rawBits 63 = .ok (.iload_n 2, 1) := by decide +kernel
theorem dX1_rawBits_64 : decode cX1_rawBits 64 = .ok (.invokevirtual 110, 3) := by decide +kernel
theorem dX1_rawBits_67 : decode cX1_rawBits 67 = .ok (.iload 5, 2) := by decide +kernel
theorem dX1_rawBits_69 : decode cX1_rawBits 69 = .ok (.ishl, 1) := by decide +kernel
theorem dX1_rawBits_70 : decode cX1_rawBits 70 = .ok (.ior, 1) := by decide +kernel
theorem dX1_rawBits_71 : decode cX1_rawBits 71 = .ok (.istore 4, 2) := by decide +kernel
theorem dX1_rawBits_73 : decode cX1_rawBits 73 = .ok (.iinc 5 1, 3) := by decide +kernel
theorem dX1_rawBits_76 : decode cX1_rawBits 76 = .ok (.goto (-50), 3) := by decide +kernel
theorem dX1_rawBits_79 : decode cX1_rawBits 79 = .ok (.iload 4, 2) := by decide +kernel
theorem dX1_rawBits_81 : decode cX1_rawBits 81 = .ok (.ireturn, 1) := by decide +kernel
theorem dX1_rightBits_0 : decode cX1_rightBits 0 = .ok (.iconst 0, 1) := by decide +kernel
theorem dX1_rightBits_1 : decode cX1_rightBits 1 = .ok (.istore_n 3, 1) := by decide +kernel
theorem dX1_rightBits_2 : decode cX1_rightBits 2 = .ok (.iconst 0, 1) := by decide +kernel
theorem dX1_rightBits_3 : decode cX1_rightBits 3 = .ok (.istore 4, 2) := by decide +kernel
theorem dX1_rightBits_5 : decode cX1_rightBits 5 = .ok (.iload 4, 2) := by decide +kernel
theorem dX1_rightBits_7 : decode cX1_rightBits 7 = .ok (.aload_n 0, 1) := by decide +kernel
theorem dX1_rightBits_8 : decode cX1_rightBits 8 = .ok (.getfield 32, 3) := by decide +kernel
theorem dX1_rightBits_11 : decode cX1_rightBits 11 = .ok (.if_icmp .gt 37, 3) := by decide +kernel
theorem dX1_rightBits_14 : decode cX1_rightBits 14 = .ok (.aload_n 0, 1) := by decide +kernel
theorem dX1_rightBits_15 : decode cX1_rightBits 15 = .ok (.iload_n 1, 1) := by decide +kernel
theorem dX1_rightBits_16 : decode cX1_rightBits 16 = .ok (.iload 4, 2) := by decide +kernel
theorem dX1_rightBits_18 : decode cX1_rightBits 18 = .ok (.invokevirtual 98, 3) := by decide +kernel
end
section
theorem dX1_rightBits_21 : decode cX1_rightBits 21 = .ok (.istore 5, 2) := by decide +kernel
theorem dX1_rightBits_23 : decode cX1_rightBits 23 = .ok (.iload_n 3, 1) := by decide +kernel
theorem dX1_rightBits_24 : decode cX1_rightBits 24 = .ok (.aload_n 0, 1) := by decide +kernel
theorem dX1_rightBits_25 : decode cX1_rightBits 25 = .ok (.iload 5, 2) := by decide +kernel
theorem dX1_rightBits_27 : decode cX1_rightBits 27 = .ok (.aload_n 0, 1) := by decide +kernel
theorem dX1_rightBits_28 : decode cX1_rightBits 28 = .ok (.iload 5, 2) := by decide +kernel
theorem dX1_rightBits_30 : decode cX1_rightBits 30 = .ok (.invokevirtual 101, 3) := by decide +kernel
theorem dX1_rightBits_33 : decode cX1_rightBits 33 = .ok (.iload_n 2, 1) := by decide +kernel
theorem dX1_rightBits_34 : decode cX1_rightBits 34 = .ok (.invokevirtual 110, 3) := by decide +kernel
theorem dX1_rightBits_37 : decode cX1_rightBits 37 = .ok (.iload 4, 2) := by decide +kernel
theorem dX1_rightBits_39 : decode cX1_rightBits 39 = .ok (.ishl, 1) := by decide +kernel
theorem dX1_rightBits_40 : decode cX1_rightBits 40 = .ok (.ior, 1) := by decide +kernel
theorem dX1_rightBits_41 : decode cX1_rightBits 41 = .ok (.istore_n 3, 1) := by decide +kernel
theorem dX1_rightBits_42 : decode cX1_rightBits 42 = .ok (.iinc 4 1, 3) := by decide +kernel
theorem dX1_rightBits_45 : decode cX1_rightBits 45 = .ok (.goto (-40), 3) := by decide +kernel
theorem dX1_rightBits_48 : decode cX1_rightBits 48 = .ok (.iload_n 3, 1) := by decide +kernel
theorem dX1_rightBits_49 : decode cX1_rightBits 49 = .ok (.ireturn, 1) := by decide +kernel
theorem dX1_rawWord_0 : decode cX1_rawWord 0 = .ok (.aload_n 0, 1) := by decide +kernel
theorem dX1_rawWord_1 : decode cX1_rawWord 1 = .ok (.iload_n 1, 1) := by decide +kernel
theorem dX1_rawWord_2 : decode cX1_rawWord 2 = .ok (.invokevirtual 114, 3) := by decide +kernel
theorem dX1_rawWord_5 : decode cX1_rawWord 5 = .ok (.aload_n 0, 1) := by decide +kernel
theorem dX1_rawWord_6 : decode cX1_rawWord 6 = .ok (.invokevirtual 58, 3) := by decide +kernel
theorem dX1_rawWord_9 : decode cX1_rawWord 9 = .ok (.iand, 1) := by decide +kernel
theorem dX1_rawWord_10 : decode cX1_rawWord 10 = .ok (.ireturn, 1) := by decide +kernel
theorem dX1_wordRead_0 : decode cX1_wordRead 0 = .ok (.aload_n 0, 1) := by decide +kernel
theorem dX1_wordRead_1 : decode cX1_wordRead 1 = .ok (.getfield 21, 3) := by decide +kernel
theorem dX1_wordRead_4 : decode cX1_wordRead 4 = .ok (.iload_n 1, 1) := by decide +kernel
theorem dX1_wordRead_5 : decode cX1_wordRead 5 = .ok (.iaload, 1) := by decide +kernel
theorem dX1_wordRead_6 : decode cX1_wordRead 6 = .ok (.iconst (-1), 1) := by decide +kernel
theorem dX1_wordRead_7 : decode cX1_wordRead 7 = .ok (.if_icmp .ne 16, 3) := by decide +kernel
theorem dX1_wordRead_10 : decode cX1_wordRead 10 = .ok (.aload_n 0, 1) := by decide +kernel
theorem dX1_wordRead_11 : decode cX1_wordRead 11 = .ok (.iload_n 1, 1) := by decide +kernel
theorem dX1_wordRead_12 : decode cX1_wordRead 12 = .ok (.invokevirtual 114, 3) := by decide +kernel
theorem dX1_wordRead_15 : decode cX1_wordRead 15 = .ok (.aload_n 0, 1) := by decide +kernel
theorem dX1_wordRead_16 : decode cX1_wordRead 16 = .ok (.invokevirtual 58, 3) := by decide +kernel
theorem dX1_wordRead_19 : decode cX1_wordRead 19 = .ok (.iand, 1) := by decide +kernel
theorem dX1_wordRead_20 : decode cX1_wordRead 20 = .ok (.goto 9, 3) := by decide +kernel
theorem dX1_wordRead_23 : decode cX1_wordRead 23 = .ok (.aload_n 0, 1) := by decide +kernel
theorem dX1_wordRead_24 : decode cX1_wordRead 24 = .ok (.getfield 21, 3) := by decide +kernel
theorem dX1_wordRead_27 : decode cX1_wordRead 27 = .ok (.iload_n 1, 1) := by decide +kernel
theorem dX1_wordRead_28 : decode cX1_wordRead 28 = .ok (.iaload, 1) := by decide +kernel
theorem dX1_wordRead_29 : decode cX1_wordRead 29 = .ok (.ireturn, 1) := by decide +kernel
theorem dX1_parityIsRight_0 : decode cX1_parityIsRight 0 = .ok (.aload_n 0, 1) := by decide +kernel
theorem dX1_parityIsRight_1 : decode cX1_parityIsRight 1 = .ok (.getfield 21, 3) := by decide +kernel
theorem dX1_parityIsRight_4 : decode cX1_parityIsRight 4 = .ok (.iload_n 1, 1) := by decide +kernel
theorem dX1_parityIsRight_5 : decode cX1_parityIsRight 5 = .ok (.iaload, 1) := by decide +kernel
theorem dX1_parityIsRight_6 : decode cX1_parityIsRight 6 = .ok (.iconst (-1), 1) := by decide +kernel
theorem dX1_parityIsRight_7 : decode cX1_parityIsRight 7 = .ok (.if_icmp .eq 5, 3) := by decide +kernel
theorem dX1_parityIsRight_10 : decode cX1_parityIsRight 10 = .ok (.iconst 1, 1) := by decide +kernel
theorem dX1_parityIsRight_11 : decode cX1_parityIsRight 11 = .ok (.ireturn, 1) := by decide +kernel
theorem dX1_parityIsRight_12 : decode cX1_parityIsRight 12 = .ok (.aload_n 0, 1) := by decide +kernel
theorem dX1_parityIsRight_13 : decode cX1_parityIsRight 13 = .ok (.iload_n 1, 1) := by decide +kernel
theorem dX1_parityIsRight_14 : decode cX1_parityIsRight 14 = .ok (.invokevirtual 114, 3) := by decide +kernel
theorem dX1_parityIsRight_17 : decode cX1_parityIsRight 17 = .ok (.invokestatic 73, 3) := by decide +kernel
theorem dX1_parityIsRight_20 : decode cX1_parityIsRight 20 = .ok (.iconst 1, 1) := by decide +kernel
theorem dX1_parityIsRight_21 : decode cX1_parityIsRight 21 = .ok (.iand, 1) := by decide +kernel
theorem dX1_parityIsRight_22 : decode cX1_parityIsRight 22 = .ok (.iconst 1, 1) := by decide +kernel
theorem dX1_parityIsRight_23 : decode cX1_parityIsRight 23 = .ok (.if_icmp .ne 7, 3) := by decide +kernel
theorem dX1_parityIsRight_26 : decode cX1_parityIsRight 26 = .ok (.iconst 1, 1) := by decide +kernel
theorem dX1_parityIsRight_27 : decode cX1_parityIsRight 27 = .ok (.goto 4, 3) := by decide +kernel
theorem dX1_parityIsRight_30 : decode cX1_parityIsRight 30 = .ok (.iconst 0, 1) := by decide +kernel
theorem dX1_parityIsRight_31 : decode cX1_parityIsRight 31 = .ok (.ireturn, 1) := by decide +kernel
theorem dX1_wrongAddresses_0 : decode cX1_wrongAddresses 0 = .ok (.iconst 0, 1) := by decide +kernel
theorem dX1_wrongAddresses_1 : decode cX1_wrongAddresses 1 = .ok (.istore_n 2, 1) := by decide +kernel
theorem dX1_wrongAddresses_2 : decode cX1_wrongAddresses 2 = .ok (.iconst 0, 1) := by decide +kernel
theorem dX1_wrongAddresses_3 : decode cX1_wrongAddresses 3 = .ok (.istore_n 3, 1) := by decide +kernel
theorem dX1_wrongAddresses_4 : decode cX1_wrongAddresses 4 = .ok (.iload_n 3, 1) := by decide +kernel
theorem dX1_wrongAddresses_5 : decode cX1_wrongAddresses 5 = .ok (.aload_n 0, 1) := by decide +kernel
theorem dX1_wrongAddresses_6 : decode cX1_wrongAddresses 6 = .ok (.invokevirtual 42, 3) := by decide +kernel
theorem dX1_wrongAddresses_9 : decode cX1_wrongAddresses 9 = .ok (.if_icmp .ge 21, 3) := by decide +kernel
theorem dX1_wrongAddresses_12 : decode cX1_wrongAddresses 12 = .ok (.aload_n 0, 1) := by decide +kernel
theorem dX1_wrongAddresses_13 : decode cX1_wrongAddresses 13 = .ok (.iload_n 1, 1) := by decide +kernel
theorem dX1_wrongAddresses_14 : decode cX1_wrongAddresses 14 = .ok (.iload_n 3, 1) := by decide +kernel
theorem dX1_wrongAddresses_15 : decode cX1_wrongAddresses 15 = .ok (.invokevirtual 117, 3) := by decide +kernel
theorem dX1_wrongAddresses_18 : decode cX1_wrongAddresses 18 = .ok (.ifCond .eq 6, 3) := by decide +kernel
theorem dX1_wrongAddresses_21 : decode cX1_wrongAddresses 21 = .ok (.iinc 2 1, 3) := by decide +kernel
theorem dX1_wrongAddresses_24 : decode cX1_wrongAddresses 24 = .ok (.iinc 3 1, 3) := by decide +kernel
theorem dX1_wrongAddresses_27 : decode cX1_wrongAddresses 27 = .ok (.goto (-23), 3) := by decide +kernel
theorem dX1_wrongAddresses_30 : decode cX1_wrongAddresses 30 = .ok (.iload_n 2, 1) := by decide +kernel
theorem dX1_wrongAddresses_31 : decode cX1_wrongAddresses 31 = .ok (.ireturn, 1) := by decide +kernel
theorem dX1_isWrong_0 : decode cX1_isWrong 0 = .ok (.iload_n 1, 1) := by decide +kernel
theorem dX1_isWrong_1 : decode cX1_isWrong 1 = .ok (.tableswitch 69 0 2 #[27, 33, 47], 27) := by decide +kernel
theorem dX1_isWrong_28 : decode cX1_isWrong 28 = .ok (.aload_n 0, 1) := by decide +kernel
theorem dX1_isWrong_29 : decode cX1_isWrong 29 = .ok (.iload_n 2, 1) := by decide +kernel
theorem dX1_isWrong_30 : decode cX1_isWrong 30 = .ok (.invokevirtual 121, 3) := by decide +kernel
theorem dX1_isWrong_33 : decode cX1_isWrong 33 = .ok (.ireturn, 1) := by decide +kernel
theorem dX1_isWrong_34 : decode cX1_isWrong 34 = .ok (.aload_n 0, 1) := by decide +kernel
theorem dX1_isWrong_35 : decode cX1_isWrong 35 = .ok (.iload_n 2, 1) := by decide +kernel
theorem dX1_isWrong_36 : decode cX1_isWrong 36 = .ok (.invokevirtual 125, 3) := by decide +kernel
theorem dX1_isWrong_39 : decode cX1_isWrong 39 = .ok (.ifCond .ne 7, 3) := by decide +kernel
theorem dX1_isWrong_42 : decode cX1_isWrong 42 = .ok (.iconst 1, 1) := by decide +kernel
theorem dX1_isWrong_43 : decode cX1_isWrong 43 = .ok (.goto 4, 3) := by decide +kernel
theorem dX1_isWrong_46 : decode cX1_isWrong 46 = .ok (.iconst 0, 1) := by decide +kernel
theorem dX1_isWrong_47 : decode cX1_isWrong 47 = .ok (.ireturn, 1) := by decide +kernel
theorem dX1_isWrong_48 : decode cX1_isWrong 48 = .ok (.aload_n 0, 1) := by decide +kernel
theorem dX1_isWrong_49 : decode cX1_isWrong 49 = .ok (.iload_n 2, 1) := by decide +kernel
theorem dX1_isWrong_50 : decode cX1_isWrong 50 = .ok (.invokevirtual 121, 3) := by decide +kernel
theorem dX1_isWrong_53 : decode cX1_isWrong 53 = .ok (.ifCond .eq 15, 3) := by decide +kernel
theorem dX1_isWrong_56 : decode cX1_isWrong 56 = .ok (.aload_n 0, 1) := by decide +kernel
theorem dX1_isWrong_57 : decode cX1_isWrong 57 = .ok (.iload_n 2, 1) := by decide +kernel
theorem dX1_isWrong_58 : decode cX1_isWrong 58 = .ok (.invokevirtual 125, 3) := by decide +kernel
theorem dX1_isWrong_61 : decode cX1_isWrong 61 = .ok (.ifCond .eq 7, 3) := by decide +kernel
theorem dX1_isWrong_64 : decode cX1_isWrong 64 = .ok (.iconst 1, 1) := by decide +kernel
theorem dX1_isWrong_65 : decode cX1_isWrong 65 = .ok (.goto 4, 3) := by decide +kernel
theorem dX1_isWrong_68 : decode cX1_isWrong 68 = .ok (.iconst 0, 1) := by decide +kernel
theorem dX1_isWrong_69 : decode cX1_isWrong 69 = .ok (.ireturn, 1) := by decide +kernel
theorem dX1_isWrong_70 : decode cX1_isWrong 70 = .ok (.aload_n 0, 1) := by decide +kernel
theorem dX1_isWrong_71 : decode cX1_isWrong 71 = .ok (.iload_n 2, 1) := by decide +kernel
theorem dX1_isWrong_72 : decode cX1_isWrong 72 = .ok (.invokevirtual 128, 3) := by decide +kernel
theorem dX1_isWrong_75 : decode cX1_isWrong 75 = .ok (.aload_n 0, 1) := by decide +kernel
theorem dX1_isWrong_76 : decode cX1_isWrong 76 = .ok (.iload_n 2, 1) := by decide +kernel
theorem dX1_isWrong_77 : decode cX1_isWrong 77 = .ok (.invokevirtual 131, 3) := by decide +kernel
theorem dX1_isWrong_80 : decode cX1_isWrong 80 = .ok (.if_icmp .eq 7, 3) := by decide +kernel
theorem dX1_isWrong_83 : decode cX1_isWrong 83 = .ok (.iconst 1, 1) := by decide +kernel
theorem dX1_isWrong_84 : decode cX1_isWrong 84 = .ok (.goto 4, 3) := by decide +kernel
theorem dX1_isWrong_87 : decode cX1_isWrong 87 = .ok (.iconst 0, 1) := by decide +kernel
theorem dX1_isWrong_88 : decode cX1_isWrong 88 = .ok (.ireturn, 1) := by decide +kernel
theorem dX1_isMisread_0 : decode cX1_isMisread 0 = .ok (.aload_n 0, 1) := by decide +kernel
theorem dX1_isMisread_1 : decode cX1_isMisread 1 = .ok (.iload_n 1, 1) := by decide +kernel
theorem dX1_isMisread_2 : decode cX1_isMisread 2 = .ok (.invokevirtual 134, 3) := by decide +kernel
theorem dX1_isMisread_5 : decode cX1_isMisread 5 = .ok (.aload_n 0, 1) := by decide +kernel
theorem dX1_isMisread_6 : decode cX1_isMisread 6 = .ok (.iload_n 1, 1) := by decide +kernel
theorem dX1_isMisread_7 : decode cX1_isMisread 7 = .ok (.invokevirtual 131, 3) := by decide +kernel
theorem dX1_isMisread_10 : decode cX1_isMisread 10 = .ok (.if_icmp .eq 7, 3) := by decide +kernel
theorem dX1_isMisread_13 : decode cX1_isMisread 13 = .ok (.iconst 1, 1) := by decide +kernel
theorem dX1_isMisread_14 : decode cX1_isMisread 14 = .ok (.goto 4, 3) := by decide +kernel
theorem dX1_isMisread_17 : decode cX1_isMisread 17 = .ok (.iconst 0, 1) := by decide +kernel
theorem dX1_isMisread_18 : decode cX1_isMisread 18 = .ok (.ireturn, 1) := by decide +kernel
theorem dX1_explanation_0 : decode cX1_explanation 0 = .ok (.aload_n 0, 1) := by decide +kernel
theorem dX1_explanation_1 : decode cX1_explanation 1 = .ok (.invokevirtual 137, 3) := by decide +kernel
theorem dX1_explanation_4 : decode cX1_explanation 4 = .ok (.istore_n 2, 1) := by decide +kernel
theorem dX1_explanation_5 : decode cX1_explanation 5 = .ok (.iload_n 1, 1) := by decide +kernel
theorem dX1_explanation_6 : decode cX1_explanation 6 = .ok (.istore_n 3, 1) := by decide +kernel
theorem dX1_explanation_7 : decode cX1_explanation 7 = .ok (.iconst 0, 1) := by decide +kernel
theorem dX1_explanation_8 : decode cX1_explanation 8 = .ok (.istore 4, 2) := by decide +kernel
theorem dX1_explanation_10 : decode cX1_explanation 10 = .ok (.iload 4, 2) := by decide +kernel
theorem dX1_explanation_12 : decode cX1_explanation 12 = .ok (.aload_n 0, 1) := by decide +kernel
theorem dX1_explanation_13 : decode cX1_explanation 13 = .ok (.invokevirtual 55, 3) := by decide +kernel
theorem dX1_explanation_16 : decode cX1_explanation 16 = .ok (.if_icmp .ge 55, 3) := by decide +kernel
theorem dX1_explanation_19 : decode cX1_explanation 19 = .ok (.iconst 0, 1) := by decide +kernel
theorem dX1_explanation_20 : decode cX1_explanation 20 = .ok (.istore 5, 2) := by decide +kernel
theorem dX1_explanation_22 : decode cX1_explanation 22 = .ok (.iload 5, 2) := by decide +kernel
theorem dX1_explanation_24 : decode cX1_explanation 24 = .ok (.aload_n 0, 1) := by decide +kernel
theorem dX1_explanation_25 : decode cX1_explanation 25 = .ok (.getfield 28, 3) := by decide +kernel
theorem dX1_explanation_28 : decode cX1_explanation 28 = .ok (.if_icmp .ge 37, 3) := by decide +kernel
theorem dX1_explanation_31 : decode cX1_explanation 31 = .ok (.aload_n 0, 1) := by decide +kernel
theorem dX1_explanation_32 : decode cX1_explanation 32 = .ok (.iload 4, 2) := by decide +kernel
theorem dX1_explanation_34 : decode cX1_explanation 34 = .ok (.iload 5, 2) := by decide +kernel
theorem dX1_explanation_36 : decode cX1_explanation 36 = .ok (.iload_n 2, 1) := by decide +kernel
theorem dX1_explanation_37 : decode cX1_explanation 37 = .ok (.invokevirtual 140, 3) := by decide +kernel
theorem dX1_explanation_40 : decode cX1_explanation 40 = .ok (.ifCond .eq 19, 3) := by decide +kernel
theorem dX1_explanation_43 : decode cX1_explanation 43 = .ok (.iload_n 3, 1) := by decide +kernel
theorem dX1_explanation_44 : decode cX1_explanation 44 = .ok (.ifCond .ne 12, 3) := by decide +kernel
theorem dX1_explanation_47 : decode cX1_explanation 47 = .ok (.bipush 16, 2) := by decide +kernel
theorem dX1_explanation_49 : decode cX1_explanation 49 = .ok (.iload 4, 2) := by decide +kernel
theorem dX1_explanation_51 : decode cX1_explanation 51 = .ok (.imul, 1) := by decide +kernel
theorem dX1_explanation_52 : decode cX1_explanation 52 = .ok (.iload 5, 2) := by decide +kernel
theorem dX1_explanation_54 : decode cX1_explanation 54 = .ok (.iadd, 1) := by decide +kernel
theorem dX1_explanation_55 : decode cX1_explanation 55 = .ok (.ireturn, 1) := by decide +kernel
theorem dX1_explanation_56 : decode cX1_explanation 56 = .ok (.iinc 3 (-1), 3) := by decide +kernel
theorem dX1_explanation_59 : decode cX1_explanation 59 = .ok (.iinc 5 1, 3) := by decide +kernel
theorem dX1_explanation_62 : decode cX1_explanation 62 = .ok (.goto (-40), 3) := by decide +kernel
theorem dX1_explanation_65 : decode cX1_explanation 65 = .ok (.iinc 4 1, 3) := by decide +kernel
theorem dX1_explanation_68 : decode cX1_explanation 68 = .ok (.goto (-58), 3) := by decide +kernel
theorem dX1_explanation_71 : decode cX1_explanation 71 = .ok (.iconst (-1), 1) := by decide +kernel
theorem dX1_explanation_72 : decode cX1_explanation 72 = .ok (.ireturn, 1) := by decide +kernel
theorem dX1_strayRings_0 : decode cX1_strayRings 0 = .ok (.iconst 0, 1) := by decide +kernel
theorem dX1_strayRings_1 : decode cX1_strayRings 1 = .ok (.istore_n 1, 1) := by decide +kernel
theorem dX1_strayRings_2 : decode cX1_strayRings 2 = .ok (.iconst 0, 1) := by decide +kernel
theorem dX1_strayRings_3 : decode cX1_strayRings 3 = .ok (.istore_n 2, 1) := by decide +kernel
theorem dX1_strayRings_4 : decode cX1_strayRings 4 = .ok (.iload_n 2, 1) := by decide +kernel
theorem dX1_strayRings_5 : decode cX1_strayRings 5 = .ok (.aload_n 0, 1) := by decide +kernel
theorem dX1_strayRings_6 : decode cX1_strayRings 6 = .ok (.invokevirtual 42, 3) := by decide +kernel
theorem dX1_strayRings_9 : decode cX1_strayRings 9 = .ok (.if_icmp .ge 41, 3) := by decide +kernel
theorem dX1_strayRings_12 : decode cX1_strayRings 12 = .ok (.aload_n 0, 1) := by decide +kernel
theorem dX1_strayRings_13 : decode cX1_strayRings 13 = .ok (.iload_n 2, 1) := by decide +kernel
theorem dX1_strayRings_14 : decode cX1_strayRings 14 = .ok (.invokevirtual 91, 3) := by decide +kernel
theorem dX1_strayRings_17 : decode cX1_strayRings 17 = .ok (.istore_n 3, 1) := by decide +kernel
theorem dX1_strayRings_18 : decode cX1_strayRings 18 = .ok (.aload_n 0, 1) := by decide +kernel
theorem dX1_strayRings_19 : decode cX1_strayRings 19 = .ok (.iload_n 2, 1) := by decide +kernel
theorem dX1_strayRings_20 : decode cX1_strayRings 20 = .ok (.invokevirtual 114, 3) := by decide +kernel
theorem dX1_strayRings_23 : decode cX1_strayRings 23 = .ok (.aload_n 0, 1) := by decide +kernel
theorem dX1_strayRings_24 : decode cX1_strayRings 24 = .ok (.aload_n 0, 1) := by decide +kernel
theorem dX1_strayRings_25 : decode cX1_strayRings 25 = .ok (.iload_n 2, 1) := by decide +kernel
theorem dX1_strayRings_26 : decode cX1_strayRings 26 = .ok (.invokevirtual 88, 3) := by decide +kernel
theorem dX1_strayRings_29 : decode cX1_strayRings 29 = .ok (.iconst 1, 1) := by decide +kernel
theorem dX1_strayRings_30 : decode cX1_strayRings 30 = .ok (.iload_n 3, 1) := by decide +kernel
theorem dX1_strayRings_31 : decode cX1_strayRings 31 = .ok (.ishl, 1) := by decide +kernel
theorem dX1_strayRings_32 : decode cX1_strayRings 32 = .ok (.invokevirtual 94, 3) := by decide +kernel
theorem dX1_strayRings_35 : decode cX1_strayRings 35 = .ok (.if_icmp .eq 9, 3) := by decide +kernel
theorem dX1_strayRings_38 : decode cX1_strayRings 38 = .ok (.iload_n 1, 1) := by decide +kernel
theorem dX1_strayRings_39 : decode cX1_strayRings 39 = .ok (.iconst 1, 1) := by decide +kernel
theorem dX1_strayRings_40 : decode cX1_strayRings 40 = .ok (.iload_n 3, 1) := by decide +kernel
theorem dX1_strayRings_41 : decode cX1_strayRings 41 = .ok (.ishl, 1) := by decide +kernel
theorem dX1_strayRings_42 : decode cX1_strayRings 42 = .ok (.ior, 1) := by decide +kernel
theorem dX1_strayRings_43 : decode cX1_strayRings 43 = .ok (.istore_n 1, 1) := by decide +kernel
theorem dX1_strayRings_44 : decode cX1_strayRings 44 = .ok (.iinc 2 1, 3) := by decide +kernel
theorem dX1_strayRings_47 : decode cX1_strayRings 47 = .ok (.goto (-43), 3) := by decide +kernel
theorem dX1_strayRings_50 : decode cX1_strayRings 50 = .ok (.iload_n 1, 1) := by decide +kernel
theorem dX1_strayRings_51 : decode cX1_strayRings 51 = .ok (.ireturn, 1) := by decide +kernel
theorem dX1_isExplainedBy_0 : decode cX1_isExplainedBy 0 = .ok (.iload_n 1, 1) := by decide +kernel
theorem dX1_isExplainedBy_1 : decode cX1_isExplainedBy 1 = .ok (.bipush 8, 2) := by decide +kernel
theorem dX1_isExplainedBy_3 : decode cX1_isExplainedBy 3 = .ok (.if_icmp .ge 13, 3) := by decide +kernel
theorem dX1_isExplainedBy_6 : decode cX1_isExplainedBy 6 = .ok (.aload_n 0, 1) := by decide +kernel
theorem dX1_isExplainedBy_7 : decode cX1_isExplainedBy 7 = .ok (.iload_n 1, 1) := by decide +kernel
theorem dX1_isExplainedBy_8 : decode cX1_isExplainedBy 8 = .ok (.iload_n 2, 1) := by decide +kernel
theorem dX1_isExplainedBy_9 : decode cX1_isExplainedBy 9 = .ok (.iload_n 3, 1) := by decide +kernel
theorem dX1_isExplainedBy_10 : decode cX1_isExplainedBy 10 = .ok (.invokevirtual 144, 3) := by decide +kernel
theorem dX1_isExplainedBy_13 : decode cX1_isExplainedBy 13 = .ok (.goto 10, 3) := by decide +kernel
theorem dX1_isExplainedBy_16 : decode cX1_isExplainedBy 16 = .ok (.aload_n 0, 1) := by decide +kernel
theorem dX1_isExplainedBy_17 : decode cX1_isExplainedBy 17 = .ok (.iload_n 1, 1) := by decide +kernel
theorem dX1_isExplainedBy_18 : decode cX1_isExplainedBy 18 = .ok (.iload_n 2, 1) := by decide +kernel
theorem dX1_isExplainedBy_19 : decode cX1_isExplainedBy 19 = .ok (.iload_n 3, 1) := by decide +kernel
theorem dX1_isExplainedBy_20 : decode cX1_isExplainedBy 20 = .ok (.invokevirtual 147, 3) := by decide +kernel
theorem dX1_isExplainedBy_23 : decode cX1_isExplainedBy 23 = .ok (.ireturn, 1) := by decide +kernel
theorem dX1_inhibitExplains_0 : decode cX1_inhibitExplains 0 = .ok (.aload_n 0, 1) := by decide +kernel
theorem dX1_inhibitExplains_1 : decode cX1_inhibitExplains 1 = .ok (.getfield 9, 3) := by decide +kernel
theorem dX1_inhibitExplains_4 : decode cX1_inhibitExplains 4 = .ok (.iload_n 1, 1) := by decide +kernel
theorem dX1_inhibitExplains_5 : decode cX1_inhibitExplains 5 = .ok (.iaload, 1) := by decide +kernel
theorem dX1_inhibitExplains_6 : decode cX1_inhibitExplains 6 = .ok (.iload_n 2, 1) := by decide +kernel
theorem dX1_inhibitExplains_7 : decode cX1_inhibitExplains 7 = .ok (.ishr, 1) := by decide +kernel
theorem dX1_inhibitExplains_8 : decode cX1_inhibitExplains 8 = .ok (.iconst 1, 1) := by decide +kernel
theorem dX1_inhibitExplains_9 : decode cX1_inhibitExplains 9 = .ok (.iand, 1) := by decide +kernel
theorem dX1_inhibitExplains_10 : decode cX1_inhibitExplains 10 = .ok (.iconst 1, 1) := by decide +kernel
theorem dX1_inhibitExplains_11 : decode cX1_inhibitExplains 11 = .ok (.if_icmp .ne 7, 3) := by decide +kernel
theorem dX1_inhibitExplains_14 : decode cX1_inhibitExplains 14 = .ok (.iconst 1, 1) := by decide +kernel
theorem dX1_inhibitExplains_15 : decode cX1_inhibitExplains 15 = .ok (.goto 4, 3) := by decide +kernel
theorem dX1_inhibitExplains_18 : decode cX1_inhibitExplains 18 = .ok (.iconst 0, 1) := by decide +kernel
theorem dX1_inhibitExplains_19 : decode cX1_inhibitExplains 19 = .ok (.istore 4, 2) := by decide +kernel
theorem dX1_inhibitExplains_21 : decode cX1_inhibitExplains 21 = .ok (.iload_n 2, 1) := by decide +kernel
theorem dX1_inhibitExplains_22 : decode cX1_inhibitExplains 22 = .ok (.istore 5, 2) := by decide +kernel
theorem dX1_inhibitExplains_24 : decode cX1_inhibitExplains 24 = .ok (.iconst 0, 1) := by decide +kernel
theorem dX1_inhibitExplains_25 : decode cX1_inhibitExplains 25 = .ok (.istore 6, 2) := by decide +kernel
theorem dX1_inhibitExplains_27 : decode cX1_inhibitExplains 27 = .ok (.iload 4, 2) := by decide +kernel
theorem dX1_inhibitExplains_29 : decode cX1_inhibitExplains 29 = .ok (.ifCond .eq 46, 3) := by decide +kernel
theorem dX1_inhibitExplains_32 : decode cX1_inhibitExplains 32 = .ok (.aload_n 0, 1) := by decide +kernel
theorem dX1_inhibitExplains_33 : decode cX1_inhibitExplains 33 = .ok (.aload_n 0, 1) := by decide +kernel
theorem dX1_inhibitExplains_34 : decode cX1_inhibitExplains 34 = .ok (.iload_n 2, 1) := by decide +kernel
theorem dX1_inhibitExplains_35 : decode cX1_inhibitExplains 35 = .ok (.invokevirtual 85, 3) := by decide +kernel
theorem dX1_inhibitExplains_38 : decode cX1_inhibitExplains 38 = .ok (.iconst 1, 1) := by decide +kernel
theorem dX1_inhibitExplains_39 : decode cX1_inhibitExplains 39 = .ok (.iload_n 1, 1) := by decide +kernel
theorem dX1_inhibitExplains_40 : decode cX1_inhibitExplains 40 = .ok (.iconst 2, 1) := by decide +kernel
theorem dX1_inhibitExplains_41 : decode cX1_inhibitExplains 41 = .ok (.idiv, 1) := by decide +kernel
theorem dX1_inhibitExplains_42 : decode cX1_inhibitExplains 42 = .ok (.ishl, 1) := by decide +kernel
theorem dX1_inhibitExplains_43 : decode cX1_inhibitExplains 43 = .ok (.ixor, 1) := by decide +kernel
theorem dX1_inhibitExplains_44 : decode cX1_inhibitExplains 44 = .ok (.invokevirtual 150, 3) := by decide +kernel
theorem dX1_inhibitExplains_47 : decode cX1_inhibitExplains 47 = .ok (.istore 5, 2) := by decide +kernel
theorem dX1_inhibitExplains_49 : decode cX1_inhibitExplains 49 = .ok (.iload 5, 2) := by decide +kernel
theorem dX1_inhibitExplains_51 : decode cX1_inhibitExplains 51 = .ok (.iconst (-1), 1) := by decide +kernel
theorem dX1_inhibitExplains_52 : decode cX1_inhibitExplains 52 = .ok (.if_icmp .ne 13, 3) := by decide +kernel
theorem dX1_inhibitExplains_55 : decode cX1_inhibitExplains 55 = .ok (.iload_n 3, 1) := by decide +kernel
theorem dX1_inhibitExplains_56 : decode cX1_inhibitExplains 56 = .ok (.ifCond .ne 7, 3) := by decide +kernel
theorem dX1_inhibitExplains_59 : decode cX1_inhibitExplains 59 = .ok (.iconst 1, 1) := by decide +kernel
theorem dX1_inhibitExplains_60 : decode cX1_inhibitExplains 60 = .ok (.goto 4, 3) := by decide +kernel
theorem dX1_inhibitExplains_63 : decode cX1_inhibitExplains 63 = .ok (.iconst 0, 1) := by decide +kernel
theorem dX1_inhibitExplains_64 : decode cX1_inhibitExplains 64 = .ok (.ireturn, 1) := by decide +kernel
theorem dX1_inhibitExplains_65 : decode cX1_inhibitExplains 65 = .ok (.iconst 1, 1) := by decide +kernel
theorem dX1_inhibitExplains_66 : decode cX1_inhibitExplains 66 = .ok (.iload_n 2, 1) := by decide +kernel
theorem dX1_inhibitExplains_67 : decode cX1_inhibitExplains 67 = .ok (.ishl, 1) := by decide +kernel
theorem dX1_inhibitExplains_68 : decode cX1_inhibitExplains 68 = .ok (.iconst 1, 1) := by decide +kernel
theorem dX1_inhibitExplains_69 : decode cX1_inhibitExplains 69 = .ok (.iload 5, 2) := by decide +kernel
theorem dX1_inhibitExplains_71 : decode cX1_inhibitExplains 71 = .ok (.ishl, 1) := by decide +kernel
theorem dX1_inhibitExplains_72 : decode cX1_inhibitExplains 72 = .ok (.ior, 1) := by decide +kernel
theorem dX1_inhibitExplains_73 : decode cX1_inhibitExplains 73 = .ok (.istore 6, 2) := by decide +kernel
theorem dX1_inhibitExplains_75 : decode cX1_inhibitExplains 75 = .ok (.iload_n 3, 1) := by decide +kernel
theorem dX1_inhibitExplains_76 : decode cX1_inhibitExplains 76 = .ok (.iconst 1, 1) := by decide +kernel
theorem dX1_inhibitExplains_77 : decode cX1_inhibitExplains 77 = .ok (.iload 5, 2) := by decide +kernel
theorem dX1_inhibitExplains_79 : decode cX1_inhibitExplains 79 = .ok (.ishl, 1) := by decide +kernel
theorem dX1_inhibitExplains_80 : decode cX1_inhibitExplains 80 = .ok (.iconst (-1), 1) := by decide +kernel
theorem dX1_inhibitExplains_81 : decode cX1_inhibitExplains 81 = .ok (.ixor, 1) := by decide +kernel
theorem dX1_inhibitExplains_82 : decode cX1_inhibitExplains 82 = .ok (.iand, 1) := by decide +kernel
theorem dX1_inhibitExplains_83 : decode cX1_inhibitExplains 83 = .ok (.ifCond .eq 5, 3) := by decide +kernel
theorem dX1_inhibitExplains_86 : decode cX1_inhibitExplains 86 = .ok (.iconst 0, 1) := by decide +kernel
theorem dX1_inhibitExplains_87 : decode cX1_inhibitExplains 87 = .ok (.ireturn, 1) := by decide +kernel
theorem dX1_inhibitExplains_88 : decode cX1_inhibitExplains 88 = .ok (.iconst 0, 1) := by decide +kernel
theorem dX1_inhibitExplains_89 : decode cX1_inhibitExplains 89 = .ok (.istore 7, 2) := by decide +kernel
theorem dX1_inhibitExplains_91 : decode cX1_inhibitExplains 91 = .ok (.iload 7, 2) := by decide +kernel
theorem dX1_inhibitExplains_93 : decode cX1_inhibitExplains 93 = .ok (.aload_n 0, 1) := by decide +kernel
theorem dX1_inhibitExplains_94 : decode cX1_inhibitExplains 94 = .ok (.getfield 35, 3) := by decide +kernel
theorem dX1_inhibitExplains_97 : decode cX1_inhibitExplains 97 = .ok (.if_icmp .ge 36, 3) := by decide +kernel
theorem dX1_inhibitExplains_100 : decode cX1_inhibitExplains 100 = .ok (.aload_n 0, 1) := by decide +kernel
theorem dX1_inhibitExplains_101 : decode cX1_inhibitExplains 101 = .ok (.aload_n 0, 1) := by decide +kernel
theorem dX1_inhibitExplains_102 : decode cX1_inhibitExplains 102 = .ok (.getfield 35, 3) := by decide +kernel
theorem dX1_inhibitExplains_105 : decode cX1_inhibitExplains 105 = .ok (.iload 5, 2) := by decide +kernel
theorem dX1_inhibitExplains_107 : decode cX1_inhibitExplains 107 = .ok (.imul, 1) := by decide +kernel
theorem dX1_inhibitExplains_108 : decode cX1_inhibitExplains 108 = .ok (.iload 7, 2) := by decide +kernel
theorem dX1_inhibitExplains_110 : decode cX1_inhibitExplains 110 = .ok (.iadd, 1) := by decide +kernel
theorem dX1_inhibitExplains_111 : decode cX1_inhibitExplains 111 = .ok (.invokevirtual 114, 3) := by decide +kernel
theorem dX1_inhibitExplains_114 : decode cX1_inhibitExplains 114 = .ok (.aload_n 0, 1) := by decide +kernel
theorem dX1_inhibitExplains_115 : decode cX1_inhibitExplains 115 = .ok (.iload 7, 2) := by decide +kernel
theorem dX1_inhibitExplains_117 : decode cX1_inhibitExplains 117 = .ok (.iload 6, 2) := by decide +kernel
theorem dX1_inhibitExplains_119 : decode cX1_inhibitExplains 119 = .ok (.invokevirtual 94, 3) := by decide +kernel
theorem dX1_inhibitExplains_122 : decode cX1_inhibitExplains 122 = .ok (.if_icmp .eq 5, 3) := by decide +kernel
theorem dX1_inhibitExplains_125 : decode cX1_inhibitExplains 125 = .ok (.iconst 0, 1) := by decide +kernel
theorem dX1_inhibitExplains_126 : decode cX1_inhibitExplains 126 = .ok (.ireturn, 1) := by decide +kernel
theorem dX1_inhibitExplains_127 : decode cX1_inhibitExplains 127 = .ok (.iinc 7 1, 3) := by decide +kernel
theorem dX1_inhibitExplains_130 : decode cX1_inhibitExplains 130 = .ok (.goto (-39), 3) := by decide +kernel
theorem dX1_inhibitExplains_133 : decode cX1_inhibitExplains 133 = .ok (.iconst 1, 1) := by decide +kernel
theorem dX1_inhibitExplains_134 : decode cX1_inhibitExplains 134 = .ok (.ireturn, 1) := by decide +kernel
theorem dX1_senseExplains_0 : decode cX1_senseExplains 0 = .ok (.iload_n 3, 1) := by decide +kernel
theorem dX1_senseExplains_1 : decode cX1_senseExplains 1 = .ok (.iconst 1, 1) := by decide +kernel
theorem dX1_senseExplains_2 : decode cX1_senseExplains 2 = .ok (.iload_n 2, 1) := by decide +kernel
theorem dX1_senseExplains_3 : decode cX1_senseExplains 3 = .ok (.ishl, 1) := by decide +kernel
theorem dX1_senseExplains_4 : decode cX1_senseExplains 4 = .ok (.if_icmp .eq 5, 3) := by decide +kernel
theorem dX1_senseExplains_7 : decode cX1_senseExplains 7 = .ok (.iconst 0, 1) := by decide +kernel
theorem dX1_senseExplains_8 : decode cX1_senseExplains 8 = .ok (.ireturn, 1) := by decide +kernel
theorem dX1_senseExplains_9 : decode cX1_senseExplains 9 = .ok (.iconst 0, 1) := by decide +kernel
theorem dX1_senseExplains_10 : decode cX1_senseExplains 10 = .ok (.istore 4, 2) := by decide +kernel
theorem dX1_senseExplains_12 : decode cX1_senseExplains 12 = .ok (.iload 4, 2) := by decide +kernel
theorem dX1_senseExplains_14 : decode cX1_senseExplains 14 = .ok (.aload_n 0, 1) := by decide +kernel
theorem dX1_senseExplains_15 : decode cX1_senseExplains 15 = .ok (.getfield 35, 3) := by decide +kernel
theorem dX1_senseExplains_18 : decode cX1_senseExplains 18 = .ok (.if_icmp .ge 74, 3) := by decide +kernel
theorem dX1_senseExplains_21 : decode cX1_senseExplains 21 = .ok (.iload_n 1, 1) := by decide +kernel
theorem dX1_senseExplains_22 : decode cX1_senseExplains 22 = .ok (.aload_n 0, 1) := by decide +kernel
theorem dX1_senseExplains_23 : decode cX1_senseExplains 23 = .ok (.iload 4, 2) := by decide +kernel
theorem dX1_senseExplains_25 : decode cX1_senseExplains 25 = .ok (.iconst 0, 1) := by decide +kernel
theorem dX1_senseExplains_26 : decode cX1_senseExplains 26 = .ok (.invokevirtual 98, 3) := by decide +kernel
theorem dX1_senseExplains_29 : decode cX1_senseExplains 29 = .ok (.isub, 1) := by decide +kernel
theorem dX1_senseExplains_30 : decode cX1_senseExplains 30 = .ok (.istore 5, 2) := by decide +kernel
theorem dX1_senseExplains_32 : decode cX1_senseExplains 32 = .ok (.iload 5, 2) := by decide +kernel
theorem dX1_senseExplains_34 : decode cX1_senseExplains 34 = .ok (.ifCond .lt 19, 3) := by decide +kernel
theorem dX1_senseExplains_37 : decode cX1_senseExplains 37 = .ok (.iload 5, 2) := by decide +kernel
theorem dX1_senseExplains_39 : decode cX1_senseExplains 39 = .ok (.aload_n 0, 1) := by decide +kernel
theorem dX1_senseExplains_40 : decode cX1_senseExplains 40 = .ok (.getfield 32, 3) := by decide +kernel
theorem dX1_senseExplains_43 : decode cX1_senseExplains 43 = .ok (.if_icmp .gt 10, 3) := by decide +kernel
theorem dX1_senseExplains_46 : decode cX1_senseExplains 46 = .ok (.iconst 1, 1) := by decide +kernel
theorem dX1_senseExplains_47 : decode cX1_senseExplains 47 = .ok (.iload 5, 2) := by decide +kernel
theorem dX1_senseExplains_49 : decode cX1_senseExplains 49 = .ok (.ishl, 1) := by decide +kernel
theorem dX1_senseExplains_50 : decode cX1_senseExplains 50 = .ok (.goto 4, 3) := by decide +kernel
theorem dX1_senseExplains_53 : decode cX1_senseExplains 53 = .ok (.iconst 0, 1) := by decide +kernel
theorem dX1_senseExplains_54 : decode cX1_senseExplains 54 = .ok (.istore 6, 2) := by decide +kernel
theorem dX1_senseExplains_56 : decode cX1_senseExplains 56 = .ok (.aload_n 0, 1) := by decide +kernel
theorem dX1_senseExplains_57 : decode cX1_senseExplains 57 = .ok (.aload_n 0, 1) := by decide +kernel
theorem dX1_senseExplains_58 : decode cX1_senseExplains 58 = .ok (.getfield 35, 3) := by decide +kernel
theorem dX1_senseExplains_61 : decode cX1_senseExplains 61 = .ok (.iload_n 2, 1) := by decide +kernel
theorem dX1_senseExplains_62 : decode cX1_senseExplains 62 = .ok (.imul, 1) := by decide +kernel
theorem dX1_senseExplains_63 : decode cX1_senseExplains 63 = .ok (.iload 4, 2) := by decide +kernel
theorem dX1_senseExplains_65 : decode cX1_senseExplains 65 = .ok (.iadd, 1) := by decide +kernel
theorem dX1_senseExplains_66 : decode cX1_senseExplains 66 = .ok (.invokevirtual 114, 3) := by decide +kernel
theorem dX1_senseExplains_69 : decode cX1_senseExplains 69 = .ok (.aload_n 0, 1) := by decide +kernel
theorem dX1_senseExplains_70 : decode cX1_senseExplains 70 = .ok (.iload 4, 2) := by decide +kernel
theorem dX1_senseExplains_72 : decode cX1_senseExplains 72 = .ok (.iconst 1, 1) := by decide +kernel
theorem dX1_senseExplains_73 : decode cX1_senseExplains 73 = .ok (.iload_n 2, 1) := by decide +kernel
theorem dX1_senseExplains_74 : decode cX1_senseExplains 74 = .ok (.ishl, 1) := by decide +kernel
theorem dX1_senseExplains_75 : decode cX1_senseExplains 75 = .ok (.invokevirtual 94, 3) := by decide +kernel
theorem dX1_senseExplains_78 : decode cX1_senseExplains 78 = .ok (.iload 6, 2) := by decide +kernel
theorem dX1_senseExplains_80 : decode cX1_senseExplains 80 = .ok (.ixor, 1) := by decide +kernel
theorem dX1_senseExplains_81 : decode cX1_senseExplains 81 = .ok (.if_icmp .eq 5, 3) := by decide +kernel
theorem dX1_senseExplains_84 : decode cX1_senseExplains 84 = .ok (.iconst 0, 1) := by decide +kernel
theorem dX1_senseExplains_85 : decode cX1_senseExplains 85 = .ok (.ireturn, 1) := by decide +kernel
theorem dX1_senseExplains_86 : decode cX1_senseExplains 86 = .ok (.iinc 4 1, 3) := by decide +kernel
theorem dX1_senseExplains_89 : decode cX1_senseExplains 89 = .ok (.goto (-77), 3) := by decide +kernel
theorem dX1_senseExplains_92 : decode cX1_senseExplains 92 = .ok (.iconst 1, 1) := by decide +kernel
theorem dX1_senseExplains_93 : decode cX1_senseExplains 93 = .ok (.ireturn, 1) := by decide +kernel
theorem dX1_patchAt_0 : decode cX1_patchAt 0 = .ok (.aload_n 0, 1) := by decide +kernel
theorem dX1_patchAt_1 : decode cX1_patchAt 1 = .ok (.getfield 21, 3) := by decide +kernel
theorem dX1_patchAt_4 : decode cX1_patchAt 4 = .ok (.iload_n 1, 1) := by decide +kernel
theorem dX1_patchAt_5 : decode cX1_patchAt 5 = .ok (.iaload, 1) := by decide +kernel
theorem dX1_patchAt_6 : decode cX1_patchAt 6 = .ok (.ireturn, 1) := by decide +kernel
theorem dX1_putPatch_0 : decode cX1_putPatch 0 = .ok (.aload_n 0, 1) := by decide +kernel
theorem dX1_putPatch_1 : decode cX1_putPatch 1 = .ok (.getfield 21, 3) := by decide +kernel
theorem dX1_putPatch_4 : decode cX1_putPatch 4 = .ok (.iload_n 1, 1) := by decide +kernel
theorem dX1_putPatch_5 : decode cX1_putPatch 5 = .ok (.iload_n 2, 1) := by decide +kernel
theorem dX1_putPatch_6 : decode cX1_putPatch 6 = .ok (.iastore, 1) := by decide +kernel
theorem dX1_putPatch_7 : decode cX1_putPatch 7 = .ok (.return_, 1) := by decide +kernel
theorem dX1_patchCount_0 : decode cX1_patchCount 0 = .ok (.iconst 0, 1) := by decide +kernel
theorem dX1_patchCount_1 : decode cX1_patchCount 1 = .ok (.istore_n 1, 1) := by decide +kernel
theorem dX1_patchCount_2 : decode cX1_patchCount 2 = .ok (.iconst 0, 1) := by decide +kernel
theorem dX1_patchCount_3 : decode cX1_patchCount 3 = .ok (.istore_n 2, 1) := by decide +kernel
theorem dX1_patchCount_4 : decode cX1_patchCount 4 = .ok (.iload_n 2, 1) := by decide +kernel
theorem dX1_patchCount_5 : decode cX1_patchCount 5 = .ok (.aload_n 0, 1) := by decide +kernel
theorem dX1_patchCount_6 : decode cX1_patchCount 6 = .ok (.invokevirtual 42, 3) := by decide +kernel
theorem dX1_patchCount_9 : decode cX1_patchCount 9 = .ok (.if_icmp .ge 22, 3) := by decide +kernel
theorem dX1_patchCount_12 : decode cX1_patchCount 12 = .ok (.aload_n 0, 1) := by decide +kernel
theorem dX1_patchCount_13 : decode cX1_patchCount 13 = .ok (.getfield 21, 3) := by decide +kernel
theorem dX1_patchCount_16 : decode cX1_patchCount 16 = .ok (.iload_n 2, 1) := by decide +kernel
theorem dX1_patchCount_17 : decode cX1_patchCount 17 = .ok (.iaload, 1) := by decide +kernel
theorem dX1_patchCount_18 : decode cX1_patchCount 18 = .ok (.iconst (-1), 1) := by decide +kernel
theorem dX1_patchCount_19 : decode cX1_patchCount 19 = .ok (.if_icmp .eq 6, 3) := by decide +kernel
theorem dX1_patchCount_22 : decode cX1_patchCount 22 = .ok (.iinc 1 1, 3) := by decide +kernel
theorem dX1_patchCount_25 : decode cX1_patchCount 25 = .ok (.iinc 2 1, 3) := by decide +kernel
theorem dX1_patchCount_28 : decode cX1_patchCount 28 = .ok (.goto (-24), 3) := by decide +kernel
theorem dX1_patchCount_31 : decode cX1_patchCount 31 = .ok (.iload_n 1, 1) := by decide +kernel
theorem dX1_patchCount_32 : decode cX1_patchCount 32 = .ok (.ireturn, 1) := by decide +kernel
theorem dX1_mendPatches_0 : decode cX1_mendPatches 0 = .ok (.iconst 0, 1) := by decide +kernel
theorem dX1_mendPatches_1 : decode cX1_mendPatches 1 = .ok (.istore_n 1, 1) := by decide +kernel
theorem dX1_mendPatches_2 : decode cX1_mendPatches 2 = .ok (.iload_n 1, 1) := by decide +kernel
theorem dX1_mendPatches_3 : decode cX1_mendPatches 3 = .ok (.aload_n 0, 1) := by decide +kernel
theorem dX1_mendPatches_4 : decode cX1_mendPatches 4 = .ok (.invokevirtual 42, 3) := by decide +kernel
theorem dX1_mendPatches_7 : decode cX1_mendPatches 7 = .ok (.if_icmp .ge 30, 3) := by decide +kernel
theorem dX1_mendPatches_10 : decode cX1_mendPatches 10 = .ok (.aload_n 0, 1) := by decide +kernel
theorem dX1_mendPatches_11 : decode cX1_mendPatches 11 = .ok (.getfield 21, 3) := by decide +kernel
theorem dX1_mendPatches_14 : decode cX1_mendPatches 14 = .ok (.iload_n 1, 1) := by decide +kernel
theorem dX1_mendPatches_15 : decode cX1_mendPatches 15 = .ok (.iaload, 1) := by decide +kernel
theorem dX1_mendPatches_16 : decode cX1_mendPatches 16 = .ok (.iconst (-1), 1) := by decide +kernel
theorem dX1_mendPatches_17 : decode cX1_mendPatches 17 = .ok (.if_icmp .eq 14, 3) := by decide +kernel
theorem dX1_mendPatches_20 : decode cX1_mendPatches 20 = .ok (.aload_n 0, 1) := by decide +kernel
theorem dX1_mendPatches_21 : decode cX1_mendPatches 21 = .ok (.getfield 21, 3) := by decide +kernel
theorem dX1_mendPatches_24 : decode cX1_mendPatches 24 = .ok (.iload_n 1, 1) := by decide +kernel
theorem dX1_mendPatches_25 : decode cX1_mendPatches 25 = .ok (.aload_n 0, 1) := by decide +kernel
theorem dX1_mendPatches_26 : decode cX1_mendPatches 26 = .ok (.iload_n 1, 1) := by decide +kernel
theorem dX1_mendPatches_27 : decode cX1_mendPatches 27 = .ok (.invokevirtual 131, 3) := by decide +kernel
theorem dX1_mendPatches_30 : decode cX1_mendPatches 30 = .ok (.iastore, 1) := by decide +kernel
theorem dX1_mendPatches_31 : decode cX1_mendPatches 31 = .ok (.iinc 1 1, 3) := by decide +kernel
theorem dX1_mendPatches_34 : decode cX1_mendPatches 34 = .ok (.goto (-32), 3) := by decide +kernel
theorem dX1_mendPatches_37 : decode cX1_mendPatches 37 = .ok (.return_, 1) := by decide +kernel
theorem dX1_addPatches_0 : decode cX1_addPatches 0 = .ok (.iconst 4, 1) := by decide +kernel
theorem dX1_addPatches_1 : decode cX1_addPatches 1 = .ok (.aload_n 0, 1) := by decide +kernel
theorem dX1_addPatches_2 : decode cX1_addPatches 2 = .ok (.invokevirtual 67, 3) := by decide +kernel
theorem dX1_addPatches_5 : decode cX1_addPatches 5 = .ok (.isub, 1) := by decide +kernel
theorem dX1_addPatches_6 : decode cX1_addPatches 6 = .ok (.istore_n 1, 1) := by decide +kernel
theorem dX1_addPatches_7 : decode cX1_addPatches 7 = .ok (.iconst 0, 1) := by decide +kernel
theorem dX1_addPatches_8 : decode cX1_addPatches 8 = .ok (.istore_n 2, 1) := by decide +kernel
theorem dX1_addPatches_9 : decode cX1_addPatches 9 = .ok (.iload_n 2, 1) := by decide +kernel
theorem dX1_addPatches_10 : decode cX1_addPatches 10 = .ok (.aload_n 0, 1) := by decide +kernel
theorem dX1_addPatches_11 : decode cX1_addPatches 11 = .ok (.invokevirtual 42, 3) := by decide +kernel
theorem dX1_addPatches_14 : decode cX1_addPatches 14 = .ok (.if_icmp .ge 35, 3) := by decide +kernel
theorem dX1_addPatches_17 : decode cX1_addPatches 17 = .ok (.iload_n 1, 1) := by decide +kernel
theorem dX1_addPatches_18 : decode cX1_addPatches 18 = .ok (.ifCond .le 31, 3) := by decide +kernel
theorem dX1_addPatches_21 : decode cX1_addPatches 21 = .ok (.aload_n 0, 1) := by decide +kernel
theorem dX1_addPatches_22 : decode cX1_addPatches 22 = .ok (.iload_n 2, 1) := by decide +kernel
theorem dX1_addPatches_23 : decode cX1_addPatches 23 = .ok (.invokevirtual 121, 3) := by decide +kernel
theorem dX1_addPatches_26 : decode cX1_addPatches 26 = .ok (.ifCond .eq 17, 3) := by decide +kernel
theorem dX1_addPatches_29 : decode cX1_addPatches 29 = .ok (.aload_n 0, 1) := by decide +kernel
theorem dX1_addPatches_30 : decode cX1_addPatches 30 = .ok (.getfield 21, 3) := by decide +kernel
theorem dX1_addPatches_33 : decode cX1_addPatches 33 = .ok (.iload_n 2, 1) := by decide +kernel
theorem dX1_addPatches_34 : decode cX1_addPatches 34 = .ok (.aload_n 0, 1) := by decide +kernel
theorem dX1_addPatches_35 : decode cX1_addPatches 35 = .ok (.iload_n 2, 1) := by decide +kernel
theorem dX1_addPatches_36 : decode cX1_addPatches 36 = .ok (.invokevirtual 131, 3) := by decide +kernel
theorem dX1_addPatches_39 : decode cX1_addPatches 39 = .ok (.iastore, 1) := by decide +kernel
theorem dX1_addPatches_40 : decode cX1_addPatches 40 = .ok (.iinc 1 (-1), 3) := by decide +kernel
theorem dX1_addPatches_43 : decode cX1_addPatches 43 = .ok (.iinc 2 1, 3) := by decide +kernel
theorem dX1_addPatches_46 : decode cX1_addPatches 46 = .ok (.goto (-37), 3) := by decide +kernel
theorem dX1_addPatches_49 : decode cX1_addPatches 49 = .ok (.return_, 1) := by decide +kernel
theorem dX1_hash_0 : decode cX1_hash 0 = .ok (.ldc2_w 153, 3) := by decide +kernel
theorem dX1_hash_3 : decode cX1_hash 3 = .ok (.lstore_n 1, 1) := by decide +kernel
theorem dX1_hash_4 : decode cX1_hash 4 = .ok (.iconst 0, 1) := by decide +kernel
theorem dX1_hash_5 : decode cX1_hash 5 = .ok (.istore_n 3, 1) := by decide +kernel
theorem dX1_hash_6 : decode cX1_hash 6 = .ok (.iload_n 3, 1) := by decide +kernel
theorem dX1_hash_7 : decode cX1_hash 7 = .ok (.bipush 9, 2) := by decide +kernel
theorem dX1_hash_9 : decode cX1_hash 9 = .ok (.if_icmp .ge 22, 3) := by decide +kernel
theorem dX1_hash_12 : decode cX1_hash 12 = .ok (.ldc2_w 155, 3) := by decide +kernel
theorem dX1_hash_15 : decode cX1_hash 15 = .ok (.lload_n 1, 1) := by decide +kernel
theorem dX1_hash_16 : decode cX1_hash 16 = .ok (.lmul, 1) := by decide +kernel
theorem dX1_hash_17 : decode cX1_hash 17 = .ok (.aload_n 0, 1) := by decide +kernel
theorem dX1_hash_18 : decode cX1_hash 18 = .ok (.iload_n 3, 1) := by decide +kernel
theorem dX1_hash_19 : decode cX1_hash 19 = .ok (.invokevirtual 157, 3) := by decide +kernel
theorem dX1_hash_22 : decode cX1_hash 22 = .ok (.i2l, 1) := by decide +kernel
theorem dX1_hash_23 : decode cX1_hash 23 = .ok (.ladd, 1) := by decide +kernel
theorem dX1_hash_24 : decode cX1_hash 24 = .ok (.lstore_n 1, 1) := by decide +kernel
theorem dX1_hash_25 : decode cX1_hash 25 = .ok (.iinc 3 1, 3) := by decide +kernel
theorem dX1_hash_28 : decode cX1_hash 28 = .ok (.goto (-22), 3) := by decide +kernel
theorem dX1_hash_31 : decode cX1_hash 31 = .ok (.iconst 0, 1) := by decide +kernel
theorem dX1_hash_32 : decode cX1_hash 32 = .ok (.istore_n 3, 1) := by decide +kernel
theorem dX1_hash_33 : decode cX1_hash 33 = .ok (.iload_n 3, 1) := by decide +kernel
theorem dX1_hash_34 : decode cX1_hash 34 = .ok (.aload_n 0, 1) := by decide +kernel
theorem dX1_hash_35 : decode cX1_hash 35 = .ok (.getfield 28, 3) := by decide +kernel
theorem dX1_hash_38 : decode cX1_hash 38 = .ok (.if_icmp .ge 22, 3) := by decide +kernel
theorem dX1_hash_41 : decode cX1_hash 41 = .ok (.ldc2_w 155, 3) := by decide +kernel
theorem dX1_hash_44 : decode cX1_hash 44 = .ok (.lload_n 1, 1) := by decide +kernel
theorem dX1_hash_45 : decode cX1_hash 45 = .ok (.lmul, 1) := by decide +kernel
theorem dX1_hash_46 : decode cX1_hash 46 = .ok (.aload_n 0, 1) := by decide +kernel
theorem dX1_hash_47 : decode cX1_hash 47 = .ok (.iload_n 3, 1) := by decide +kernel
theorem dX1_hash_48 : decode cX1_hash 48 = .ok (.invokevirtual 85, 3) := by decide +kernel
theorem dX1_hash_51 : decode cX1_hash 51 = .ok (.i2l, 1) := by decide +kernel
theorem dX1_hash_52 : decode cX1_hash 52 = .ok (.ladd, 1) := by decide +kernel
theorem dX1_hash_53 : decode cX1_hash 53 = .ok (.lstore_n 1, 1) := by decide +kernel
theorem dX1_hash_54 : decode cX1_hash 54 = .ok (.iinc 3 1, 3) := by decide +kernel
theorem dX1_hash_57 : decode cX1_hash 57 = .ok (.goto (-24), 3) := by decide +kernel
theorem dX1_hash_60 : decode cX1_hash 60 = .ok (.iconst 0, 1) := by decide +kernel
theorem dX1_hash_61 : decode cX1_hash 61 = .ok (.istore_n 3, 1) := by decide +kernel
theorem dX1_hash_62 : decode cX1_hash 62 = .ok (.iload_n 3, 1) := by decide +kernel
theorem dX1_hash_63 : decode cX1_hash 63 = .ok (.aload_n 0, 1) := by decide +kernel
theorem dX1_hash_64 : decode cX1_hash 64 = .ok (.invokevirtual 42, 3) := by decide +kernel
theorem dX1_hash_67 : decode cX1_hash 67 = .ok (.if_icmp .ge 70, 3) := by decide +kernel
theorem dX1_hash_70 : decode cX1_hash 70 = .ok (.ldc2_w 155, 3) := by decide +kernel
theorem dX1_hash_73 : decode cX1_hash 73 = .ok (.lload_n 1, 1) := by decide +kernel
theorem dX1_hash_74 : decode cX1_hash 74 = .ok (.lmul, 1) := by decide +kernel
theorem dX1_hash_75 : decode cX1_hash 75 = .ok (.aload_n 0, 1) := by decide +kernel
theorem dX1_hash_76 : decode cX1_hash 76 = .ok (.iload_n 3, 1) := by decide +kernel
theorem dX1_hash_77 : decode cX1_hash 77 = .ok (.invokevirtual 131, 3) := by decide +kernel
theorem dX1_hash_80 : decode cX1_hash 80 = .ok (.i2l, 1) := by decide +kernel
theorem dX1_hash_81 : decode cX1_hash 81 = .ok (.ladd, 1) := by decide +kernel
theorem dX1_hash_82 : decode cX1_hash 82 = .ok (.lstore_n 1, 1) := by decide +kernel
theorem dX1_hash_83 : decode cX1_hash 83 = .ok (.ldc2_w 155, 3) := by decide +kernel
theorem dX1_hash_86 : decode cX1_hash 86 = .ok (.lload_n 1, 1) := by decide +kernel
theorem dX1_hash_87 : decode cX1_hash 87 = .ok (.lmul, 1) := by decide +kernel
theorem dX1_hash_88 : decode cX1_hash 88 = .ok (.aload_n 0, 1) := by decide +kernel
theorem dX1_hash_89 : decode cX1_hash 89 = .ok (.iload_n 3, 1) := by decide +kernel
theorem dX1_hash_90 : decode cX1_hash 90 = .ok (.invokevirtual 134, 3) := by decide +kernel
theorem dX1_hash_93 : decode cX1_hash 93 = .ok (.i2l, 1) := by decide +kernel
theorem dX1_hash_94 : decode cX1_hash 94 = .ok (.ladd, 1) := by decide +kernel
theorem dX1_hash_95 : decode cX1_hash 95 = .ok (.lstore_n 1, 1) := by decide +kernel
theorem dX1_hash_96 : decode cX1_hash 96 = .ok (.ldc2_w 155, 3) := by decide +kernel
theorem dX1_hash_99 : decode cX1_hash 99 = .ok (.lload_n 1, 1) := by decide +kernel
theorem dX1_hash_100 : decode cX1_hash 100 = .ok (.lmul, 1) := by decide +kernel
theorem dX1_hash_101 : decode cX1_hash 101 = .ok (.aload_n 0, 1) := by decide +kernel
theorem dX1_hash_102 : decode cX1_hash 102 = .ok (.iload_n 3, 1) := by decide +kernel
theorem dX1_hash_103 : decode cX1_hash 103 = .ok (.invokevirtual 125, 3) := by decide +kernel
theorem dX1_hash_106 : decode cX1_hash 106 = .ok (.ifCond .eq 7, 3) := by decide +kernel
theorem dX1_hash_109 : decode cX1_hash 109 = .ok (.iconst 1, 1) := by decide +kernel
theorem dX1_hash_110 : decode cX1_hash 110 = .ok (.goto 4, 3) := by decide +kernel
theorem dX1_hash_113 : decode cX1_hash 113 = .ok (.iconst 0, 1) := by decide +kernel
theorem dX1_hash_114 : decode cX1_hash 114 = .ok (.i2l, 1) := by decide +kernel
theorem dX1_hash_115 : decode cX1_hash 115 = .ok (.ladd, 1) := by decide +kernel
theorem dX1_hash_116 : decode cX1_hash 116 = .ok (.lstore_n 1, 1) := by decide +kernel
theorem dX1_hash_117 : decode cX1_hash 117 = .ok (.ldc2_w 155, 3) := by decide +kernel
theorem dX1_hash_120 : decode cX1_hash 120 = .ok (.lload_n 1, 1) := by decide +kernel
theorem dX1_hash_121 : decode cX1_hash 121 = .ok (.lmul, 1) := by decide +kernel
theorem dX1_hash_122 : decode cX1_hash 122 = .ok (.aload_n 0, 1) := by decide +kernel
theorem dX1_hash_123 : decode cX1_hash 123 = .ok (.getfield 21, 3) := by decide +kernel
theorem dX1_hash_126 : decode cX1_hash 126 = .ok (.iload_n 3, 1) := by decide +kernel
theorem dX1_hash_127 : decode cX1_hash 127 = .ok (.iaload, 1) := by decide +kernel
theorem dX1_hash_128 : decode cX1_hash 128 = .ok (.i2l, 1) := by decide +kernel
theorem dX1_hash_129 : decode cX1_hash 129 = .ok (.ladd, 1) := by decide +kernel
theorem dX1_hash_130 : decode cX1_hash 130 = .ok (.lstore_n 1, 1) := by decide +kernel
theorem dX1_hash_131 : decode cX1_hash 131 = .ok (.iinc 3 1, 3) := by decide +kernel
theorem dX1_hash_134 : decode cX1_hash 134 = .ok (.goto (-72), 3) := by decide +kernel
theorem dX1_hash_137 : decode cX1_hash 137 = .ok (.iconst 0, 1) := by decide +kernel
theorem dX1_hash_138 : decode cX1_hash 138 = .ok (.istore_n 3, 1) := by decide +kernel
theorem dX1_hash_139 : decode cX1_hash 139 = .ok (.iload_n 3, 1) := by decide +kernel
theorem dX1_hash_140 : decode cX1_hash 140 = .ok (.aload_n 0, 1) := by decide +kernel
theorem dX1_hash_141 : decode cX1_hash 141 = .ok (.invokevirtual 55, 3) := by decide +kernel
theorem dX1_hash_144 : decode cX1_hash 144 = .ok (.if_icmp .ge 42, 3) := by decide +kernel
theorem dX1_hash_147 : decode cX1_hash 147 = .ok (.iconst 0, 1) := by decide +kernel
theorem dX1_hash_148 : decode cX1_hash 148 = .ok (.istore 4, 2) := by decide +kernel
theorem dX1_hash_150 : decode cX1_hash 150 = .ok (.iload 4, 2) := by decide +kernel
theorem dX1_hash_152 : decode cX1_hash 152 = .ok (.aload_n 0, 1) := by decide +kernel
theorem dX1_hash_153 : decode cX1_hash 153 = .ok (.getfield 28, 3) := by decide +kernel
theorem dX1_hash_156 : decode cX1_hash 156 = .ok (.if_icmp .ge 24, 3) := by decide +kernel
theorem dX1_hash_159 : decode cX1_hash 159 = .ok (.ldc2_w 155, 3) := by decide +kernel
theorem dX1_hash_162 : decode cX1_hash 162 = .ok (.lload_n 1, 1) := by decide +kernel
theorem dX1_hash_163 : decode cX1_hash 163 = .ok (.lmul, 1) := by decide +kernel
theorem dX1_hash_164 : decode cX1_hash 164 = .ok (.aload_n 0, 1) := by decide +kernel
theorem dX1_hash_165 : decode cX1_hash 165 = .ok (.iload_n 3, 1) := by decide +kernel
theorem dX1_hash_166 : decode cX1_hash 166 = .ok (.iload 4, 2) := by decide +kernel
theorem dX1_hash_168 : decode cX1_hash 168 = .ok (.invokevirtual 160, 3) := by decide +kernel
theorem dX1_hash_171 : decode cX1_hash 171 = .ok (.i2l, 1) := by decide +kernel
theorem dX1_hash_172 : decode cX1_hash 172 = .ok (.ladd, 1) := by decide +kernel
theorem dX1_hash_173 : decode cX1_hash 173 = .ok (.lstore_n 1, 1) := by decide +kernel
theorem dX1_hash_174 : decode cX1_hash 174 = .ok (.iinc 4 1, 3) := by decide +kernel
theorem dX1_hash_177 : decode cX1_hash 177 = .ok (.goto (-27), 3) := by decide +kernel
theorem dX1_hash_180 : decode cX1_hash 180 = .ok (.iinc 3 1, 3) := by decide +kernel
theorem dX1_hash_183 : decode cX1_hash 183 = .ok (.goto (-44), 3) := by decide +kernel
theorem dX1_hash_186 : decode cX1_hash 186 = .ok (.lload_n 1, 1) := by decide +kernel
theorem dX1_hash_187 : decode cX1_hash 187 = .ok (.lreturn, 1) := by decide +kernel
end
section
theorem dX4_init_0 : decode cX4_init 0 = .ok (.aload_n 0, 1) := by decide +kernel
theorem dX4_init_1 : decode cX4_init 1 = .ok (.invokespecial 1, 3) := by decide +kernel
theorem dX4_init_4 : decode cX4_init 4 = .ok (.aload_n 0, 1) := by decide +kernel
theorem dX4_init_5 : decode cX4_init 5 = .ok (.sipush 1134, 3) := by decide +kernel
theorem dX4_init_8 : decode cX4_init 8 = .ok (.newarray .int, 2) := by decide +kernel
theorem dX4_init_10 : decode cX4_init 10 = .ok (.putfield 7, 3) := by decide +kernel
theorem dX4_init_13 : decode cX4_init 13 = .ok (.aload_n 0, 1) := by decide +kernel
theorem dX4_init_14 : decode cX4_init 14 = .ok (.bipush 41, 2) := by decide +kernel
theorem dX4_init_16 : decode cX4_init 16 = .ok (.newarray .int, 2) := by decide +kernel
theorem dX4_init_18 : decode cX4_init 18 = .ok (.putfield 13, 3) := by decide +kernel
theorem dX4_init_21 : decode cX4_init 21 = .ok (.aload_n 0, 1) := by decide +kernel
theorem dX4_init_22 : decode cX4_init 22 = .ok (.bipush 48, 2) := by decide +kernel
theorem dX4_init_24 : decode cX4_init 24 = .ok (.newarray .int, 2) := by decide +kernel
theorem dX4_init_26 : decode cX4_init 26 = .ok (.putfield 16, 3) := by decide +kernel
theorem dX4_init_29 : decode cX4_init 29 = .ok (.aload_n 0, 1) := by decide +kernel
theorem dX4_init_30 : decode cX4_init 30 = .ok (.bipush 100, 2) := by decide +kernel
theorem dX4_init_32 : decode cX4_init 32 = .ok (.newarray .int, 2) := by decide +kernel
theorem dX4_init_34 : decode cX4_init 34 = .ok (.putfield 19, 3) := by decide +kernel
theorem dX4_init_37 : decode cX4_init 37 = .ok (.aload_n 0, 1) := by decide +kernel
theorem dX4_init_38 : decode cX4_init 38 = .ok (.bipush 8, 2) := by decide +kernel
theorem dX4_init_40 : decode cX4_init 40 = .ok (.bipush 6, 2) := by decide +kernel
theorem dX4_init_42 : decode cX4_init 42 = .ok (.iconst 2, 1) := by decide +kernel
theorem dX4_init_43 : decode cX4_init 43 = .ok (.invokevirtual 22, 3) := by decide +kernel
theorem dX4_init_46 : decode cX4_init 46 = .ok (.return_, 1) := by decide +kernel
theorem dX4_in_0 : decode cX4_in 0 = .ok (.iload_n 0, 1) := by decide +kernel
theorem dX4_in_1 : decode cX4_in 1 = .ok (.iload_n 1, 1) := by decide +kernel
theorem dX4_in_2 : decode cX4_in 2 = .ok (.if_icmp .lt 12, 3) := by decide +kernel
theorem dX4_in_5 : decode cX4_in 5 = .ok (.iload_n 0, 1) := by decide +kernel
theorem dX4_in_6 : decode cX4_in 6 = .ok (.iload_n 2, 1) := by decide +kernel
theorem dX4_in_7 : decode cX4_in 7 = .ok (.if_icmp .gt 7, 3) := by decide +kernel
theorem dX4_in_10 : decode cX4_in 10 = .ok (.iconst 1, 1) := by decide +kernel
theorem dX4_in_11 : decode cX4_in 11 = .ok (.goto 4, 3) := by decide +kernel
theorem dX4_in_14 : decode cX4_in 14 = .ok (.iconst 0, 1) := by decide +kernel
theorem dX4_in_15 : decode cX4_in 15 = .ok (.ireturn, 1) := by decide +kernel
theorem dX4_copies_0 : decode cX4_copies 0 = .ok (.iconst 0, 1) := by decide +kernel
theorem dX4_copies_1 : decode cX4_copies 1 = .ok (.istore_n 3, 1) := by decide +kernel
theorem dX4_copies_2 : decode cX4_copies 2 = .ok (.iload_n 3, 1) := by decide +kernel
theorem dX4_copies_3 : decode cX4_copies 3 = .ok (.sipush 189, 3) := by decide +kernel
theorem dX4_copies_6 : decode cX4_copies 6 = .ok (.if_icmp .ge 33, 3) := by decide +kernel
theorem dX4_copies_9 : decode cX4_copies 9 = .ok (.aload_n 0, 1) := by decide +kernel
theorem dX4_copies_10 : decode cX4_copies 10 = .ok (.getfield 7, 3) := by decide +kernel
theorem dX4_copies_13 : decode cX4_copies 13 = .ok (.sipush 189, 3) := by decide +kernel
theorem dX4_copies_16 : decode cX4_copies 16 = .ok (.iload_n 2, 1) := by decide +kernel
theorem dX4_copies_17 : decode cX4_copies 17 = .ok (.imul, 1) := by decide +kernel
theorem dX4_copies_18 : decode cX4_copies 18 = .ok (.iload_n 3, 1) := by decide +kernel
theorem dX4_copies_19 : decode cX4_copies 19 = .ok (.iadd, 1) := by decide +kernel
theorem dX4_copies_20 : decode cX4_copies 20 = .ok (.aload_n 0, 1) := by decide +kernel
theorem dX4_copies_21 : decode cX4_copies 21 = .ok (.getfield 7, 3) := by decide +kernel
theorem dX4_copies_24 : decode cX4_copies 24 = .ok (.sipush 189, 3) := by decide +kernel
theorem dX4_copies_27 : decode cX4_copies 27 = .ok (.iload_n 1, 1) := by decide +kernel
theorem dX4_copies_28 : decode cX4_copies 28 = .ok (.imul, 1) := by decide +kernel
theorem dX4_copies_29 : decode cX4_copies 29 = .ok (.iload_n 3, 1) := by decide +kernel
theorem dX4_copies_30 : decode cX4_copies 30 = .ok (.iadd, 1) := by decide +kernel
theorem dX4_copies_31 : decode cX4_copies 31 = .ok (.iaload, 1) := by decide +kernel
theorem dX4_copies_32 : decode cX4_copies 32 = .ok (.iastore, 1) := by decide +kernel
theorem dX4_copies_33 : decode cX4_copies 33 = .ok (.iinc 3 1, 3) := by decide +kernel
theorem dX4_copies_36 : decode cX4_copies 36 = .ok (.goto (-34), 3) := by decide +kernel
theorem dX4_copies_39 : decode cX4_copies 39 = .ok (.return_, 1) := by decide +kernel
theorem dX4_saves_0 : decode cX4_saves 0 = .ok (.iconst 1, 1) := by decide +kernel
theorem dX4_saves_1 : decode cX4_saves 1 = .ok (.istore_n 1, 1) := by decide +kernel
theorem dX4_saves_2 : decode cX4_saves 2 = .ok (.iload_n 1, 1) := by decide +kernel
theorem dX4_saves_3 : decode cX4_saves 3 = .ok (.iconst 5, 1) := by decide +kernel
theorem dX4_saves_4 : decode cX4_saves 4 = .ok (.if_icmp .ge 25, 3) := by decide +kernel
theorem dX4_saves_7 : decode cX4_saves 7 = .ok (.aload_n 0, 1) := by decide +kernel
theorem dX4_saves_8 : decode cX4_saves 8 = .ok (.getfield 26, 3) := by decide +kernel
theorem dX4_saves_11 : decode cX4_saves 11 = .ok (.iconst 5, 1) := by decide +kernel
theorem dX4_saves_12 : decode cX4_saves 12 = .ok (.if_icmp .ne 17, 3) := by decide +kernel
theorem dX4_saves_15 : decode cX4_saves 15 = .ok (.aload_n 0, 1) := by decide +kernel
theorem dX4_saves_16 : decode cX4_saves 16 = .ok (.iload_n 1, 1) := by decide +kernel
theorem dX4_saves_17 : decode cX4_saves 17 = .ok (.iconst 1, 1) := by decide +kernel
theorem dX4_saves_18 : decode cX4_saves 18 = .ok (.iadd, 1) := by decide +kernel
theorem dX4_saves_19 : decode cX4_saves 19 = .ok (.iload_n 1, 1) := by decide +kernel
theorem dX4_saves_20 : decode cX4_saves 20 = .ok (.invokevirtual 30, 3) := by decide +kernel
theorem dX4_saves_23 : decode cX4_saves 23 = .ok (.iinc 1 1, 3) := by decide +kernel
theorem dX4_saves_26 : decode cX4_saves 26 = .ok (.goto (-24), 3) := by decide +kernel
theorem dX4_saves_29 : decode cX4_saves 29 = .ok (.aload_n 0, 1) := by decide +kernel
theorem dX4_saves_30 : decode cX4_saves 30 = .ok (.dup, 1) := by decide +kernel
theorem dX4_saves_31 : decode cX4_saves 31 = .ok (.getfield 26, 3) := by decide +kernel
theorem dX4_saves_34 : decode cX4_saves 34 = .ok (.aload_n 0, 1) := by decide +kernel
theorem dX4_saves_35 : decode cX4_saves 35 = .ok (.getfield 26, 3) := by decide +kernel
theorem dX4_saves_38 : decode cX4_saves 38 = .ok (.iconst 5, 1) := by decide +kernel
theorem dX4_saves_39 : decode cX4_saves 39 = .ok (.if_icmp .ne 7, 3) := by decide +kernel
theorem dX4_saves_42 : decode cX4_saves 42 = .ok (.iconst 1, 1) := by decide +kernel
theorem dX4_saves_43 : decode cX4_saves 43 = .ok (.goto 4, 3) := by decide +kernel
theorem dX4_saves_46 : decode cX4_saves 46 = .ok (.iconst 0, 1) := by decide +kernel
theorem dX4_saves_47 : decode cX4_saves 47 = .ok (.isub, 1) := by decide +kernel
theorem dX4_saves_48 : decode cX4_saves 48 = .ok (.putfield 26, 3) := by decide +kernel
theorem dX4_saves_51 : decode cX4_saves 51 = .ok (.aload_n 0, 1) := by decide +kernel
theorem dX4_saves_52 : decode cX4_saves 52 = .ok (.dup, 1) := by decide +kernel
theorem dX4_saves_53 : decode cX4_saves 53 = .ok (.getfield 26, 3) := by decide +kernel
theorem dX4_saves_56 : decode cX4_saves 56 = .ok (.iconst 1, 1) := by decide +kernel
theorem dX4_saves_57 : decode cX4_saves 57 = .ok (.iadd, 1) := by decide +kernel
theorem dX4_saves_58 : decode cX4_saves 58 = .ok (.putfield 26, 3) := by decide +kernel
theorem dX4_saves_61 : decode cX4_saves 61 = .ok (.aload_n 0, 1) := by decide +kernel
theorem dX4_saves_62 : decode cX4_saves 62 = .ok (.iconst 0, 1) := by decide +kernel
theorem dX4_saves_63 : decode cX4_saves 63 = .ok (.aload_n 0, 1) := by decide +kernel
theorem dX4_saves_64 : decode cX4_saves 64 = .ok (.getfield 26, 3) := by decide +kernel
theorem dX4_saves_67 : decode cX4_saves 67 = .ok (.invokevirtual 30, 3) := by decide +kernel
theorem dX4_saves_70 : decode cX4_saves 70 = .ok (.return_, 1) := by decide +kernel
theorem dX4_begins_0 : decode cX4_begins 0 = .ok (.iconst 0, 1) := by decide +kernel
theorem dX4_begins_1 : decode cX4_begins 1 = .ok (.istore 4, 2) := by decide +kernel
theorem dX4_begins_3 : decode cX4_begins 3 = .ok (.iload 4, 2) := by decide +kernel
theorem dX4_begins_5 : decode cX4_begins 5 = .ok (.sipush 189, 3) := by decide +kernel
theorem dX4_begins_8 : decode cX4_begins 8 = .ok (.if_icmp .ge 29, 3) := by decide +kernel
theorem dX4_begins_11 : decode cX4_begins 11 = .ok (.aload_n 0, 1) := by decide +kernel
theorem dX4_begins_12 : decode cX4_begins 12 = .ok (.getfield 7, 3) := by decide +kernel
theorem dX4_begins_15 : decode cX4_begins 15 = .ok (.iload 4, 2) := by decide +kernel
theorem dX4_begins_17 : decode cX4_begins 17 = .ok (.iload 4, 2) := by decide +kernel
theorem dX4_begins_19 : decode cX4_begins 19 = .ok (.sipush 141, 3) := by decide +kernel
theorem dX4_begins_22 : decode cX4_begins 22 = .ok (.if_icmp .lt 7, 3) := by decide +kernel
theorem dX4_begins_25 : decode cX4_begins 25 = .ok (.iconst (-1), 1) := by decide +kernel
theorem dX4_begins_26 : decode cX4_begins 26 = .ok (.goto 4, 3) := by decide +kernel
theorem dX4_begins_29 : decode cX4_begins 29 = .ok (.iconst 0, 1) := by decide +kernel
theorem dX4_begins_30 : decode cX4_begins 30 = .ok (.iastore, 1) := by decide +kernel
theorem dX4_begins_31 : decode cX4_begins 31 = .ok (.iinc 4 1, 3) := by decide +kernel
theorem dX4_begins_34 : decode cX4_begins 34 = .ok (.goto (-31), 3) := by decide +kernel
theorem dX4_begins_37 : decode cX4_begins 37 = .ok (.aload_n 0, 1) := by decide +kernel
theorem dX4_begins_38 : decode cX4_begins 38 = .ok (.getfield 7, 3) := by decide +kernel
theorem dX4_begins_41 : decode cX4_begins 41 = .ok (.iconst 0, 1) := by decide +kernel
theorem dX4_begins_42 : decode cX4_begins 42 = .ok (.iload_n 1, 1) := by decide +kernel
theorem dX4_begins_43 : decode cX4_begins 43 = .ok (.iastore, 1) := by decide +kernel
theorem dX4_begins_44 : decode cX4_begins 44 = .ok (.aload_n 0, 1) := by decide +kernel
theorem dX4_begins_45 : decode cX4_begins 45 = .ok (.getfield 7, 3) := by decide +kernel
theorem dX4_begins_48 : decode cX4_begins 48 = .ok (.iconst 1, 1) := by decide +kernel
theorem dX4_begins_49 : decode cX4_begins 49 = .ok (.iload_n 2, 1) := by decide +kernel
theorem dX4_begins_50 : decode cX4_begins 50 = .ok (.iastore, 1) := by decide +kernel
theorem dX4_begins_51 : decode cX4_begins 51 = .ok (.aload_n 0, 1) := by decide +kernel
theorem dX4_begins_52 : decode cX4_begins 52 = .ok (.getfield 7, 3) := by decide +kernel
theorem dX4_begins_55 : decode cX4_begins 55 = .ok (.iconst 2, 1) := by decide +kernel
theorem dX4_begins_56 : decode cX4_begins 56 = .ok (.iload_n 3, 1) := by decide +kernel
theorem dX4_begins_57 : decode cX4_begins 57 = .ok (.iastore, 1) := by decide +kernel
theorem dX4_begins_58 : decode cX4_begins 58 = .ok (.iconst 0, 1) := by decide +kernel
theorem dX4_begins_59 : decode cX4_begins 59 = .ok (.istore 4, 2) := by decide +kernel
theorem dX4_begins_61 : decode cX4_begins 61 = .ok (.iload 4, 2) := by decide +kernel
theorem dX4_begins_63 : decode cX4_begins 63 = .ok (.iload_n 1, 1) := by decide +kernel
theorem dX4_begins_64 : decode cX4_begins 64 = .ok (.if_icmp .ge 20, 3) := by decide +kernel
theorem dX4_begins_67 : decode cX4_begins 67 = .ok (.aload_n 0, 1) := by decide +kernel
theorem dX4_begins_68 : decode cX4_begins 68 = .ok (.getfield 7, 3) := by decide +kernel
theorem dX4_begins_71 : decode cX4_begins 71 = .ok (.iconst 3, 1) := by decide +kernel
theorem dX4_begins_72 : decode cX4_begins 72 = .ok (.iload 4, 2) := by decide +kernel
theorem dX4_begins_74 : decode cX4_begins 74 = .ok (.iadd, 1) := by decide +kernel
theorem dX4_begins_75 : decode cX4_begins 75 = .ok (.iload 4, 2) := by decide +kernel
theorem dX4_begins_77 : decode cX4_begins 77 = .ok (.iastore, 1) := by decide +kernel
theorem dX4_begins_78 : decode cX4_begins 78 = .ok (.iinc 4 1, 3) := by decide +kernel
theorem dX4_begins_81 : decode cX4_begins 81 = .ok (.goto (-20), 3) := by decide +kernel
theorem dX4_begins_84 : decode cX4_begins 84 = .ok (.return_, 1) := by decide +kernel
theorem dX4_addresses_0 : decode cX4_addresses 0 = .ok (.aload_n 0, 1) := by decide +kernel
theorem dX4_addresses_1 : decode cX4_addresses 1 = .ok (.getfield 7, 3) := by decide +kernel
theorem dX4_addresses_4 : decode cX4_addresses 4 = .ok (.iconst 0, 1) := by decide +kernel
theorem dX4_addresses_5 : decode cX4_addresses 5 = .ok (.iaload, 1) := by decide +kernel
theorem dX4_addresses_6 : decode cX4_addresses 6 = .ok (.aload_n 0, 1) := by decide +kernel
theorem dX4_addresses_7 : decode cX4_addresses 7 = .ok (.getfield 7, 3) := by decide +kernel
theorem dX4_addresses_10 : decode cX4_addresses 10 = .ok (.iconst 2, 1) := by decide +kernel
theorem dX4_addresses_11 : decode cX4_addresses 11 = .ok (.iaload, 1) := by decide +kernel
theorem dX4_addresses_12 : decode cX4_addresses 12 = .ok (.imul, 1) := by decide +kernel
theorem dX4_addresses_13 : decode cX4_addresses 13 = .ok (.ireturn, 1) := by decide +kernel
theorem dX4_wires_0 : decode cX4_wires 0 = .ok (.bipush 8, 2) := by decide +kernel
theorem dX4_wires_2 : decode cX4_wires 2 = .ok (.aload_n 0, 1) := by decide +kernel
theorem dX4_wires_3 : decode cX4_wires 3 = .ok (.getfield 7, 3) := by decide +kernel
theorem dX4_wires_6 : decode cX4_wires 6 = .ok (.iconst 2, 1) := by decide +kernel
theorem dX4_wires_7 : decode cX4_wires 7 = .ok (.iaload, 1) := by decide +kernel
theorem dX4_wires_8 : decode cX4_wires 8 = .ok (.aload_n 0, 1) := by decide +kernel
theorem dX4_wires_9 : decode cX4_wires 9 = .ok (.getfield 7, 3) := by decide +kernel
theorem dX4_wires_12 : decode cX4_wires 12 = .ok (.iconst 1, 1) := by decide +kernel
theorem dX4_wires_13 : decode cX4_wires 13 = .ok (.iaload, 1) := by decide +kernel
theorem dX4_wires_14 : decode cX4_wires 14 = .ok (.iconst 1, 1) := by decide +kernel
theorem dX4_wires_15 : decode cX4_wires 15 = .ok (.iadd, 1) := by decide +kernel
theorem dX4_wires_16 : decode cX4_wires 16 = .ok (.imul, 1) := by decide +kernel
theorem dX4_wires_17 : decode cX4_wires 17 = .ok (.iadd, 1) := by decide +kernel
theorem dX4_wires_18 : decode cX4_wires 18 = .ok (.ireturn, 1) := by decide +kernel
theorem dX4_isRing_0 : decode cX4_isRing 0 = .ok (.iload_n 1, 1) := by decide +kernel
theorem dX4_isRing_1 : decode cX4_isRing 1 = .ok (.iconst 0, 1) := by decide +kernel
theorem dX4_isRing_2 : decode cX4_isRing 2 = .ok (.aload_n 0, 1) := by decide +kernel
theorem dX4_isRing_3 : decode cX4_isRing 3 = .ok (.getfield 7, 3) := by decide +kernel
theorem dX4_isRing_6 : decode cX4_isRing 6 = .ok (.iconst 0, 1) := by decide +kernel
theorem dX4_isRing_7 : decode cX4_isRing 7 = .ok (.iaload, 1) := by decide +kernel
theorem dX4_isRing_8 : decode cX4_isRing 8 = .ok (.iconst 1, 1) := by decide +kernel
theorem dX4_isRing_9 : decode cX4_isRing 9 = .ok (.isub, 1) := by decide +kernel
theorem dX4_isRing_10 : decode cX4_isRing 10 = .ok (.invokestatic 34, 3) := by decide +kernel
theorem dX4_isRing_13 : decode cX4_isRing 13 = .ok (.ireturn, 1) := by decide +kernel
theorem dX4_isWire_0 : decode cX4_isWire 0 = .ok (.iload_n 1, 1) := by decide +kernel
theorem dX4_isWire_1 : decode cX4_isWire 1 = .ok (.iconst 0, 1) := by decide +kernel
theorem dX4_isWire_2 : decode cX4_isWire 2 = .ok (.aload_n 0, 1) := by decide +kernel
theorem dX4_isWire_3 : decode cX4_isWire 3 = .ok (.invokevirtual 38, 3) := by decide +kernel
theorem dX4_isWire_6 : decode cX4_isWire 6 = .ok (.iconst 1, 1) := by decide +kernel
theorem dX4_isWire_7 : decode cX4_isWire 7 = .ok (.isub, 1) := by decide +kernel
theorem dX4_isWire_8 : decode cX4_isWire 8 = .ok (.invokestatic 34, 3) := by decide +kernel
theorem dX4_isWire_11 : decode cX4_isWire 11 = .ok (.ireturn, 1) := by decide +kernel
theorem dX4_isAddress_0 : decode cX4_isAddress 0 = .ok (.iload_n 1, 1) := by decide +kernel
theorem dX4_isAddress_1 : decode cX4_isAddress 1 = .ok (.iconst 0, 1) := by decide +kernel
theorem dX4_isAddress_2 : decode cX4_isAddress 2 = .ok (.aload_n 0, 1) := by decide +kernel
theorem dX4_isAddress_3 : decode cX4_isAddress 3 = .ok (.invokevirtual 42, 3) := by decide +kernel
theorem dX4_isAddress_6 : decode cX4_isAddress 6 = .ok (.iconst 1, 1) := by decide +kernel
theorem dX4_isAddress_7 : decode cX4_isAddress 7 = .ok (.isub, 1) := by decide +kernel
theorem dX4_isAddress_8 : decode cX4_isAddress 8 = .ok (.invokestatic 34, 3) := by decide +kernel
theorem dX4_isAddress_11 : decode cX4_isAddress 11 = .ok (.ireturn, 1) := by decide +kernel
theorem dX4_isWord_0 : decode cX4_isWord 0 = .ok (.iload_n 1, 1) := by decide +kernel
theorem dX4_isWord_1 : decode cX4_isWord 1 = .ok (.iconst 0, 1) := by decide +kernel
theorem dX4_isWord_2 : decode cX4_isWord 2 = .ok (.iconst 1, 1) := by decide +kernel
theorem dX4_isWord_3 : decode cX4_isWord 3 = .ok (.aload_n 0, 1) := by decide +kernel
theorem dX4_isWord_4 : decode cX4_isWord 4 = .ok (.getfield 7, 3) := by decide +kernel
theorem dX4_isWord_7 : decode cX4_isWord 7 = .ok (.iconst 1, 1) := by decide +kernel
theorem dX4_isWord_8 : decode cX4_isWord 8 = .ok (.iaload, 1) := by decide +kernel
theorem dX4_isWord_9 : decode cX4_isWord 9 = .ok (.ishl, 1) := by decide +kernel
theorem dX4_isWord_10 : decode cX4_isWord 10 = .ok (.iconst 1, 1) := by decide +kernel
theorem dX4_isWord_11 : decode cX4_isWord 11 = .ok (.isub, 1) := by decide +kernel
theorem dX4_isWord_12 : decode cX4_isWord 12 = .ok (.invokestatic 34, 3) := by decide +kernel
theorem dX4_isWord_15 : decode cX4_isWord 15 = .ok (.ireturn, 1) := by decide +kernel
theorem dX4_ones_0 : decode cX4_ones 0 = .ok (.iconst 0, 1) := by decide +kernel
theorem dX4_ones_1 : decode cX4_ones 1 = .ok (.istore_n 1, 1) := by decide +kernel
theorem dX4_ones_2 : decode cX4_ones 2 = .ok (.iconst 0, 1) := by decide +kernel
theorem dX4_ones_3 : decode cX4_ones 3 = .ok (.istore_n 2, 1) := by decide +kernel
theorem dX4_ones_4 : decode cX4_ones 4 = .ok (.iload_n 2, 1) := by decide +kernel
theorem dX4_ones_5 : decode cX4_ones 5 = .ok (.bipush 16, 2) := by decide +kernel
theorem dX4_ones_7 : decode cX4_ones 7 = .ok (.if_icmp .ge 17, 3) := by decide +kernel
theorem dX4_ones_10 : decode cX4_ones 10 = .ok (.iload_n 1, 1) := by decide +kernel
theorem dX4_ones_11 : decode cX4_ones 11 = .ok (.iload_n 0, 1) := by decide +kernel
theorem dX4_ones_12 : decode cX4_ones 12 = .ok (.iload_n 2, 1) := by decide +kernel
theorem dX4_ones_13 : decode cX4_ones 13 = .ok (.ishr, 1) := by decide +kernel
theorem dX4_ones_14 : decode cX4_ones 14 = .ok (.iconst 1, 1) := by decide +kernel
theorem dX4_ones_15 : decode cX4_ones 15 = .ok (.iand, 1) := by decide +kernel
theorem dX4_ones_16 : decode cX4_ones 16 = .ok (.iadd, 1) := by decide +kernel
theorem dX4_ones_17 : decode cX4_ones 17 = .ok (.istore_n 1, 1) := by decide +kernel
theorem dX4_ones_18 : decode cX4_ones 18 = .ok (.iinc 2 1, 3) := by decide +kernel
theorem dX4_ones_21 : decode cX4_ones 21 = .ok (.goto (-17), 3) := by decide +kernel
theorem dX4_ones_24 : decode cX4_ones 24 = .ok (.iload_n 1, 1) := by decide +kernel
theorem dX4_ones_25 : decode cX4_ones 25 = .ok (.ireturn, 1) := by decide +kernel
theorem dX4_bit_0 : decode cX4_bit 0 = .ok (.aload_n 0, 1) := by decide +kernel
theorem dX4_bit_1 : decode cX4_bit 1 = .ok (.getfield 7, 3) := by decide +kernel
theorem dX4_bit_4 : decode cX4_bit 4 = .ok (.bipush 19, 2) := by decide +kernel
theorem dX4_bit_6 : decode cX4_bit 6 = .ok (.iload_n 1, 1) := by decide +kernel
theorem dX4_bit_7 : decode cX4_bit 7 = .ok (.iadd, 1) := by decide +kernel
theorem dX4_bit_8 : decode cX4_bit 8 = .ok (.iaload, 1) := by decide +kernel
theorem dX4_bit_9 : decode cX4_bit 9 = .ok (.istore_n 3, 1) := by decide +kernel
theorem dX4_bit_10 : decode cX4_bit 10 = .ok (.iload_n 2, 1) := by decide +kernel
theorem dX4_bit_11 : decode cX4_bit 11 = .ok (.aload_n 0, 1) := by decide +kernel
theorem dX4_bit_12 : decode cX4_bit 12 = .ok (.getfield 7, 3) := by decide +kernel
theorem dX4_bit_15 : decode cX4_bit 15 = .ok (.iconst 1, 1) := by decide +kernel
theorem dX4_bit_16 : decode cX4_bit 16 = .ok (.iaload, 1) := by decide +kernel
theorem dX4_bit_17 : decode cX4_bit 17 = .ok (.if_icmp .ge 11, 3) := by decide +kernel
theorem dX4_bit_20 : decode cX4_bit 20 = .ok (.iload_n 3, 1) := by decide +kernel
theorem dX4_bit_21 : decode cX4_bit 21 = .ok (.iload_n 2, 1) := by decide +kernel
theorem dX4_bit_22 : decode cX4_bit 22 = .ok (.ishr, 1) := by decide +kernel
theorem dX4_bit_23 : decode cX4_bit 23 = .ok (.iconst 1, 1) := by decide +kernel
theorem dX4_bit_24 : decode cX4_bit 24 = .ok (.iand, 1) := by decide +kernel
theorem dX4_bit_25 : decode cX4_bit 25 = .ok (.goto 11, 3) := by decide +kernel
theorem dX4_bit_28 : decode cX4_bit 28 = .ok (.iconst 1, 1) := by decide +kernel
theorem dX4_bit_29 : decode cX4_bit 29 = .ok (.iload_n 3, 1) := by decide +kernel
theorem dX4_bit_30 : decode cX4_bit 30 = .ok (.invokestatic 45, 3) := by decide +kernel
theorem dX4_bit_33 : decode cX4_bit 33 = .ok (.iconst 2, 1) := by decide +kernel
theorem dX4_bit_34 : decode cX4_bit 34 = .ok (.irem, 1) := by decide +kernel
theorem dX4_bit_35 : decode cX4_bit 35 = .ok (.isub, 1) := by decide +kernel
theorem dX4_bit_36 : decode cX4_bit 36 = .ok (.ireturn, 1) := by decide +kernel
theorem dX4_told_0 : decode cX4_told 0 = .ok (.iload_n 1, 1) := by decide +kernel
theorem dX4_told_1 : decode cX4_told 1 = .ok (.bipush 8, 2) := by decide +kernel
theorem dX4_told_3 : decode cX4_told 3 = .ok (.isub, 1) := by decide +kernel
theorem dX4_told_4 : decode cX4_told 4 = .ok (.aload_n 0, 1) := by decide +kernel
theorem dX4_told_5 : decode cX4_told 5 = .ok (.getfield 7, 3) := by decide +kernel
theorem dX4_told_8 : decode cX4_told 8 = .ok (.iconst 1, 1) := by decide +kernel
theorem dX4_told_9 : decode cX4_told 9 = .ok (.iaload, 1) := by decide +kernel
theorem dX4_told_10 : decode cX4_told 10 = .ok (.iconst 1, 1) := by decide +kernel
theorem dX4_told_11 : decode cX4_told 11 = .ok (.iadd, 1) := by decide +kernel
theorem dX4_told_12 : decode cX4_told 12 = .ok (.idiv, 1) := by decide +kernel
theorem dX4_told_13 : decode cX4_told 13 = .ok (.istore_n 2, 1) := by decide +kernel
theorem dX4_told_14 : decode cX4_told 14 = .ok (.iload_n 1, 1) := by decide +kernel
theorem dX4_told_15 : decode cX4_told 15 = .ok (.bipush 8, 2) := by decide +kernel
theorem dX4_told_17 : decode cX4_told 17 = .ok (.isub, 1) := by decide +kernel
theorem dX4_told_18 : decode cX4_told 18 = .ok (.aload_n 0, 1) := by decide +kernel
theorem dX4_told_19 : decode cX4_told 19 = .ok (.getfield 7, 3) := by decide +kernel
theorem dX4_told_22 : decode cX4_told 22 = .ok (.iconst 1, 1) := by decide +kernel
theorem dX4_told_23 : decode cX4_told 23 = .ok (.iaload, 1) := by decide +kernel
theorem dX4_told_24 : decode cX4_told 24 = .ok (.iconst 1, 1) := by decide +kernel
theorem dX4_told_25 : decode cX4_told 25 = .ok (.iadd, 1) := by decide +kernel
theorem dX4_told_26 : decode cX4_told 26 = .ok (.irem, 1) := by decide +kernel
theorem dX4_told_27 : decode cX4_told 27 = .ok (.istore_n 3, 1) := by decide +kernel
theorem dX4_told_28 : decode cX4_told 28 = .ok (.iconst 0, 1) := by decide +kernel
theorem dX4_told_29 : decode cX4_told 29 = .ok (.istore 4, 2) := by decide +kernel
theorem dX4_told_31 : decode cX4_told 31 = .ok (.iconst 0, 1) := by decide +kernel
theorem dX4_told_32 : decode cX4_told 32 = .ok (.istore 5, 2) := by decide +kernel
theorem dX4_told_34 : decode cX4_told 34 = .ok (.iload 5, 2) := by decide +kernel
theorem dX4_told_36 : decode cX4_told 36 = .ok (.aload_n 0, 1) := by decide +kernel
theorem dX4_told_37 : decode cX4_told 37 = .ok (.getfield 7, 3) := by decide +kernel
theorem dX4_told_40 : decode cX4_told 40 = .ok (.iconst 0, 1) := by decide +kernel
theorem dX4_told_41 : decode cX4_told 41 = .ok (.iaload, 1) := by decide +kernel
theorem dX4_told_42 : decode cX4_told 42 = .ok (.if_icmp .ge 33, 3) := by decide +kernel
theorem dX4_told_45 : decode cX4_told 45 = .ok (.iload 4, 2) := by decide +kernel
theorem dX4_told_47 : decode cX4_told 47 = .ok (.aload_n 0, 1) := by decide +kernel
theorem dX4_told_48 : decode cX4_told 48 = .ok (.aload_n 0, 1) := by decide +kernel
theorem dX4_told_49 : decode cX4_told 49 = .ok (.getfield 7, 3) := by decide +kernel
theorem dX4_told_52 : decode cX4_told 52 = .ok (.iconst 2, 1) := by decide +kernel
theorem dX4_told_53 : decode cX4_told 53 = .ok (.iaload, 1) := by decide +kernel
theorem dX4_told_54 : decode cX4_told 54 = .ok (.iload 5, 2) := by decide +kernel
theorem dX4_told_56 : decode cX4_told 56 = .ok (.imul, 1) := by decide +kernel
theorem dX4_told_57 : decode cX4_told 57 = .ok (.iload_n 2, 1) := by decide +kernel
theorem dX4_told_58 : decode cX4_told 58 = .ok (.iadd, 1) := by decide +kernel
theorem dX4_told_59 : decode cX4_told 59 = .ok (.iload_n 3, 1) := by decide +kernel
theorem dX4_told_60 : decode cX4_told 60 = .ok (.invokevirtual 49, 3) := by decide +kernel
theorem dX4_told_63 : decode cX4_told 63 = .ok (.iload 5, 2) := by decide +kernel
theorem dX4_told_65 : decode cX4_told 65 = .ok (.ishl, 1) := by decide +kernel
theorem dX4_told_66 : decode cX4_told 66 = .ok (.ior, 1) := by decide +kernel
theorem dX4_told_67 : decode cX4_told 67 = .ok (.istore 4, 2) := by decide +kernel
theorem dX4_told_69 : decode cX4_told 69 = .ok (.iinc 5 1, 3) := by decide +kernel
theorem dX4_told_72 : decode cX4_told 72 = .ok (.goto (-38), 3) := by decide +kernel
theorem dX4_told_75 : decode cX4_told 75 = .ok (.iload 4, 2) := by decide +kernel
theorem dX4_told_77 : decode cX4_told 77 = .ok (.ireturn, 1) := by decide +kernel
theorem dX4_allRings_0 : decode cX4_allRings 0 = .ok (.iconst 1, 1) := by decide +kernel
theorem dX4_allRings_1 : decode cX4_allRings 1 = .ok (.aload_n 0, 1) := by decide +kernel
theorem dX4_allRings_2 : decode cX4_allRings 2 = .ok (.getfield 7, 3) := by decide +kernel
theorem dX4_allRings_5 : decode cX4_allRings 5 = .ok (.iconst 0, 1) := by decide +kernel
theorem dX4_allRings_6 : decode cX4_allRings 6 = .ok (.iaload, 1) := by decide +kernel
theorem dX4_allRings_7 : decode cX4_allRings 7 = .ok (.ishl, 1) := by decide +kernel
theorem dX4_allRings_8 : decode cX4_allRings 8 = .ok (.iconst 1, 1) := by decide +kernel
theorem dX4_allRings_9 : decode cX4_allRings 9 = .ok (.isub, 1) := by decide +kernel
theorem dX4_allRings_10 : decode cX4_allRings 10 = .ok (.ireturn, 1) := by decide +kernel
theorem dX4_right_0 : decode cX4_right 0 = .ok (.iload_n 1, 1) := by decide +kernel
theorem dX4_right_1 : decode cX4_right 1 = .ok (.bipush 8, 2) := by decide +kernel
theorem dX4_right_3 : decode cX4_right 3 = .ok (.if_icmp .lt 40, 3) := by decide +kernel
theorem dX4_right_6 : decode cX4_right 6 = .ok (.aload_n 0, 1) := by decide +kernel
theorem dX4_right_7 : decode cX4_right 7 = .ok (.getfield 7, 3) := by decide +kernel
theorem dX4_right_10 : decode cX4_right 10 = .ok (.bipush 67, 2) := by decide +kernel
theorem dX4_right_12 : decode cX4_right 12 = .ok (.iload_n 1, 1) := by decide +kernel
theorem dX4_right_13 : decode cX4_right 13 = .ok (.iadd, 1) := by decide +kernel
theorem dX4_right_14 : decode cX4_right 14 = .ok (.bipush 8, 2) := by decide +kernel
theorem dX4_right_16 : decode cX4_right 16 = .ok (.isub, 1) := by decide +kernel
theorem dX4_right_17 : decode cX4_right 17 = .ok (.iaload, 1) := by decide +kernel
theorem dX4_right_18 : decode cX4_right 18 = .ok (.iconst 1, 1) := by decide +kernel
theorem dX4_right_19 : decode cX4_right 19 = .ok (.if_icmp .ne 18, 3) := by decide +kernel
theorem dX4_right_22 : decode cX4_right 22 = .ok (.aload_n 0, 1) := by decide +kernel
theorem dX4_right_23 : decode cX4_right 23 = .ok (.invokevirtual 53, 3) := by decide +kernel
theorem dX4_right_26 : decode cX4_right 26 = .ok (.aload_n 0, 1) := by decide +kernel
theorem dX4_right_27 : decode cX4_right 27 = .ok (.iload_n 1, 1) := by decide +kernel
theorem dX4_right_28 : decode cX4_right 28 = .ok (.invokevirtual 56, 3) := by decide +kernel
theorem dX4_right_31 : decode cX4_right 31 = .ok (.iconst (-1), 1) := by decide +kernel
theorem dX4_right_32 : decode cX4_right 32 = .ok (.ixor, 1) := by decide +kernel
theorem dX4_right_33 : decode cX4_right 33 = .ok (.iand, 1) := by decide +kernel
theorem dX4_right_34 : decode cX4_right 34 = .ok (.goto 8, 3) := by decide +kernel
theorem dX4_right_37 : decode cX4_right 37 = .ok (.aload_n 0, 1) := by decide +kernel
theorem dX4_right_38 : decode cX4_right 38 = .ok (.iload_n 1, 1) := by decide +kernel
theorem dX4_right_39 : decode cX4_right 39 = .ok (.invokevirtual 56, 3) := by decide +kernel
theorem dX4_right_42 : decode cX4_right 42 = .ok (.ireturn, 1) := by decide +kernel
theorem dX4_right_43 : decode cX4_right 43 = .ok (.iconst 0, 1) := by decide +kernel
theorem dX4_right_44 : decode cX4_right 44 = .ok (.istore_n 2, 1) := by decide +kernel
theorem dX4_right_45 : decode cX4_right 45 = .ok (.iconst 0, 1) := by decide +kernel
theorem dX4_right_46 : decode cX4_right 46 = .ok (.istore_n 3, 1) := by decide +kernel
theorem dX4_right_47 : decode cX4_right 47 = .ok (.iload_n 3, 1) := by decide +kernel
theorem dX4_right_48 : decode cX4_right 48 = .ok (.aload_n 0, 1) := by decide +kernel
theorem dX4_right_49 : decode cX4_right 49 = .ok (.getfield 7, 3) := by decide +kernel
theorem dX4_right_52 : decode cX4_right 52 = .ok (.iconst 0, 1) := by decide +kernel
theorem dX4_right_53 : decode cX4_right 53 = .ok (.iaload, 1) := by decide +kernel
theorem dX4_right_54 : decode cX4_right 54 = .ok (.if_icmp .ge 39, 3) := by decide +kernel
theorem dX4_right_57 : decode cX4_right 57 = .ok (.iload_n 2, 1) := by decide +kernel
theorem dX4_right_58 : decode cX4_right 58 = .ok (.aload_n 0, 1) := by decide +kernel
theorem dX4_right_59 : decode cX4_right 59 = .ok (.getfield 7, 3) := by decide +kernel
theorem dX4_right_62 : decode cX4_right 62 = .ok (.iconst 3, 1) := by decide +kernel
theorem dX4_right_63 : decode cX4_right 63 = .ok (.iload_n 3, 1) := by decide +kernel
theorem dX4_right_64 : decode cX4_right 64 = .ok (.iadd, 1) := by decide +kernel
theorem dX4_right_65 : decode cX4_right 65 = .ok (.iaload, 1) := by decide +kernel
theorem dX4_right_66 : decode cX4_right 66 = .ok (.iload_n 1, 1) := by decide +kernel
theorem dX4_right_67 : decode cX4_right 67 = .ok (.iconst 2, 1) := by decide +kernel
theorem dX4_right_68 : decode cX4_right 68 = .ok (.idiv, 1) := by decide +kernel
theorem dX4_right_69 : decode cX4_right 69 = .ok (.ishr, 1) := by decide +kernel
theorem dX4_right_70 : decode cX4_right 70 = .ok (.iconst 1, 1) := by decide +kernel
theorem dX4_right_71 : decode cX4_right 71 = .ok (.iand, 1) := by decide +kernel
theorem dX4_right_72 : decode cX4_right 72 = .ok (.iload_n 1, 1) := by decide +kernel
theorem dX4_right_73 : decode cX4_right 73 = .ok (.iconst 2, 1) := by decide +kernel
theorem dX4_right_74 : decode cX4_right 74 = .ok (.irem, 1) := by decide +kernel
theorem dX4_right_75 : decode cX4_right 75 = .ok (.if_icmp .ne 9, 3) := by decide +kernel
theorem dX4_right_78 : decode cX4_right 78 = .ok (.iconst 1, 1) := by decide +kernel
theorem dX4_right_79 : decode cX4_right 79 = .ok (.iload_n 3, 1) := by decide +kernel
theorem dX4_right_80 : decode cX4_right 80 = .ok (.ishl, 1) := by decide +kernel
theorem dX4_right_81 : decode cX4_right 81 = .ok (.goto 4, 3) := by decide +kernel
theorem dX4_right_84 : decode cX4_right 84 = .ok (.iconst 0, 1) := by decide +kernel
theorem dX4_right_85 : decode cX4_right 85 = .ok (.ior, 1) := by decide +kernel
theorem dX4_right_86 : decode cX4_right 86 = .ok (.istore_n 2, 1) := by decide +kernel
theorem dX4_right_87 : decode cX4_right 87 = .ok (.iinc 3 1, 3) := by decide +kernel
theorem dX4_right_90 : decode cX4_right 90 = .ok (.goto (-43), 3) := by decide +kernel
theorem dX4_right_93 : decode cX4_right 93 = .ok (.iload_n 2, 1) := by decide +kernel
theorem dX4_right_94 : decode cX4_right 94 = .ok (.ireturn, 1) := by decide +kernel
theorem dX4_costOf_0 : decode cX4_costOf 0 = .ok (.aload_n 0, 1) := by decide +kernel
theorem dX4_costOf_1 : decode cX4_costOf 1 = .ok (.iload_n 1, 1) := by decide +kernel
theorem dX4_costOf_2 : decode cX4_costOf 2 = .ok (.invokevirtual 59, 3) := by decide +kernel
theorem dX4_costOf_5 : decode cX4_costOf 5 = .ok (.invokestatic 45, 3) := by decide +kernel
theorem dX4_costOf_8 : decode cX4_costOf 8 = .ok (.iload_n 1, 1) := by decide +kernel
theorem dX4_costOf_9 : decode cX4_costOf 9 = .ok (.bipush 8, 2) := by decide +kernel
theorem dX4_costOf_11 : decode cX4_costOf 11 = .ok (.if_icmp .lt 18, 3) := by decide +kernel
theorem dX4_costOf_14 : decode cX4_costOf 14 = .ok (.aload_n 0, 1) := by decide +kernel
theorem dX4_costOf_15 : decode cX4_costOf 15 = .ok (.getfield 7, 3) := by decide +kernel
theorem dX4_costOf_18 : decode cX4_costOf 18 = .ok (.bipush 67, 2) := by decide +kernel
theorem dX4_costOf_20 : decode cX4_costOf 20 = .ok (.iload_n 1, 1) := by decide +kernel
theorem dX4_costOf_21 : decode cX4_costOf 21 = .ok (.iadd, 1) := by decide +kernel
theorem dX4_costOf_22 : decode cX4_costOf 22 = .ok (.bipush 8, 2) := by decide +kernel
theorem dX4_costOf_24 : decode cX4_costOf 24 = .ok (.isub, 1) := by decide +kernel
theorem dX4_costOf_25 : decode cX4_costOf 25 = .ok (.iaload, 1) := by decide +kernel
theorem dX4_costOf_26 : decode cX4_costOf 26 = .ok (.goto 4, 3) := by decide +kernel
theorem dX4_costOf_29 : decode cX4_costOf 29 = .ok (.iconst 0, 1) := by decide +kernel
theorem dX4_costOf_30 : decode cX4_costOf 30 = .ok (.iadd, 1) := by decide +kernel
theorem dX4_costOf_31 : decode cX4_costOf 31 = .ok (.ireturn, 1) := by decide +kernel
theorem dX4_patches_0 : decode cX4_patches 0 = .ok (.iconst 0, 1) := by decide +kernel
theorem dX4_patches_1 : decode cX4_patches 1 = .ok (.istore_n 1, 1) := by decide +kernel
theorem dX4_patches_2 : decode cX4_patches 2 = .ok (.iconst 0, 1) := by decide +kernel
theorem dX4_patches_3 : decode cX4_patches 3 = .ok (.istore_n 2, 1) := by decide +kernel
theorem dX4_patches_4 : decode cX4_patches 4 = .ok (.iload_n 2, 1) := by decide +kernel
theorem dX4_patches_5 : decode cX4_patches 5 = .ok (.aload_n 0, 1) := by decide +kernel
theorem dX4_patches_6 : decode cX4_patches 6 = .ok (.invokevirtual 42, 3) := by decide +kernel
theorem dX4_patches_9 : decode cX4_patches 9 = .ok (.if_icmp .ge 31, 3) := by decide +kernel
theorem dX4_patches_12 : decode cX4_patches 12 = .ok (.iload_n 1, 1) := by decide +kernel
theorem dX4_patches_13 : decode cX4_patches 13 = .ok (.aload_n 0, 1) := by decide +kernel
theorem dX4_patches_14 : decode cX4_patches 14 = .ok (.getfield 7, 3) := by decide +kernel
theorem dX4_patches_17 : decode cX4_patches 17 = .ok (.sipush 141, 3) := by decide +kernel
theorem dX4_patches_20 : decode cX4_patches 20 = .ok (.iload_n 2, 1) := by decide +kernel
theorem dX4_patches_21 : decode cX4_patches 21 = .ok (.iadd, 1) := by decide +kernel
theorem dX4_patches_22 : decode cX4_patches 22 = .ok (.iaload, 1) := by decide +kernel
theorem dX4_patches_23 : decode cX4_patches 23 = .ok (.iconst (-1), 1) := by decide +kernel
theorem dX4_patches_24 : decode cX4_patches 24 = .ok (.if_icmp .eq 7, 3) := by decide +kernel
theorem dX4_patches_27 : decode cX4_patches 27 = .ok (.iconst 1, 1) := by decide +kernel
theorem dX4_patches_28 : decode cX4_patches 28 = .ok (.goto 4, 3) := by decide +kernel
theorem dX4_patches_31 : decode cX4_patches 31 = .ok (.iconst 0, 1) := by decide +kernel
theorem dX4_patches_32 : decode cX4_patches 32 = .ok (.iadd, 1) := by decide +kernel
theorem dX4_patches_33 : decode cX4_patches 33 = .ok (.istore_n 1, 1) := by decide +kernel
theorem dX4_patches_34 : decode cX4_patches 34 = .ok (.iinc 2 1, 3) := by decide +kernel
theorem dX4_patches_37 : decode cX4_patches 37 = .ok (.goto (-33), 3) := by decide +kernel
theorem dX4_patches_40 : decode cX4_patches 40 = .ok (.iload_n 1, 1) := by decide +kernel
theorem dX4_patches_41 : decode cX4_patches 41 = .ok (.ireturn, 1) := by decide +kernel
theorem dX4_begin_0 : decode cX4_begin 0 = .ok (.iload_n 1, 1) := by decide +kernel
theorem dX4_begin_1 : decode cX4_begin 1 = .ok (.iconst 2, 1) := by decide +kernel
theorem dX4_begin_2 : decode cX4_begin 2 = .ok (.bipush 16, 2) := by decide +kernel
theorem dX4_begin_4 : decode cX4_begin 4 = .ok (.invokestatic 34, 3) := by decide +kernel
theorem dX4_begin_7 : decode cX4_begin 7 = .ok (.ifCond .eq 22, 3) := by decide +kernel
theorem dX4_begin_10 : decode cX4_begin 10 = .ok (.iload_n 2, 1) := by decide +kernel
theorem dX4_begin_11 : decode cX4_begin 11 = .ok (.iconst 1, 1) := by decide +kernel
theorem dX4_begin_12 : decode cX4_begin 12 = .ok (.bipush 10, 2) := by decide +kernel
theorem dX4_begin_14 : decode cX4_begin 14 = .ok (.invokestatic 34, 3) := by decide +kernel
theorem dX4_begin_17 : decode cX4_begin 17 = .ok (.ifCond .eq 12, 3) := by decide +kernel
theorem dX4_begin_20 : decode cX4_begin 20 = .ok (.iload_n 3, 1) := by decide +kernel
theorem dX4_begin_21 : decode cX4_begin 21 = .ok (.iconst 1, 1) := by decide +kernel
theorem dX4_begin_22 : decode cX4_begin 22 = .ok (.iconst 3, 1) := by decide +kernel
theorem dX4_begin_23 : decode cX4_begin 23 = .ok (.invokestatic 34, 3) := by decide +kernel
theorem dX4_begin_26 : decode cX4_begin 26 = .ok (.ifCond .ne 6, 3) := by decide +kernel
theorem dX4_begin_29 : decode cX4_begin 29 = .ok (.bipush (-3), 2) := by decide +kernel
theorem dX4_begin_31 : decode cX4_begin 31 = .ok (.ireturn, 1) := by decide +kernel
theorem dX4_begin_32 : decode cX4_begin 32 = .ok (.aload_n 0, 1) := by decide +kernel
theorem dX4_begin_33 : decode cX4_begin 33 = .ok (.invokevirtual 62, 3) := by decide +kernel
theorem dX4_begin_36 : decode cX4_begin 36 = .ok (.aload_n 0, 1) := by decide +kernel
theorem dX4_begin_37 : decode cX4_begin 37 = .ok (.invokevirtual 42, 3) := by decide +kernel
theorem dX4_begin_40 : decode cX4_begin 40 = .ok (.istore 4, 2) := by decide +kernel
theorem dX4_begin_42 : decode cX4_begin 42 = .ok (.aload_n 0, 1) := by decide +kernel
theorem dX4_begin_43 : decode cX4_begin 43 = .ok (.iload_n 1, 1) := by decide +kernel
theorem dX4_begin_44 : decode cX4_begin 44 = .ok (.iload_n 2, 1) := by decide +kernel
theorem dX4_begin_45 : decode cX4_begin 45 = .ok (.iload_n 3, 1) := by decide +kernel
theorem dX4_begin_46 : decode cX4_begin 46 = .ok (.invokevirtual 22, 3) := by decide +kernel
theorem dX4_begin_49 : decode cX4_begin 49 = .ok (.iload 4, 2) := by decide +kernel
theorem dX4_begin_51 : decode cX4_begin 51 = .ok (.ireturn, 1) := by decide +kernel
theorem dX4_count_0 : decode cX4_count 0 = .ok (.iload_n 1, 1) := by decide +kernel
theorem dX4_count_1 : decode cX4_count 1 = .ok (.iconst 0, 1) := by decide +kernel
theorem dX4_count_2 : decode cX4_count 2 = .ok (.bipush 8, 2) := by decide +kernel
theorem dX4_count_4 : decode cX4_count 4 = .ok (.invokestatic 34, 3) := by decide +kernel
theorem dX4_count_7 : decode cX4_count 7 = .ok (.ifCond .ne 6, 3) := by decide +kernel
theorem dX4_count_10 : decode cX4_count 10 = .ok (.bipush (-3), 2) := by decide +kernel
theorem dX4_count_12 : decode cX4_count 12 = .ok (.ireturn, 1) := by decide +kernel
theorem dX4_count_13 : decode cX4_count 13 = .ok (.iload_n 1, 1) := by decide +kernel
theorem dX4_count_14 : decode cX4_count 14 = .ok (.iconst 3, 1) := by decide +kernel
theorem dX4_count_15 : decode cX4_count 15 = .ok (.if_icmp .ge 10, 3) := by decide +kernel
theorem dX4_count_18 : decode cX4_count 18 = .ok (.aload_n 0, 1) := by decide +kernel
theorem dX4_count_19 : decode cX4_count 19 = .ok (.getfield 7, 3) := by decide +kernel
theorem dX4_count_22 : decode cX4_count 22 = .ok (.iload_n 1, 1) := by decide +kernel
theorem dX4_count_23 : decode cX4_count 23 = .ok (.iaload, 1) := by decide +kernel
theorem dX4_count_24 : decode cX4_count 24 = .ok (.ireturn, 1) := by decide +kernel
theorem dX4_count_25 : decode cX4_count 25 = .ok (.iconst 0, 1) := by decide +kernel
theorem dX4_count_26 : decode cX4_count 26 = .ok (.istore_n 2, 1) := by decide +kernel
theorem dX4_count_27 : decode cX4_count 27 = .ok (.iconst 0, 1) := by decide +kernel
theorem dX4_count_28 : decode cX4_count 28 = .ok (.istore_n 3, 1) := by decide +kernel
theorem dX4_count_29 : decode cX4_count 29 = .ok (.iload_n 3, 1) := by decide +kernel
theorem dX4_count_30 : decode cX4_count 30 = .ok (.aload_n 0, 1) := by decide +kernel
theorem dX4_count_31 : decode cX4_count 31 = .ok (.invokevirtual 38, 3) := by decide +kernel
theorem dX4_count_34 : decode cX4_count 34 = .ok (.if_icmp .ge 74, 3) := by decide +kernel
theorem dX4_count_37 : decode cX4_count 37 = .ok (.iload_n 2, 1) := by decide +kernel
theorem dX4_count_38 : decode cX4_count 38 = .ok (.iload_n 1, 1) := by decide +kernel
theorem dX4_count_39 : decode cX4_count 39 = .ok (.iconst 5, 1) := by decide +kernel
theorem dX4_count_40 : decode cX4_count 40 = .ok (.if_icmp .ne 24, 3) := by decide +kernel
theorem dX4_count_43 : decode cX4_count 43 = .ok (.iload_n 3, 1) := by decide +kernel
theorem dX4_count_44 : decode cX4_count 44 = .ok (.bipush 8, 2) := by decide +kernel
theorem dX4_count_46 : decode cX4_count 46 = .ok (.if_icmp .lt 18, 3) := by decide +kernel
theorem dX4_count_49 : decode cX4_count 49 = .ok (.aload_n 0, 1) := by decide +kernel
theorem dX4_count_50 : decode cX4_count 50 = .ok (.getfield 7, 3) := by decide +kernel
theorem dX4_count_53 : decode cX4_count 53 = .ok (.bipush 67, 2) := by decide +kernel
theorem dX4_count_55 : decode cX4_count 55 = .ok (.iload_n 3, 1) := by decide +kernel
theorem dX4_count_56 : decode cX4_count 56 = .ok (.iadd, 1) := by decide +kernel
theorem dX4_count_57 : decode cX4_count 57 = .ok (.bipush 8, 2) := by decide +kernel
theorem dX4_count_59 : decode cX4_count 59 = .ok (.isub, 1) := by decide +kernel
theorem dX4_count_60 : decode cX4_count 60 = .ok (.iaload, 1) := by decide +kernel
theorem dX4_count_61 : decode cX4_count 61 = .ok (.goto 39, 3) := by decide +kernel
theorem dX4_count_64 : decode cX4_count 64 = .ok (.iload_n 1, 1) := by decide +kernel
theorem dX4_count_65 : decode cX4_count 65 = .ok (.bipush 6, 2) := by decide +kernel
theorem dX4_count_67 : decode cX4_count 67 = .ok (.if_icmp .ne 18, 3) := by decide +kernel
theorem dX4_count_70 : decode cX4_count 70 = .ok (.aload_n 0, 1) := by decide +kernel
theorem dX4_count_71 : decode cX4_count 71 = .ok (.getfield 7, 3) := by decide +kernel
theorem dX4_count_74 : decode cX4_count 74 = .ok (.bipush 100, 2) := by decide +kernel
theorem dX4_count_76 : decode cX4_count 76 = .ok (.iload_n 3, 1) := by decide +kernel
theorem dX4_count_77 : decode cX4_count 77 = .ok (.iadd, 1) := by decide +kernel
theorem dX4_count_78 : decode cX4_count 78 = .ok (.iaload, 1) := by decide +kernel
theorem dX4_count_79 : decode cX4_count 79 = .ok (.invokestatic 45, 3) := by decide +kernel
theorem dX4_count_82 : decode cX4_count 82 = .ok (.goto 18, 3) := by decide +kernel
theorem dX4_count_85 : decode cX4_count 85 = .ok (.iload_n 1, 1) := by decide +kernel
theorem dX4_count_86 : decode cX4_count 86 = .ok (.bipush 8, 2) := by decide +kernel
theorem dX4_count_88 : decode cX4_count 88 = .ok (.if_icmp .ne 11, 3) := by decide +kernel
theorem dX4_count_91 : decode cX4_count 91 = .ok (.aload_n 0, 1) := by decide +kernel
theorem dX4_count_92 : decode cX4_count 92 = .ok (.iload_n 3, 1) := by decide +kernel
theorem dX4_count_93 : decode cX4_count 93 = .ok (.invokevirtual 65, 3) := by decide +kernel
theorem dX4_count_96 : decode cX4_count 96 = .ok (.goto 4, 3) := by decide +kernel
theorem dX4_count_99 : decode cX4_count 99 = .ok (.iconst 0, 1) := by decide +kernel
theorem dX4_count_100 : decode cX4_count 100 = .ok (.iadd, 1) := by decide +kernel
theorem dX4_count_101 : decode cX4_count 101 = .ok (.istore_n 2, 1) := by decide +kernel
theorem dX4_count_102 : decode cX4_count 102 = .ok (.iinc 3 1, 3) := by decide +kernel
theorem dX4_count_105 : decode cX4_count 105 = .ok (.goto (-76), 3) := by decide +kernel
theorem dX4_count_108 : decode cX4_count 108 = .ok (.iload_n 1, 1) := by decide +kernel
theorem dX4_count_109 : decode cX4_count 109 = .ok (.iconst 3, 1) := by decide +kernel
theorem dX4_count_110 : decode cX4_count 110 = .ok (.if_icmp .ne 10, 3) := by decide +kernel
theorem dX4_count_113 : decode cX4_count 113 = .ok (.aload_n 0, 1) := by decide +kernel
theorem dX4_count_114 : decode cX4_count 114 = .ok (.invokevirtual 42, 3) := by decide +kernel
theorem dX4_count_117 : decode cX4_count 117 = .ok (.goto 29, 3) := by decide +kernel
theorem dX4_count_120 : decode cX4_count 120 = .ok (.iload_n 1, 1) := by decide +kernel
theorem dX4_count_121 : decode cX4_count 121 = .ok (.iconst 4, 1) := by decide +kernel
theorem dX4_count_122 : decode cX4_count 122 = .ok (.if_icmp .ne 10, 3) := by decide +kernel
theorem dX4_count_125 : decode cX4_count 125 = .ok (.aload_n 0, 1) := by decide +kernel
theorem dX4_count_126 : decode cX4_count 126 = .ok (.invokevirtual 38, 3) := by decide +kernel
theorem dX4_count_129 : decode cX4_count 129 = .ok (.goto 17, 3) := by decide +kernel
theorem dX4_count_132 : decode cX4_count 132 = .ok (.iload_n 1, 1) := by decide +kernel
theorem dX4_count_133 : decode cX4_count 133 = .ok (.bipush 7, 2) := by decide +kernel
theorem dX4_count_135 : decode cX4_count 135 = .ok (.if_icmp .ne 10, 3) := by decide +kernel
theorem dX4_count_138 : decode cX4_count 138 = .ok (.aload_n 0, 1) := by decide +kernel
theorem dX4_count_139 : decode cX4_count 139 = .ok (.invokevirtual 68, 3) := by decide +kernel
theorem dX4_count_142 : decode cX4_count 142 = .ok (.goto 4, 3) := by decide +kernel
theorem dX4_count_145 : decode cX4_count 145 = .ok (.iload_n 2, 1) := by decide +kernel
theorem dX4_count_146 : decode cX4_count 146 = .ok (.ireturn, 1) := by decide +kernel
theorem dX4_setCode_0 : decode cX4_setCode 0 = .ok (.aload_n 0, 1) := by decide +kernel
theorem dX4_setCode_1 : decode cX4_setCode 1 = .ok (.iload_n 1, 1) := by decide +kernel
theorem dX4_setCode_2 : decode cX4_setCode 2 = .ok (.invokevirtual 71, 3) := by decide +kernel
theorem dX4_setCode_5 : decode cX4_setCode 5 = .ok (.ifCond .ne 6, 3) := by decide +kernel
theorem dX4_setCode_8 : decode cX4_setCode 8 = .ok (.bipush (-2), 2) := by decide +kernel
theorem dX4_setCode_10 : decode cX4_setCode 10 = .ok (.ireturn, 1) := by decide +kernel
theorem dX4_setCode_11 : decode cX4_setCode 11 = .ok (.iload_n 2, 1) := by decide +kernel
theorem dX4_setCode_12 : decode cX4_setCode 12 = .ok (.iconst 0, 1) := by decide +kernel
theorem dX4_setCode_13 : decode cX4_setCode 13 = .ok (.bipush 15, 2) := by decide +kernel
theorem dX4_setCode_15 : decode cX4_setCode 15 = .ok (.invokestatic 34, 3) := by decide +kernel
theorem dX4_setCode_18 : decode cX4_setCode 18 = .ok (.ifCond .ne 6, 3) := by decide +kernel
theorem dX4_setCode_21 : decode cX4_setCode 21 = .ok (.bipush (-3), 2) := by decide +kernel
theorem dX4_setCode_23 : decode cX4_setCode 23 = .ok (.ireturn, 1) := by decide +kernel
theorem dX4_setCode_24 : decode cX4_setCode 24 = .ok (.iconst 0, 1) := by decide +kernel
theorem dX4_setCode_25 : decode cX4_setCode 25 = .ok (.istore_n 3, 1) := by decide +kernel
theorem dX4_setCode_26 : decode cX4_setCode 26 = .ok (.iload_n 3, 1) := by decide +kernel
theorem dX4_setCode_27 : decode cX4_setCode 27 = .ok (.aload_n 0, 1) := by decide +kernel
theorem dX4_setCode_28 : decode cX4_setCode 28 = .ok (.getfield 7, 3) := by decide +kernel
theorem dX4_setCode_31 : decode cX4_setCode 31 = .ok (.iconst 0, 1) := by decide +kernel
theorem dX4_setCode_32 : decode cX4_setCode 32 = .ok (.iaload, 1) := by decide +kernel
theorem dX4_setCode_33 : decode cX4_setCode 33 = .ok (.if_icmp .ge 29, 3) := by decide +kernel
theorem dX4_setCode_36 : decode cX4_setCode 36 = .ok (.iload_n 3, 1) := by decide +kernel
theorem dX4_setCode_37 : decode cX4_setCode 37 = .ok (.iload_n 1, 1) := by decide +kernel
theorem dX4_setCode_38 : decode cX4_setCode 38 = .ok (.if_icmp .eq 18, 3) := by decide +kernel
theorem dX4_setCode_41 : decode cX4_setCode 41 = .ok (.aload_n 0, 1) := by decide +kernel
theorem dX4_setCode_42 : decode cX4_setCode 42 = .ok (.getfield 7, 3) := by decide +kernel
theorem dX4_setCode_45 : decode cX4_setCode 45 = .ok (.iconst 3, 1) := by decide +kernel
theorem dX4_setCode_46 : decode cX4_setCode 46 = .ok (.iload_n 3, 1) := by decide +kernel
theorem dX4_setCode_47 : decode cX4_setCode 47 = .ok (.iadd, 1) := by decide +kernel
theorem dX4_setCode_48 : decode cX4_setCode 48 = .ok (.iaload, 1) := by decide +kernel
theorem dX4_setCode_49 : decode cX4_setCode 49 = .ok (.iload_n 2, 1) := by decide +kernel
theorem dX4_setCode_50 : decode cX4_setCode 50 = .ok (.if_icmp .ne 6, 3) := by decide +kernel
theorem dX4_setCode_53 : decode cX4_setCode 53 = .ok (.bipush (-4), 2) := by decide +kernel
theorem dX4_setCode_55 : decode cX4_setCode 55 = .ok (.ireturn, 1) := by decide +kernel
theorem dX4_setCode_56 : decode cX4_setCode 56 = .ok (.iinc 3 1, 3) := by decide +kernel
theorem dX4_setCode_59 : decode cX4_setCode 59 = .ok (.goto (-33), 3) := by decide +kernel
theorem dX4_setCode_62 : decode cX4_setCode 62 = .ok (.aload_n 0, 1) := by decide +kernel
theorem dX4_setCode_63 : decode cX4_setCode 63 = .ok (.invokevirtual 62, 3) := by decide +kernel
theorem dX4_setCode_66 : decode cX4_setCode 66 = .ok (.aload_n 0, 1) := by decide +kernel
theorem dX4_setCode_67 : decode cX4_setCode 67 = .ok (.getfield 7, 3) := by decide +kernel
theorem dX4_setCode_70 : decode cX4_setCode 70 = .ok (.iconst 3, 1) := by decide +kernel
theorem dX4_setCode_71 : decode cX4_setCode 71 = .ok (.iload_n 1, 1) := by decide +kernel
theorem dX4_setCode_72 : decode cX4_setCode 72 = .ok (.iadd, 1) := by decide +kernel
theorem dX4_setCode_73 : decode cX4_setCode 73 = .ok (.iaload, 1) := by decide +kernel
theorem dX4_setCode_74 : decode cX4_setCode 74 = .ok (.istore_n 3, 1) := by decide +kernel
theorem dX4_setCode_75 : decode cX4_setCode 75 = .ok (.aload_n 0, 1) := by decide +kernel
theorem dX4_setCode_76 : decode cX4_setCode 76 = .ok (.getfield 7, 3) := by decide +kernel
theorem dX4_setCode_79 : decode cX4_setCode 79 = .ok (.iconst 3, 1) := by decide +kernel
theorem dX4_setCode_80 : decode cX4_setCode 80 = .ok (.iload_n 1, 1) := by decide +kernel
theorem dX4_setCode_81 : decode cX4_setCode 81 = .ok (.iadd, 1) := by decide +kernel
theorem dX4_setCode_82 : decode cX4_setCode 82 = .ok (.iload_n 2, 1) := by decide +kernel
theorem dX4_setCode_83 : decode cX4_setCode 83 = .ok (.iastore, 1) := by decide +kernel
theorem dX4_setCode_84 : decode cX4_setCode 84 = .ok (.iload_n 3, 1) := by decide +kernel
theorem dX4_setCode_85 : decode cX4_setCode 85 = .ok (.ireturn, 1) := by decide +kernel
theorem dX4_code_0 : decode cX4_code 0 = .ok (.aload_n 0, 1) := by decide +kernel
theorem dX4_code_1 : decode cX4_code 1 = .ok (.iload_n 1, 1) := by decide +kernel
theorem dX4_code_2 : decode cX4_code 2 = .ok (.invokevirtual 71, 3) := by decide +kernel
theorem dX4_code_5 : decode cX4_code 5 = .ok (.ifCond .eq 14, 3) := by decide +kernel
theorem dX4_code_8 : decode cX4_code 8 = .ok (.aload_n 0, 1) := by decide +kernel
theorem dX4_code_9 : decode cX4_code 9 = .ok (.getfield 7, 3) := by decide +kernel
theorem dX4_code_12 : decode cX4_code 12 = .ok (.iconst 3, 1) := by decide +kernel
theorem dX4_code_13 : decode cX4_code 13 = .ok (.iload_n 1, 1) := by decide +kernel
theorem dX4_code_14 : decode cX4_code 14 = .ok (.iadd, 1) := by decide +kernel
theorem dX4_code_15 : decode cX4_code 15 = .ok (.iaload, 1) := by decide +kernel
theorem dX4_code_16 : decode cX4_code 16 = .ok (.goto 5, 3) := by decide +kernel
theorem dX4_code_19 : decode cX4_code 19 = .ok (.bipush (-2), 2) := by decide +kernel
theorem dX4_code_21 : decode cX4_code 21 = .ok (.ireturn, 1) := by decide +kernel
theorem dX4_weave_0 : decode cX4_weave 0 = .ok (.aload_n 0, 1) := by decide +kernel
theorem dX4_weave_1 : decode cX4_weave 1 = .ok (.iload_n 1, 1) := by decide +kernel
theorem dX4_weave_2 : decode cX4_weave 2 = .ok (.invokevirtual 75, 3) := by decide +kernel
theorem dX4_weave_5 : decode cX4_weave 5 = .ok (.ifCond .ne 6, 3) := by decide +kernel
theorem dX4_weave_8 : decode cX4_weave 8 = .ok (.bipush (-2), 2) := by decide +kernel
theorem dX4_weave_10 : decode cX4_weave 10 = .ok (.ireturn, 1) := by decide +kernel
theorem dX4_weave_11 : decode cX4_weave 11 = .ok (.aload_n 0, 1) := by decide +kernel
theorem dX4_weave_12 : decode cX4_weave 12 = .ok (.iload_n 2, 1) := by decide +kernel
theorem dX4_weave_13 : decode cX4_weave 13 = .ok (.invokevirtual 78, 3) := by decide +kernel
theorem dX4_weave_16 : decode cX4_weave 16 = .ok (.ifCond .ne 6, 3) := by decide +kernel
theorem dX4_weave_19 : decode cX4_weave 19 = .ok (.bipush (-3), 2) := by decide +kernel
theorem dX4_weave_21 : decode cX4_weave 21 = .ok (.ireturn, 1) := by decide +kernel
theorem dX4_weave_22 : decode cX4_weave 22 = .ok (.aload_n 0, 1) := by decide +kernel
theorem dX4_weave_23 : decode cX4_weave 23 = .ok (.invokevirtual 62, 3) := by decide +kernel
theorem dX4_weave_26 : decode cX4_weave 26 = .ok (.aload_n 0, 1) := by decide +kernel
theorem dX4_weave_27 : decode cX4_weave 27 = .ok (.getfield 7, 3) := by decide +kernel
theorem dX4_weave_30 : decode cX4_weave 30 = .ok (.bipush 19, 2) := by decide +kernel
theorem dX4_weave_32 : decode cX4_weave 32 = .ok (.iload_n 1, 1) := by decide +kernel
theorem dX4_weave_33 : decode cX4_weave 33 = .ok (.iadd, 1) := by decide +kernel
theorem dX4_weave_34 : decode cX4_weave 34 = .ok (.iaload, 1) := by decide +kernel
theorem dX4_weave_35 : decode cX4_weave 35 = .ok (.istore_n 3, 1) := by decide +kernel
theorem dX4_weave_36 : decode cX4_weave 36 = .ok (.aload_n 0, 1) := by decide +kernel
theorem dX4_weave_37 : decode cX4_weave 37 = .ok (.getfield 7, 3) := by decide +kernel
theorem dX4_weave_40 : decode cX4_weave 40 = .ok (.bipush 19, 2) := by decide +kernel
theorem dX4_weave_42 : decode cX4_weave 42 = .ok (.iload_n 1, 1) := by decide +kernel
theorem dX4_weave_43 : decode cX4_weave 43 = .ok (.iadd, 1) := by decide +kernel
theorem dX4_weave_44 : decode cX4_weave 44 = .ok (.iload_n 2, 1) := by decide +kernel
theorem dX4_weave_45 : decode cX4_weave 45 = .ok (.iastore, 1) := by decide +kernel
theorem dX4_weave_46 : decode cX4_weave 46 = .ok (.iload_n 3, 1) := by decide +kernel
theorem dX4_weave_47 : decode cX4_weave 47 = .ok (.ireturn, 1) := by decide +kernel
theorem dX4_word_0 : decode cX4_word 0 = .ok (.aload_n 0, 1) := by decide +kernel
theorem dX4_word_1 : decode cX4_word 1 = .ok (.iload_n 1, 1) := by decide +kernel
theorem dX4_word_2 : decode cX4_word 2 = .ok (.invokevirtual 75, 3) := by decide +kernel
theorem dX4_word_5 : decode cX4_word 5 = .ok (.ifCond .eq 15, 3) := by decide +kernel
theorem dX4_word_8 : decode cX4_word 8 = .ok (.aload_n 0, 1) := by decide +kernel
theorem dX4_word_9 : decode cX4_word 9 = .ok (.getfield 7, 3) := by decide +kernel
theorem dX4_word_12 : decode cX4_word 12 = .ok (.bipush 19, 2) := by decide +kernel
theorem dX4_word_14 : decode cX4_word 14 = .ok (.iload_n 1, 1) := by decide +kernel
theorem dX4_word_15 : decode cX4_word 15 = .ok (.iadd, 1) := by decide +kernel
theorem dX4_word_16 : decode cX4_word 16 = .ok (.iaload, 1) := by decide +kernel
theorem dX4_word_17 : decode cX4_word 17 = .ok (.goto 5, 3) := by decide +kernel
theorem dX4_word_20 : decode cX4_word 20 = .ok (.bipush (-2), 2) := by decide +kernel
theorem dX4_word_22 : decode cX4_word 22 = .ok (.ireturn, 1) := by decide +kernel
theorem dX4_cross_0 : decode cX4_cross 0 = .ok (.aload_n 0, 1) := by decide +kernel
theorem dX4_cross_1 : decode cX4_cross 1 = .ok (.iload_n 1, 1) := by decide +kernel
theorem dX4_cross_2 : decode cX4_cross 2 = .ok (.invokevirtual 81, 3) := by decide +kernel
theorem dX4_cross_5 : decode cX4_cross 5 = .ok (.ifCond .ne 6, 3) := by decide +kernel
theorem dX4_cross_8 : decode cX4_cross 8 = .ok (.bipush (-2), 2) := by decide +kernel
theorem dX4_cross_10 : decode cX4_cross 10 = .ok (.ireturn, 1) := by decide +kernel
theorem dX4_cross_11 : decode cX4_cross 11 = .ok (.iload_n 1, 1) := by decide +kernel
theorem dX4_cross_12 : decode cX4_cross 12 = .ok (.bipush 8, 2) := by decide +kernel
theorem dX4_cross_14 : decode cX4_cross 14 = .ok (.if_icmp .ge 6, 3) := by decide +kernel
theorem dX4_cross_17 : decode cX4_cross 17 = .ok (.bipush (-4), 2) := by decide +kernel
theorem dX4_cross_19 : decode cX4_cross 19 = .ok (.ireturn, 1) := by decide +kernel
theorem dX4_cross_20 : decode cX4_cross 20 = .ok (.aload_n 0, 1) := by decide +kernel
theorem dX4_cross_21 : decode cX4_cross 21 = .ok (.invokevirtual 62, 3) := by decide +kernel
theorem dX4_cross_24 : decode cX4_cross 24 = .ok (.bipush 67, 2) := by decide +kernel
theorem dX4_cross_26 : decode cX4_cross 26 = .ok (.iload_n 1, 1) := by decide +kernel
theorem dX4_cross_27 : decode cX4_cross 27 = .ok (.iadd, 1) := by decide +kernel
theorem dX4_cross_28 : decode cX4_cross 28 = .ok (.bipush 8, 2) := by decide +kernel
theorem dX4_cross_30 : decode cX4_cross 30 = .ok (.isub, 1) := by decide +kernel
theorem dX4_cross_31 : decode cX4_cross 31 = .ok (.istore_n 2, 1) := by decide +kernel
theorem dX4_cross_32 : decode cX4_cross 32 = .ok (.aload_n 0, 1) := by decide +kernel
theorem dX4_cross_33 : decode cX4_cross 33 = .ok (.getfield 7, 3) := by decide +kernel
theorem dX4_cross_36 : decode cX4_cross 36 = .ok (.iload_n 2, 1) := by decide +kernel
theorem dX4_cross_37 : decode cX4_cross 37 = .ok (.iconst 1, 1) := by decide +kernel
theorem dX4_cross_38 : decode cX4_cross 38 = .ok (.aload_n 0, 1) := by decide +kernel
theorem dX4_cross_39 : decode cX4_cross 39 = .ok (.getfield 7, 3) := by decide +kernel
theorem dX4_cross_42 : decode cX4_cross 42 = .ok (.iload_n 2, 1) := by decide +kernel
theorem dX4_cross_43 : decode cX4_cross 43 = .ok (.iaload, 1) := by decide +kernel
theorem dX4_cross_44 : decode cX4_cross 44 = .ok (.isub, 1) := by decide +kernel
theorem dX4_cross_45 : decode cX4_cross 45 = .ok (.iastore, 1) := by decide +kernel
theorem dX4_cross_46 : decode cX4_cross 46 = .ok (.aload_n 0, 1) := by decide +kernel
theorem dX4_cross_47 : decode cX4_cross 47 = .ok (.getfield 7, 3) := by decide +kernel
theorem dX4_cross_50 : decode cX4_cross 50 = .ok (.iload_n 2, 1) := by decide +kernel
theorem dX4_cross_51 : decode cX4_cross 51 = .ok (.iaload, 1) := by decide +kernel
theorem dX4_cross_52 : decode cX4_cross 52 = .ok (.ireturn, 1) := by decide +kernel
theorem dX4_through_0 : decode cX4_through 0 = .ok (.aload_n 0, 1) := by decide +kernel
theorem dX4_through_1 : decode cX4_through 1 = .ok (.iload_n 1, 1) := by decide +kernel
theorem dX4_through_2 : decode cX4_through 2 = .ok (.invokevirtual 81, 3) := by decide +kernel
theorem dX4_through_5 : decode cX4_through 5 = .ok (.ifCond .eq 33, 3) := by decide +kernel
theorem dX4_through_8 : decode cX4_through 8 = .ok (.aload_n 0, 1) := by decide +kernel
theorem dX4_through_9 : decode cX4_through 9 = .ok (.iload_n 2, 1) := by decide +kernel
theorem dX4_through_10 : decode cX4_through 10 = .ok (.invokevirtual 71, 3) := by decide +kernel
theorem dX4_through_13 : decode cX4_through 13 = .ok (.ifCond .eq 25, 3) := by decide +kernel
theorem dX4_through_16 : decode cX4_through 16 = .ok (.aload_n 0, 1) := by decide +kernel
theorem dX4_through_17 : decode cX4_through 17 = .ok (.iload_n 1, 1) := by decide +kernel
theorem dX4_through_18 : decode cX4_through 18 = .ok (.invokevirtual 59, 3) := by decide +kernel
theorem dX4_through_21 : decode cX4_through 21 = .ok (.aload_n 0, 1) := by decide +kernel
theorem dX4_through_22 : decode cX4_through 22 = .ok (.getfield 7, 3) := by decide +kernel
theorem dX4_through_25 : decode cX4_through 25 = .ok (.bipush 100, 2) := by decide +kernel
theorem dX4_through_27 : decode cX4_through 27 = .ok (.iload_n 1, 1) := by decide +kernel
theorem dX4_through_28 : decode cX4_through 28 = .ok (.iadd, 1) := by decide +kernel
theorem dX4_through_29 : decode cX4_through 29 = .ok (.iaload, 1) := by decide +kernel
theorem dX4_through_30 : decode cX4_through 30 = .ok (.ixor, 1) := by decide +kernel
theorem dX4_through_31 : decode cX4_through 31 = .ok (.iload_n 2, 1) := by decide +kernel
theorem dX4_through_32 : decode cX4_through 32 = .ok (.ishr, 1) := by decide +kernel
theorem dX4_through_33 : decode cX4_through 33 = .ok (.iconst 1, 1) := by decide +kernel
theorem dX4_through_34 : decode cX4_through 34 = .ok (.iand, 1) := by decide +kernel
end
section
theorem dX4_through_35 : decode cX4_through 35 = .ok (.goto 5, 3) := by decide +kernel
theorem dX4_through_38 : decode cX4_through 38 = .ok (.bipush (-2), 2) := by decide +kernel
theorem dX4_through_40 : decode cX4_through 40 = .ok (.ireturn, 1) := by decide +kernel
theorem dX4_cost_0 : decode cX4_cost 0 = .ok (.aload_n 0, 1) := by decide +kernel
theorem dX4_cost_1 : decode cX4_cost 1 = .ok (.iload_n 1, 1) := by decide +kernel
theorem dX4_cost_2 : decode cX4_cost 2 = .ok (.invokevirtual 81, 3) := by decide +kernel
theorem dX4_cost_5 : decode cX4_cost 5 = .ok (.ifCond .eq 11, 3) := by decide +kernel
theorem dX4_cost_8 : decode cX4_cost 8 = .ok (.aload_n 0, 1) := by decide +kernel
theorem dX4_cost_9 : decode cX4_cost 9 = .ok (.iload_n 1, 1) := by decide +kernel
theorem dX4_cost_10 : decode cX4_cost 10 = .ok (.invokevirtual 65, 3) := by decide +kernel
theorem dX4_cost_13 : decode cX4_cost 13 = .ok (.goto 5, 3) := by decide +kernel
theorem dX4_cost_16 : decode cX4_cost 16 = .ok (.bipush (-2), 2) := by decide +kernel
theorem dX4_cost_18 : decode cX4_cost 18 = .ok (.ireturn, 1) := by decide +kernel
theorem dX4_economize_0 : decode cX4_economize 0 = .ok (.aload_n 0, 1) := by decide +kernel
theorem dX4_economize_1 : decode cX4_economize 1 = .ok (.invokevirtual 62, 3) := by decide +kernel
theorem dX4_economize_4 : decode cX4_economize 4 = .ok (.iconst 0, 1) := by decide +kernel
theorem dX4_economize_5 : decode cX4_economize 5 = .ok (.istore_n 1, 1) := by decide +kernel
theorem dX4_economize_6 : decode cX4_economize 6 = .ok (.bipush 8, 2) := by decide +kernel
theorem dX4_economize_8 : decode cX4_economize 8 = .ok (.istore_n 2, 1) := by decide +kernel
theorem dX4_economize_9 : decode cX4_economize 9 = .ok (.iload_n 2, 1) := by decide +kernel
theorem dX4_economize_10 : decode cX4_economize 10 = .ok (.aload_n 0, 1) := by decide +kernel
theorem dX4_economize_11 : decode cX4_economize 11 = .ok (.invokevirtual 38, 3) := by decide +kernel
theorem dX4_economize_14 : decode cX4_economize 14 = .ok (.if_icmp .ge 82, 3) := by decide +kernel
theorem dX4_economize_17 : decode cX4_economize 17 = .ok (.aload_n 0, 1) := by decide +kernel
theorem dX4_economize_18 : decode cX4_economize 18 = .ok (.iload_n 2, 1) := by decide +kernel
theorem dX4_economize_19 : decode cX4_economize 19 = .ok (.invokevirtual 56, 3) := by decide +kernel
theorem dX4_economize_22 : decode cX4_economize 22 = .ok (.invokestatic 45, 3) := by decide +kernel
theorem dX4_economize_25 : decode cX4_economize 25 = .ok (.istore_n 3, 1) := by decide +kernel
theorem dX4_economize_26 : decode cX4_economize 26 = .ok (.aload_n 0, 1) := by decide +kernel
theorem dX4_economize_27 : decode cX4_economize 27 = .ok (.getfield 7, 3) := by decide +kernel
theorem dX4_economize_30 : decode cX4_economize 30 = .ok (.iconst 0, 1) := by decide +kernel
theorem dX4_economize_31 : decode cX4_economize 31 = .ok (.iaload, 1) := by decide +kernel
theorem dX4_economize_32 : decode cX4_economize 32 = .ok (.iload_n 3, 1) := by decide +kernel
theorem dX4_economize_33 : decode cX4_economize 33 = .ok (.isub, 1) := by decide +kernel
theorem dX4_economize_34 : decode cX4_economize 34 = .ok (.iconst 1, 1) := by decide +kernel
theorem dX4_economize_35 : decode cX4_economize 35 = .ok (.iadd, 1) := by decide +kernel
theorem dX4_economize_36 : decode cX4_economize 36 = .ok (.istore 4, 2) := by decide +kernel
theorem dX4_economize_38 : decode cX4_economize 38 = .ok (.iload 4, 2) := by decide +kernel
theorem dX4_economize_40 : decode cX4_economize 40 = .ok (.iload_n 3, 1) := by decide +kernel
theorem dX4_economize_41 : decode cX4_economize 41 = .ok (.if_icmp .ge 7, 3) := by decide +kernel
theorem dX4_economize_44 : decode cX4_economize 44 = .ok (.iconst 1, 1) := by decide +kernel
theorem dX4_economize_45 : decode cX4_economize 45 = .ok (.goto 4, 3) := by decide +kernel
theorem dX4_economize_48 : decode cX4_economize 48 = .ok (.iconst 0, 1) := by decide +kernel
theorem dX4_economize_49 : decode cX4_economize 49 = .ok (.istore 5, 2) := by decide +kernel
theorem dX4_economize_51 : decode cX4_economize 51 = .ok (.iload_n 1, 1) := by decide +kernel
theorem dX4_economize_52 : decode cX4_economize 52 = .ok (.aload_n 0, 1) := by decide +kernel
theorem dX4_economize_53 : decode cX4_economize 53 = .ok (.getfield 7, 3) := by decide +kernel
theorem dX4_economize_56 : decode cX4_economize 56 = .ok (.bipush 67, 2) := by decide +kernel
theorem dX4_economize_58 : decode cX4_economize 58 = .ok (.iload_n 2, 1) := by decide +kernel
theorem dX4_economize_59 : decode cX4_economize 59 = .ok (.iadd, 1) := by decide +kernel
theorem dX4_economize_60 : decode cX4_economize 60 = .ok (.bipush 8, 2) := by decide +kernel
theorem dX4_economize_62 : decode cX4_economize 62 = .ok (.isub, 1) := by decide +kernel
theorem dX4_economize_63 : decode cX4_economize 63 = .ok (.iaload, 1) := by decide +kernel
theorem dX4_economize_64 : decode cX4_economize 64 = .ok (.iload 5, 2) := by decide +kernel
theorem dX4_economize_66 : decode cX4_economize 66 = .ok (.if_icmp .ne 7, 3) := by decide +kernel
theorem dX4_economize_69 : decode cX4_economize 69 = .ok (.iconst 0, 1) := by decide +kernel
theorem dX4_economize_70 : decode cX4_economize 70 = .ok (.goto 4, 3) := by decide +kernel
theorem dX4_economize_73 : decode cX4_economize 73 = .ok (.iconst 1, 1) := by decide +kernel
theorem dX4_economize_74 : decode cX4_economize 74 = .ok (.iadd, 1) := by decide +kernel
theorem dX4_economize_75 : decode cX4_economize 75 = .ok (.istore_n 1, 1) := by decide +kernel
theorem dX4_economize_76 : decode cX4_economize 76 = .ok (.aload_n 0, 1) := by decide +kernel
theorem dX4_economize_77 : decode cX4_economize 77 = .ok (.getfield 7, 3) := by decide +kernel
theorem dX4_economize_80 : decode cX4_economize 80 = .ok (.bipush 67, 2) := by decide +kernel
theorem dX4_economize_82 : decode cX4_economize 82 = .ok (.iload_n 2, 1) := by decide +kernel
theorem dX4_economize_83 : decode cX4_economize 83 = .ok (.iadd, 1) := by decide +kernel
theorem dX4_economize_84 : decode cX4_economize 84 = .ok (.bipush 8, 2) := by decide +kernel
theorem dX4_economize_86 : decode cX4_economize 86 = .ok (.isub, 1) := by decide +kernel
theorem dX4_economize_87 : decode cX4_economize 87 = .ok (.iload 5, 2) := by decide +kernel
theorem dX4_economize_89 : decode cX4_economize 89 = .ok (.iastore, 1) := by decide +kernel
theorem dX4_economize_90 : decode cX4_economize 90 = .ok (.iinc 2 1, 3) := by decide +kernel
theorem dX4_economize_93 : decode cX4_economize 93 = .ok (.goto (-84), 3) := by decide +kernel
theorem dX4_economize_96 : decode cX4_economize 96 = .ok (.iload_n 1, 1) := by decide +kernel
theorem dX4_economize_97 : decode cX4_economize 97 = .ok (.ireturn, 1) := by decide +kernel
theorem dX4_weaves_0 : decode cX4_weaves 0 = .ok (.iconst 0, 1) := by decide +kernel
theorem dX4_weaves_1 : decode cX4_weaves 1 = .ok (.istore_n 1, 1) := by decide +kernel
theorem dX4_weaves_2 : decode cX4_weaves 2 = .ok (.iload_n 1, 1) := by decide +kernel
theorem dX4_weaves_3 : decode cX4_weaves 3 = .ok (.aload_n 0, 1) := by decide +kernel
theorem dX4_weaves_4 : decode cX4_weaves 4 = .ok (.invokevirtual 38, 3) := by decide +kernel
theorem dX4_weaves_7 : decode cX4_weaves 7 = .ok (.if_icmp .ge 30, 3) := by decide +kernel
theorem dX4_weaves_10 : decode cX4_weaves 10 = .ok (.aload_n 0, 1) := by decide +kernel
theorem dX4_weaves_11 : decode cX4_weaves 11 = .ok (.getfield 13, 3) := by decide +kernel
theorem dX4_weaves_14 : decode cX4_weaves 14 = .ok (.iload_n 1, 1) := by decide +kernel
theorem dX4_weaves_15 : decode cX4_weaves 15 = .ok (.aload_n 0, 1) := by decide +kernel
theorem dX4_weaves_16 : decode cX4_weaves 16 = .ok (.iload_n 1, 1) := by decide +kernel
theorem dX4_weaves_17 : decode cX4_weaves 17 = .ok (.invokevirtual 59, 3) := by decide +kernel
theorem dX4_weaves_20 : decode cX4_weaves 20 = .ok (.aload_n 0, 1) := by decide +kernel
theorem dX4_weaves_21 : decode cX4_weaves 21 = .ok (.getfield 7, 3) := by decide +kernel
theorem dX4_weaves_24 : decode cX4_weaves 24 = .ok (.bipush 100, 2) := by decide +kernel
theorem dX4_weaves_26 : decode cX4_weaves 26 = .ok (.iload_n 1, 1) := by decide +kernel
theorem dX4_weaves_27 : decode cX4_weaves 27 = .ok (.iadd, 1) := by decide +kernel
theorem dX4_weaves_28 : decode cX4_weaves 28 = .ok (.iaload, 1) := by decide +kernel
theorem dX4_weaves_29 : decode cX4_weaves 29 = .ok (.ixor, 1) := by decide +kernel
theorem dX4_weaves_30 : decode cX4_weaves 30 = .ok (.iastore, 1) := by decide +kernel
theorem dX4_weaves_31 : decode cX4_weaves 31 = .ok (.iinc 1 1, 3) := by decide +kernel
theorem dX4_weaves_34 : decode cX4_weaves 34 = .ok (.goto (-32), 3) := by decide +kernel
theorem dX4_weaves_37 : decode cX4_weaves 37 = .ok (.return_, 1) := by decide +kernel
theorem dX4_picks_0 : decode cX4_picks 0 = .ok (.aload_n 0, 1) := by decide +kernel
theorem dX4_picks_1 : decode cX4_picks 1 = .ok (.invokevirtual 53, 3) := by decide +kernel
theorem dX4_picks_4 : decode cX4_picks 4 = .ok (.istore_n 2, 1) := by decide +kernel
theorem dX4_picks_5 : decode cX4_picks 5 = .ok (.iconst 0, 1) := by decide +kernel
theorem dX4_picks_6 : decode cX4_picks 6 = .ok (.istore_n 3, 1) := by decide +kernel
theorem dX4_picks_7 : decode cX4_picks 7 = .ok (.iload_n 3, 1) := by decide +kernel
theorem dX4_picks_8 : decode cX4_picks 8 = .ok (.iconst 4, 1) := by decide +kernel
theorem dX4_picks_9 : decode cX4_picks 9 = .ok (.if_icmp .ge 30, 3) := by decide +kernel
theorem dX4_picks_12 : decode cX4_picks 12 = .ok (.iload_n 2, 1) := by decide +kernel
theorem dX4_picks_13 : decode cX4_picks 13 = .ok (.aload_n 0, 1) := by decide +kernel
theorem dX4_picks_14 : decode cX4_picks 14 = .ok (.getfield 13, 3) := by decide +kernel
theorem dX4_picks_17 : decode cX4_picks 17 = .ok (.iconst 2, 1) := by decide +kernel
theorem dX4_picks_18 : decode cX4_picks 18 = .ok (.iload_n 3, 1) := by decide +kernel
theorem dX4_picks_19 : decode cX4_picks 19 = .ok (.imul, 1) := by decide +kernel
theorem dX4_picks_20 : decode cX4_picks 20 = .ok (.iconst 1, 1) := by decide +kernel
theorem dX4_picks_21 : decode cX4_picks 21 = .ok (.iadd, 1) := by decide +kernel
theorem dX4_picks_22 : decode cX4_picks 22 = .ok (.iload_n 1, 1) := by decide +kernel
theorem dX4_picks_23 : decode cX4_picks 23 = .ok (.iload_n 3, 1) := by decide +kernel
theorem dX4_picks_24 : decode cX4_picks 24 = .ok (.ishr, 1) := by decide +kernel
theorem dX4_picks_25 : decode cX4_picks 25 = .ok (.iconst 1, 1) := by decide +kernel
theorem dX4_picks_26 : decode cX4_picks 26 = .ok (.iand, 1) := by decide +kernel
theorem dX4_picks_27 : decode cX4_picks 27 = .ok (.isub, 1) := by decide +kernel
theorem dX4_picks_28 : decode cX4_picks 28 = .ok (.iaload, 1) := by decide +kernel
theorem dX4_picks_29 : decode cX4_picks 29 = .ok (.iconst (-1), 1) := by decide +kernel
theorem dX4_picks_30 : decode cX4_picks 30 = .ok (.ixor, 1) := by decide +kernel
theorem dX4_picks_31 : decode cX4_picks 31 = .ok (.iand, 1) := by decide +kernel
theorem dX4_picks_32 : decode cX4_picks 32 = .ok (.istore_n 2, 1) := by decide +kernel
theorem dX4_picks_33 : decode cX4_picks 33 = .ok (.iinc 3 1, 3) := by decide +kernel
theorem dX4_picks_36 : decode cX4_picks 36 = .ok (.goto (-29), 3) := by decide +kernel
theorem dX4_picks_39 : decode cX4_picks 39 = .ok (.iload_n 2, 1) := by decide +kernel
theorem dX4_picks_40 : decode cX4_picks 40 = .ok (.ireturn, 1) := by decide +kernel
theorem dX4_picked_0 : decode cX4_picked 0 = .ok (.iload_n 1, 1) := by decide +kernel
theorem dX4_picked_1 : decode cX4_picked 1 = .ok (.iconst 0, 1) := by decide +kernel
theorem dX4_picked_2 : decode cX4_picked 2 = .ok (.bipush 15, 2) := by decide +kernel
theorem dX4_picked_4 : decode cX4_picked 4 = .ok (.invokestatic 34, 3) := by decide +kernel
theorem dX4_picked_7 : decode cX4_picked 7 = .ok (.ifCond .ne 6, 3) := by decide +kernel
theorem dX4_picked_10 : decode cX4_picked 10 = .ok (.bipush (-3), 2) := by decide +kernel
theorem dX4_picked_12 : decode cX4_picked 12 = .ok (.ireturn, 1) := by decide +kernel
theorem dX4_picked_13 : decode cX4_picked 13 = .ok (.aload_n 0, 1) := by decide +kernel
theorem dX4_picked_14 : decode cX4_picked 14 = .ok (.invokevirtual 84, 3) := by decide +kernel
theorem dX4_picked_17 : decode cX4_picked 17 = .ok (.aload_n 0, 1) := by decide +kernel
theorem dX4_picked_18 : decode cX4_picked 18 = .ok (.iload_n 1, 1) := by decide +kernel
theorem dX4_picked_19 : decode cX4_picked 19 = .ok (.invokevirtual 87, 3) := by decide +kernel
theorem dX4_picked_22 : decode cX4_picked 22 = .ok (.ireturn, 1) := by decide +kernel
theorem dX4_raw_0 : decode cX4_raw 0 = .ok (.aload_n 0, 1) := by decide +kernel
theorem dX4_raw_1 : decode cX4_raw 1 = .ok (.aload_n 0, 1) := by decide +kernel
theorem dX4_raw_2 : decode cX4_raw 2 = .ok (.getfield 7, 3) := by decide +kernel
theorem dX4_raw_5 : decode cX4_raw 5 = .ok (.iconst 3, 1) := by decide +kernel
theorem dX4_raw_6 : decode cX4_raw 6 = .ok (.iload_n 1, 1) := by decide +kernel
theorem dX4_raw_7 : decode cX4_raw 7 = .ok (.aload_n 0, 1) := by decide +kernel
theorem dX4_raw_8 : decode cX4_raw 8 = .ok (.getfield 7, 3) := by decide +kernel
theorem dX4_raw_11 : decode cX4_raw 11 = .ok (.iconst 2, 1) := by decide +kernel
theorem dX4_raw_12 : decode cX4_raw 12 = .ok (.iaload, 1) := by decide +kernel
theorem dX4_raw_13 : decode cX4_raw 13 = .ok (.idiv, 1) := by decide +kernel
theorem dX4_raw_14 : decode cX4_raw 14 = .ok (.iadd, 1) := by decide +kernel
theorem dX4_raw_15 : decode cX4_raw 15 = .ok (.iaload, 1) := by decide +kernel
theorem dX4_raw_16 : decode cX4_raw 16 = .ok (.invokevirtual 87, 3) := by decide +kernel
theorem dX4_raw_19 : decode cX4_raw 19 = .ok (.istore_n 2, 1) := by decide +kernel
theorem dX4_raw_20 : decode cX4_raw 20 = .ok (.bipush 8, 2) := by decide +kernel
theorem dX4_raw_22 : decode cX4_raw 22 = .ok (.iload_n 1, 1) := by decide +kernel
theorem dX4_raw_23 : decode cX4_raw 23 = .ok (.aload_n 0, 1) := by decide +kernel
theorem dX4_raw_24 : decode cX4_raw 24 = .ok (.getfield 7, 3) := by decide +kernel
theorem dX4_raw_27 : decode cX4_raw 27 = .ok (.iconst 2, 1) := by decide +kernel
theorem dX4_raw_28 : decode cX4_raw 28 = .ok (.iaload, 1) := by decide +kernel
theorem dX4_raw_29 : decode cX4_raw 29 = .ok (.irem, 1) := by decide +kernel
theorem dX4_raw_30 : decode cX4_raw 30 = .ok (.aload_n 0, 1) := by decide +kernel
theorem dX4_raw_31 : decode cX4_raw 31 = .ok (.getfield 7, 3) := by decide +kernel
theorem dX4_raw_34 : decode cX4_raw 34 = .ok (.iconst 1, 1) := by decide +kernel
theorem dX4_raw_35 : decode cX4_raw 35 = .ok (.iaload, 1) := by decide +kernel
theorem dX4_raw_36 : decode cX4_raw 36 = .ok (.iconst 1, 1) := by decide +kernel
theorem dX4_raw_37 : decode cX4_raw 37 = .ok (.iadd, 1) := by decide +kernel
theorem dX4_raw_38 : decode cX4_raw 38 = .ok (.imul, 1) := by decide +kernel
theorem dX4_raw_39 : decode cX4_raw 39 = .ok (.iadd, 1) := by decide +kernel
theorem dX4_raw_40 : decode cX4_raw 40 = .ok (.istore_n 3, 1) := by decide +kernel
theorem dX4_raw_41 : decode cX4_raw 41 = .ok (.iconst 0, 1) := by decide +kernel
theorem dX4_raw_42 : decode cX4_raw 42 = .ok (.istore 4, 2) := by decide +kernel
theorem dX4_raw_44 : decode cX4_raw 44 = .ok (.iconst 0, 1) := by decide +kernel
theorem dX4_raw_45 : decode cX4_raw 45 = .ok (.istore 5, 2) := by decide +kernel
theorem dX4_raw_47 : decode cX4_raw 47 = .ok (.iload 5, 2) := by decide +kernel
theorem dX4_raw_49 : decode cX4_raw 49 = .ok (.aload_n 0, 1) := by decide +kernel
theorem dX4_raw_50 : decode cX4_raw 50 = .ok (.getfield 7, 3) := by decide +kernel
theorem dX4_raw_53 : decode cX4_raw 53 = .ok (.iconst 1, 1) := by decide +kernel
theorem dX4_raw_54 : decode cX4_raw 54 = .ok (.iaload, 1) := by decide +kernel
theorem dX4_raw_55 : decode cX4_raw 55 = .ok (.if_icmp .gt 56, 3) := by decide +kernel
theorem dX4_raw_58 : decode cX4_raw 58 = .ok (.aload_n 0, 1) := by decide +kernel
theorem dX4_raw_59 : decode cX4_raw 59 = .ok (.getfield 13, 3) := by decide +kernel
theorem dX4_raw_62 : decode cX4_raw 62 = .ok (.iload_n 3, 1) := by decide +kernel
theorem dX4_raw_63 : decode cX4_raw 63 = .ok (.iload 5, 2) := by decide +kernel
theorem dX4_raw_65 : decode cX4_raw 65 = .ok (.iadd, 1) := by decide +kernel
theorem dX4_raw_66 : decode cX4_raw 66 = .ok (.iaload, 1) := by decide +kernel
theorem dX4_raw_67 : decode cX4_raw 67 = .ok (.iload_n 2, 1) := by decide +kernel
theorem dX4_raw_68 : decode cX4_raw 68 = .ok (.iand, 1) := by decide +kernel
theorem dX4_raw_69 : decode cX4_raw 69 = .ok (.ifCond .eq 7, 3) := by decide +kernel
theorem dX4_raw_72 : decode cX4_raw 72 = .ok (.iconst 1, 1) := by decide +kernel
theorem dX4_raw_73 : decode cX4_raw 73 = .ok (.goto 4, 3) := by decide +kernel
theorem dX4_raw_76 : decode cX4_raw 76 = .ok (.iconst 0, 1) := by decide +kernel
theorem dX4_raw_77 : decode cX4_raw 77 = .ok (.istore 6, 2) := by decide +kernel
theorem dX4_raw_79 : decode cX4_raw 79 = .ok (.iload 4, 2) := by decide +kernel
theorem dX4_raw_81 : decode cX4_raw 81 = .ok (.iload 6, 2) := by decide +kernel
theorem dX4_raw_83 : decode cX4_raw 83 = .ok (.aload_n 0, 1) := by decide +kernel
theorem dX4_raw_84 : decode cX4_raw 84 = .ok (.getfield 7, 3) := by decide +kernel
theorem dX4_raw_87 : decode cX4_raw 87 = .ok (.bipush 67, 2) := by decide +kernel
theorem dX4_raw_89 : decode cX4_raw 89 = .ok (.iload_n 3, 1) := by decide +kernel
theorem dX4_raw_90 : decode cX4_raw 90 = .ok (.iadd, 1) := by decide +kernel
theorem dX4_raw_91 : decode cX4_raw 91 = .ok (.iload 5, 2) := by decide +kernel
theorem dX4_raw_93 : decode cX4_raw 93 = .ok (.iadd, 1) := by decide +kernel
theorem dX4_raw_94 : decode cX4_raw 94 = .ok (.bipush 8, 2) := by decide +kernel
theorem dX4_raw_96 : decode cX4_raw 96 = .ok (.isub, 1) := by decide +kernel
theorem dX4_raw_97 : decode cX4_raw 97 = .ok (.iaload, 1) := by decide +kernel
theorem dX4_raw_98 : decode cX4_raw 98 = .ok (.ixor, 1) := by decide +kernel
theorem dX4_raw_99 : decode cX4_raw 99 = .ok (.iload 5, 2) := by decide +kernel
theorem dX4_raw_101 : decode cX4_raw 101 = .ok (.ishl, 1) := by decide +kernel
theorem dX4_raw_102 : decode cX4_raw 102 = .ok (.ior, 1) := by decide +kernel
theorem dX4_raw_103 : decode cX4_raw 103 = .ok (.istore 4, 2) := by decide +kernel
theorem dX4_raw_105 : decode cX4_raw 105 = .ok (.iinc 5 1, 3) := by decide +kernel
theorem dX4_raw_108 : decode cX4_raw 108 = .ok (.goto (-61), 3) := by decide +kernel
theorem dX4_raw_111 : decode cX4_raw 111 = .ok (.iload 4, 2) := by decide +kernel
theorem dX4_raw_113 : decode cX4_raw 113 = .ok (.ireturn, 1) := by decide +kernel
theorem dX4_rawWord_0 : decode cX4_rawWord 0 = .ok (.aload_n 0, 1) := by decide +kernel
theorem dX4_rawWord_1 : decode cX4_rawWord 1 = .ok (.iload_n 1, 1) := by decide +kernel
theorem dX4_rawWord_2 : decode cX4_rawWord 2 = .ok (.invokevirtual 90, 3) := by decide +kernel
theorem dX4_rawWord_5 : decode cX4_rawWord 5 = .ok (.iconst 1, 1) := by decide +kernel
theorem dX4_rawWord_6 : decode cX4_rawWord 6 = .ok (.aload_n 0, 1) := by decide +kernel
theorem dX4_rawWord_7 : decode cX4_rawWord 7 = .ok (.getfield 7, 3) := by decide +kernel
theorem dX4_rawWord_10 : decode cX4_rawWord 10 = .ok (.iconst 1, 1) := by decide +kernel
theorem dX4_rawWord_11 : decode cX4_rawWord 11 = .ok (.iaload, 1) := by decide +kernel
theorem dX4_rawWord_12 : decode cX4_rawWord 12 = .ok (.ishl, 1) := by decide +kernel
theorem dX4_rawWord_13 : decode cX4_rawWord 13 = .ok (.iconst 1, 1) := by decide +kernel
theorem dX4_rawWord_14 : decode cX4_rawWord 14 = .ok (.isub, 1) := by decide +kernel
theorem dX4_rawWord_15 : decode cX4_rawWord 15 = .ok (.iand, 1) := by decide +kernel
theorem dX4_rawWord_16 : decode cX4_rawWord 16 = .ok (.ireturn, 1) := by decide +kernel
theorem dX4_reads_0 : decode cX4_reads 0 = .ok (.aload_n 0, 1) := by decide +kernel
theorem dX4_reads_1 : decode cX4_reads 1 = .ok (.getfield 7, 3) := by decide +kernel
theorem dX4_reads_4 : decode cX4_reads 4 = .ok (.sipush 141, 3) := by decide +kernel
theorem dX4_reads_7 : decode cX4_reads 7 = .ok (.iload_n 1, 1) := by decide +kernel
theorem dX4_reads_8 : decode cX4_reads 8 = .ok (.iadd, 1) := by decide +kernel
theorem dX4_reads_9 : decode cX4_reads 9 = .ok (.iaload, 1) := by decide +kernel
theorem dX4_reads_10 : decode cX4_reads 10 = .ok (.iconst (-1), 1) := by decide +kernel
theorem dX4_reads_11 : decode cX4_reads 11 = .ok (.if_icmp .eq 16, 3) := by decide +kernel
theorem dX4_reads_14 : decode cX4_reads 14 = .ok (.aload_n 0, 1) := by decide +kernel
theorem dX4_reads_15 : decode cX4_reads 15 = .ok (.getfield 7, 3) := by decide +kernel
theorem dX4_reads_18 : decode cX4_reads 18 = .ok (.sipush 141, 3) := by decide +kernel
theorem dX4_reads_21 : decode cX4_reads 21 = .ok (.iload_n 1, 1) := by decide +kernel
theorem dX4_reads_22 : decode cX4_reads 22 = .ok (.iadd, 1) := by decide +kernel
theorem dX4_reads_23 : decode cX4_reads 23 = .ok (.iaload, 1) := by decide +kernel
theorem dX4_reads_24 : decode cX4_reads 24 = .ok (.goto 8, 3) := by decide +kernel
theorem dX4_reads_27 : decode cX4_reads 27 = .ok (.aload_n 0, 1) := by decide +kernel
theorem dX4_reads_28 : decode cX4_reads 28 = .ok (.iload_n 1, 1) := by decide +kernel
theorem dX4_reads_29 : decode cX4_reads 29 = .ok (.invokevirtual 93, 3) := by decide +kernel
theorem dX4_reads_32 : decode cX4_reads 32 = .ok (.ireturn, 1) := by decide +kernel
theorem dX4_isEven_0 : decode cX4_isEven 0 = .ok (.aload_n 0, 1) := by decide +kernel
theorem dX4_isEven_1 : decode cX4_isEven 1 = .ok (.getfield 7, 3) := by decide +kernel
theorem dX4_isEven_4 : decode cX4_isEven 4 = .ok (.sipush 141, 3) := by decide +kernel
theorem dX4_isEven_7 : decode cX4_isEven 7 = .ok (.iload_n 1, 1) := by decide +kernel
theorem dX4_isEven_8 : decode cX4_isEven 8 = .ok (.iadd, 1) := by decide +kernel
theorem dX4_isEven_9 : decode cX4_isEven 9 = .ok (.iaload, 1) := by decide +kernel
theorem dX4_isEven_10 : decode cX4_isEven 10 = .ok (.iconst (-1), 1) := by decide +kernel
theorem dX4_isEven_11 : decode cX4_isEven 11 = .ok (.if_icmp .ne 20, 3) := by decide +kernel
theorem dX4_isEven_14 : decode cX4_isEven 14 = .ok (.aload_n 0, 1) := by decide +kernel
theorem dX4_isEven_15 : decode cX4_isEven 15 = .ok (.iload_n 1, 1) := by decide +kernel
theorem dX4_isEven_16 : decode cX4_isEven 16 = .ok (.invokevirtual 90, 3) := by decide +kernel
theorem dX4_isEven_19 : decode cX4_isEven 19 = .ok (.invokestatic 45, 3) := by decide +kernel
theorem dX4_isEven_22 : decode cX4_isEven 22 = .ok (.iconst 2, 1) := by decide +kernel
theorem dX4_isEven_23 : decode cX4_isEven 23 = .ok (.irem, 1) := by decide +kernel
theorem dX4_isEven_24 : decode cX4_isEven 24 = .ok (.ifCond .ne 7, 3) := by decide +kernel
theorem dX4_isEven_27 : decode cX4_isEven 27 = .ok (.iconst 1, 1) := by decide +kernel
theorem dX4_isEven_28 : decode cX4_isEven 28 = .ok (.goto 4, 3) := by decide +kernel
theorem dX4_isEven_31 : decode cX4_isEven 31 = .ok (.iconst 0, 1) := by decide +kernel
theorem dX4_isEven_32 : decode cX4_isEven 32 = .ok (.ireturn, 1) := by decide +kernel
theorem dX4_read_0 : decode cX4_read 0 = .ok (.aload_n 0, 1) := by decide +kernel
theorem dX4_read_1 : decode cX4_read 1 = .ok (.iload_n 1, 1) := by decide +kernel
theorem dX4_read_2 : decode cX4_read 2 = .ok (.invokevirtual 75, 3) := by decide +kernel
theorem dX4_read_5 : decode cX4_read 5 = .ok (.ifCond .ne 6, 3) := by decide +kernel
theorem dX4_read_8 : decode cX4_read 8 = .ok (.bipush (-2), 2) := by decide +kernel
theorem dX4_read_10 : decode cX4_read 10 = .ok (.ireturn, 1) := by decide +kernel
theorem dX4_read_11 : decode cX4_read 11 = .ok (.aload_n 0, 1) := by decide +kernel
theorem dX4_read_12 : decode cX4_read 12 = .ok (.invokevirtual 84, 3) := by decide +kernel
theorem dX4_read_15 : decode cX4_read 15 = .ok (.aload_n 0, 1) := by decide +kernel
theorem dX4_read_16 : decode cX4_read 16 = .ok (.iload_n 1, 1) := by decide +kernel
theorem dX4_read_17 : decode cX4_read 17 = .ok (.invokevirtual 96, 3) := by decide +kernel
theorem dX4_read_20 : decode cX4_read 20 = .ok (.ireturn, 1) := by decide +kernel
theorem dX4_readRaw_0 : decode cX4_readRaw 0 = .ok (.aload_n 0, 1) := by decide +kernel
theorem dX4_readRaw_1 : decode cX4_readRaw 1 = .ok (.iload_n 1, 1) := by decide +kernel
theorem dX4_readRaw_2 : decode cX4_readRaw 2 = .ok (.invokevirtual 75, 3) := by decide +kernel
theorem dX4_readRaw_5 : decode cX4_readRaw 5 = .ok (.ifCond .ne 6, 3) := by decide +kernel
theorem dX4_readRaw_8 : decode cX4_readRaw 8 = .ok (.bipush (-2), 2) := by decide +kernel
theorem dX4_readRaw_10 : decode cX4_readRaw 10 = .ok (.ireturn, 1) := by decide +kernel
theorem dX4_readRaw_11 : decode cX4_readRaw 11 = .ok (.aload_n 0, 1) := by decide +kernel
theorem dX4_readRaw_12 : decode cX4_readRaw 12 = .ok (.invokevirtual 84, 3) := by decide +kernel
theorem dX4_readRaw_15 : decode cX4_readRaw 15 = .ok (.aload_n 0, 1) := by decide +kernel
theorem dX4_readRaw_16 : decode cX4_readRaw 16 = .ok (.iload_n 1, 1) := by decide +kernel
theorem dX4_readRaw_17 : decode cX4_readRaw 17 = .ok (.invokevirtual 93, 3) := by decide +kernel
theorem dX4_readRaw_20 : decode cX4_readRaw 20 = .ok (.ireturn, 1) := by decide +kernel
theorem dX4_parity_0 : decode cX4_parity 0 = .ok (.aload_n 0, 1) := by decide +kernel
theorem dX4_parity_1 : decode cX4_parity 1 = .ok (.iload_n 1, 1) := by decide +kernel
theorem dX4_parity_2 : decode cX4_parity 2 = .ok (.invokevirtual 75, 3) := by decide +kernel
theorem dX4_parity_5 : decode cX4_parity 5 = .ok (.ifCond .ne 6, 3) := by decide +kernel
theorem dX4_parity_8 : decode cX4_parity 8 = .ok (.bipush (-2), 2) := by decide +kernel
theorem dX4_parity_10 : decode cX4_parity 10 = .ok (.ireturn, 1) := by decide +kernel
theorem dX4_parity_11 : decode cX4_parity 11 = .ok (.aload_n 0, 1) := by decide +kernel
theorem dX4_parity_12 : decode cX4_parity 12 = .ok (.invokevirtual 84, 3) := by decide +kernel
theorem dX4_parity_15 : decode cX4_parity 15 = .ok (.aload_n 0, 1) := by decide +kernel
theorem dX4_parity_16 : decode cX4_parity 16 = .ok (.iload_n 1, 1) := by decide +kernel
theorem dX4_parity_17 : decode cX4_parity 17 = .ok (.invokevirtual 99, 3) := by decide +kernel
theorem dX4_parity_20 : decode cX4_parity 20 = .ok (.ifCond .eq 7, 3) := by decide +kernel
theorem dX4_parity_23 : decode cX4_parity 23 = .ok (.iconst 0, 1) := by decide +kernel
theorem dX4_parity_24 : decode cX4_parity 24 = .ok (.goto 4, 3) := by decide +kernel
theorem dX4_parity_27 : decode cX4_parity 27 = .ok (.iconst 1, 1) := by decide +kernel
theorem dX4_parity_28 : decode cX4_parity 28 = .ok (.ireturn, 1) := by decide +kernel
theorem dX4_wrongs_0 : decode cX4_wrongs 0 = .ok (.aload_n 0, 1) := by decide +kernel
theorem dX4_wrongs_1 : decode cX4_wrongs 1 = .ok (.invokevirtual 84, 3) := by decide +kernel
theorem dX4_wrongs_4 : decode cX4_wrongs 4 = .ok (.iconst 0, 1) := by decide +kernel
theorem dX4_wrongs_5 : decode cX4_wrongs 5 = .ok (.istore_n 2, 1) := by decide +kernel
theorem dX4_wrongs_6 : decode cX4_wrongs 6 = .ok (.iconst 0, 1) := by decide +kernel
theorem dX4_wrongs_7 : decode cX4_wrongs 7 = .ok (.istore_n 3, 1) := by decide +kernel
theorem dX4_wrongs_8 : decode cX4_wrongs 8 = .ok (.iload_n 3, 1) := by decide +kernel
theorem dX4_wrongs_9 : decode cX4_wrongs 9 = .ok (.aload_n 0, 1) := by decide +kernel
theorem dX4_wrongs_10 : decode cX4_wrongs 10 = .ok (.invokevirtual 42, 3) := by decide +kernel
theorem dX4_wrongs_13 : decode cX4_wrongs 13 = .ok (.if_icmp .ge 118, 3) := by decide +kernel
theorem dX4_wrongs_16 : decode cX4_wrongs 16 = .ok (.aload_n 0, 1) := by decide +kernel
theorem dX4_wrongs_17 : decode cX4_wrongs 17 = .ok (.iload_n 3, 1) := by decide +kernel
theorem dX4_wrongs_18 : decode cX4_wrongs 18 = .ok (.invokevirtual 96, 3) := by decide +kernel
theorem dX4_wrongs_21 : decode cX4_wrongs 21 = .ok (.aload_n 0, 1) := by decide +kernel
theorem dX4_wrongs_22 : decode cX4_wrongs 22 = .ok (.getfield 7, 3) := by decide +kernel
theorem dX4_wrongs_25 : decode cX4_wrongs 25 = .ok (.bipush 19, 2) := by decide +kernel
theorem dX4_wrongs_27 : decode cX4_wrongs 27 = .ok (.iload_n 3, 1) := by decide +kernel
theorem dX4_wrongs_28 : decode cX4_wrongs 28 = .ok (.iadd, 1) := by decide +kernel
theorem dX4_wrongs_29 : decode cX4_wrongs 29 = .ok (.iaload, 1) := by decide +kernel
theorem dX4_wrongs_30 : decode cX4_wrongs 30 = .ok (.if_icmp .eq 7, 3) := by decide +kernel
theorem dX4_wrongs_33 : decode cX4_wrongs 33 = .ok (.iconst 1, 1) := by decide +kernel
theorem dX4_wrongs_34 : decode cX4_wrongs 34 = .ok (.goto 4, 3) := by decide +kernel
theorem dX4_wrongs_37 : decode cX4_wrongs 37 = .ok (.iconst 0, 1) := by decide +kernel
theorem dX4_wrongs_38 : decode cX4_wrongs 38 = .ok (.istore 4, 2) := by decide +kernel
theorem dX4_wrongs_40 : decode cX4_wrongs 40 = .ok (.iload_n 1, 1) := by decide +kernel
theorem dX4_wrongs_41 : decode cX4_wrongs 41 = .ok (.ifCond .ne 8, 3) := by decide +kernel
theorem dX4_wrongs_44 : decode cX4_wrongs 44 = .ok (.iload 4, 2) := by decide +kernel
theorem dX4_wrongs_46 : decode cX4_wrongs 46 = .ok (.goto 64, 3) := by decide +kernel
theorem dX4_wrongs_49 : decode cX4_wrongs 49 = .ok (.iload_n 1, 1) := by decide +kernel
theorem dX4_wrongs_50 : decode cX4_wrongs 50 = .ok (.iconst 1, 1) := by decide +kernel
theorem dX4_wrongs_51 : decode cX4_wrongs 51 = .ok (.if_icmp .ne 11, 3) := by decide +kernel
theorem dX4_wrongs_54 : decode cX4_wrongs 54 = .ok (.aload_n 0, 1) := by decide +kernel
theorem dX4_wrongs_55 : decode cX4_wrongs 55 = .ok (.iload_n 3, 1) := by decide +kernel
theorem dX4_wrongs_56 : decode cX4_wrongs 56 = .ok (.invokevirtual 99, 3) := by decide +kernel
theorem dX4_wrongs_59 : decode cX4_wrongs 59 = .ok (.goto 51, 3) := by decide +kernel
theorem dX4_wrongs_62 : decode cX4_wrongs 62 = .ok (.iload_n 1, 1) := by decide +kernel
theorem dX4_wrongs_63 : decode cX4_wrongs 63 = .ok (.iconst 2, 1) := by decide +kernel
theorem dX4_wrongs_64 : decode cX4_wrongs 64 = .ok (.if_icmp .ne 24, 3) := by decide +kernel
theorem dX4_wrongs_67 : decode cX4_wrongs 67 = .ok (.iload 4, 2) := by decide +kernel
theorem dX4_wrongs_69 : decode cX4_wrongs 69 = .ok (.ifCond .eq 15, 3) := by decide +kernel
theorem dX4_wrongs_72 : decode cX4_wrongs 72 = .ok (.aload_n 0, 1) := by decide +kernel
theorem dX4_wrongs_73 : decode cX4_wrongs 73 = .ok (.iload_n 3, 1) := by decide +kernel
theorem dX4_wrongs_74 : decode cX4_wrongs 74 = .ok (.invokevirtual 99, 3) := by decide +kernel
theorem dX4_wrongs_77 : decode cX4_wrongs 77 = .ok (.ifCond .ne 7, 3) := by decide +kernel
theorem dX4_wrongs_80 : decode cX4_wrongs 80 = .ok (.iconst 1, 1) := by decide +kernel
theorem dX4_wrongs_81 : decode cX4_wrongs 81 = .ok (.goto 29, 3) := by decide +kernel
theorem dX4_wrongs_84 : decode cX4_wrongs 84 = .ok (.iconst 0, 1) := by decide +kernel
theorem dX4_wrongs_85 : decode cX4_wrongs 85 = .ok (.goto 25, 3) := by decide +kernel
theorem dX4_wrongs_88 : decode cX4_wrongs 88 = .ok (.aload_n 0, 1) := by decide +kernel
theorem dX4_wrongs_89 : decode cX4_wrongs 89 = .ok (.iload_n 3, 1) := by decide +kernel
theorem dX4_wrongs_90 : decode cX4_wrongs 90 = .ok (.invokevirtual 93, 3) := by decide +kernel
theorem dX4_wrongs_93 : decode cX4_wrongs 93 = .ok (.aload_n 0, 1) := by decide +kernel
theorem dX4_wrongs_94 : decode cX4_wrongs 94 = .ok (.getfield 7, 3) := by decide +kernel
theorem dX4_wrongs_97 : decode cX4_wrongs 97 = .ok (.bipush 19, 2) := by decide +kernel
theorem dX4_wrongs_99 : decode cX4_wrongs 99 = .ok (.iload_n 3, 1) := by decide +kernel
theorem dX4_wrongs_100 : decode cX4_wrongs 100 = .ok (.iadd, 1) := by decide +kernel
theorem dX4_wrongs_101 : decode cX4_wrongs 101 = .ok (.iaload, 1) := by decide +kernel
theorem dX4_wrongs_102 : decode cX4_wrongs 102 = .ok (.if_icmp .eq 7, 3) := by decide +kernel
theorem dX4_wrongs_105 : decode cX4_wrongs 105 = .ok (.iconst 1, 1) := by decide +kernel
theorem dX4_wrongs_106 : decode cX4_wrongs 106 = .ok (.goto 4, 3) := by decide +kernel
theorem dX4_wrongs_109 : decode cX4_wrongs 109 = .ok (.iconst 0, 1) := by decide +kernel
theorem dX4_wrongs_110 : decode cX4_wrongs 110 = .ok (.istore 5, 2) := by decide +kernel
theorem dX4_wrongs_112 : decode cX4_wrongs 112 = .ok (.iload_n 2, 1) := by decide +kernel
theorem dX4_wrongs_113 : decode cX4_wrongs 113 = .ok (.iload 5, 2) := by decide +kernel
theorem dX4_wrongs_115 : decode cX4_wrongs 115 = .ok (.ifCond .eq 7, 3) := by decide +kernel
theorem dX4_wrongs_118 : decode cX4_wrongs 118 = .ok (.iconst 1, 1) := by decide +kernel
theorem dX4_wrongs_119 : decode cX4_wrongs 119 = .ok (.goto 4, 3) := by decide +kernel
theorem dX4_wrongs_122 : decode cX4_wrongs 122 = .ok (.iconst 0, 1) := by decide +kernel
theorem dX4_wrongs_123 : decode cX4_wrongs 123 = .ok (.iadd, 1) := by decide +kernel
theorem dX4_wrongs_124 : decode cX4_wrongs 124 = .ok (.istore_n 2, 1) := by decide +kernel
theorem dX4_wrongs_125 : decode cX4_wrongs 125 = .ok (.iinc 3 1, 3) := by decide +kernel
theorem dX4_wrongs_128 : decode cX4_wrongs 128 = .ok (.goto (-120), 3) := by decide +kernel
theorem dX4_wrongs_131 : decode cX4_wrongs 131 = .ok (.iload_n 2, 1) := by decide +kernel
theorem dX4_wrongs_132 : decode cX4_wrongs 132 = .ok (.ireturn, 1) := by decide +kernel
theorem dX4_wrong_0 : decode cX4_wrong 0 = .ok (.iload_n 1, 1) := by decide +kernel
theorem dX4_wrong_1 : decode cX4_wrong 1 = .ok (.iconst 0, 1) := by decide +kernel
theorem dX4_wrong_2 : decode cX4_wrong 2 = .ok (.iconst 3, 1) := by decide +kernel
theorem dX4_wrong_3 : decode cX4_wrong 3 = .ok (.invokestatic 34, 3) := by decide +kernel
theorem dX4_wrong_6 : decode cX4_wrong 6 = .ok (.ifCond .eq 11, 3) := by decide +kernel
theorem dX4_wrong_9 : decode cX4_wrong 9 = .ok (.aload_n 0, 1) := by decide +kernel
theorem dX4_wrong_10 : decode cX4_wrong 10 = .ok (.iload_n 1, 1) := by decide +kernel
theorem dX4_wrong_11 : decode cX4_wrong 11 = .ok (.invokevirtual 102, 3) := by decide +kernel
theorem dX4_wrong_14 : decode cX4_wrong 14 = .ok (.goto 5, 3) := by decide +kernel
theorem dX4_wrong_17 : decode cX4_wrong 17 = .ok (.bipush (-3), 2) := by decide +kernel
theorem dX4_wrong_19 : decode cX4_wrong 19 = .ok (.ireturn, 1) := by decide +kernel
theorem dX4_spoil_0 : decode cX4_spoil 0 = .ok (.aload_n 0, 1) := by decide +kernel
theorem dX4_spoil_1 : decode cX4_spoil 1 = .ok (.iload_n 1, 1) := by decide +kernel
theorem dX4_spoil_2 : decode cX4_spoil 2 = .ok (.invokevirtual 81, 3) := by decide +kernel
theorem dX4_spoil_5 : decode cX4_spoil 5 = .ok (.ifCond .eq 11, 3) := by decide +kernel
theorem dX4_spoil_8 : decode cX4_spoil 8 = .ok (.aload_n 0, 1) := by decide +kernel
theorem dX4_spoil_9 : decode cX4_spoil 9 = .ok (.iload_n 2, 1) := by decide +kernel
theorem dX4_spoil_10 : decode cX4_spoil 10 = .ok (.invokevirtual 71, 3) := by decide +kernel
theorem dX4_spoil_13 : decode cX4_spoil 13 = .ok (.ifCond .ne 6, 3) := by decide +kernel
theorem dX4_spoil_16 : decode cX4_spoil 16 = .ok (.bipush (-2), 2) := by decide +kernel
theorem dX4_spoil_18 : decode cX4_spoil 18 = .ok (.ireturn, 1) := by decide +kernel
theorem dX4_spoil_19 : decode cX4_spoil 19 = .ok (.aload_n 0, 1) := by decide +kernel
theorem dX4_spoil_20 : decode cX4_spoil 20 = .ok (.invokevirtual 62, 3) := by decide +kernel
theorem dX4_spoil_23 : decode cX4_spoil 23 = .ok (.aload_n 0, 1) := by decide +kernel
theorem dX4_spoil_24 : decode cX4_spoil 24 = .ok (.getfield 7, 3) := by decide +kernel
theorem dX4_spoil_27 : decode cX4_spoil 27 = .ok (.bipush 100, 2) := by decide +kernel
theorem dX4_spoil_29 : decode cX4_spoil 29 = .ok (.iload_n 1, 1) := by decide +kernel
theorem dX4_spoil_30 : decode cX4_spoil 30 = .ok (.iadd, 1) := by decide +kernel
theorem dX4_spoil_31 : decode cX4_spoil 31 = .ok (.dup2, 1) := by decide +kernel
theorem dX4_spoil_32 : decode cX4_spoil 32 = .ok (.iaload, 1) := by decide +kernel
theorem dX4_spoil_33 : decode cX4_spoil 33 = .ok (.iconst 1, 1) := by decide +kernel
theorem dX4_spoil_34 : decode cX4_spoil 34 = .ok (.iload_n 2, 1) := by decide +kernel
theorem dX4_spoil_35 : decode cX4_spoil 35 = .ok (.ishl, 1) := by decide +kernel
theorem dX4_spoil_36 : decode cX4_spoil 36 = .ok (.ixor, 1) := by decide +kernel
theorem dX4_spoil_37 : decode cX4_spoil 37 = .ok (.iastore, 1) := by decide +kernel
theorem dX4_spoil_38 : decode cX4_spoil 38 = .ok (.aload_n 0, 1) := by decide +kernel
theorem dX4_spoil_39 : decode cX4_spoil 39 = .ok (.getfield 7, 3) := by decide +kernel
theorem dX4_spoil_42 : decode cX4_spoil 42 = .ok (.bipush 100, 2) := by decide +kernel
theorem dX4_spoil_44 : decode cX4_spoil 44 = .ok (.iload_n 1, 1) := by decide +kernel
theorem dX4_spoil_45 : decode cX4_spoil 45 = .ok (.iadd, 1) := by decide +kernel
theorem dX4_spoil_46 : decode cX4_spoil 46 = .ok (.iaload, 1) := by decide +kernel
theorem dX4_spoil_47 : decode cX4_spoil 47 = .ok (.iload_n 2, 1) := by decide +kernel
theorem dX4_spoil_48 : decode cX4_spoil 48 = .ok (.ishr, 1) := by decide +kernel
theorem dX4_spoil_49 : decode cX4_spoil 49 = .ok (.iconst 1, 1) := by decide +kernel
theorem dX4_spoil_50 : decode cX4_spoil 50 = .ok (.iand, 1) := by decide +kernel
theorem dX4_spoil_51 : decode cX4_spoil 51 = .ok (.ireturn, 1) := by decide +kernel
theorem dX4_isAsNow_0 : decode cX4_isAsNow 0 = .ok (.iconst 1, 1) := by decide +kernel
theorem dX4_isAsNow_1 : decode cX4_isAsNow 1 = .ok (.istore_n 1, 1) := by decide +kernel
theorem dX4_isAsNow_2 : decode cX4_isAsNow 2 = .ok (.iconst 0, 1) := by decide +kernel
theorem dX4_isAsNow_3 : decode cX4_isAsNow 3 = .ok (.istore_n 2, 1) := by decide +kernel
theorem dX4_isAsNow_4 : decode cX4_isAsNow 4 = .ok (.iload_n 2, 1) := by decide +kernel
theorem dX4_isAsNow_5 : decode cX4_isAsNow 5 = .ok (.aload_n 0, 1) := by decide +kernel
theorem dX4_isAsNow_6 : decode cX4_isAsNow 6 = .ok (.invokevirtual 42, 3) := by decide +kernel
theorem dX4_isAsNow_9 : decode cX4_isAsNow 9 = .ok (.if_icmp .ge 33, 3) := by decide +kernel
theorem dX4_isAsNow_12 : decode cX4_isAsNow 12 = .ok (.iload_n 1, 1) := by decide +kernel
theorem dX4_isAsNow_13 : decode cX4_isAsNow 13 = .ok (.ifCond .eq 29, 3) := by decide +kernel
theorem dX4_isAsNow_16 : decode cX4_isAsNow 16 = .ok (.aload_n 0, 1) := by decide +kernel
theorem dX4_isAsNow_17 : decode cX4_isAsNow 17 = .ok (.iload_n 2, 1) := by decide +kernel
theorem dX4_isAsNow_18 : decode cX4_isAsNow 18 = .ok (.invokevirtual 90, 3) := by decide +kernel
theorem dX4_isAsNow_21 : decode cX4_isAsNow 21 = .ok (.aload_n 0, 1) := by decide +kernel
theorem dX4_isAsNow_22 : decode cX4_isAsNow 22 = .ok (.getfield 16, 3) := by decide +kernel
theorem dX4_isAsNow_25 : decode cX4_isAsNow 25 = .ok (.iload_n 2, 1) := by decide +kernel
theorem dX4_isAsNow_26 : decode cX4_isAsNow 26 = .ok (.iaload, 1) := by decide +kernel
theorem dX4_isAsNow_27 : decode cX4_isAsNow 27 = .ok (.if_icmp .ne 7, 3) := by decide +kernel
theorem dX4_isAsNow_30 : decode cX4_isAsNow 30 = .ok (.iconst 1, 1) := by decide +kernel
theorem dX4_isAsNow_31 : decode cX4_isAsNow 31 = .ok (.goto 4, 3) := by decide +kernel
theorem dX4_isAsNow_34 : decode cX4_isAsNow 34 = .ok (.iconst 0, 1) := by decide +kernel
theorem dX4_isAsNow_35 : decode cX4_isAsNow 35 = .ok (.istore_n 1, 1) := by decide +kernel
theorem dX4_isAsNow_36 : decode cX4_isAsNow 36 = .ok (.iinc 2 1, 3) := by decide +kernel
theorem dX4_isAsNow_39 : decode cX4_isAsNow 39 = .ok (.goto (-35), 3) := by decide +kernel
theorem dX4_isAsNow_42 : decode cX4_isAsNow 42 = .ok (.iload_n 1, 1) := by decide +kernel
theorem dX4_isAsNow_43 : decode cX4_isAsNow 43 = .ok (.ireturn, 1) := by decide +kernel
theorem dX4_explains_0 : decode cX4_explains 0 = .ok (.iload_n 1, 1) := by decide +kernel
theorem dX4_explains_1 : decode cX4_explains 1 = .ok (.ifCond .ge 6, 3) := by decide +kernel
theorem dX4_explains_4 : decode cX4_explains 4 = .ok (.bipush (-3), 2) := by decide +kernel
theorem dX4_explains_6 : decode cX4_explains 6 = .ok (.ireturn, 1) := by decide +kernel
theorem dX4_explains_7 : decode cX4_explains 7 = .ok (.aload_n 0, 1) := by decide +kernel
theorem dX4_explains_8 : decode cX4_explains 8 = .ok (.invokevirtual 84, 3) := by decide +kernel
theorem dX4_explains_11 : decode cX4_explains 11 = .ok (.iconst 0, 1) := by decide +kernel
theorem dX4_explains_12 : decode cX4_explains 12 = .ok (.istore_n 2, 1) := by decide +kernel
theorem dX4_explains_13 : decode cX4_explains 13 = .ok (.iload_n 2, 1) := by decide +kernel
theorem dX4_explains_14 : decode cX4_explains 14 = .ok (.aload_n 0, 1) := by decide +kernel
theorem dX4_explains_15 : decode cX4_explains 15 = .ok (.invokevirtual 42, 3) := by decide +kernel
theorem dX4_explains_18 : decode cX4_explains 18 = .ok (.if_icmp .ge 20, 3) := by decide +kernel
theorem dX4_explains_21 : decode cX4_explains 21 = .ok (.aload_n 0, 1) := by decide +kernel
theorem dX4_explains_22 : decode cX4_explains 22 = .ok (.getfield 16, 3) := by decide +kernel
theorem dX4_explains_25 : decode cX4_explains 25 = .ok (.iload_n 2, 1) := by decide +kernel
theorem dX4_explains_26 : decode cX4_explains 26 = .ok (.aload_n 0, 1) := by decide +kernel
theorem dX4_explains_27 : decode cX4_explains 27 = .ok (.iload_n 2, 1) := by decide +kernel
theorem dX4_explains_28 : decode cX4_explains 28 = .ok (.invokevirtual 90, 3) := by decide +kernel
theorem dX4_explains_31 : decode cX4_explains 31 = .ok (.iastore, 1) := by decide +kernel
theorem dX4_explains_32 : decode cX4_explains 32 = .ok (.iinc 2 1, 3) := by decide +kernel
theorem dX4_explains_35 : decode cX4_explains 35 = .ok (.goto (-22), 3) := by decide +kernel
theorem dX4_explains_38 : decode cX4_explains 38 = .ok (.iconst 0, 1) := by decide +kernel
theorem dX4_explains_39 : decode cX4_explains 39 = .ok (.istore_n 2, 1) := by decide +kernel
theorem dX4_explains_40 : decode cX4_explains 40 = .ok (.iload_n 2, 1) := by decide +kernel
theorem dX4_explains_41 : decode cX4_explains 41 = .ok (.aload_n 0, 1) := by decide +kernel
theorem dX4_explains_42 : decode cX4_explains 42 = .ok (.invokevirtual 38, 3) := by decide +kernel
theorem dX4_explains_45 : decode cX4_explains 45 = .ok (.if_icmp .ge 20, 3) := by decide +kernel
theorem dX4_explains_48 : decode cX4_explains 48 = .ok (.aload_n 0, 1) := by decide +kernel
theorem dX4_explains_49 : decode cX4_explains 49 = .ok (.getfield 13, 3) := by decide +kernel
theorem dX4_explains_52 : decode cX4_explains 52 = .ok (.iload_n 2, 1) := by decide +kernel
theorem dX4_explains_53 : decode cX4_explains 53 = .ok (.aload_n 0, 1) := by decide +kernel
theorem dX4_explains_54 : decode cX4_explains 54 = .ok (.iload_n 2, 1) := by decide +kernel
theorem dX4_explains_55 : decode cX4_explains 55 = .ok (.invokevirtual 59, 3) := by decide +kernel
theorem dX4_explains_58 : decode cX4_explains 58 = .ok (.iastore, 1) := by decide +kernel
theorem dX4_explains_59 : decode cX4_explains 59 = .ok (.iinc 2 1, 3) := by decide +kernel
theorem dX4_explains_62 : decode cX4_explains 62 = .ok (.goto (-22), 3) := by decide +kernel
theorem dX4_explains_65 : decode cX4_explains 65 = .ok (.iload_n 1, 1) := by decide +kernel
theorem dX4_explains_66 : decode cX4_explains 66 = .ok (.istore_n 2, 1) := by decide +kernel
theorem dX4_explains_67 : decode cX4_explains 67 = .ok (.iconst (-1), 1) := by decide +kernel
theorem dX4_explains_68 : decode cX4_explains 68 = .ok (.istore_n 3, 1) := by decide +kernel
theorem dX4_explains_69 : decode cX4_explains 69 = .ok (.iconst 0, 1) := by decide +kernel
theorem dX4_explains_70 : decode cX4_explains 70 = .ok (.istore 4, 2) := by decide +kernel
theorem dX4_explains_72 : decode cX4_explains 72 = .ok (.iload 4, 2) := by decide +kernel
theorem dX4_explains_74 : decode cX4_explains 74 = .ok (.aload_n 0, 1) := by decide +kernel
theorem dX4_explains_75 : decode cX4_explains 75 = .ok (.invokevirtual 38, 3) := by decide +kernel
theorem dX4_explains_78 : decode cX4_explains 78 = .ok (.if_icmp .ge 108, 3) := by decide +kernel
theorem dX4_explains_81 : decode cX4_explains 81 = .ok (.iload_n 3, 1) := by decide +kernel
theorem dX4_explains_82 : decode cX4_explains 82 = .ok (.iconst (-1), 1) := by decide +kernel
theorem dX4_explains_83 : decode cX4_explains 83 = .ok (.if_icmp .ne 103, 3) := by decide +kernel
theorem dX4_explains_86 : decode cX4_explains 86 = .ok (.iconst 0, 1) := by decide +kernel
theorem dX4_explains_87 : decode cX4_explains 87 = .ok (.istore 5, 2) := by decide +kernel
theorem dX4_explains_89 : decode cX4_explains 89 = .ok (.iload 5, 2) := by decide +kernel
theorem dX4_explains_91 : decode cX4_explains 91 = .ok (.aload_n 0, 1) := by decide +kernel
theorem dX4_explains_92 : decode cX4_explains 92 = .ok (.getfield 7, 3) := by decide +kernel
theorem dX4_explains_95 : decode cX4_explains 95 = .ok (.iconst 0, 1) := by decide +kernel
theorem dX4_explains_96 : decode cX4_explains 96 = .ok (.iaload, 1) := by decide +kernel
theorem dX4_explains_97 : decode cX4_explains 97 = .ok (.if_icmp .ge 83, 3) := by decide +kernel
theorem dX4_explains_100 : decode cX4_explains 100 = .ok (.iload_n 3, 1) := by decide +kernel
theorem dX4_explains_101 : decode cX4_explains 101 = .ok (.iconst (-1), 1) := by decide +kernel
theorem dX4_explains_102 : decode cX4_explains 102 = .ok (.if_icmp .ne 78, 3) := by decide +kernel
theorem dX4_explains_105 : decode cX4_explains 105 = .ok (.aload_n 0, 1) := by decide +kernel
theorem dX4_explains_106 : decode cX4_explains 106 = .ok (.getfield 13, 3) := by decide +kernel
theorem dX4_explains_109 : decode cX4_explains 109 = .ok (.iload 4, 2) := by decide +kernel
theorem dX4_explains_111 : decode cX4_explains 111 = .ok (.dup2, 1) := by decide +kernel
theorem dX4_explains_112 : decode cX4_explains 112 = .ok (.iaload, 1) := by decide +kernel
theorem dX4_explains_113 : decode cX4_explains 113 = .ok (.iconst 1, 1) := by decide +kernel
theorem dX4_explains_114 : decode cX4_explains 114 = .ok (.iload 5, 2) := by decide +kernel
theorem dX4_explains_116 : decode cX4_explains 116 = .ok (.ishl, 1) := by decide +kernel
theorem dX4_explains_117 : decode cX4_explains 117 = .ok (.ixor, 1) := by decide +kernel
theorem dX4_explains_118 : decode cX4_explains 118 = .ok (.iastore, 1) := by decide +kernel
theorem dX4_explains_119 : decode cX4_explains 119 = .ok (.aload_n 0, 1) := by decide +kernel
theorem dX4_explains_120 : decode cX4_explains 120 = .ok (.invokevirtual 105, 3) := by decide +kernel
theorem dX4_explains_123 : decode cX4_explains 123 = .ok (.istore 6, 2) := by decide +kernel
theorem dX4_explains_125 : decode cX4_explains 125 = .ok (.aload_n 0, 1) := by decide +kernel
theorem dX4_explains_126 : decode cX4_explains 126 = .ok (.getfield 13, 3) := by decide +kernel
theorem dX4_explains_129 : decode cX4_explains 129 = .ok (.iload 4, 2) := by decide +kernel
theorem dX4_explains_131 : decode cX4_explains 131 = .ok (.dup2, 1) := by decide +kernel
theorem dX4_explains_132 : decode cX4_explains 132 = .ok (.iaload, 1) := by decide +kernel
theorem dX4_explains_133 : decode cX4_explains 133 = .ok (.iconst 1, 1) := by decide +kernel
theorem dX4_explains_134 : decode cX4_explains 134 = .ok (.iload 5, 2) := by decide +kernel
theorem dX4_explains_136 : decode cX4_explains 136 = .ok (.ishl, 1) := by decide +kernel
theorem dX4_explains_137 : decode cX4_explains 137 = .ok (.ixor, 1) := by decide +kernel
theorem dX4_explains_138 : decode cX4_explains 138 = .ok (.iastore, 1) := by decide +kernel
theorem dX4_explains_139 : decode cX4_explains 139 = .ok (.iload 6, 2) := by decide +kernel
theorem dX4_explains_141 : decode cX4_explains 141 = .ok (.ifCond .eq 18, 3) := by decide +kernel
theorem dX4_explains_144 : decode cX4_explains 144 = .ok (.iload_n 2, 1) := by decide +kernel
theorem dX4_explains_145 : decode cX4_explains 145 = .ok (.ifCond .ne 14, 3) := by decide +kernel
theorem dX4_explains_148 : decode cX4_explains 148 = .ok (.bipush 16, 2) := by decide +kernel
theorem dX4_explains_150 : decode cX4_explains 150 = .ok (.iload 4, 2) := by decide +kernel
theorem dX4_explains_152 : decode cX4_explains 152 = .ok (.imul, 1) := by decide +kernel
theorem dX4_explains_153 : decode cX4_explains 153 = .ok (.iload 5, 2) := by decide +kernel
theorem dX4_explains_155 : decode cX4_explains 155 = .ok (.iadd, 1) := by decide +kernel
theorem dX4_explains_156 : decode cX4_explains 156 = .ok (.goto 4, 3) := by decide +kernel
theorem dX4_explains_159 : decode cX4_explains 159 = .ok (.iconst (-1), 1) := by decide +kernel
theorem dX4_explains_160 : decode cX4_explains 160 = .ok (.istore_n 3, 1) := by decide +kernel
theorem dX4_explains_161 : decode cX4_explains 161 = .ok (.iload_n 2, 1) := by decide +kernel
theorem dX4_explains_162 : decode cX4_explains 162 = .ok (.iload 6, 2) := by decide +kernel
theorem dX4_explains_164 : decode cX4_explains 164 = .ok (.ifCond .eq 7, 3) := by decide +kernel
theorem dX4_explains_167 : decode cX4_explains 167 = .ok (.iconst 1, 1) := by decide +kernel
theorem dX4_explains_168 : decode cX4_explains 168 = .ok (.goto 4, 3) := by decide +kernel
theorem dX4_explains_171 : decode cX4_explains 171 = .ok (.iconst 0, 1) := by decide +kernel
theorem dX4_explains_172 : decode cX4_explains 172 = .ok (.isub, 1) := by decide +kernel
theorem dX4_explains_173 : decode cX4_explains 173 = .ok (.istore_n 2, 1) := by decide +kernel
theorem dX4_explains_174 : decode cX4_explains 174 = .ok (.iinc 5 1, 3) := by decide +kernel
theorem dX4_explains_177 : decode cX4_explains 177 = .ok (.goto (-88), 3) := by decide +kernel
theorem dX4_explains_180 : decode cX4_explains 180 = .ok (.iinc 4 1, 3) := by decide +kernel
theorem dX4_explains_183 : decode cX4_explains 183 = .ok (.goto (-111), 3) := by decide +kernel
theorem dX4_explains_186 : decode cX4_explains 186 = .ok (.iload_n 3, 1) := by decide +kernel
theorem dX4_explains_187 : decode cX4_explains 187 = .ok (.ireturn, 1) := by decide +kernel
theorem dX4_patch_0 : decode cX4_patch 0 = .ok (.aload_n 0, 1) := by decide +kernel
theorem dX4_patch_1 : decode cX4_patch 1 = .ok (.iload_n 1, 1) := by decide +kernel
theorem dX4_patch_2 : decode cX4_patch 2 = .ok (.invokevirtual 75, 3) := by decide +kernel
theorem dX4_patch_5 : decode cX4_patch 5 = .ok (.ifCond .ne 6, 3) := by decide +kernel
theorem dX4_patch_8 : decode cX4_patch 8 = .ok (.bipush (-2), 2) := by decide +kernel
theorem dX4_patch_10 : decode cX4_patch 10 = .ok (.ireturn, 1) := by decide +kernel
theorem dX4_patch_11 : decode cX4_patch 11 = .ok (.aload_n 0, 1) := by decide +kernel
theorem dX4_patch_12 : decode cX4_patch 12 = .ok (.iload_n 2, 1) := by decide +kernel
theorem dX4_patch_13 : decode cX4_patch 13 = .ok (.invokevirtual 78, 3) := by decide +kernel
theorem dX4_patch_16 : decode cX4_patch 16 = .ok (.ifCond .ne 6, 3) := by decide +kernel
theorem dX4_patch_19 : decode cX4_patch 19 = .ok (.bipush (-3), 2) := by decide +kernel
theorem dX4_patch_21 : decode cX4_patch 21 = .ok (.ireturn, 1) := by decide +kernel
theorem dX4_patch_22 : decode cX4_patch 22 = .ok (.aload_n 0, 1) := by decide +kernel
theorem dX4_patch_23 : decode cX4_patch 23 = .ok (.getfield 7, 3) := by decide +kernel
theorem dX4_patch_26 : decode cX4_patch 26 = .ok (.sipush 141, 3) := by decide +kernel
theorem dX4_patch_29 : decode cX4_patch 29 = .ok (.iload_n 1, 1) := by decide +kernel
theorem dX4_patch_30 : decode cX4_patch 30 = .ok (.iadd, 1) := by decide +kernel
theorem dX4_patch_31 : decode cX4_patch 31 = .ok (.iaload, 1) := by decide +kernel
theorem dX4_patch_32 : decode cX4_patch 32 = .ok (.iconst (-1), 1) := by decide +kernel
theorem dX4_patch_33 : decode cX4_patch 33 = .ok (.if_icmp .ne 14, 3) := by decide +kernel
theorem dX4_patch_36 : decode cX4_patch 36 = .ok (.aload_n 0, 1) := by decide +kernel
theorem dX4_patch_37 : decode cX4_patch 37 = .ok (.invokevirtual 68, 3) := by decide +kernel
theorem dX4_patch_40 : decode cX4_patch 40 = .ok (.iconst 4, 1) := by decide +kernel
theorem dX4_patch_41 : decode cX4_patch 41 = .ok (.if_icmp .ne 6, 3) := by decide +kernel
theorem dX4_patch_44 : decode cX4_patch 44 = .ok (.bipush (-5), 2) := by decide +kernel
theorem dX4_patch_46 : decode cX4_patch 46 = .ok (.ireturn, 1) := by decide +kernel
theorem dX4_patch_47 : decode cX4_patch 47 = .ok (.aload_n 0, 1) := by decide +kernel
theorem dX4_patch_48 : decode cX4_patch 48 = .ok (.invokevirtual 62, 3) := by decide +kernel
theorem dX4_patch_51 : decode cX4_patch 51 = .ok (.aload_n 0, 1) := by decide +kernel
theorem dX4_patch_52 : decode cX4_patch 52 = .ok (.getfield 7, 3) := by decide +kernel
theorem dX4_patch_55 : decode cX4_patch 55 = .ok (.sipush 141, 3) := by decide +kernel
theorem dX4_patch_58 : decode cX4_patch 58 = .ok (.iload_n 1, 1) := by decide +kernel
theorem dX4_patch_59 : decode cX4_patch 59 = .ok (.iadd, 1) := by decide +kernel
theorem dX4_patch_60 : decode cX4_patch 60 = .ok (.iload_n 2, 1) := by decide +kernel
theorem dX4_patch_61 : decode cX4_patch 61 = .ok (.iastore, 1) := by decide +kernel
theorem dX4_patch_62 : decode cX4_patch 62 = .ok (.aload_n 0, 1) := by decide +kernel
theorem dX4_patch_63 : decode cX4_patch 63 = .ok (.invokevirtual 68, 3) := by decide +kernel
theorem dX4_patch_66 : decode cX4_patch 66 = .ok (.ireturn, 1) := by decide +kernel
theorem dX4_unpatch_0 : decode cX4_unpatch 0 = .ok (.aload_n 0, 1) := by decide +kernel
theorem dX4_unpatch_1 : decode cX4_unpatch 1 = .ok (.iload_n 1, 1) := by decide +kernel
theorem dX4_unpatch_2 : decode cX4_unpatch 2 = .ok (.invokevirtual 75, 3) := by decide +kernel
theorem dX4_unpatch_5 : decode cX4_unpatch 5 = .ok (.ifCond .ne 6, 3) := by decide +kernel
theorem dX4_unpatch_8 : decode cX4_unpatch 8 = .ok (.bipush (-2), 2) := by decide +kernel
theorem dX4_unpatch_10 : decode cX4_unpatch 10 = .ok (.ireturn, 1) := by decide +kernel
theorem dX4_unpatch_11 : decode cX4_unpatch 11 = .ok (.aload_n 0, 1) := by decide +kernel
theorem dX4_unpatch_12 : decode cX4_unpatch 12 = .ok (.getfield 7, 3) := by decide +kernel
theorem dX4_unpatch_15 : decode cX4_unpatch 15 = .ok (.sipush 141, 3) := by decide +kernel
theorem dX4_unpatch_18 : decode cX4_unpatch 18 = .ok (.iload_n 1, 1) := by decide +kernel
theorem dX4_unpatch_19 : decode cX4_unpatch 19 = .ok (.iadd, 1) := by decide +kernel
theorem dX4_unpatch_20 : decode cX4_unpatch 20 = .ok (.iaload, 1) := by decide +kernel
theorem dX4_unpatch_21 : decode cX4_unpatch 21 = .ok (.iconst (-1), 1) := by decide +kernel
theorem dX4_unpatch_22 : decode cX4_unpatch 22 = .ok (.if_icmp .ne 6, 3) := by decide +kernel
theorem dX4_unpatch_25 : decode cX4_unpatch 25 = .ok (.bipush (-4), 2) := by decide +kernel
theorem dX4_unpatch_27 : decode cX4_unpatch 27 = .ok (.ireturn, 1) := by decide +kernel
theorem dX4_unpatch_28 : decode cX4_unpatch 28 = .ok (.aload_n 0, 1) := by decide +kernel
theorem dX4_unpatch_29 : decode cX4_unpatch 29 = .ok (.invokevirtual 62, 3) := by decide +kernel
theorem dX4_unpatch_32 : decode cX4_unpatch 32 = .ok (.aload_n 0, 1) := by decide +kernel
theorem dX4_unpatch_33 : decode cX4_unpatch 33 = .ok (.getfield 7, 3) := by decide +kernel
theorem dX4_unpatch_36 : decode cX4_unpatch 36 = .ok (.sipush 141, 3) := by decide +kernel
theorem dX4_unpatch_39 : decode cX4_unpatch 39 = .ok (.iload_n 1, 1) := by decide +kernel
theorem dX4_unpatch_40 : decode cX4_unpatch 40 = .ok (.iadd, 1) := by decide +kernel
theorem dX4_unpatch_41 : decode cX4_unpatch 41 = .ok (.iconst (-1), 1) := by decide +kernel
theorem dX4_unpatch_42 : decode cX4_unpatch 42 = .ok (.iastore, 1) := by decide +kernel
theorem dX4_unpatch_43 : decode cX4_unpatch 43 = .ok (.aload_n 0, 1) := by decide +kernel
theorem dX4_unpatch_44 : decode cX4_unpatch 44 = .ok (.invokevirtual 68, 3) := by decide +kernel
theorem dX4_unpatch_47 : decode cX4_unpatch 47 = .ok (.ireturn, 1) := by decide +kernel
theorem dX4_patchAll_0 : decode cX4_patchAll 0 = .ok (.aload_n 0, 1) := by decide +kernel
theorem dX4_patchAll_1 : decode cX4_patchAll 1 = .ok (.invokevirtual 62, 3) := by decide +kernel
theorem dX4_patchAll_4 : decode cX4_patchAll 4 = .ok (.aload_n 0, 1) := by decide +kernel
theorem dX4_patchAll_5 : decode cX4_patchAll 5 = .ok (.invokevirtual 84, 3) := by decide +kernel
theorem dX4_patchAll_8 : decode cX4_patchAll 8 = .ok (.iconst 0, 1) := by decide +kernel
theorem dX4_patchAll_9 : decode cX4_patchAll 9 = .ok (.istore_n 1, 1) := by decide +kernel
theorem dX4_patchAll_10 : decode cX4_patchAll 10 = .ok (.iload_n 1, 1) := by decide +kernel
theorem dX4_patchAll_11 : decode cX4_patchAll 11 = .ok (.aload_n 0, 1) := by decide +kernel
theorem dX4_patchAll_12 : decode cX4_patchAll 12 = .ok (.invokevirtual 42, 3) := by decide +kernel
theorem dX4_patchAll_15 : decode cX4_patchAll 15 = .ok (.if_icmp .ge 46, 3) := by decide +kernel
theorem dX4_patchAll_18 : decode cX4_patchAll 18 = .ok (.aload_n 0, 1) := by decide +kernel
theorem dX4_patchAll_19 : decode cX4_patchAll 19 = .ok (.getfield 7, 3) := by decide +kernel
theorem dX4_patchAll_22 : decode cX4_patchAll 22 = .ok (.sipush 141, 3) := by decide +kernel
theorem dX4_patchAll_25 : decode cX4_patchAll 25 = .ok (.iload_n 1, 1) := by decide +kernel
theorem dX4_patchAll_26 : decode cX4_patchAll 26 = .ok (.iadd, 1) := by decide +kernel
theorem dX4_patchAll_27 : decode cX4_patchAll 27 = .ok (.aload_n 0, 1) := by decide +kernel
theorem dX4_patchAll_28 : decode cX4_patchAll 28 = .ok (.getfield 7, 3) := by decide +kernel
theorem dX4_patchAll_31 : decode cX4_patchAll 31 = .ok (.sipush 141, 3) := by decide +kernel
theorem dX4_patchAll_34 : decode cX4_patchAll 34 = .ok (.iload_n 1, 1) := by decide +kernel
theorem dX4_patchAll_35 : decode cX4_patchAll 35 = .ok (.iadd, 1) := by decide +kernel
theorem dX4_patchAll_36 : decode cX4_patchAll 36 = .ok (.iaload, 1) := by decide +kernel
theorem dX4_patchAll_37 : decode cX4_patchAll 37 = .ok (.iconst (-1), 1) := by decide +kernel
theorem dX4_patchAll_38 : decode cX4_patchAll 38 = .ok (.if_icmp .ne 7, 3) := by decide +kernel
theorem dX4_patchAll_41 : decode cX4_patchAll 41 = .ok (.iconst (-1), 1) := by decide +kernel
theorem dX4_patchAll_42 : decode cX4_patchAll 42 = .ok (.goto 12, 3) := by decide +kernel
theorem dX4_patchAll_45 : decode cX4_patchAll 45 = .ok (.aload_n 0, 1) := by decide +kernel
theorem dX4_patchAll_46 : decode cX4_patchAll 46 = .ok (.getfield 7, 3) := by decide +kernel
theorem dX4_patchAll_49 : decode cX4_patchAll 49 = .ok (.bipush 19, 2) := by decide +kernel
theorem dX4_patchAll_51 : decode cX4_patchAll 51 = .ok (.iload_n 1, 1) := by decide +kernel
theorem dX4_patchAll_52 : decode cX4_patchAll 52 = .ok (.iadd, 1) := by decide +kernel
theorem dX4_patchAll_53 : decode cX4_patchAll 53 = .ok (.iaload, 1) := by decide +kernel
theorem dX4_patchAll_54 : decode cX4_patchAll 54 = .ok (.iastore, 1) := by decide +kernel
theorem dX4_patchAll_55 : decode cX4_patchAll 55 = .ok (.iinc 1 1, 3) := by decide +kernel
theorem dX4_patchAll_58 : decode cX4_patchAll 58 = .ok (.goto (-48), 3) := by decide +kernel
theorem dX4_patchAll_61 : decode cX4_patchAll 61 = .ok (.aload_n 0, 1) := by decide +kernel
theorem dX4_patchAll_62 : decode cX4_patchAll 62 = .ok (.invokevirtual 68, 3) := by decide +kernel
theorem dX4_patchAll_65 : decode cX4_patchAll 65 = .ok (.istore_n 1, 1) := by decide +kernel
theorem dX4_patchAll_66 : decode cX4_patchAll 66 = .ok (.iconst 0, 1) := by decide +kernel
theorem dX4_patchAll_67 : decode cX4_patchAll 67 = .ok (.istore_n 2, 1) := by decide +kernel
theorem dX4_patchAll_68 : decode cX4_patchAll 68 = .ok (.iload_n 2, 1) := by decide +kernel
theorem dX4_patchAll_69 : decode cX4_patchAll 69 = .ok (.aload_n 0, 1) := by decide +kernel
theorem dX4_patchAll_70 : decode cX4_patchAll 70 = .ok (.invokevirtual 42, 3) := by decide +kernel
theorem dX4_patchAll_73 : decode cX4_patchAll 73 = .ok (.if_icmp .ge 53, 3) := by decide +kernel
theorem dX4_patchAll_76 : decode cX4_patchAll 76 = .ok (.iload_n 1, 1) := by decide +kernel
theorem dX4_patchAll_77 : decode cX4_patchAll 77 = .ok (.iconst 4, 1) := by decide +kernel
theorem dX4_patchAll_78 : decode cX4_patchAll 78 = .ok (.if_icmp .ge 48, 3) := by decide +kernel
theorem dX4_patchAll_81 : decode cX4_patchAll 81 = .ok (.aload_n 0, 1) := by decide +kernel
theorem dX4_patchAll_82 : decode cX4_patchAll 82 = .ok (.iload_n 2, 1) := by decide +kernel
theorem dX4_patchAll_83 : decode cX4_patchAll 83 = .ok (.invokevirtual 96, 3) := by decide +kernel
theorem dX4_patchAll_86 : decode cX4_patchAll 86 = .ok (.aload_n 0, 1) := by decide +kernel
theorem dX4_patchAll_87 : decode cX4_patchAll 87 = .ok (.getfield 7, 3) := by decide +kernel
theorem dX4_patchAll_90 : decode cX4_patchAll 90 = .ok (.bipush 19, 2) := by decide +kernel
theorem dX4_patchAll_92 : decode cX4_patchAll 92 = .ok (.iload_n 2, 1) := by decide +kernel
theorem dX4_patchAll_93 : decode cX4_patchAll 93 = .ok (.iadd, 1) := by decide +kernel
theorem dX4_patchAll_94 : decode cX4_patchAll 94 = .ok (.iaload, 1) := by decide +kernel
theorem dX4_patchAll_95 : decode cX4_patchAll 95 = .ok (.if_icmp .eq 25, 3) := by decide +kernel
theorem dX4_patchAll_98 : decode cX4_patchAll 98 = .ok (.aload_n 0, 1) := by decide +kernel
theorem dX4_patchAll_99 : decode cX4_patchAll 99 = .ok (.getfield 7, 3) := by decide +kernel
theorem dX4_patchAll_102 : decode cX4_patchAll 102 = .ok (.sipush 141, 3) := by decide +kernel
theorem dX4_patchAll_105 : decode cX4_patchAll 105 = .ok (.iload_n 2, 1) := by decide +kernel
theorem dX4_patchAll_106 : decode cX4_patchAll 106 = .ok (.iadd, 1) := by decide +kernel
theorem dX4_patchAll_107 : decode cX4_patchAll 107 = .ok (.aload_n 0, 1) := by decide +kernel
theorem dX4_patchAll_108 : decode cX4_patchAll 108 = .ok (.getfield 7, 3) := by decide +kernel
theorem dX4_patchAll_111 : decode cX4_patchAll 111 = .ok (.bipush 19, 2) := by decide +kernel
theorem dX4_patchAll_113 : decode cX4_patchAll 113 = .ok (.iload_n 2, 1) := by decide +kernel
theorem dX4_patchAll_114 : decode cX4_patchAll 114 = .ok (.iadd, 1) := by decide +kernel
theorem dX4_patchAll_115 : decode cX4_patchAll 115 = .ok (.iaload, 1) := by decide +kernel
theorem dX4_patchAll_116 : decode cX4_patchAll 116 = .ok (.iastore, 1) := by decide +kernel
theorem dX4_patchAll_117 : decode cX4_patchAll 117 = .ok (.iinc 1 1, 3) := by decide +kernel
theorem dX4_patchAll_120 : decode cX4_patchAll 120 = .ok (.iinc 2 1, 3) := by decide +kernel
theorem dX4_patchAll_123 : decode cX4_patchAll 123 = .ok (.goto (-55), 3) := by decide +kernel
theorem dX4_patchAll_126 : decode cX4_patchAll 126 = .ok (.aload_n 0, 1) := by decide +kernel
theorem dX4_patchAll_127 : decode cX4_patchAll 127 = .ok (.iconst 0, 1) := by decide +kernel
theorem dX4_patchAll_128 : decode cX4_patchAll 128 = .ok (.invokevirtual 102, 3) := by decide +kernel
end
section
theorem dX4_patchAll_131 : decode cX4_patchAll 131 = .ok (.ireturn, 1) := by decide +kernel
theorem dX4_patchOf_0 : decode cX4_patchOf 0 = .ok (.aload_n 0, 1) := by decide +kernel
theorem dX4_patchOf_1 : decode cX4_patchOf 1 = .ok (.iload_n 1, 1) := by decide +kernel
theorem dX4_patchOf_2 : decode cX4_patchOf 2 = .ok (.invokevirtual 75, 3) := by decide +kernel
theorem dX4_patchOf_5 : decode cX4_patchOf 5 = .ok (.ifCond .eq 16, 3) := by decide +kernel
theorem dX4_patchOf_8 : decode cX4_patchOf 8 = .ok (.aload_n 0, 1) := by decide +kernel
theorem dX4_patchOf_9 : decode cX4_patchOf 9 = .ok (.getfield 7, 3) := by decide +kernel
theorem dX4_patchOf_12 : decode cX4_patchOf 12 = .ok (.sipush 141, 3) := by decide +kernel
theorem dX4_patchOf_15 : decode cX4_patchOf 15 = .ok (.iload_n 1, 1) := by decide +kernel
theorem dX4_patchOf_16 : decode cX4_patchOf 16 = .ok (.iadd, 1) := by decide +kernel
theorem dX4_patchOf_17 : decode cX4_patchOf 17 = .ok (.iaload, 1) := by decide +kernel
theorem dX4_patchOf_18 : decode cX4_patchOf 18 = .ok (.goto 5, 3) := by decide +kernel
theorem dX4_patchOf_21 : decode cX4_patchOf 21 = .ok (.bipush (-2), 2) := by decide +kernel
theorem dX4_patchOf_23 : decode cX4_patchOf 23 = .ok (.ireturn, 1) := by decide +kernel
theorem dX4_undo_0 : decode cX4_undo 0 = .ok (.aload_n 0, 1) := by decide +kernel
theorem dX4_undo_1 : decode cX4_undo 1 = .ok (.getfield 26, 3) := by decide +kernel
theorem dX4_undo_4 : decode cX4_undo 4 = .ok (.ifCond .ne 6, 3) := by decide +kernel
theorem dX4_undo_7 : decode cX4_undo 7 = .ok (.bipush (-4), 2) := by decide +kernel
theorem dX4_undo_9 : decode cX4_undo 9 = .ok (.ireturn, 1) := by decide +kernel
theorem dX4_undo_10 : decode cX4_undo 10 = .ok (.aload_n 0, 1) := by decide +kernel
theorem dX4_undo_11 : decode cX4_undo 11 = .ok (.aload_n 0, 1) := by decide +kernel
theorem dX4_undo_12 : decode cX4_undo 12 = .ok (.getfield 26, 3) := by decide +kernel
theorem dX4_undo_15 : decode cX4_undo 15 = .ok (.iconst 0, 1) := by decide +kernel
theorem dX4_undo_16 : decode cX4_undo 16 = .ok (.invokevirtual 30, 3) := by decide +kernel
theorem dX4_undo_19 : decode cX4_undo 19 = .ok (.aload_n 0, 1) := by decide +kernel
theorem dX4_undo_20 : decode cX4_undo 20 = .ok (.dup, 1) := by decide +kernel
theorem dX4_undo_21 : decode cX4_undo 21 = .ok (.getfield 26, 3) := by decide +kernel
theorem dX4_undo_24 : decode cX4_undo 24 = .ok (.iconst 1, 1) := by decide +kernel
theorem dX4_undo_25 : decode cX4_undo 25 = .ok (.isub, 1) := by decide +kernel
theorem dX4_undo_26 : decode cX4_undo 26 = .ok (.putfield 26, 3) := by decide +kernel
theorem dX4_undo_29 : decode cX4_undo 29 = .ok (.aload_n 0, 1) := by decide +kernel
theorem dX4_undo_30 : decode cX4_undo 30 = .ok (.getfield 26, 3) := by decide +kernel
theorem dX4_undo_33 : decode cX4_undo 33 = .ok (.ireturn, 1) := by decide +kernel
theorem dX4_type_0 : decode cX4_type 0 = .ok (.iload_n 1, 1) := by decide +kernel
theorem dX4_type_1 : decode cX4_type 1 = .ok (.iconst 0, 1) := by decide +kernel
theorem dX4_type_2 : decode cX4_type 2 = .ok (.sipush 255, 3) := by decide +kernel
theorem dX4_type_5 : decode cX4_type 5 = .ok (.invokestatic 34, 3) := by decide +kernel
theorem dX4_type_8 : decode cX4_type 8 = .ok (.ifCond .ne 6, 3) := by decide +kernel
theorem dX4_type_11 : decode cX4_type 11 = .ok (.bipush (-3), 2) := by decide +kernel
theorem dX4_type_13 : decode cX4_type 13 = .ok (.ireturn, 1) := by decide +kernel
theorem dX4_type_14 : decode cX4_type 14 = .ok (.aload_n 0, 1) := by decide +kernel
theorem dX4_type_15 : decode cX4_type 15 = .ok (.getfield 109, 3) := by decide +kernel
theorem dX4_type_18 : decode cX4_type 18 = .ok (.bipush 100, 2) := by decide +kernel
theorem dX4_type_20 : decode cX4_type 20 = .ok (.if_icmp .ne 6, 3) := by decide +kernel
theorem dX4_type_23 : decode cX4_type 23 = .ok (.bipush (-5), 2) := by decide +kernel
theorem dX4_type_25 : decode cX4_type 25 = .ok (.ireturn, 1) := by decide +kernel
theorem dX4_type_26 : decode cX4_type 26 = .ok (.aload_n 0, 1) := by decide +kernel
theorem dX4_type_27 : decode cX4_type 27 = .ok (.getfield 19, 3) := by decide +kernel
theorem dX4_type_30 : decode cX4_type 30 = .ok (.aload_n 0, 1) := by decide +kernel
theorem dX4_type_31 : decode cX4_type 31 = .ok (.getfield 109, 3) := by decide +kernel
theorem dX4_type_34 : decode cX4_type 34 = .ok (.iload_n 1, 1) := by decide +kernel
theorem dX4_type_35 : decode cX4_type 35 = .ok (.iastore, 1) := by decide +kernel
theorem dX4_type_36 : decode cX4_type 36 = .ok (.aload_n 0, 1) := by decide +kernel
theorem dX4_type_37 : decode cX4_type 37 = .ok (.dup, 1) := by decide +kernel
theorem dX4_type_38 : decode cX4_type 38 = .ok (.getfield 109, 3) := by decide +kernel
theorem dX4_type_41 : decode cX4_type 41 = .ok (.iconst 1, 1) := by decide +kernel
theorem dX4_type_42 : decode cX4_type 42 = .ok (.iadd, 1) := by decide +kernel
theorem dX4_type_43 : decode cX4_type 43 = .ok (.putfield 109, 3) := by decide +kernel
theorem dX4_type_46 : decode cX4_type 46 = .ok (.aload_n 0, 1) := by decide +kernel
theorem dX4_type_47 : decode cX4_type 47 = .ok (.getfield 109, 3) := by decide +kernel
theorem dX4_type_50 : decode cX4_type 50 = .ok (.ireturn, 1) := by decide +kernel
theorem dX4_clearText_0 : decode cX4_clearText 0 = .ok (.aload_n 0, 1) := by decide +kernel
theorem dX4_clearText_1 : decode cX4_clearText 1 = .ok (.getfield 109, 3) := by decide +kernel
theorem dX4_clearText_4 : decode cX4_clearText 4 = .ok (.istore_n 1, 1) := by decide +kernel
theorem dX4_clearText_5 : decode cX4_clearText 5 = .ok (.aload_n 0, 1) := by decide +kernel
theorem dX4_clearText_6 : decode cX4_clearText 6 = .ok (.iconst 0, 1) := by decide +kernel
theorem dX4_clearText_7 : decode cX4_clearText 7 = .ok (.putfield 109, 3) := by decide +kernel
theorem dX4_clearText_10 : decode cX4_clearText 10 = .ok (.iload_n 1, 1) := by decide +kernel
theorem dX4_clearText_11 : decode cX4_clearText 11 = .ok (.ireturn, 1) := by decide +kernel
theorem dX4_here_0 : decode cX4_here 0 = .ok (.aload_n 0, 1) := by decide +kernel
theorem dX4_here_1 : decode cX4_here 1 = .ok (.getfield 112, 3) := by decide +kernel
theorem dX4_here_4 : decode cX4_here 4 = .ok (.aload_n 0, 1) := by decide +kernel
theorem dX4_here_5 : decode cX4_here 5 = .ok (.getfield 109, 3) := by decide +kernel
theorem dX4_here_8 : decode cX4_here 8 = .ok (.if_icmp .ge 30, 3) := by decide +kernel
theorem dX4_here_11 : decode cX4_here 11 = .ok (.aload_n 0, 1) := by decide +kernel
theorem dX4_here_12 : decode cX4_here 12 = .ok (.getfield 19, 3) := by decide +kernel
theorem dX4_here_15 : decode cX4_here 15 = .ok (.aload_n 0, 1) := by decide +kernel
theorem dX4_here_16 : decode cX4_here 16 = .ok (.getfield 112, 3) := by decide +kernel
theorem dX4_here_19 : decode cX4_here 19 = .ok (.iaload, 1) := by decide +kernel
theorem dX4_here_20 : decode cX4_here 20 = .ok (.bipush 32, 2) := by decide +kernel
theorem dX4_here_22 : decode cX4_here 22 = .ok (.if_icmp .ne 16, 3) := by decide +kernel
theorem dX4_here_25 : decode cX4_here 25 = .ok (.aload_n 0, 1) := by decide +kernel
theorem dX4_here_26 : decode cX4_here 26 = .ok (.dup, 1) := by decide +kernel
theorem dX4_here_27 : decode cX4_here 27 = .ok (.getfield 112, 3) := by decide +kernel
theorem dX4_here_30 : decode cX4_here 30 = .ok (.iconst 1, 1) := by decide +kernel
theorem dX4_here_31 : decode cX4_here 31 = .ok (.iadd, 1) := by decide +kernel
theorem dX4_here_32 : decode cX4_here 32 = .ok (.putfield 112, 3) := by decide +kernel
theorem dX4_here_35 : decode cX4_here 35 = .ok (.goto (-35), 3) := by decide +kernel
theorem dX4_here_38 : decode cX4_here 38 = .ok (.aload_n 0, 1) := by decide +kernel
theorem dX4_here_39 : decode cX4_here 39 = .ok (.getfield 112, 3) := by decide +kernel
theorem dX4_here_42 : decode cX4_here 42 = .ok (.aload_n 0, 1) := by decide +kernel
theorem dX4_here_43 : decode cX4_here 43 = .ok (.getfield 109, 3) := by decide +kernel
theorem dX4_here_46 : decode cX4_here 46 = .ok (.if_icmp .ge 15, 3) := by decide +kernel
theorem dX4_here_49 : decode cX4_here 49 = .ok (.aload_n 0, 1) := by decide +kernel
theorem dX4_here_50 : decode cX4_here 50 = .ok (.getfield 19, 3) := by decide +kernel
theorem dX4_here_53 : decode cX4_here 53 = .ok (.aload_n 0, 1) := by decide +kernel
theorem dX4_here_54 : decode cX4_here 54 = .ok (.getfield 112, 3) := by decide +kernel
theorem dX4_here_57 : decode cX4_here 57 = .ok (.iaload, 1) := by decide +kernel
theorem dX4_here_58 : decode cX4_here 58 = .ok (.goto 4, 3) := by decide +kernel
theorem dX4_here_61 : decode cX4_here 61 = .ok (.iconst (-1), 1) := by decide +kernel
theorem dX4_here_62 : decode cX4_here 62 = .ok (.ireturn, 1) := by decide +kernel
theorem dX4_readsWord_0 : decode cX4_readsWord 0 = .ok (.aload_n 0, 1) := by decide +kernel
theorem dX4_readsWord_1 : decode cX4_readsWord 1 = .ok (.invokevirtual 115, 3) := by decide +kernel
theorem dX4_readsWord_4 : decode cX4_readsWord 4 = .ok (.istore_n 2, 1) := by decide +kernel
theorem dX4_readsWord_5 : decode cX4_readsWord 5 = .ok (.aload_n 0, 1) := by decide +kernel
theorem dX4_readsWord_6 : decode cX4_readsWord 6 = .ok (.getfield 112, 3) := by decide +kernel
theorem dX4_readsWord_9 : decode cX4_readsWord 9 = .ok (.istore_n 3, 1) := by decide +kernel
theorem dX4_readsWord_10 : decode cX4_readsWord 10 = .ok (.iconst 0, 1) := by decide +kernel
theorem dX4_readsWord_11 : decode cX4_readsWord 11 = .ok (.istore 4, 2) := by decide +kernel
theorem dX4_readsWord_13 : decode cX4_readsWord 13 = .ok (.iload_n 2, 1) := by decide +kernel
theorem dX4_readsWord_14 : decode cX4_readsWord 14 = .ok (.ifCond .lt 65, 3) := by decide +kernel
theorem dX4_readsWord_17 : decode cX4_readsWord 17 = .ok (.iload_n 3, 1) := by decide +kernel
theorem dX4_readsWord_18 : decode cX4_readsWord 18 = .ok (.aload_n 0, 1) := by decide +kernel
theorem dX4_readsWord_19 : decode cX4_readsWord 19 = .ok (.getfield 109, 3) := by decide +kernel
theorem dX4_readsWord_22 : decode cX4_readsWord 22 = .ok (.if_icmp .ge 57, 3) := by decide +kernel
theorem dX4_readsWord_25 : decode cX4_readsWord 25 = .ok (.aload_n 0, 1) := by decide +kernel
theorem dX4_readsWord_26 : decode cX4_readsWord 26 = .ok (.getfield 19, 3) := by decide +kernel
theorem dX4_readsWord_29 : decode cX4_readsWord 29 = .ok (.iload_n 3, 1) := by decide +kernel
theorem dX4_readsWord_30 : decode cX4_readsWord 30 = .ok (.iaload, 1) := by decide +kernel
theorem dX4_readsWord_31 : decode cX4_readsWord 31 = .ok (.bipush 48, 2) := by decide +kernel
theorem dX4_readsWord_33 : decode cX4_readsWord 33 = .ok (.bipush 55, 2) := by decide +kernel
theorem dX4_readsWord_35 : decode cX4_readsWord 35 = .ok (.invokestatic 34, 3) := by decide +kernel
theorem dX4_readsWord_38 : decode cX4_readsWord 38 = .ok (.ifCond .eq 41, 3) := by decide +kernel
theorem dX4_readsWord_41 : decode cX4_readsWord 41 = .ok (.iload_n 3, 1) := by decide +kernel
theorem dX4_readsWord_42 : decode cX4_readsWord 42 = .ok (.aload_n 0, 1) := by decide +kernel
theorem dX4_readsWord_43 : decode cX4_readsWord 43 = .ok (.getfield 112, 3) := by decide +kernel
theorem dX4_readsWord_46 : decode cX4_readsWord 46 = .ok (.isub, 1) := by decide +kernel
theorem dX4_readsWord_47 : decode cX4_readsWord 47 = .ok (.iconst 5, 1) := by decide +kernel
theorem dX4_readsWord_48 : decode cX4_readsWord 48 = .ok (.if_icmp .ge 21, 3) := by decide +kernel
theorem dX4_readsWord_51 : decode cX4_readsWord 51 = .ok (.bipush 8, 2) := by decide +kernel
theorem dX4_readsWord_53 : decode cX4_readsWord 53 = .ok (.iload 4, 2) := by decide +kernel
theorem dX4_readsWord_55 : decode cX4_readsWord 55 = .ok (.imul, 1) := by decide +kernel
theorem dX4_readsWord_56 : decode cX4_readsWord 56 = .ok (.aload_n 0, 1) := by decide +kernel
theorem dX4_readsWord_57 : decode cX4_readsWord 57 = .ok (.getfield 19, 3) := by decide +kernel
theorem dX4_readsWord_60 : decode cX4_readsWord 60 = .ok (.iload_n 3, 1) := by decide +kernel
theorem dX4_readsWord_61 : decode cX4_readsWord 61 = .ok (.iaload, 1) := by decide +kernel
theorem dX4_readsWord_62 : decode cX4_readsWord 62 = .ok (.iadd, 1) := by decide +kernel
theorem dX4_readsWord_63 : decode cX4_readsWord 63 = .ok (.bipush 48, 2) := by decide +kernel
theorem dX4_readsWord_65 : decode cX4_readsWord 65 = .ok (.isub, 1) := by decide +kernel
theorem dX4_readsWord_66 : decode cX4_readsWord 66 = .ok (.goto 5, 3) := by decide +kernel
theorem dX4_readsWord_69 : decode cX4_readsWord 69 = .ok (.iload 4, 2) := by decide +kernel
theorem dX4_readsWord_71 : decode cX4_readsWord 71 = .ok (.istore 4, 2) := by decide +kernel
theorem dX4_readsWord_73 : decode cX4_readsWord 73 = .ok (.iinc 3 1, 3) := by decide +kernel
theorem dX4_readsWord_76 : decode cX4_readsWord 76 = .ok (.goto (-63), 3) := by decide +kernel
theorem dX4_readsWord_79 : decode cX4_readsWord 79 = .ok (.iload_n 3, 1) := by decide +kernel
theorem dX4_readsWord_80 : decode cX4_readsWord 80 = .ok (.aload_n 0, 1) := by decide +kernel
theorem dX4_readsWord_81 : decode cX4_readsWord 81 = .ok (.getfield 112, 3) := by decide +kernel
theorem dX4_readsWord_84 : decode cX4_readsWord 84 = .ok (.if_icmp .eq 33, 3) := by decide +kernel
theorem dX4_readsWord_87 : decode cX4_readsWord 87 = .ok (.iload_n 3, 1) := by decide +kernel
theorem dX4_readsWord_88 : decode cX4_readsWord 88 = .ok (.aload_n 0, 1) := by decide +kernel
theorem dX4_readsWord_89 : decode cX4_readsWord 89 = .ok (.getfield 112, 3) := by decide +kernel
theorem dX4_readsWord_92 : decode cX4_readsWord 92 = .ok (.isub, 1) := by decide +kernel
theorem dX4_readsWord_93 : decode cX4_readsWord 93 = .ok (.iconst 4, 1) := by decide +kernel
theorem dX4_readsWord_94 : decode cX4_readsWord 94 = .ok (.if_icmp .gt 23, 3) := by decide +kernel
theorem dX4_readsWord_97 : decode cX4_readsWord 97 = .ok (.aload_n 0, 1) := by decide +kernel
theorem dX4_readsWord_98 : decode cX4_readsWord 98 = .ok (.iload 4, 2) := by decide +kernel
theorem dX4_readsWord_100 : decode cX4_readsWord 100 = .ok (.invokevirtual 78, 3) := by decide +kernel
theorem dX4_readsWord_103 : decode cX4_readsWord 103 = .ok (.ifCond .eq 14, 3) := by decide +kernel
theorem dX4_readsWord_106 : decode cX4_readsWord 106 = .ok (.aload_n 0, 1) := by decide +kernel
theorem dX4_readsWord_107 : decode cX4_readsWord 107 = .ok (.getfield 118, 3) := by decide +kernel
theorem dX4_readsWord_110 : decode cX4_readsWord 110 = .ok (.aload_n 0, 1) := by decide +kernel
theorem dX4_readsWord_111 : decode cX4_readsWord 111 = .ok (.invokevirtual 42, 3) := by decide +kernel
theorem dX4_readsWord_114 : decode cX4_readsWord 114 = .ok (.if_icmp .ne 5, 3) := by decide +kernel
theorem dX4_readsWord_117 : decode cX4_readsWord 117 = .ok (.iconst 0, 1) := by decide +kernel
theorem dX4_readsWord_118 : decode cX4_readsWord 118 = .ok (.ireturn, 1) := by decide +kernel
theorem dX4_readsWord_119 : decode cX4_readsWord 119 = .ok (.aload_n 0, 1) := by decide +kernel
theorem dX4_readsWord_120 : decode cX4_readsWord 120 = .ok (.iload_n 3, 1) := by decide +kernel
theorem dX4_readsWord_121 : decode cX4_readsWord 121 = .ok (.putfield 112, 3) := by decide +kernel
theorem dX4_readsWord_124 : decode cX4_readsWord 124 = .ok (.aload_n 0, 1) := by decide +kernel
theorem dX4_readsWord_125 : decode cX4_readsWord 125 = .ok (.getfield 7, 3) := by decide +kernel
theorem dX4_readsWord_128 : decode cX4_readsWord 128 = .ok (.bipush 19, 2) := by decide +kernel
theorem dX4_readsWord_130 : decode cX4_readsWord 130 = .ok (.aload_n 0, 1) := by decide +kernel
theorem dX4_readsWord_131 : decode cX4_readsWord 131 = .ok (.getfield 118, 3) := by decide +kernel
theorem dX4_readsWord_134 : decode cX4_readsWord 134 = .ok (.iadd, 1) := by decide +kernel
theorem dX4_readsWord_135 : decode cX4_readsWord 135 = .ok (.iload_n 1, 1) := by decide +kernel
theorem dX4_readsWord_136 : decode cX4_readsWord 136 = .ok (.ifCond .eq 8, 3) := by decide +kernel
theorem dX4_readsWord_139 : decode cX4_readsWord 139 = .ok (.iload 4, 2) := by decide +kernel
theorem dX4_readsWord_141 : decode cX4_readsWord 141 = .ok (.goto 15, 3) := by decide +kernel
theorem dX4_readsWord_144 : decode cX4_readsWord 144 = .ok (.aload_n 0, 1) := by decide +kernel
theorem dX4_readsWord_145 : decode cX4_readsWord 145 = .ok (.getfield 7, 3) := by decide +kernel
theorem dX4_readsWord_148 : decode cX4_readsWord 148 = .ok (.bipush 19, 2) := by decide +kernel
theorem dX4_readsWord_150 : decode cX4_readsWord 150 = .ok (.aload_n 0, 1) := by decide +kernel
theorem dX4_readsWord_151 : decode cX4_readsWord 151 = .ok (.getfield 118, 3) := by decide +kernel
theorem dX4_readsWord_154 : decode cX4_readsWord 154 = .ok (.iadd, 1) := by decide +kernel
theorem dX4_readsWord_155 : decode cX4_readsWord 155 = .ok (.iaload, 1) := by decide +kernel
theorem dX4_readsWord_156 : decode cX4_readsWord 156 = .ok (.iastore, 1) := by decide +kernel
theorem dX4_readsWord_157 : decode cX4_readsWord 157 = .ok (.aload_n 0, 1) := by decide +kernel
theorem dX4_readsWord_158 : decode cX4_readsWord 158 = .ok (.dup, 1) := by decide +kernel
theorem dX4_readsWord_159 : decode cX4_readsWord 159 = .ok (.getfield 118, 3) := by decide +kernel
theorem dX4_readsWord_162 : decode cX4_readsWord 162 = .ok (.iconst 1, 1) := by decide +kernel
theorem dX4_readsWord_163 : decode cX4_readsWord 163 = .ok (.iadd, 1) := by decide +kernel
theorem dX4_readsWord_164 : decode cX4_readsWord 164 = .ok (.putfield 118, 3) := by decide +kernel
theorem dX4_readsWord_167 : decode cX4_readsWord 167 = .ok (.iconst 1, 1) := by decide +kernel
theorem dX4_readsWord_168 : decode cX4_readsWord 168 = .ok (.ireturn, 1) := by decide +kernel
theorem dX4_readsText_0 : decode cX4_readsText 0 = .ok (.aload_n 0, 1) := by decide +kernel
theorem dX4_readsText_1 : decode cX4_readsText 1 = .ok (.iconst 0, 1) := by decide +kernel
theorem dX4_readsText_2 : decode cX4_readsText 2 = .ok (.putfield 112, 3) := by decide +kernel
theorem dX4_readsText_5 : decode cX4_readsText 5 = .ok (.aload_n 0, 1) := by decide +kernel
theorem dX4_readsText_6 : decode cX4_readsText 6 = .ok (.iconst 0, 1) := by decide +kernel
theorem dX4_readsText_7 : decode cX4_readsText 7 = .ok (.putfield 118, 3) := by decide +kernel
theorem dX4_readsText_10 : decode cX4_readsText 10 = .ok (.aload_n 0, 1) := by decide +kernel
theorem dX4_readsText_11 : decode cX4_readsText 11 = .ok (.iload_n 1, 1) := by decide +kernel
theorem dX4_readsText_12 : decode cX4_readsText 12 = .ok (.invokevirtual 121, 3) := by decide +kernel
theorem dX4_readsText_15 : decode cX4_readsText 15 = .ok (.istore_n 2, 1) := by decide +kernel
theorem dX4_readsText_16 : decode cX4_readsText 16 = .ok (.aload_n 0, 1) := by decide +kernel
theorem dX4_readsText_17 : decode cX4_readsText 17 = .ok (.invokevirtual 115, 3) := by decide +kernel
theorem dX4_readsText_20 : decode cX4_readsText 20 = .ok (.istore_n 3, 1) := by decide +kernel
theorem dX4_readsText_21 : decode cX4_readsText 21 = .ok (.iload_n 2, 1) := by decide +kernel
theorem dX4_readsText_22 : decode cX4_readsText 22 = .ok (.ifCond .eq 48, 3) := by decide +kernel
theorem dX4_readsText_25 : decode cX4_readsText 25 = .ok (.iload_n 3, 1) := by decide +kernel
theorem dX4_readsText_26 : decode cX4_readsText 26 = .ok (.iconst (-1), 1) := by decide +kernel
theorem dX4_readsText_27 : decode cX4_readsText 27 = .ok (.if_icmp .eq 43, 3) := by decide +kernel
theorem dX4_readsText_30 : decode cX4_readsText 30 = .ok (.iload_n 3, 1) := by decide +kernel
theorem dX4_readsText_31 : decode cX4_readsText 31 = .ok (.bipush 44, 2) := by decide +kernel
theorem dX4_readsText_33 : decode cX4_readsText 33 = .ok (.if_icmp .ne 7, 3) := by decide +kernel
theorem dX4_readsText_36 : decode cX4_readsText 36 = .ok (.iconst 1, 1) := by decide +kernel
theorem dX4_readsText_37 : decode cX4_readsText 37 = .ok (.goto 4, 3) := by decide +kernel
theorem dX4_readsText_40 : decode cX4_readsText 40 = .ok (.iconst 0, 1) := by decide +kernel
theorem dX4_readsText_41 : decode cX4_readsText 41 = .ok (.istore_n 2, 1) := by decide +kernel
theorem dX4_readsText_42 : decode cX4_readsText 42 = .ok (.iload_n 2, 1) := by decide +kernel
theorem dX4_readsText_43 : decode cX4_readsText 43 = .ok (.ifCond .eq (-22), 3) := by decide +kernel
theorem dX4_readsText_46 : decode cX4_readsText 46 = .ok (.aload_n 0, 1) := by decide +kernel
theorem dX4_readsText_47 : decode cX4_readsText 47 = .ok (.dup, 1) := by decide +kernel
theorem dX4_readsText_48 : decode cX4_readsText 48 = .ok (.getfield 112, 3) := by decide +kernel
theorem dX4_readsText_51 : decode cX4_readsText 51 = .ok (.iconst 1, 1) := by decide +kernel
theorem dX4_readsText_52 : decode cX4_readsText 52 = .ok (.iadd, 1) := by decide +kernel
theorem dX4_readsText_53 : decode cX4_readsText 53 = .ok (.putfield 112, 3) := by decide +kernel
theorem dX4_readsText_56 : decode cX4_readsText 56 = .ok (.aload_n 0, 1) := by decide +kernel
theorem dX4_readsText_57 : decode cX4_readsText 57 = .ok (.iload_n 1, 1) := by decide +kernel
theorem dX4_readsText_58 : decode cX4_readsText 58 = .ok (.invokevirtual 121, 3) := by decide +kernel
theorem dX4_readsText_61 : decode cX4_readsText 61 = .ok (.istore_n 2, 1) := by decide +kernel
theorem dX4_readsText_62 : decode cX4_readsText 62 = .ok (.aload_n 0, 1) := by decide +kernel
theorem dX4_readsText_63 : decode cX4_readsText 63 = .ok (.invokevirtual 115, 3) := by decide +kernel
theorem dX4_readsText_66 : decode cX4_readsText 66 = .ok (.istore_n 3, 1) := by decide +kernel
theorem dX4_readsText_67 : decode cX4_readsText 67 = .ok (.goto (-46), 3) := by decide +kernel
theorem dX4_readsText_70 : decode cX4_readsText 70 = .ok (.iload_n 2, 1) := by decide +kernel
theorem dX4_readsText_71 : decode cX4_readsText 71 = .ok (.ireturn, 1) := by decide +kernel
theorem dX4_textFault_0 : decode cX4_textFault 0 = .ok (.aload_n 0, 1) := by decide +kernel
theorem dX4_textFault_1 : decode cX4_textFault 1 = .ok (.iconst 0, 1) := by decide +kernel
theorem dX4_textFault_2 : decode cX4_textFault 2 = .ok (.invokevirtual 125, 3) := by decide +kernel
theorem dX4_textFault_5 : decode cX4_textFault 5 = .ok (.ifCond .eq 7, 3) := by decide +kernel
theorem dX4_textFault_8 : decode cX4_textFault 8 = .ok (.iconst (-1), 1) := by decide +kernel
theorem dX4_textFault_9 : decode cX4_textFault 9 = .ok (.goto 7, 3) := by decide +kernel
theorem dX4_textFault_12 : decode cX4_textFault 12 = .ok (.aload_n 0, 1) := by decide +kernel
theorem dX4_textFault_13 : decode cX4_textFault 13 = .ok (.getfield 112, 3) := by decide +kernel
theorem dX4_textFault_16 : decode cX4_textFault 16 = .ok (.ireturn, 1) := by decide +kernel
theorem dX4_load_0 : decode cX4_load 0 = .ok (.aload_n 0, 1) := by decide +kernel
theorem dX4_load_1 : decode cX4_load 1 = .ok (.iconst 0, 1) := by decide +kernel
theorem dX4_load_2 : decode cX4_load 2 = .ok (.invokevirtual 125, 3) := by decide +kernel
theorem dX4_load_5 : decode cX4_load 5 = .ok (.ifCond .ne 6, 3) := by decide +kernel
theorem dX4_load_8 : decode cX4_load 8 = .ok (.bipush (-4), 2) := by decide +kernel
theorem dX4_load_10 : decode cX4_load 10 = .ok (.ireturn, 1) := by decide +kernel
theorem dX4_load_11 : decode cX4_load 11 = .ok (.aload_n 0, 1) := by decide +kernel
theorem dX4_load_12 : decode cX4_load 12 = .ok (.invokevirtual 62, 3) := by decide +kernel
theorem dX4_load_15 : decode cX4_load 15 = .ok (.aload_n 0, 1) := by decide +kernel
theorem dX4_load_16 : decode cX4_load 16 = .ok (.iconst 1, 1) := by decide +kernel
theorem dX4_load_17 : decode cX4_load 17 = .ok (.invokevirtual 125, 3) := by decide +kernel
theorem dX4_load_20 : decode cX4_load 20 = .ok (.istore_n 1, 1) := by decide +kernel
theorem dX4_load_21 : decode cX4_load 21 = .ok (.aload_n 0, 1) := by decide +kernel
theorem dX4_load_22 : decode cX4_load 22 = .ok (.getfield 118, 3) := by decide +kernel
theorem dX4_load_25 : decode cX4_load 25 = .ok (.ireturn, 1) := by decide +kernel
theorem dX4_note_0 : decode cX4_note 0 = .ok (.aload_n 0, 1) := by decide +kernel
theorem dX4_note_1 : decode cX4_note 1 = .ok (.ldc2_w 128, 3) := by decide +kernel
theorem dX4_note_4 : decode cX4_note 4 = .ok (.aload_n 0, 1) := by decide +kernel
theorem dX4_note_5 : decode cX4_note 5 = .ok (.getfield 130, 3) := by decide +kernel
theorem dX4_note_8 : decode cX4_note 8 = .ok (.lmul, 1) := by decide +kernel
theorem dX4_note_9 : decode cX4_note 9 = .ok (.iload_n 1, 1) := by decide +kernel
theorem dX4_note_10 : decode cX4_note 10 = .ok (.i2l, 1) := by decide +kernel
theorem dX4_note_11 : decode cX4_note 11 = .ok (.ladd, 1) := by decide +kernel
theorem dX4_note_12 : decode cX4_note 12 = .ok (.putfield 130, 3) := by decide +kernel
theorem dX4_note_15 : decode cX4_note 15 = .ok (.return_, 1) := by decide +kernel
theorem dX4_digest_0 : decode cX4_digest 0 = .ok (.aload_n 0, 1) := by decide +kernel
theorem dX4_digest_1 : decode cX4_digest 1 = .ok (.ldc2_w 134, 3) := by decide +kernel
theorem dX4_digest_4 : decode cX4_digest 4 = .ok (.putfield 130, 3) := by decide +kernel
theorem dX4_digest_7 : decode cX4_digest 7 = .ok (.iconst 0, 1) := by decide +kernel
theorem dX4_digest_8 : decode cX4_digest 8 = .ok (.istore_n 1, 1) := by decide +kernel
theorem dX4_digest_9 : decode cX4_digest 9 = .ok (.iload_n 1, 1) := by decide +kernel
theorem dX4_digest_10 : decode cX4_digest 10 = .ok (.bipush 9, 2) := by decide +kernel
theorem dX4_digest_12 : decode cX4_digest 12 = .ok (.if_icmp .ge 18, 3) := by decide +kernel
theorem dX4_digest_15 : decode cX4_digest 15 = .ok (.aload_n 0, 1) := by decide +kernel
theorem dX4_digest_16 : decode cX4_digest 16 = .ok (.aload_n 0, 1) := by decide +kernel
theorem dX4_digest_17 : decode cX4_digest 17 = .ok (.iload_n 1, 1) := by decide +kernel
theorem dX4_digest_18 : decode cX4_digest 18 = .ok (.invokevirtual 136, 3) := by decide +kernel
theorem dX4_digest_21 : decode cX4_digest 21 = .ok (.invokevirtual 139, 3) := by decide +kernel
theorem dX4_digest_24 : decode cX4_digest 24 = .ok (.iinc 1 1, 3) := by decide +kernel
theorem dX4_digest_27 : decode cX4_digest 27 = .ok (.goto (-18), 3) := by decide +kernel
theorem dX4_digest_30 : decode cX4_digest 30 = .ok (.iconst 0, 1) := by decide +kernel
theorem dX4_digest_31 : decode cX4_digest 31 = .ok (.istore_n 1, 1) := by decide +kernel
theorem dX4_digest_32 : decode cX4_digest 32 = .ok (.iload_n 1, 1) := by decide +kernel
theorem dX4_digest_33 : decode cX4_digest 33 = .ok (.aload_n 0, 1) := by decide +kernel
theorem dX4_digest_34 : decode cX4_digest 34 = .ok (.getfield 7, 3) := by decide +kernel
theorem dX4_digest_37 : decode cX4_digest 37 = .ok (.iconst 0, 1) := by decide +kernel
theorem dX4_digest_38 : decode cX4_digest 38 = .ok (.iaload, 1) := by decide +kernel
theorem dX4_digest_39 : decode cX4_digest 39 = .ok (.if_icmp .ge 21, 3) := by decide +kernel
theorem dX4_digest_42 : decode cX4_digest 42 = .ok (.aload_n 0, 1) := by decide +kernel
theorem dX4_digest_43 : decode cX4_digest 43 = .ok (.aload_n 0, 1) := by decide +kernel
theorem dX4_digest_44 : decode cX4_digest 44 = .ok (.getfield 7, 3) := by decide +kernel
theorem dX4_digest_47 : decode cX4_digest 47 = .ok (.iconst 3, 1) := by decide +kernel
theorem dX4_digest_48 : decode cX4_digest 48 = .ok (.iload_n 1, 1) := by decide +kernel
theorem dX4_digest_49 : decode cX4_digest 49 = .ok (.iadd, 1) := by decide +kernel
theorem dX4_digest_50 : decode cX4_digest 50 = .ok (.iaload, 1) := by decide +kernel
theorem dX4_digest_51 : decode cX4_digest 51 = .ok (.invokevirtual 139, 3) := by decide +kernel
theorem dX4_digest_54 : decode cX4_digest 54 = .ok (.iinc 1 1, 3) := by decide +kernel
theorem dX4_digest_57 : decode cX4_digest 57 = .ok (.goto (-25), 3) := by decide +kernel
theorem dX4_digest_60 : decode cX4_digest 60 = .ok (.aload_n 0, 1) := by decide +kernel
theorem dX4_digest_61 : decode cX4_digest 61 = .ok (.invokevirtual 84, 3) := by decide +kernel
theorem dX4_digest_64 : decode cX4_digest 64 = .ok (.iconst 0, 1) := by decide +kernel
theorem dX4_digest_65 : decode cX4_digest 65 = .ok (.istore_n 1, 1) := by decide +kernel
theorem dX4_digest_66 : decode cX4_digest 66 = .ok (.iload_n 1, 1) := by decide +kernel
theorem dX4_digest_67 : decode cX4_digest 67 = .ok (.aload_n 0, 1) := by decide +kernel
theorem dX4_digest_68 : decode cX4_digest 68 = .ok (.invokevirtual 42, 3) := by decide +kernel
theorem dX4_digest_71 : decode cX4_digest 71 = .ok (.if_icmp .ge 62, 3) := by decide +kernel
theorem dX4_digest_74 : decode cX4_digest 74 = .ok (.aload_n 0, 1) := by decide +kernel
theorem dX4_digest_75 : decode cX4_digest 75 = .ok (.aload_n 0, 1) := by decide +kernel
theorem dX4_digest_76 : decode cX4_digest 76 = .ok (.getfield 7, 3) := by decide +kernel
theorem dX4_digest_79 : decode cX4_digest 79 = .ok (.bipush 19, 2) := by decide +kernel
theorem dX4_digest_81 : decode cX4_digest 81 = .ok (.iload_n 1, 1) := by decide +kernel
theorem dX4_digest_82 : decode cX4_digest 82 = .ok (.iadd, 1) := by decide +kernel
theorem dX4_digest_83 : decode cX4_digest 83 = .ok (.iaload, 1) := by decide +kernel
theorem dX4_digest_84 : decode cX4_digest 84 = .ok (.invokevirtual 139, 3) := by decide +kernel
theorem dX4_digest_87 : decode cX4_digest 87 = .ok (.aload_n 0, 1) := by decide +kernel
theorem dX4_digest_88 : decode cX4_digest 88 = .ok (.aload_n 0, 1) := by decide +kernel
theorem dX4_digest_89 : decode cX4_digest 89 = .ok (.iload_n 1, 1) := by decide +kernel
theorem dX4_digest_90 : decode cX4_digest 90 = .ok (.invokevirtual 96, 3) := by decide +kernel
theorem dX4_digest_93 : decode cX4_digest 93 = .ok (.invokevirtual 139, 3) := by decide +kernel
theorem dX4_digest_96 : decode cX4_digest 96 = .ok (.aload_n 0, 1) := by decide +kernel
theorem dX4_digest_97 : decode cX4_digest 97 = .ok (.aload_n 0, 1) := by decide +kernel
theorem dX4_digest_98 : decode cX4_digest 98 = .ok (.iload_n 1, 1) := by decide +kernel
theorem dX4_digest_99 : decode cX4_digest 99 = .ok (.invokevirtual 99, 3) := by decide +kernel
theorem dX4_digest_102 : decode cX4_digest 102 = .ok (.ifCond .eq 7, 3) := by decide +kernel
theorem dX4_digest_105 : decode cX4_digest 105 = .ok (.iconst 0, 1) := by decide +kernel
theorem dX4_digest_106 : decode cX4_digest 106 = .ok (.goto 4, 3) := by decide +kernel
theorem dX4_digest_109 : decode cX4_digest 109 = .ok (.iconst 1, 1) := by decide +kernel
theorem dX4_digest_110 : decode cX4_digest 110 = .ok (.invokevirtual 139, 3) := by decide +kernel
theorem dX4_digest_113 : decode cX4_digest 113 = .ok (.aload_n 0, 1) := by decide +kernel
theorem dX4_digest_114 : decode cX4_digest 114 = .ok (.aload_n 0, 1) := by decide +kernel
theorem dX4_digest_115 : decode cX4_digest 115 = .ok (.getfield 7, 3) := by decide +kernel
theorem dX4_digest_118 : decode cX4_digest 118 = .ok (.sipush 141, 3) := by decide +kernel
theorem dX4_digest_121 : decode cX4_digest 121 = .ok (.iload_n 1, 1) := by decide +kernel
theorem dX4_digest_122 : decode cX4_digest 122 = .ok (.iadd, 1) := by decide +kernel
theorem dX4_digest_123 : decode cX4_digest 123 = .ok (.iaload, 1) := by decide +kernel
theorem dX4_digest_124 : decode cX4_digest 124 = .ok (.invokevirtual 139, 3) := by decide +kernel
theorem dX4_digest_127 : decode cX4_digest 127 = .ok (.iinc 1 1, 3) := by decide +kernel
theorem dX4_digest_130 : decode cX4_digest 130 = .ok (.goto (-64), 3) := by decide +kernel
theorem dX4_digest_133 : decode cX4_digest 133 = .ok (.iconst 0, 1) := by decide +kernel
theorem dX4_digest_134 : decode cX4_digest 134 = .ok (.istore_n 1, 1) := by decide +kernel
theorem dX4_digest_135 : decode cX4_digest 135 = .ok (.iload_n 1, 1) := by decide +kernel
theorem dX4_digest_136 : decode cX4_digest 136 = .ok (.aload_n 0, 1) := by decide +kernel
theorem dX4_digest_137 : decode cX4_digest 137 = .ok (.invokevirtual 38, 3) := by decide +kernel
theorem dX4_digest_140 : decode cX4_digest 140 = .ok (.if_icmp .ge 41, 3) := by decide +kernel
theorem dX4_digest_143 : decode cX4_digest 143 = .ok (.iconst 0, 1) := by decide +kernel
theorem dX4_digest_144 : decode cX4_digest 144 = .ok (.istore_n 2, 1) := by decide +kernel
theorem dX4_digest_145 : decode cX4_digest 145 = .ok (.iload_n 2, 1) := by decide +kernel
theorem dX4_digest_146 : decode cX4_digest 146 = .ok (.aload_n 0, 1) := by decide +kernel
theorem dX4_digest_147 : decode cX4_digest 147 = .ok (.getfield 7, 3) := by decide +kernel
theorem dX4_digest_150 : decode cX4_digest 150 = .ok (.iconst 0, 1) := by decide +kernel
theorem dX4_digest_151 : decode cX4_digest 151 = .ok (.iaload, 1) := by decide +kernel
theorem dX4_digest_152 : decode cX4_digest 152 = .ok (.if_icmp .ge 23, 3) := by decide +kernel
theorem dX4_digest_155 : decode cX4_digest 155 = .ok (.aload_n 0, 1) := by decide +kernel
theorem dX4_digest_156 : decode cX4_digest 156 = .ok (.aload_n 0, 1) := by decide +kernel
theorem dX4_digest_157 : decode cX4_digest 157 = .ok (.getfield 13, 3) := by decide +kernel
theorem dX4_digest_160 : decode cX4_digest 160 = .ok (.iload_n 1, 1) := by decide +kernel
theorem dX4_digest_161 : decode cX4_digest 161 = .ok (.iaload, 1) := by decide +kernel
theorem dX4_digest_162 : decode cX4_digest 162 = .ok (.iload_n 2, 1) := by decide +kernel
theorem dX4_digest_163 : decode cX4_digest 163 = .ok (.ishr, 1) := by decide +kernel
theorem dX4_digest_164 : decode cX4_digest 164 = .ok (.iconst 1, 1) := by decide +kernel
theorem dX4_digest_165 : decode cX4_digest 165 = .ok (.iand, 1) := by decide +kernel
theorem dX4_digest_166 : decode cX4_digest 166 = .ok (.invokevirtual 139, 3) := by decide +kernel
theorem dX4_digest_169 : decode cX4_digest 169 = .ok (.iinc 2 1, 3) := by decide +kernel
theorem dX4_digest_172 : decode cX4_digest 172 = .ok (.goto (-27), 3) := by decide +kernel
theorem dX4_digest_175 : decode cX4_digest 175 = .ok (.iinc 1 1, 3) := by decide +kernel
theorem dX4_digest_178 : decode cX4_digest 178 = .ok (.goto (-43), 3) := by decide +kernel
theorem dX4_digest_181 : decode cX4_digest 181 = .ok (.aload_n 0, 1) := by decide +kernel
theorem dX4_digest_182 : decode cX4_digest 182 = .ok (.getfield 130, 3) := by decide +kernel
theorem dX4_digest_185 : decode cX4_digest 185 = .ok (.lreturn, 1) := by decide +kernel
end
section
/-! ===== own rows over the kit: numbers as naturals, reading calls, reading contracts ===== -/
theorem nw_and (a b : Nat) : nI a &&& nI b = nI (a &&& b) := by
  apply Int32.toBitVec_inj.1
  show BitVec.ofNat 32 a &&& BitVec.ofNat 32 b = BitVec.ofNat 32 (a &&& b)
  apply BitVec.eq_of_getLsbD_eq
  intro i hi
  simp [hi]
theorem nw_or (a b : Nat) : nI a ||| nI b = nI (a ||| b) := by
  apply Int32.toBitVec_inj.1
  show BitVec.ofNat 32 a ||| BitVec.ofNat 32 b = BitVec.ofNat 32 (a ||| b)
  apply BitVec.eq_of_getLsbD_eq
  intro i hi
  simp [hi]
theorem nw_xor (a b : Nat) : nI a ^^^ nI b = nI (a ^^^ b) := by
  apply Int32.toBitVec_inj.1
  show BitVec.ofNat 32 a ^^^ BitVec.ofNat 32 b = BitVec.ofNat 32 (a ^^^ b)
  apply BitVec.eq_of_getLsbD_eq
  intro i hi
  simp [hi]
/-- b without the bits of a -/
def nw_wo (b a : Nat) : Nat := b ^^^ (b &&& a)
theorem nw_wo_bit (b a i : Nat) : (nw_wo b a).testBit i = (b.testBit i && !a.testBit i) := by
  unfold nw_wo
  rw [Nat.testBit_xor, Nat.testBit_and]
  cases b.testBit i <;> cases a.testBit i <;> rfl
theorem nw_andn (b a : Nat) : nI b &&& (nI a ^^^ (-1)) = nI (nw_wo b a) := by
  apply Int32.toBitVec_inj.1
  show BitVec.ofNat 32 b &&& (BitVec.ofNat 32 a ^^^ BitVec.allOnes 32) = BitVec.ofNat 32 (b ^^^ (b &&& a))
  apply BitVec.eq_of_getLsbD_eq
  intro i hi
  simp only [BitVec.getLsbD_and, BitVec.getLsbD_xor, BitVec.getLsbD_ofNat, BitVec.getLsbD_allOnes, Nat.testBit_xor, Nat.testBit_and, hi, decide_true, Bool.true_and]
  cases b.testBit i <;> cases a.testBit i <;> rfl
theorem nw_andn' (b a : Nat) : (nI a ^^^ (-1)) &&& nI b = nI (nw_wo b a) := by
  apply Int32.toBitVec_inj.1
  show (BitVec.ofNat 32 a ^^^ BitVec.allOnes 32) &&& BitVec.ofNat 32 b = BitVec.ofNat 32 (b ^^^ (b &&& a))
  apply BitVec.eq_of_getLsbD_eq
  intro i hi
  simp only [BitVec.getLsbD_and, BitVec.getLsbD_xor, BitVec.getLsbD_ofNat, BitVec.getLsbD_allOnes, Nat.testBit_xor, Nat.testBit_and, hi, decide_true, Bool.true_and]
  cases b.testBit i <;> cases a.testBit i <;> rfl
theorem nw_amt : ∀ n, n < 32 → ((nI n &&& 31).toBitVec.smod 32).toNat = n := by decide +kernel
theorem nw_shl {a k : Nat} (hk : k < 32) : nI a <<< (nI k &&& 31) = nI (a <<< k) := by
  apply Int32.toBitVec_inj.mp
  show BitVec.ofNat 32 a <<< ((nI k &&& 31).toBitVec.smod 32).toNat = BitVec.ofNat 32 (a <<< k)
  rw [nw_amt k hk]
  apply BitVec.eq_of_getLsbD_eq
  intro i hi
  simp only [BitVec.getLsbD_shiftLeft, BitVec.getLsbD_ofNat, Nat.testBit_shiftLeft, hi, decide_true, Bool.true_and]
  by_cases h : i < k
  · have h3 : ¬ i ≥ k := by omega
    simp [h, h3]
  · have h2 : i - k < 32 := by omega
    have h3 : i ≥ k := by omega
    simp [h, h2, h3]
theorem nw_shr {a k : Nat} (ha : a < 2 ^ 31) (hk : k < 32) : nI a >>> (nI k &&& 31) = nI (a >>> k) := by
  rw [pk_shrN ha _ k (nw_amt k hk), Nat.shiftRight_eq_div_pow]
theorem nw_tb (x k : Nat) : x >>> k &&& 1 = (x.testBit k).toNat := by
  rw [Nat.and_comm, Nat.testBit, Nat.one_and_eq_mod_two]
  rcases Nat.mod_two_eq_zero_or_one (x >>> k) with h | h <;> rw [h] <;> rfl
theorem nw_ne {n : Nat} (h : n < 2 ^ 31) (h0 : 0 < n) : ¬ nI n = 0 := nI_ne0 h0 h
section NV
variable {p : Program} {l : Launch} {e : Env} {R : Room} {s : State} {m : MethodId} {args : Array Value} {below : List Frame} {meth : Method} {c : Code} {H : Heap} {locs : List Loc} {cells slots : Nat} {Q : State → Prop}
variable {cc : ByteArray} {pc : Nat} {ls : Array Slot} {rest : List Value}
theorem nv_top {a : Nat} (b : Nat) (h : a = b) (k : W p l e R s m args below meth c H locs cells slots Q (F0 m pc ls (.int (nI b) :: rest))) : W p l e R s m args below meth c H locs cells slots Q (F0 m pc ls (.int (nI a) :: rest)) := by
  subst h
  exact k
theorem nv_tope {x : Int32} (y : Int32) (h : x = y) (k : W p l e R s m args below meth c H locs cells slots Q (F0 m pc ls (.int y :: rest))) : W p l e R s m args below meth c H locs cells slots Q (F0 m pc ls (.int x :: rest)) := by
  subst h
  exact k
theorem nv_iadd (hx : p.tables.exec = Jvm.exec) (hb : c.code = cc) {a b : Nat} (hdg : decode cc pc = .ok (.iadd, 1)) (k : W p l e R s m args below meth c H locs cells slots Q (F0 m (pc + 1) ls (.int (nI (a + b)) :: rest))) : W p l e R s m args below meth c H locs cells slots Q (F0 m pc ls (.int (nI b) :: .int (nI a) :: rest)) := by
  refine lv_iadd hx hb hdg ?_
  rw [nI_add]
  exact k
theorem nv_isub (hx : p.tables.exec = Jvm.exec) (hb : c.code = cc) {a b : Nat} (hdg : decode cc pc = .ok (.isub, 1)) (h : b ≤ a) (k : W p l e R s m args below meth c H locs cells slots Q (F0 m (pc + 1) ls (.int (nI (a - b)) :: rest))) : W p l e R s m args below meth c H locs cells slots Q (F0 m pc ls (.int (nI b) :: .int (nI a) :: rest)) := by
  refine lv_isub hx hb hdg ?_
  rw [pk_sub h]
  exact k
theorem nv_imul (hx : p.tables.exec = Jvm.exec) (hb : c.code = cc) {a b : Nat} (hdg : decode cc pc = .ok (.imul, 1)) (k : W p l e R s m args below meth c H locs cells slots Q (F0 m (pc + 1) ls (.int (nI (a * b)) :: rest))) : W p l e R s m args below meth c H locs cells slots Q (F0 m pc ls (.int (nI b) :: .int (nI a) :: rest)) := by
  refine lv_imul hx hb hdg ?_
  rw [pk_mul]
  exact k
theorem nv_idiv (hx : p.tables.exec = Jvm.exec) (hb : c.code = cc) {a b : Nat} (hdg : decode cc pc = .ok (.idiv, 1)) (ha : a < 2 ^ 31) (h0 : 0 < b) (hb2 : b < 2 ^ 31) (k : W p l e R s m args below meth c H locs cells slots Q (F0 m (pc + 1) ls (.int (nI (a / b)) :: rest))) : W p l e R s m args below meth c H locs cells slots Q (F0 m pc ls (.int (nI b) :: .int (nI a) :: rest)) := by
  refine lv_idiv hx hb hdg (nI_ne0 h0 hb2) ?_
  rw [pk_div ha h0 hb2]
  exact k
theorem nv_irem (hx : p.tables.exec = Jvm.exec) (hb : c.code = cc) {a b : Nat} (hdg : decode cc pc = .ok (.irem, 1)) (ha : a < 2 ^ 31) (h0 : 0 < b) (hb2 : b < 2 ^ 31) (k : W p l e R s m args below meth c H locs cells slots Q (F0 m (pc + 1) ls (.int (nI (a % b)) :: rest))) : W p l e R s m args below meth c H locs cells slots Q (F0 m pc ls (.int (nI b) :: .int (nI a) :: rest)) := by
  refine lv_irem hx hb hdg (nI_ne0 h0 hb2) ?_
  rw [pk_rem ha h0 hb2]
  exact k
theorem nv_iand (hx : p.tables.exec = Jvm.exec) (hb : c.code = cc) {a b : Nat} (hdg : decode cc pc = .ok (.iand, 1)) (k : W p l e R s m args below meth c H locs cells slots Q (F0 m (pc + 1) ls (.int (nI (a &&& b)) :: rest))) : W p l e R s m args below meth c H locs cells slots Q (F0 m pc ls (.int (nI b) :: .int (nI a) :: rest)) := by
  refine lv_iand hx hb hdg ?_
  rw [nw_and]
  exact k
theorem nv_iandn (hx : p.tables.exec = Jvm.exec) (hb : c.code = cc) {a b : Nat} (hdg : decode cc pc = .ok (.iand, 1)) (k : W p l e R s m args below meth c H locs cells slots Q (F0 m (pc + 1) ls (.int (nI (nw_wo a b)) :: rest))) : W p l e R s m args below meth c H locs cells slots Q (F0 m pc ls (.int (nI b ^^^ (-1)) :: .int (nI a) :: rest)) := by
  refine lv_iand hx hb hdg ?_
  rw [nw_andn]
  exact k
theorem nv_iandm (hx : p.tables.exec = Jvm.exec) (hb : c.code = cc) {a b : Nat} (hdg : decode cc pc = .ok (.iand, 1)) (k : W p l e R s m args below meth c H locs cells slots Q (F0 m (pc + 1) ls (.int (nI (nw_wo b a)) :: rest))) : W p l e R s m args below meth c H locs cells slots Q (F0 m pc ls (.int (nI b) :: .int (nI a ^^^ (-1)) :: rest)) := by
  refine lv_iand hx hb hdg ?_
  rw [nw_andn']
  exact k
theorem nv_ior (hx : p.tables.exec = Jvm.exec) (hb : c.code = cc) {a b : Nat} (hdg : decode cc pc = .ok (.ior, 1)) (k : W p l e R s m args below meth c H locs cells slots Q (F0 m (pc + 1) ls (.int (nI (a ||| b)) :: rest))) : W p l e R s m args below meth c H locs cells slots Q (F0 m pc ls (.int (nI b) :: .int (nI a) :: rest)) := by
  refine lv_ior hx hb hdg ?_
  rw [nw_or]
  exact k
theorem nv_ixor (hx : p.tables.exec = Jvm.exec) (hb : c.code = cc) {a b : Nat} (hdg : decode cc pc = .ok (.ixor, 1)) (k : W p l e R s m args below meth c H locs cells slots Q (F0 m (pc + 1) ls (.int (nI (a ^^^ b)) :: rest))) : W p l e R s m args below meth c H locs cells slots Q (F0 m pc ls (.int (nI b) :: .int (nI a) :: rest)) := by
  refine lv_ixor hx hb hdg ?_
  rw [nw_xor]
  exact k
theorem nv_ishl (hx : p.tables.exec = Jvm.exec) (hb : c.code = cc) {a b : Nat} (hdg : decode cc pc = .ok (.ishl, 1)) (h : b < 32) (k : W p l e R s m args below meth c H locs cells slots Q (F0 m (pc + 1) ls (.int (nI (a <<< b)) :: rest))) : W p l e R s m args below meth c H locs cells slots Q (F0 m pc ls (.int (nI b) :: .int (nI a) :: rest)) := by
  refine lv_ishl hx hb hdg ?_
  rw [nw_shl h]
  exact k
theorem nv_ishr (hx : p.tables.exec = Jvm.exec) (hb : c.code = cc) {a b : Nat} (hdg : decode cc pc = .ok (.ishr, 1)) (ha : a < 2 ^ 31) (h : b < 32) (k : W p l e R s m args below meth c H locs cells slots Q (F0 m (pc + 1) ls (.int (nI (a >>> b)) :: rest))) : W p l e R s m args below meth c H locs cells slots Q (F0 m pc ls (.int (nI b) :: .int (nI a) :: rest)) := by
  refine lv_ishr hx hb hdg ?_
  rw [nw_shr ha h]
  exact k
theorem nv_inc (hx : p.tables.exec = Jvm.exec) (hb : c.code = cc) {i nL k : Nat} {a : Nat} {lv lv' : List (Nat × Value)} (hdg : decode cc pc = .ok (.iinc i 1, 3)) (h : lv_has ls nL lv) (hk : lv[k]? = some (i, .int (nI a))) (hn : i < nL) (hl : (i, Value.int (nI (a + 1))) :: lv.filter (fun q => !(q.1 == i) && !(q.1 + 1 == i && q.2.category == 2)) = lv')
    (kk : ∀ ls' : Array Slot, lv_has ls' nL lv' → W p l e R s m args below meth c H locs cells slots Q (F0 m (pc + 3) ls' rest)) : W p l e R s m args below meth c H locs cells slots Q (F0 m pc ls rest) :=
  lv_iinc (v := nI (a + 1)) hx hb hdg h hk (nI_1 a) hn hl kk
theorem nv_dec (hx : p.tables.exec = Jvm.exec) (hb : c.code = cc) {i nL k : Nat} {a : Nat} {lv lv' : List (Nat × Value)} (hdg : decode cc pc = .ok (.iinc i (-1), 3)) (h : lv_has ls nL lv) (hk : lv[k]? = some (i, .int (nI a))) (h0 : 1 ≤ a) (hn : i < nL) (hl : (i, Value.int (nI (a - 1))) :: lv.filter (fun q => !(q.1 == i) && !(q.1 + 1 == i && q.2.category == 2)) = lv')
    (kk : ∀ ls' : Array Slot, lv_has ls' nL lv' → W p l e R s m args below meth c H locs cells slots Q (F0 m (pc + 3) ls' rest)) : W p l e R s m args below meth c H locs cells slots Q (F0 m pc ls rest) :=
  lv_iinc (v := nI (a - 1)) hx hb hdg h hk (by rw [show Int32.ofInt (-1) = -1 from rfl, ← pk_m1 (a - 1), Nat.sub_add_cancel h0]) hn hl kk
theorem nv_icmp_lt (hx : p.tables.exec = Jvm.exec) (hb : c.code = cc) {x y : Nat} {off : Int} {tgt : Nat} (hdg : decode cc pc = .ok (.if_icmp .lt off, 3)) (ht : (pc : Int) + off = (tgt : Int)) (h1 : x < 2 ^ 31) (h2 : y < 2 ^ 31)
    (kt : x < y → W p l e R s m args below meth c H locs cells slots Q (F0 m tgt ls rest)) (kf : y ≤ x → W p l e R s m args below meth c H locs cells slots Q (F0 m (pc + 3) ls rest)) : W p l e R s m args below meth c H locs cells slots Q (F0 m pc ls (.int (nI y) :: .int (nI x) :: rest)) :=
  lv_icmp_lt hx hb hdg ht (fun h => kt ((nI_ltI h1 h2).mp h)) (fun h => kf (Nat.le_of_not_lt fun q => h ((nI_ltI h1 h2).mpr q)))
theorem nv_icmp_ge (hx : p.tables.exec = Jvm.exec) (hb : c.code = cc) {x y : Nat} {off : Int} {tgt : Nat} (hdg : decode cc pc = .ok (.if_icmp .ge off, 3)) (ht : (pc : Int) + off = (tgt : Int)) (h1 : x < 2 ^ 31) (h2 : y < 2 ^ 31)
    (kt : y ≤ x → W p l e R s m args below meth c H locs cells slots Q (F0 m tgt ls rest)) (kf : x < y → W p l e R s m args below meth c H locs cells slots Q (F0 m (pc + 3) ls rest)) : W p l e R s m args below meth c H locs cells slots Q (F0 m pc ls (.int (nI y) :: .int (nI x) :: rest)) :=
  lv_icmp_ge hx hb hdg ht (fun h => kt ((nI_leI h2 h1).mp h)) (fun h => kf (Nat.lt_of_not_le fun q => h ((nI_leI h2 h1).mpr q)))
theorem nv_icmp_gt (hx : p.tables.exec = Jvm.exec) (hb : c.code = cc) {x y : Nat} {off : Int} {tgt : Nat} (hdg : decode cc pc = .ok (.if_icmp .gt off, 3)) (ht : (pc : Int) + off = (tgt : Int)) (h1 : x < 2 ^ 31) (h2 : y < 2 ^ 31)
    (kt : y < x → W p l e R s m args below meth c H locs cells slots Q (F0 m tgt ls rest)) (kf : x ≤ y → W p l e R s m args below meth c H locs cells slots Q (F0 m (pc + 3) ls rest)) : W p l e R s m args below meth c H locs cells slots Q (F0 m pc ls (.int (nI y) :: .int (nI x) :: rest)) :=
  lv_icmp_gt hx hb hdg ht (fun h => kt ((nI_ltI h2 h1).mp h)) (fun h => kf (Nat.le_of_not_lt fun q => h ((nI_ltI h2 h1).mpr q)))
theorem nv_icmp_le (hx : p.tables.exec = Jvm.exec) (hb : c.code = cc) {x y : Nat} {off : Int} {tgt : Nat} (hdg : decode cc pc = .ok (.if_icmp .le off, 3)) (ht : (pc : Int) + off = (tgt : Int)) (h1 : x < 2 ^ 31) (h2 : y < 2 ^ 31)
    (kt : x ≤ y → W p l e R s m args below meth c H locs cells slots Q (F0 m tgt ls rest)) (kf : y < x → W p l e R s m args below meth c H locs cells slots Q (F0 m (pc + 3) ls rest)) : W p l e R s m args below meth c H locs cells slots Q (F0 m pc ls (.int (nI y) :: .int (nI x) :: rest)) :=
  lv_icmp_le hx hb hdg ht (fun h => kt ((nI_leI h1 h2).mp h)) (fun h => kf (Nat.lt_of_not_le fun q => h ((nI_leI h1 h2).mpr q)))
theorem nv_icmp_eq (hx : p.tables.exec = Jvm.exec) (hb : c.code = cc) {x y : Nat} {off : Int} {tgt : Nat} (hdg : decode cc pc = .ok (.if_icmp .eq off, 3)) (ht : (pc : Int) + off = (tgt : Int)) (h1 : x < 2 ^ 31) (h2 : y < 2 ^ 31)
    (kt : x = y → W p l e R s m args below meth c H locs cells slots Q (F0 m tgt ls rest)) (kf : ¬ x = y → W p l e R s m args below meth c H locs cells slots Q (F0 m (pc + 3) ls rest)) : W p l e R s m args below meth c H locs cells slots Q (F0 m pc ls (.int (nI y) :: .int (nI x) :: rest)) :=
  lv_icmp_eq hx hb hdg ht (fun h => kt ((nI_eq h1 h2).mp h)) (fun h => kf fun q => h (by rw [q]))
theorem nv_icmp_ne (hx : p.tables.exec = Jvm.exec) (hb : c.code = cc) {x y : Nat} {off : Int} {tgt : Nat} (hdg : decode cc pc = .ok (.if_icmp .ne off, 3)) (ht : (pc : Int) + off = (tgt : Int)) (h1 : x < 2 ^ 31) (h2 : y < 2 ^ 31)
    (kt : ¬ x = y → W p l e R s m args below meth c H locs cells slots Q (F0 m tgt ls rest)) (kf : x = y → W p l e R s m args below meth c H locs cells slots Q (F0 m (pc + 3) ls rest)) : W p l e R s m args below meth c H locs cells slots Q (F0 m pc ls (.int (nI y) :: .int (nI x) :: rest)) :=
  lv_icmp_ne hx hb hdg ht (fun h => kt fun q => h (by rw [q])) (fun h => kf ((nI_eq h1 h2).mp h))
theorem nv_if_eq (hx : p.tables.exec = Jvm.exec) (hb : c.code = cc) {x : Nat} {off : Int} {tgt : Nat} (hdg : decode cc pc = .ok (.ifCond .eq off, 3)) (ht : (pc : Int) + off = (tgt : Int)) (h1 : x < 2 ^ 31)
    (kt : x = 0 → W p l e R s m args below meth c H locs cells slots Q (F0 m tgt ls rest)) (kf : ¬ x = 0 → W p l e R s m args below meth c H locs cells slots Q (F0 m (pc + 3) ls rest)) : W p l e R s m args below meth c H locs cells slots Q (F0 m pc ls (.int (nI x) :: rest)) :=
  lv_if_eq hx hb hdg ht (fun h => kt ((nI_eq (b := 0) h1 (by decide)).mp h)) (fun h => kf fun q => h (by rw [q]; rfl))
theorem nv_if_ne (hx : p.tables.exec = Jvm.exec) (hb : c.code = cc) {x : Nat} {off : Int} {tgt : Nat} (hdg : decode cc pc = .ok (.ifCond .ne off, 3)) (ht : (pc : Int) + off = (tgt : Int)) (h1 : x < 2 ^ 31)
    (kt : ¬ x = 0 → W p l e R s m args below meth c H locs cells slots Q (F0 m tgt ls rest)) (kf : x = 0 → W p l e R s m args below meth c H locs cells slots Q (F0 m (pc + 3) ls rest)) : W p l e R s m args below meth c H locs cells slots Q (F0 m pc ls (.int (nI x) :: rest)) :=
  lv_if_ne hx hb hdg ht (fun h => kt fun q => h (by rw [q]; rfl)) (fun h => kf ((nI_eq (b := 0) h1 (by decide)).mp h))
theorem nv_if_lt (hx : p.tables.exec = Jvm.exec) (hb : c.code = cc) {x : Nat} {off : Int} {tgt : Nat} (hdg : decode cc pc = .ok (.ifCond .lt off, 3)) (ht : (pc : Int) + off = (tgt : Int)) (h1 : x < 2 ^ 31)
    (kf : W p l e R s m args below meth c H locs cells slots Q (F0 m (pc + 3) ls rest)) : W p l e R s m args below meth c H locs cells slots Q (F0 m pc ls (.int (nI x) :: rest)) :=
  lv_if_lt hx hb hdg ht (fun h => absurd h (nI_pos h1)) (fun _ => kf)
theorem nv_if_ge (hx : p.tables.exec = Jvm.exec) (hb : c.code = cc) {x : Nat} {off : Int} {tgt : Nat} (hdg : decode cc pc = .ok (.ifCond .ge off, 3)) (ht : (pc : Int) + off = (tgt : Int)) (h1 : x < 2 ^ 31)
    (kt : W p l e R s m args below meth c H locs cells slots Q (F0 m tgt ls rest)) : W p l e R s m args below meth c H locs cells slots Q (F0 m pc ls (.int (nI x) :: rest)) :=
  lv_if_ge hx hb hdg ht (fun _ => kt) (fun h => absurd (nI_pos' h1) h)
theorem nv_if_gt (hx : p.tables.exec = Jvm.exec) (hb : c.code = cc) {x : Nat} {off : Int} {tgt : Nat} (hdg : decode cc pc = .ok (.ifCond .gt off, 3)) (ht : (pc : Int) + off = (tgt : Int)) (h1 : x < 2 ^ 31)
    (kt : 0 < x → W p l e R s m args below meth c H locs cells slots Q (F0 m tgt ls rest)) (kf : x = 0 → W p l e R s m args below meth c H locs cells slots Q (F0 m (pc + 3) ls rest)) : W p l e R s m args below meth c H locs cells slots Q (F0 m pc ls (.int (nI x) :: rest)) :=
  lv_if_gt hx hb hdg ht (fun h => kt ((nI_ltI (a := 0) (by decide) h1).mp h)) (fun h => kf (Nat.eq_zero_of_not_pos fun q => h ((nI_ltI (a := 0) (by decide) h1).mpr q)))
theorem nv_if_le (hx : p.tables.exec = Jvm.exec) (hb : c.code = cc) {x : Nat} {off : Int} {tgt : Nat} (hdg : decode cc pc = .ok (.ifCond .le off, 3)) (ht : (pc : Int) + off = (tgt : Int)) (h1 : x < 2 ^ 31)
    (kt : x = 0 → W p l e R s m args below meth c H locs cells slots Q (F0 m tgt ls rest)) (kf : 0 < x → W p l e R s m args below meth c H locs cells slots Q (F0 m (pc + 3) ls rest)) : W p l e R s m args below meth c H locs cells slots Q (F0 m pc ls (.int (nI x) :: rest)) :=
  lv_if_le hx hb hdg ht (fun h => kt (Nat.eq_zero_of_le_zero ((nI_leI (b := 0) h1 (by decide)).mp h))) (fun h => kf (Nat.pos_of_ne_zero fun q => h (by rw [q]; exact Int32.le_refl 0)))
end NV
section NVA
variable {p : Program} {l : Launch} {e : Env} {R : Room} {s : State} {m : MethodId} {args : Array Value} {below : List Frame} {meth : Method} {c : Code} {H : Heap} {locs : List Loc} {cells slots : Nat} {Q : State → Prop}
variable {cc : ByteArray} {pc : Nat} {ls : Array Slot} {rest : List Value} {D : va_G} {cl : List vw_C} {A : Nat → Prop} {a : Nat} {tys : List (ClassId × FieldType)} {ws : va_W} {H0 : Heap}
theorem nv_iald (hx : p.tables.exec = Jvm.exec) (hb : c.code = cc) (hK : va_K D cl tys s) (hP : va_P D cl ws H) (q0 t0 : Nat) {cA : ClassId} {n : Nat} {f : Nat → Int32} (ha : ws[q0]? = some (a, .inl (cA, n, .inl f))) (ht : tys[t0]? = some (cA, .int)) {k : Nat} (hk : k < n) (hn : n < 2 ^ 31) {v : Int32} (hv : f k = v) (hdg : decode cc pc = .ok (.iaload, 1))
    (kk : W p l e R s m args below meth c H locs cells slots Q (F0 m (pc + 1) ls (.int v :: rest))) : W p l e R s m args below meth c H locs cells slots Q (F0 m pc ls (.int (nI k) :: .ref a :: rest)) := by
  refine va_iald hx hb hK hP q0 t0 ha ht (vp_in_nI hk hn) hdg ?_
  rw [nI_clamp (Nat.lt_trans hk hn), hv]
  exact kk
theorem nv_iast (hx : p.tables.exec = Jvm.exec) (hb : c.code = cc) (hK : va_K D cl tys s) (hP : va_P D cl ws H) (hD : va_D A ws) (hS : va_S A H0 H locs) (q0 t0 : Nat) {cA : ClassId} {n : Nat} {f : Nat → Int32} (ha : ws[q0]? = some (a, .inl (cA, n, .inl f))) (ht : tys[t0]? = some (cA, .int)) {k : Nat} (hk : k < n) (hn : n < 2 ^ 31) {x : Int32} {ws' : va_W} (hw : ws.set q0 (a, .inl (cA, n, .inl (upd f k x))) = ws') (hdg : decode cc pc = .ok (.iastore, 1))
    (kk : ∀ (H1 : Heap) (locs1 : List Loc), va_P D cl ws' H1 → va_D A ws' → va_S A H0 H1 locs1 → W p l e R s m args below meth c H1 locs1 cells slots Q (F0 m (pc + 1) ls rest)) : W p l e R s m args below meth c H locs cells slots Q (F0 m pc ls (.int x :: .int (nI k) :: .ref a :: rest)) := by
  refine va_iast hx hb hK hP hD hS q0 t0 ha ht (vp_in_nI hk hn) hdg ?_
  rw [nI_clamp (Nat.lt_trans hk hn), hw]
  exact kk
end NVA
/-! reading contracts -/
def nk_V (own : String) (idx : Nat) (y : MethodName) (b : ByteArray) (n : Nat) (r : Option FieldType) (np : Nat) : Prop :=
  Cond.methodLink own idx y ∈ nT ∧ Cond.instanceMethod y ∈ nT ∧ Cond.selects y.cls y y ∈ nT ∧ Cond.initialized y.cls ∈ nT ∧ Cond.code y b n r ∈ nT ∧ (y.cls = y.cls ∧ y.cls ≠ "java/lang/invoke/MethodHandle" ∧ y.cls ≠ "java/lang/invoke/VarHandle" ∧ (parseMethodDescriptor y.desc).map (fun d => d.parameters.length) = some np)
def nk_S (own : String) (idx : Nat) (y : MethodName) (b : ByteArray) (n : Nat) (r : Option FieldType) (np : Nat) : Prop :=
  Cond.methodLink own idx y ∈ nT ∧ Cond.static y ∈ nT ∧ Cond.initialized y.cls ∈ nT ∧ Cond.code y b n r ∈ nT ∧ (y.cls = y.cls ∧ y.cls ≠ "java/lang/invoke/MethodHandle" ∧ y.cls ≠ "java/lang/invoke/VarHandle" ∧ (parseMethodDescriptor y.desc).map (fun d => d.parameters.length) = some np)
def nk_I (own : String) (idx : Nat) (y : MethodName) (b : ByteArray) (n : Nat) (np : Nat) : Prop :=
  Cond.methodLink own idx y ∈ nT ∧ Cond.instanceMethod y ∈ nT ∧ Cond.initialized y.cls ∈ nT ∧ Cond.code y b n none ∈ nT ∧ (y.name = "<init>" ∧ y.cls ≠ "java/lang/invoke/MethodHandle" ∧ y.cls ≠ "java/lang/invoke/VarHandle" ∧ (parseMethodDescriptor y.desc).map (fun d => d.parameters.length) = some np)
abbrev wsC (y : MethodName) (b : ByteArray) (n : Nat) (r : Option FieldType) : List Cond := Cond.code y b n r :: nT
theorem wsC_good {y : MethodName} {b : ByteArray} {n : Nat} {r : Option FieldType} (h : Cond.code y b n r ∈ nT) : GoodIn nT (wsC y b n r) := by
  have hg : ∀ w ∈ nT, w ∈ nT ∧ ((w.onTables && w.keeps) = true ∨ ∃ ty, w = .arrayClass ty) := fun w hw => ⟨hw, good_of_word (List.mem_filter.mp hw).2⟩
  intro w hw
  rcases List.mem_cons.mp hw with rfl | hw
  · exact hg _ h
  · exact hg _ hw
section NCW
variable {R : Room} {s : State} {args : Array Value} {own : String} {idx : Nat} {y : MethodName} {b : ByteArray} {n np mc ms : Nat} {r : Option FieldType} {rm : Room}
theorem nk_V.cw (h : nk_V own idx y b n r np) (hts : ∀ w ∈ nT, w.before args s = true) (hrc : rm.cells = mc) (hrs : rm.slots = ms) (hR : rm.frames + 1 ≤ R.frames ∧ 8 + (n + 11) + rm.locals ≤ R.locals) : CallW R s args own y.cls idx y b n r (wsC y b n r) rm mc ms np :=
  ⟨callB_of np hts (wsC_good h.2.2.2.2.1) rfl hrc hrs (hts _ h.2.2.2.1) (hts _ h.1) h.2.2.2.2.2.2 hR, hts _ h.2.1, hts _ h.2.2.1⟩
theorem nk_S.cw (h : nk_S own idx y b n r np) (hts : ∀ w ∈ nT, w.before args s = true) (hrc : rm.cells = mc) (hrs : rm.slots = ms) (hR : rm.frames + 1 ≤ R.frames ∧ 8 + (n + 11) + rm.locals ≤ R.locals) : CallB R s args own idx y b n r (wsC y b n r) rm mc ms np ∧ (Cond.static y).before args s = true :=
  ⟨callB_of np hts (wsC_good h.2.2.2.1) rfl hrc hrs (hts _ h.2.2.1) (hts _ h.1) h.2.2.2.2.2 hR, hts _ h.2.1⟩
theorem nk_I.cw (h : nk_I own idx y b n np) (hts : ∀ w ∈ nT, w.before args s = true) (hrc : rm.cells = mc) (hrs : rm.slots = ms) (hR : rm.frames + 1 ≤ R.frames ∧ 8 + (n + 11) + rm.locals ≤ R.locals) : CallB R s args own idx y b n none (wsC y b n none) rm mc ms np ∧ y.name = "<init>" ∧ (Cond.instanceMethod y).before args s = true :=
  ⟨callB_of np hts (wsC_good h.2.2.2.1) rfl hrc hrs (hts _ h.2.2.1) (hts _ h.1) h.2.2.2.2.2 hR, h.2.2.2.2.1, hts _ h.2.1⟩
end NCW
/-- the start of a method over a world: its arguments, the world's cells, the tables -/
def nPre (D : va_G) (tys : List (ClassId × FieldType)) (av : List Value) (ws : va_W) : Array Value → State → Prop := va_Pc av (fun U => va_P D vwCl ws U.heap ∧ va_K D vwCl tys U)
theorem nPre_blind {D : va_G} {tys : List (ClassId × FieldType)} {av : List Value} {ws : va_W} : FrameBlind (nPre D tys av ws) := fun a U g mk q => ⟨q.1, q.2.1, va_K.moved (u := U) (U := U.calling g mk a) (Vm.Alike.refl U.vm) q.2.2⟩
theorem nPre_of {D : va_G} {tys : List (ClassId × FieldType)} {av : List Value} {ws : va_W} {s : State} {H : Heap} (hP : va_P D vwCl ws H) (hK : va_K D vwCl tys s) : ∀ U : State, U.heap = H → s.WarmedH U.vm → nPre D tys av ws av.toArray U := fun U hU hW => ⟨rfl, by rw [hU]; exact hP, va_K.moved hW.alike hK⟩
def QcReadL (r : Int64) : Array Value → State → Outcome → State → Prop := fun _ st o t => o = .returned (some (.long r)) ∧ t.heap = st.heap
/-- a method that reads and answers a number -/
def MetR (l : Launch) (y : MethodName) (b : ByteArray) (n : Nat) (rt : Option FieldType) (rm : Room) (Pc : Array Value → State → Prop) (r : Int32) : Prop := Met l y (wsC y b n rt) rm Pc (QcRead r) 0 0 (fun _ => False)
def MetL (l : Launch) (y : MethodName) (b : ByteArray) (n : Nat) (rt : Option FieldType) (rm : Room) (Pc : Array Value → State → Prop) (r : Int64) : Prop := Met l y (wsC y b n rt) rm Pc (QcReadL r) 0 0 (fun _ => False)
theorem met_read {Qc : Array Value → State → Outcome → State → Prop} {l : Launch} {y : MethodName} {b : ByteArray} {n : Nat} {rt : Option FieldType} {rm : Room} {D : va_G} {tys : List (ClassId × FieldType)} {av : List Value} {ws : va_W} (hy : plainName y.cls = true) (hn : (lg_sl av).length ≤ n)
    (body : ∀ (p : Program) (e : Env) (s : State) (m : MethodId) (args : Array Value) (below : List Frame) (meth : Method) (c : Code) (ls : Array Slot), p.tables.exec = Jvm.exec → c.code = b → c.maxLocals = n → meth.sig.returnType = rt → meth.locks = false → s.vm.findClass y.cls = some m.cls → (∀ w ∈ nT, w.before args s = true) → va_P D vwCl ws s.heap → va_K D vwCl tys s → lv_has ls n (lv_args 0 av) →
      W p l e rm s m args below meth c s.heap [] 0 0 (MQ below Qc args s 0 0 (fun _ => False)) (F0 m 0 ls [])) : Met l y (wsC y b n rt) rm (nPre D tys av ws) Qc 0 0 (fun _ => False) := by
  refine Met.ofW (cc := b) (maxL := n) (ret := rt) hy rfl ?_
  intro p e s m args below meth c s₁ B hml hv
  obtain ⟨rfl, hP, hK⟩ := hv
  have hts := atoms_spec (ws := wsC y b n rt) B.pre
  have hl := lv_entry av (n := n) hn
  rw [lg_entry_eq]
  generalize (lg_sl av ++ List.replicate (n - (lg_sl av).length) Slot.unset).toArray = ls at hl ⊢
  exact body p e s m _ below meth c ls B.exec B.bytes hml B.returns B.notSynchronized (findClass_of_methodNamed B.named) (fun w h => hts w (List.mem_cons_of_mem _ h)) hP hK hl
section NVR
variable {p : Program} {l : Launch} {e : Env} {R : Room} {s : State} {m : MethodId} {args : Array Value} {below : List Frame} {meth : Method} {c : Code} {H : Heap} {locs : List Loc} {cells slots : Nat} {Q : State → Prop}
variable {cc : ByteArray} {pc : Nat} {ls : Array Slot} {rest : List Value}
theorem nv_ret (hx : p.tables.exec = Jvm.exec) (hb : c.code = cc) (hr : meth.sig.returnType = some .int) (hlocks : meth.locks = false) {v r : Int32} (hv : v = r) (hdg : decode cc pc = .ok (.ireturn, 1)) : W p l e R s m args below meth c s.heap [] 0 0 (MQ below (QcRead r) args s 0 0 (fun _ => False)) (F0 m pc ls [.int v]) :=
  W.iret hx hb hr (fun t ht _ => ⟨by rw [hv], ht⟩) (fun q h => by cases h) hdg
theorem nv_retz (hx : p.tables.exec = Jvm.exec) (hb : c.code = cc) (hr : meth.sig.returnType = some .boolean) (hlocks : meth.locks = false) {v r : Int32} (hz : v = 0 ∨ v = 1) (hv : v = r) (hdg : decode cc pc = .ok (.ireturn, 1)) : W p l e R s m args below meth c s.heap [] 0 0 (MQ below (QcRead r) args s 0 0 (fun _ => False)) (F0 m pc ls [.int v]) :=
  W.zret hx hb hr (by rcases hz with h | h <;> rw [h] <;> rfl) (fun t ht _ => ⟨by rw [hv], ht⟩) (fun q h => by cases h) hdg
theorem nv_retl (hx : p.tables.exec = Jvm.exec) (hb : c.code = cc) (hr : meth.sig.returnType = some .long) (hlocks : meth.locks = false) {v r : Int64} (hv : v = r) (hdg : decode cc pc = .ok (.lreturn, 1)) : W p l e R s m args below meth c s.heap [] 0 0 (MQ below (QcReadL r) args s 0 0 (fun _ => False)) (F0 m pc ls [.long v]) :=
  W.lret hx hb hr (fun t ht _ => ⟨by rw [hv], ht⟩) (fun q h => by cases h) hdg
/-- a call of a method that reads: the heap stays -/
theorem nv_callV (As : List Value) (rest : List Value) {own : String} {idx np nL maxL : Nat} {y : MethodName} {bytes : ByteArray} {rt : Option FieldType} {rm : Room} {D : va_G} {tys : List (ClassId × FieldType)} {b : Nat} {wc : va_W} {r : Int32} {st : List Value} {lv : List (Nat × Value)} {q : vw_C} {fs : List Value}
    (hx : p.tables.exec = Jvm.exec) (hb : c.code = cc) (hml : c.maxLocals = nL) (hown : s.vm.findClass own = some m.cls) (hts : ∀ w ∈ nT, w.before args s = true) (hk : nk_V own idx y bytes maxL rt np) (hM : MetR l y bytes maxL rt rm (nPre D tys (.ref b :: As) wc) r)
    (hrm : rm.cells = 0 ∧ rm.slots = 0 ∧ rm.frames + 1 ≤ R.frames ∧ 8 + (maxL + 11) + rm.locals ≤ R.locals) (hP : va_P D vwCl wc H) (hK : va_K D vwCl tys s) (ci : Nat) (hc : vwCl[ci]? = some q) (hcl : y.cls = q.1) (he : wc[0]? = some (b, .inr (ci, fs)))
    (hn : As.length = np) (hl : lv_has ls nL lv) (hst : st = As.reverse ++ .ref b :: rest) (hcat : (rest.map fun v => v.category).sum ≤ 8) (hdg : decode cc pc = .ok (.invokevirtual idx, 3)) (hf : cells ≤ R.cells ∧ slots ≤ R.slots)
    (kk : W p l e R s m args below meth c H locs cells slots Q (F0 m (pc + 3) ls (.int r :: rest))) : W p l e R s m args below meth c H locs cells slots Q (F0 m pc ls st) := by
  have hrec := va_recv hK hP hc he
  rw [← hcl] at hrec
  exact W.callR (W.runV (C := y.cls) ⟨hx, hb, hml, hown, hts⟩ hM (hk.cw hts hrm.1 hrm.2.1 hrm.2.2) ⟨nPre_blind, hrec, nPre_of hP hK⟩ rfl hn hl.1 hst (lv_room hcat) hdg hf) kk
theorem nv_callVL (As : List Value) (rest : List Value) {own : String} {idx np nL maxL : Nat} {y : MethodName} {bytes : ByteArray} {rt : Option FieldType} {rm : Room} {D : va_G} {tys : List (ClassId × FieldType)} {b : Nat} {wc : va_W} {r : Int64} {st : List Value} {lv : List (Nat × Value)} {q : vw_C} {fs : List Value}
    (hx : p.tables.exec = Jvm.exec) (hb : c.code = cc) (hml : c.maxLocals = nL) (hown : s.vm.findClass own = some m.cls) (hts : ∀ w ∈ nT, w.before args s = true) (hk : nk_V own idx y bytes maxL rt np) (hM : MetL l y bytes maxL rt rm (nPre D tys (.ref b :: As) wc) r)
    (hrm : rm.cells = 0 ∧ rm.slots = 0 ∧ rm.frames + 1 ≤ R.frames ∧ 8 + (maxL + 11) + rm.locals ≤ R.locals) (hP : va_P D vwCl wc H) (hK : va_K D vwCl tys s) (ci : Nat) (hc : vwCl[ci]? = some q) (hcl : y.cls = q.1) (he : wc[0]? = some (b, .inr (ci, fs)))
    (hn : As.length = np) (hl : lv_has ls nL lv) (hst : st = As.reverse ++ .ref b :: rest) (hcat : (rest.map fun v => v.category).sum ≤ 8) (hdg : decode cc pc = .ok (.invokevirtual idx, 3)) (hf : cells ≤ R.cells ∧ slots ≤ R.slots)
    (kk : W p l e R s m args below meth c H locs cells slots Q (F0 m (pc + 3) ls (.long r :: rest))) : W p l e R s m args below meth c H locs cells slots Q (F0 m pc ls st) := by
  have hrec := va_recv hK hP hc he
  rw [← hcl] at hrec
  intro T hT X
  obtain ⟨v, st₀, t, T', L, h0, X', hL, e1, ⟨hv, hh⟩, stp⟩ := W.runV (C := y.cls) ⟨hx, hb, hml, hown, hts⟩ hM (hk.cw hts hrm.1 hrm.2.1 hrm.2.2) ⟨nPre_blind, hrec, nPre_of hP hK⟩ (g := F0 m pc ls st) rfl hn hl.1 hst (lv_room hcat) hdg hf T hT X
  cases hv
  obtain ⟨t2, a1, b1⟩ := kk T' (by rw [e1, hh, h0]) (Stand.forget X' (fun q h => (hL q h).elim))
  exact ⟨t2, stp t2 a1, b1⟩
theorem nv_callS (As : List Value) (rest : List Value) {own : String} {idx np nL maxL : Nat} {y : MethodName} {bytes : ByteArray} {rt : Option FieldType} {rm : Room} {D : va_G} {tys : List (ClassId × FieldType)} {wc : va_W} {r : Int32} {st : List Value} {lv : List (Nat × Value)}
    (hx : p.tables.exec = Jvm.exec) (hb : c.code = cc) (hml : c.maxLocals = nL) (hown : s.vm.findClass own = some m.cls) (hts : ∀ w ∈ nT, w.before args s = true) (hk : nk_S own idx y bytes maxL rt np) (hM : MetR l y bytes maxL rt rm (nPre D tys As wc) r)
    (hrm : rm.cells = 0 ∧ rm.slots = 0 ∧ rm.frames + 1 ≤ R.frames ∧ 8 + (maxL + 11) + rm.locals ≤ R.locals) (hP : va_P D vwCl wc H) (hK : va_K D vwCl tys s)
    (hn : As.length = np) (hl : lv_has ls nL lv) (hst : st = As.reverse ++ rest) (hcat : (rest.map fun v => v.category).sum ≤ 8) (hdg : decode cc pc = .ok (.invokestatic idx, 3)) (hf : cells ≤ R.cells ∧ slots ≤ R.slots)
    (kk : W p l e R s m args below meth c H locs cells slots Q (F0 m (pc + 3) ls (.int r :: rest))) : W p l e R s m args below meth c H locs cells slots Q (F0 m pc ls st) :=
  W.callR (W.runS ⟨hx, hb, hml, hown, hts⟩ hM (hk.cw hts hrm.1 hrm.2.1 hrm.2.2) ⟨nPre_blind, nPre_of hP hK⟩ rfl hn hl.1 hst (lv_room hcat) hdg hf) kk
end NVR
end
section
theorem wl_mem (i : Nat) {w : Cond} (h : lw_tbl[i]? = some w) (hg : goodWord w = true := by rfl) : w ∈ nT := List.mem_filter.mpr ⟨List.mem_of_getElem? h, hg⟩
theorem k_RL_9 : nk_I RL 9 yX3_init cX3_init 1 0 := ⟨wl_mem 54 (by decide +kernel), wl_mem 55 (by decide +kernel), wl_mem 45 (by decide +kernel), wl_mem 56 (by decide +kernel), by decide +kernel⟩
theorem ml_RX3_3 : Cond.methodLink RX3 3 objectInit ∈ nT := wl_mem 57 (by decide +kernel)
theorem k_RX3_11 : nk_I RX3 11 yX1_init cX1_init 1 0 := ⟨wl_mem 62 (by decide +kernel), wl_mem 63 (by decide +kernel), wl_mem 46 (by decide +kernel), wl_mem 64 (by decide +kernel), by decide +kernel⟩
theorem ml_RX1_3 : Cond.methodLink RX1 3 objectInit ∈ nT := wl_mem 65 (by decide +kernel)
theorem k_RX1_24 : nk_V RX1 24 yX1_start cX1_start 5 (none) 3 := ⟨wl_mem 66 (by decide +kernel), wl_mem 67 (by decide +kernel), wl_mem 68 (by decide +kernel), wl_mem 46 (by decide +kernel), wl_mem 69 (by decide +kernel), by decide +kernel⟩
theorem k_RX1_38 : nk_V RX1 38 yX1_putCode cX1_putCode 5 (none) 2 := ⟨wl_mem 70 (by decide +kernel), wl_mem 71 (by decide +kernel), wl_mem 72 (by decide +kernel), wl_mem 46 (by decide +kernel), wl_mem 73 (by decide +kernel), by decide +kernel⟩
theorem k_RX1_82 : nk_V RX1 82 yX1_putBit cX1_putBit 4 (none) 3 := ⟨wl_mem 74 (by decide +kernel), wl_mem 76 (by decide +kernel), wl_mem 0 (by decide +kernel), wl_mem 46 (by decide +kernel), wl_mem 77 (by decide +kernel), by decide +kernel⟩
theorem k_RX1_42 : nk_V RX1 42 yX1_addresses cX1_addresses 1 (some .int) 0 := ⟨wl_mem 78 (by decide +kernel), wl_mem 79 (by decide +kernel), wl_mem 80 (by decide +kernel), wl_mem 46 (by decide +kernel), wl_mem 81 (by decide +kernel), by decide +kernel⟩
theorem k_RX1_46 : nk_V RX1 46 yX1_putWord cX1_putWord 6 (none) 2 := ⟨wl_mem 82 (by decide +kernel), wl_mem 83 (by decide +kernel), wl_mem 84 (by decide +kernel), wl_mem 46 (by decide +kernel), wl_mem 85 (by decide +kernel), by decide +kernel⟩
theorem k_RX1_91 : nk_V RX1 91 yX1_ringOf cX1_ringOf 2 (some .int) 1 := ⟨wl_mem 86 (by decide +kernel), wl_mem 88 (by decide +kernel), wl_mem 1 (by decide +kernel), wl_mem 46 (by decide +kernel), wl_mem 89 (by decide +kernel), by decide +kernel⟩
theorem k_RX1_88 : nk_V RX1 88 yX1_setOf cX1_setOf 2 (some .int) 1 := ⟨wl_mem 90 (by decide +kernel), wl_mem 92 (by decide +kernel), wl_mem 2 (by decide +kernel), wl_mem 46 (by decide +kernel), wl_mem 93 (by decide +kernel), by decide +kernel⟩
theorem k_RX1_98 : nk_V RX1 98 yX1_senseWire cX1_senseWire 3 (some .int) 2 := ⟨wl_mem 94 (by decide +kernel), wl_mem 96 (by decide +kernel), wl_mem 3 (by decide +kernel), wl_mem 46 (by decide +kernel), wl_mem 97 (by decide +kernel), by decide +kernel⟩
theorem k_RX1_73 : nk_S RX1 73 yJ6_bitCount_0f7a4 cJ6_bitCount_0f7a4 1 (some .int) 1 := ⟨wl_mem 98 (by decide +kernel), wl_mem 99 (by decide +kernel), wl_mem 47 (by decide +kernel), wl_mem 100 (by decide +kernel), by decide +kernel⟩
theorem k_RX3_18 : nk_I RX3 18 yX0_init cX0_init 2 0 := ⟨wl_mem 129 (by decide +kernel), wl_mem 130 (by decide +kernel), wl_mem 48 (by decide +kernel), wl_mem 131 (by decide +kernel), by decide +kernel⟩
theorem ml_RX0_3 : Cond.methodLink RX0 3 objectInit ∈ nT := wl_mem 132 (by decide +kernel)
theorem k_RX0_17 : nk_I RX0 17 yX1_init cX1_init 1 0 := ⟨wl_mem 135 (by decide +kernel), wl_mem 63 (by decide +kernel), wl_mem 46 (by decide +kernel), wl_mem 64 (by decide +kernel), by decide +kernel⟩
theorem ml_RX2_3 : Cond.methodLink RX2 3 objectInit ∈ nT := wl_mem 151 (by decide +kernel)
theorem k_RL_13 : nk_V RL 13 yX3_begin cX3_begin 5 (some .int) 3 := ⟨wl_mem 175 (by decide +kernel), wl_mem 176 (by decide +kernel), wl_mem 177 (by decide +kernel), wl_mem 45 (by decide +kernel), wl_mem 178 (by decide +kernel), by decide +kernel⟩
theorem k_RX3_30 : nk_V RX3 30 yX1_addresses cX1_addresses 1 (some .int) 0 := ⟨wl_mem 179 (by decide +kernel), wl_mem 79 (by decide +kernel), wl_mem 80 (by decide +kernel), wl_mem 46 (by decide +kernel), wl_mem 81 (by decide +kernel), by decide +kernel⟩
theorem k_RX3_34 : nk_V RX3 34 yX0_keep cX0_keep 2 (none) 1 := ⟨wl_mem 180 (by decide +kernel), wl_mem 181 (by decide +kernel), wl_mem 182 (by decide +kernel), wl_mem 48 (by decide +kernel), wl_mem 183 (by decide +kernel), by decide +kernel⟩
theorem k_RX0_25 : nk_V RX0 25 yX1_become cX1_become 2 (none) 1 := ⟨wl_mem 184 (by decide +kernel), wl_mem 185 (by decide +kernel), wl_mem 186 (by decide +kernel), wl_mem 46 (by decide +kernel), wl_mem 187 (by decide +kernel), by decide +kernel⟩
theorem ml_RX1_49 : Cond.methodLink RX1 49 arraycopyName ∈ nT := wl_mem 188 (by decide +kernel)
theorem k_RX3_38 : nk_V RX3 38 yX1_start cX1_start 5 (none) 3 := ⟨wl_mem 191 (by decide +kernel), wl_mem 67 (by decide +kernel), wl_mem 68 (by decide +kernel), wl_mem 46 (by decide +kernel), wl_mem 69 (by decide +kernel), by decide +kernel⟩
theorem k_RL_18 : nk_V RL 18 yX3_count cX3_count 2 (some .int) 1 := ⟨wl_mem 192 (by decide +kernel), wl_mem 193 (by decide +kernel), wl_mem 194 (by decide +kernel), wl_mem 45 (by decide +kernel), wl_mem 195 (by decide +kernel), by decide +kernel⟩
theorem k_RX3_42 : nk_V RX3 42 yX1_number cX1_number 2 (some .int) 1 := ⟨wl_mem 196 (by decide +kernel), wl_mem 197 (by decide +kernel), wl_mem 198 (by decide +kernel), wl_mem 46 (by decide +kernel), wl_mem 199 (by decide +kernel), by decide +kernel⟩
theorem k_RX1_55 : nk_V RX1 55 yX1_wires cX1_wires 1 (some .int) 0 := ⟨wl_mem 200 (by decide +kernel), wl_mem 201 (by decide +kernel), wl_mem 202 (by decide +kernel), wl_mem 46 (by decide +kernel), wl_mem 203 (by decide +kernel), by decide +kernel⟩
theorem k_RX1_61 : nk_V RX1 61 yX1_crossedWires cX1_crossedWires 3 (some .int) 0 := ⟨wl_mem 204 (by decide +kernel), wl_mem 206 (by decide +kernel), wl_mem 4 (by decide +kernel), wl_mem 46 (by decide +kernel), wl_mem 207 (by decide +kernel), by decide +kernel⟩
theorem k_RX1_64 : nk_V RX1 64 yX1_wrongWeaveCount cX1_wrongWeaveCount 3 (some .int) 0 := ⟨wl_mem 208 (by decide +kernel), wl_mem 210 (by decide +kernel), wl_mem 5 (by decide +kernel), wl_mem 46 (by decide +kernel), wl_mem 211 (by decide +kernel), by decide +kernel⟩
theorem k_RX1_67 : nk_V RX1 67 yX1_patchCount cX1_patchCount 3 (some .int) 0 := ⟨wl_mem 212 (by decide +kernel), wl_mem 213 (by decide +kernel), wl_mem 214 (by decide +kernel), wl_mem 46 (by decide +kernel), wl_mem 215 (by decide +kernel), by decide +kernel⟩
theorem k_RX1_70 : nk_V RX1 70 yX1_wholeCost cX1_wholeCost 3 (some .int) 0 := ⟨wl_mem 216 (by decide +kernel), wl_mem 218 (by decide +kernel), wl_mem 6 (by decide +kernel), wl_mem 46 (by decide +kernel), wl_mem 219 (by decide +kernel), by decide +kernel⟩
theorem k_RX1_79 : nk_V RX1 79 yX1_costOf cX1_costOf 2 (some .int) 1 := ⟨wl_mem 220 (by decide +kernel), wl_mem 221 (by decide +kernel), wl_mem 222 (by decide +kernel), wl_mem 46 (by decide +kernel), wl_mem 223 (by decide +kernel), by decide +kernel⟩
theorem k_RX1_101 : nk_V RX1 101 yX1_rightWeave cX1_rightWeave 2 (some .int) 1 := ⟨wl_mem 224 (by decide +kernel), wl_mem 226 (by decide +kernel), wl_mem 7 (by decide +kernel), wl_mem 46 (by decide +kernel), wl_mem 227 (by decide +kernel), by decide +kernel⟩
theorem k_RL_23 : nk_V RL 23 yX3_setCode cX3_setCode 5 (some .int) 2 := ⟨wl_mem 228 (by decide +kernel), wl_mem 229 (by decide +kernel), wl_mem 230 (by decide +kernel), wl_mem 45 (by decide +kernel), wl_mem 231 (by decide +kernel), by decide +kernel⟩
theorem k_RX3_46 : nk_V RX3 46 yX1_hasRing cX1_hasRing 2 (some .boolean) 1 := ⟨wl_mem 232 (by decide +kernel), wl_mem 233 (by decide +kernel), wl_mem 234 (by decide +kernel), wl_mem 46 (by decide +kernel), wl_mem 235 (by decide +kernel), by decide +kernel⟩
theorem k_RX3_50 : nk_V RX3 50 yX1_ringWithCode cX1_ringWithCode 3 (some .int) 1 := ⟨wl_mem 236 (by decide +kernel), wl_mem 237 (by decide +kernel), wl_mem 238 (by decide +kernel), wl_mem 46 (by decide +kernel), wl_mem 239 (by decide +kernel), by decide +kernel⟩
theorem k_RX1_85 : nk_V RX1 85 yX1_codeOf cX1_codeOf 4 (some .int) 1 := ⟨wl_mem 240 (by decide +kernel), wl_mem 241 (by decide +kernel), wl_mem 242 (by decide +kernel), wl_mem 46 (by decide +kernel), wl_mem 243 (by decide +kernel), by decide +kernel⟩
theorem k_RX3_53 : nk_V RX3 53 yX1_codeOf cX1_codeOf 4 (some .int) 1 := ⟨wl_mem 244 (by decide +kernel), wl_mem 241 (by decide +kernel), wl_mem 242 (by decide +kernel), wl_mem 46 (by decide +kernel), wl_mem 243 (by decide +kernel), by decide +kernel⟩
theorem k_RX3_56 : nk_V RX3 56 yX1_putCode cX1_putCode 5 (none) 2 := ⟨wl_mem 245 (by decide +kernel), wl_mem 71 (by decide +kernel), wl_mem 72 (by decide +kernel), wl_mem 46 (by decide +kernel), wl_mem 73 (by decide +kernel), by decide +kernel⟩
theorem k_RL_28 : nk_V RL 28 yX3_code cX3_code 2 (some .int) 1 := ⟨wl_mem 246 (by decide +kernel), wl_mem 247 (by decide +kernel), wl_mem 248 (by decide +kernel), wl_mem 45 (by decide +kernel), wl_mem 249 (by decide +kernel), by decide +kernel⟩
theorem k_RL_32 : nk_V RL 32 yX3_weave cX3_weave 4 (some .int) 2 := ⟨wl_mem 250 (by decide +kernel), wl_mem 251 (by decide +kernel), wl_mem 252 (by decide +kernel), wl_mem 45 (by decide +kernel), wl_mem 253 (by decide +kernel), by decide +kernel⟩
theorem k_RX3_60 : nk_V RX3 60 yX1_hasAddress cX1_hasAddress 2 (some .boolean) 1 := ⟨wl_mem 254 (by decide +kernel), wl_mem 255 (by decide +kernel), wl_mem 256 (by decide +kernel), wl_mem 46 (by decide +kernel), wl_mem 257 (by decide +kernel), by decide +kernel⟩
theorem k_RX3_63 : nk_V RX3 63 yX1_fits cX1_fits 2 (some .boolean) 1 := ⟨wl_mem 258 (by decide +kernel), wl_mem 259 (by decide +kernel), wl_mem 260 (by decide +kernel), wl_mem 46 (by decide +kernel), wl_mem 261 (by decide +kernel), by decide +kernel⟩
theorem k_RX1_58 : nk_V RX1 58 yX1_highestWord cX1_highestWord 1 (some .int) 0 := ⟨wl_mem 262 (by decide +kernel), wl_mem 263 (by decide +kernel), wl_mem 264 (by decide +kernel), wl_mem 46 (by decide +kernel), wl_mem 265 (by decide +kernel), by decide +kernel⟩
theorem k_RX3_66 : nk_V RX3 66 yX1_wordAt cX1_wordAt 2 (some .int) 1 := ⟨wl_mem 266 (by decide +kernel), wl_mem 267 (by decide +kernel), wl_mem 268 (by decide +kernel), wl_mem 46 (by decide +kernel), wl_mem 269 (by decide +kernel), by decide +kernel⟩
theorem k_RX1_94 : nk_V RX1 94 yX1_rightBits cX1_rightBits 6 (some .int) 2 := ⟨wl_mem 270 (by decide +kernel), wl_mem 272 (by decide +kernel), wl_mem 8 (by decide +kernel), wl_mem 46 (by decide +kernel), wl_mem 273 (by decide +kernel), by decide +kernel⟩
theorem k_RX1_110 : nk_V RX1 110 yX1_bitFrom cX1_bitFrom 5 (some .int) 3 := ⟨wl_mem 274 (by decide +kernel), wl_mem 276 (by decide +kernel), wl_mem 9 (by decide +kernel), wl_mem 46 (by decide +kernel), wl_mem 277 (by decide +kernel), by decide +kernel⟩
theorem k_RX3_69 : nk_V RX3 69 yX1_putWord cX1_putWord 6 (none) 2 := ⟨wl_mem 278 (by decide +kernel), wl_mem 83 (by decide +kernel), wl_mem 84 (by decide +kernel), wl_mem 46 (by decide +kernel), wl_mem 85 (by decide +kernel), by decide +kernel⟩
theorem k_RL_36 : nk_V RL 36 yX3_word cX3_word 2 (some .int) 1 := ⟨wl_mem 279 (by decide +kernel), wl_mem 280 (by decide +kernel), wl_mem 281 (by decide +kernel), wl_mem 45 (by decide +kernel), wl_mem 282 (by decide +kernel), by decide +kernel⟩
theorem k_RL_40 : nk_V RL 40 yX3_cross cX3_cross 2 (some .int) 1 := ⟨wl_mem 283 (by decide +kernel), wl_mem 284 (by decide +kernel), wl_mem 285 (by decide +kernel), wl_mem 45 (by decide +kernel), wl_mem 286 (by decide +kernel), by decide +kernel⟩
theorem k_RX3_72 : nk_V RX3 72 yX1_hasWire cX1_hasWire 2 (some .boolean) 1 := ⟨wl_mem 287 (by decide +kernel), wl_mem 288 (by decide +kernel), wl_mem 289 (by decide +kernel), wl_mem 46 (by decide +kernel), wl_mem 290 (by decide +kernel), by decide +kernel⟩
theorem k_RX3_75 : nk_V RX3 75 yX1_turn cX1_turn 2 (some .int) 1 := ⟨wl_mem 291 (by decide +kernel), wl_mem 292 (by decide +kernel), wl_mem 293 (by decide +kernel), wl_mem 46 (by decide +kernel), wl_mem 294 (by decide +kernel), by decide +kernel⟩
theorem k_RL_44 : nk_V RL 44 yX3_through cX3_through 3 (some .int) 2 := ⟨wl_mem 295 (by decide +kernel), wl_mem 296 (by decide +kernel), wl_mem 297 (by decide +kernel), wl_mem 45 (by decide +kernel), wl_mem 298 (by decide +kernel), by decide +kernel⟩
theorem k_RX3_78 : nk_V RX3 78 yX1_goesThrough cX1_goesThrough 3 (some .int) 2 := ⟨wl_mem 299 (by decide +kernel), wl_mem 300 (by decide +kernel), wl_mem 301 (by decide +kernel), wl_mem 46 (by decide +kernel), wl_mem 302 (by decide +kernel), by decide +kernel⟩
theorem k_RL_48 : nk_V RL 48 yX3_cost cX3_cost 2 (some .int) 1 := ⟨wl_mem 303 (by decide +kernel), wl_mem 304 (by decide +kernel), wl_mem 305 (by decide +kernel), wl_mem 45 (by decide +kernel), wl_mem 306 (by decide +kernel), by decide +kernel⟩
theorem k_RX3_82 : nk_V RX3 82 yX1_costOf cX1_costOf 2 (some .int) 1 := ⟨wl_mem 307 (by decide +kernel), wl_mem 221 (by decide +kernel), wl_mem 222 (by decide +kernel), wl_mem 46 (by decide +kernel), wl_mem 223 (by decide +kernel), by decide +kernel⟩
theorem k_RL_52 : nk_V RL 52 yX3_economize cX3_economize 1 (some .int) 0 := ⟨wl_mem 308 (by decide +kernel), wl_mem 309 (by decide +kernel), wl_mem 310 (by decide +kernel), wl_mem 45 (by decide +kernel), wl_mem 311 (by decide +kernel), by decide +kernel⟩
theorem k_RX3_85 : nk_V RX3 85 yX1_makeCheap cX1_makeCheap 6 (some .int) 0 := ⟨wl_mem 312 (by decide +kernel), wl_mem 313 (by decide +kernel), wl_mem 314 (by decide +kernel), wl_mem 46 (by decide +kernel), wl_mem 315 (by decide +kernel), by decide +kernel⟩
theorem k_RX1_104 : nk_V RX1 104 yX1_turn cX1_turn 2 (some .int) 1 := ⟨wl_mem 316 (by decide +kernel), wl_mem 292 (by decide +kernel), wl_mem 293 (by decide +kernel), wl_mem 46 (by decide +kernel), wl_mem 294 (by decide +kernel), by decide +kernel⟩
theorem k_RL_57 : nk_V RL 57 yX3_picked cX3_picked 2 (some .int) 1 := ⟨wl_mem 317 (by decide +kernel), wl_mem 318 (by decide +kernel), wl_mem 319 (by decide +kernel), wl_mem 45 (by decide +kernel), wl_mem 320 (by decide +kernel), by decide +kernel⟩
theorem k_RX3_88 : nk_V RX3 88 yX1_pickedBy cX1_pickedBy 5 (some .int) 1 := ⟨wl_mem 321 (by decide +kernel), wl_mem 322 (by decide +kernel), wl_mem 323 (by decide +kernel), wl_mem 46 (by decide +kernel), wl_mem 324 (by decide +kernel), by decide +kernel⟩
theorem k_RL_61 : nk_V RL 61 yX3_read cX3_read 2 (some .int) 1 := ⟨wl_mem 325 (by decide +kernel), wl_mem 326 (by decide +kernel), wl_mem 327 (by decide +kernel), wl_mem 45 (by decide +kernel), wl_mem 328 (by decide +kernel), by decide +kernel⟩
theorem k_RX3_91 : nk_V RX3 91 yX1_wordRead cX1_wordRead 2 (some .int) 1 := ⟨wl_mem 329 (by decide +kernel), wl_mem 330 (by decide +kernel), wl_mem 331 (by decide +kernel), wl_mem 46 (by decide +kernel), wl_mem 332 (by decide +kernel), by decide +kernel⟩
theorem k_RX1_114 : nk_V RX1 114 yX1_rawBits cX1_rawBits 7 (some .int) 1 := ⟨wl_mem 333 (by decide +kernel), wl_mem 335 (by decide +kernel), wl_mem 10 (by decide +kernel), wl_mem 46 (by decide +kernel), wl_mem 336 (by decide +kernel), by decide +kernel⟩
theorem k_RX1_107 : nk_V RX1 107 yX1_pickedBy cX1_pickedBy 5 (some .int) 1 := ⟨wl_mem 337 (by decide +kernel), wl_mem 322 (by decide +kernel), wl_mem 323 (by decide +kernel), wl_mem 46 (by decide +kernel), wl_mem 324 (by decide +kernel), by decide +kernel⟩
theorem k_RL_65 : nk_V RL 65 yX3_readRaw cX3_readRaw 2 (some .int) 1 := ⟨wl_mem 338 (by decide +kernel), wl_mem 339 (by decide +kernel), wl_mem 340 (by decide +kernel), wl_mem 45 (by decide +kernel), wl_mem 341 (by decide +kernel), by decide +kernel⟩
theorem k_RX3_94 : nk_V RX3 94 yX1_rawWord cX1_rawWord 2 (some .int) 1 := ⟨wl_mem 342 (by decide +kernel), wl_mem 343 (by decide +kernel), wl_mem 344 (by decide +kernel), wl_mem 46 (by decide +kernel), wl_mem 345 (by decide +kernel), by decide +kernel⟩
theorem k_RL_69 : nk_V RL 69 yX3_parity cX3_parity 2 (some .int) 1 := ⟨wl_mem 346 (by decide +kernel), wl_mem 347 (by decide +kernel), wl_mem 348 (by decide +kernel), wl_mem 45 (by decide +kernel), wl_mem 349 (by decide +kernel), by decide +kernel⟩
theorem k_RX3_97 : nk_V RX3 97 yX1_parityIsRight cX1_parityIsRight 2 (some .boolean) 1 := ⟨wl_mem 350 (by decide +kernel), wl_mem 351 (by decide +kernel), wl_mem 352 (by decide +kernel), wl_mem 46 (by decide +kernel), wl_mem 353 (by decide +kernel), by decide +kernel⟩
theorem k_RL_73 : nk_V RL 73 yX3_wrong cX3_wrong 2 (some .int) 1 := ⟨wl_mem 354 (by decide +kernel), wl_mem 355 (by decide +kernel), wl_mem 356 (by decide +kernel), wl_mem 45 (by decide +kernel), wl_mem 357 (by decide +kernel), by decide +kernel⟩
theorem k_RX3_100 : nk_V RX3 100 yX1_wrongAddresses cX1_wrongAddresses 4 (some .int) 1 := ⟨wl_mem 358 (by decide +kernel), wl_mem 359 (by decide +kernel), wl_mem 360 (by decide +kernel), wl_mem 46 (by decide +kernel), wl_mem 361 (by decide +kernel), by decide +kernel⟩
theorem k_RX1_117 : nk_V RX1 117 yX1_isWrong cX1_isWrong 3 (some .boolean) 2 := ⟨wl_mem 362 (by decide +kernel), wl_mem 364 (by decide +kernel), wl_mem 11 (by decide +kernel), wl_mem 46 (by decide +kernel), wl_mem 365 (by decide +kernel), by decide +kernel⟩
theorem k_RX1_121 : nk_V RX1 121 yX1_isMisread cX1_isMisread 2 (some .boolean) 1 := ⟨wl_mem 366 (by decide +kernel), wl_mem 368 (by decide +kernel), wl_mem 12 (by decide +kernel), wl_mem 46 (by decide +kernel), wl_mem 369 (by decide +kernel), by decide +kernel⟩
theorem k_RX1_134 : nk_V RX1 134 yX1_wordRead cX1_wordRead 2 (some .int) 1 := ⟨wl_mem 370 (by decide +kernel), wl_mem 330 (by decide +kernel), wl_mem 331 (by decide +kernel), wl_mem 46 (by decide +kernel), wl_mem 332 (by decide +kernel), by decide +kernel⟩
theorem k_RX1_131 : nk_V RX1 131 yX1_wordAt cX1_wordAt 2 (some .int) 1 := ⟨wl_mem 371 (by decide +kernel), wl_mem 267 (by decide +kernel), wl_mem 268 (by decide +kernel), wl_mem 46 (by decide +kernel), wl_mem 269 (by decide +kernel), by decide +kernel⟩
theorem k_RX1_125 : nk_V RX1 125 yX1_parityIsRight cX1_parityIsRight 2 (some .boolean) 1 := ⟨wl_mem 372 (by decide +kernel), wl_mem 351 (by decide +kernel), wl_mem 352 (by decide +kernel), wl_mem 46 (by decide +kernel), wl_mem 353 (by decide +kernel), by decide +kernel⟩
theorem k_RX1_128 : nk_V RX1 128 yX1_rawWord cX1_rawWord 2 (some .int) 1 := ⟨wl_mem 373 (by decide +kernel), wl_mem 343 (by decide +kernel), wl_mem 344 (by decide +kernel), wl_mem 46 (by decide +kernel), wl_mem 345 (by decide +kernel), by decide +kernel⟩
theorem k_RL_77 : nk_V RL 77 yX3_spoil cX3_spoil 3 (some .int) 2 := ⟨wl_mem 374 (by decide +kernel), wl_mem 375 (by decide +kernel), wl_mem 376 (by decide +kernel), wl_mem 45 (by decide +kernel), wl_mem 377 (by decide +kernel), by decide +kernel⟩
theorem k_RX3_103 : nk_V RX3 103 yX1_spoilOrMend cX1_spoilOrMend 3 (some .int) 2 := ⟨wl_mem 378 (by decide +kernel), wl_mem 379 (by decide +kernel), wl_mem 380 (by decide +kernel), wl_mem 46 (by decide +kernel), wl_mem 381 (by decide +kernel), by decide +kernel⟩
theorem k_RL_81 : nk_V RL 81 yX3_explains cX3_explains 2 (some .int) 1 := ⟨wl_mem 382 (by decide +kernel), wl_mem 383 (by decide +kernel), wl_mem 384 (by decide +kernel), wl_mem 45 (by decide +kernel), wl_mem 385 (by decide +kernel), by decide +kernel⟩
theorem k_RX3_106 : nk_V RX3 106 yX1_explanation cX1_explanation 6 (some .int) 1 := ⟨wl_mem 386 (by decide +kernel), wl_mem 387 (by decide +kernel), wl_mem 388 (by decide +kernel), wl_mem 46 (by decide +kernel), wl_mem 389 (by decide +kernel), by decide +kernel⟩
theorem k_RX1_137 : nk_V RX1 137 yX1_strayRings cX1_strayRings 4 (some .int) 0 := ⟨wl_mem 390 (by decide +kernel), wl_mem 392 (by decide +kernel), wl_mem 13 (by decide +kernel), wl_mem 46 (by decide +kernel), wl_mem 393 (by decide +kernel), by decide +kernel⟩
theorem k_RX1_140 : nk_V RX1 140 yX1_isExplainedBy cX1_isExplainedBy 4 (some .boolean) 3 := ⟨wl_mem 394 (by decide +kernel), wl_mem 396 (by decide +kernel), wl_mem 14 (by decide +kernel), wl_mem 46 (by decide +kernel), wl_mem 397 (by decide +kernel), by decide +kernel⟩
theorem k_RX1_144 : nk_V RX1 144 yX1_inhibitExplains cX1_inhibitExplains 8 (some .boolean) 3 := ⟨wl_mem 398 (by decide +kernel), wl_mem 400 (by decide +kernel), wl_mem 15 (by decide +kernel), wl_mem 46 (by decide +kernel), wl_mem 401 (by decide +kernel), by decide +kernel⟩
theorem k_RX1_150 : nk_V RX1 150 yX1_ringWithCode cX1_ringWithCode 3 (some .int) 1 := ⟨wl_mem 402 (by decide +kernel), wl_mem 237 (by decide +kernel), wl_mem 238 (by decide +kernel), wl_mem 46 (by decide +kernel), wl_mem 239 (by decide +kernel), by decide +kernel⟩
theorem k_RX1_147 : nk_V RX1 147 yX1_senseExplains cX1_senseExplains 7 (some .boolean) 3 := ⟨wl_mem 403 (by decide +kernel), wl_mem 405 (by decide +kernel), wl_mem 16 (by decide +kernel), wl_mem 46 (by decide +kernel), wl_mem 406 (by decide +kernel), by decide +kernel⟩
theorem k_RL_85 : nk_V RL 85 yX3_patch cX3_patch 3 (some .int) 2 := ⟨wl_mem 407 (by decide +kernel), wl_mem 408 (by decide +kernel), wl_mem 409 (by decide +kernel), wl_mem 45 (by decide +kernel), wl_mem 410 (by decide +kernel), by decide +kernel⟩
theorem k_RX3_109 : nk_V RX3 109 yX1_patchAt cX1_patchAt 2 (some .int) 1 := ⟨wl_mem 411 (by decide +kernel), wl_mem 412 (by decide +kernel), wl_mem 413 (by decide +kernel), wl_mem 46 (by decide +kernel), wl_mem 414 (by decide +kernel), by decide +kernel⟩
theorem k_RX3_112 : nk_V RX3 112 yX1_patchCount cX1_patchCount 3 (some .int) 0 := ⟨wl_mem 415 (by decide +kernel), wl_mem 213 (by decide +kernel), wl_mem 214 (by decide +kernel), wl_mem 46 (by decide +kernel), wl_mem 215 (by decide +kernel), by decide +kernel⟩
theorem k_RX3_115 : nk_V RX3 115 yX1_putPatch cX1_putPatch 3 (none) 2 := ⟨wl_mem 416 (by decide +kernel), wl_mem 417 (by decide +kernel), wl_mem 418 (by decide +kernel), wl_mem 46 (by decide +kernel), wl_mem 419 (by decide +kernel), by decide +kernel⟩
theorem k_RL_89 : nk_V RL 89 yX3_unpatch cX3_unpatch 2 (some .int) 1 := ⟨wl_mem 420 (by decide +kernel), wl_mem 421 (by decide +kernel), wl_mem 422 (by decide +kernel), wl_mem 45 (by decide +kernel), wl_mem 423 (by decide +kernel), by decide +kernel⟩
theorem k_RL_93 : nk_V RL 93 yX3_patchAll cX3_patchAll 1 (some .int) 0 := ⟨wl_mem 424 (by decide +kernel), wl_mem 425 (by decide +kernel), wl_mem 426 (by decide +kernel), wl_mem 45 (by decide +kernel), wl_mem 427 (by decide +kernel), by decide +kernel⟩
theorem k_RX3_118 : nk_V RX3 118 yX1_mendPatches cX1_mendPatches 2 (none) 0 := ⟨wl_mem 428 (by decide +kernel), wl_mem 429 (by decide +kernel), wl_mem 430 (by decide +kernel), wl_mem 46 (by decide +kernel), wl_mem 431 (by decide +kernel), by decide +kernel⟩
theorem k_RX3_121 : nk_V RX3 121 yX1_addPatches cX1_addPatches 3 (none) 0 := ⟨wl_mem 432 (by decide +kernel), wl_mem 433 (by decide +kernel), wl_mem 434 (by decide +kernel), wl_mem 46 (by decide +kernel), wl_mem 435 (by decide +kernel), by decide +kernel⟩
theorem k_RL_97 : nk_V RL 97 yX3_patchOf cX3_patchOf 2 (some .int) 1 := ⟨wl_mem 436 (by decide +kernel), wl_mem 437 (by decide +kernel), wl_mem 438 (by decide +kernel), wl_mem 45 (by decide +kernel), wl_mem 439 (by decide +kernel), by decide +kernel⟩
theorem k_RL_101 : nk_V RL 101 yX3_undo cX3_undo 1 (some .int) 0 := ⟨wl_mem 440 (by decide +kernel), wl_mem 441 (by decide +kernel), wl_mem 442 (by decide +kernel), wl_mem 45 (by decide +kernel), wl_mem 443 (by decide +kernel), by decide +kernel⟩
theorem k_RX3_124 : nk_V RX3 124 yX0_isEmpty cX0_isEmpty 1 (some .boolean) 0 := ⟨wl_mem 444 (by decide +kernel), wl_mem 445 (by decide +kernel), wl_mem 446 (by decide +kernel), wl_mem 48 (by decide +kernel), wl_mem 447 (by decide +kernel), by decide +kernel⟩
theorem k_RX3_128 : nk_V RX3 128 yX0_restore cX0_restore 2 (some .int) 1 := ⟨wl_mem 448 (by decide +kernel), wl_mem 449 (by decide +kernel), wl_mem 450 (by decide +kernel), wl_mem 48 (by decide +kernel), wl_mem 451 (by decide +kernel), by decide +kernel⟩
theorem k_RL_105 : nk_V RL 105 yX3_type cX3_type 2 (some .int) 1 := ⟨wl_mem 452 (by decide +kernel), wl_mem 453 (by decide +kernel), wl_mem 454 (by decide +kernel), wl_mem 45 (by decide +kernel), wl_mem 455 (by decide +kernel), by decide +kernel⟩
theorem k_RX3_132 : nk_V RX3 132 yX2_isFull cX2_isFull 1 (some .boolean) 0 := ⟨wl_mem 456 (by decide +kernel), wl_mem 457 (by decide +kernel), wl_mem 458 (by decide +kernel), wl_mem 49 (by decide +kernel), wl_mem 459 (by decide +kernel), by decide +kernel⟩
theorem k_RX3_135 : nk_V RX3 135 yX2_append cX2_append 2 (some .int) 1 := ⟨wl_mem 460 (by decide +kernel), wl_mem 461 (by decide +kernel), wl_mem 462 (by decide +kernel), wl_mem 49 (by decide +kernel), wl_mem 463 (by decide +kernel), by decide +kernel⟩
theorem k_RL_109 : nk_V RL 109 yX3_clearText cX3_clearText 1 (some .int) 0 := ⟨wl_mem 464 (by decide +kernel), wl_mem 465 (by decide +kernel), wl_mem 466 (by decide +kernel), wl_mem 45 (by decide +kernel), wl_mem 467 (by decide +kernel), by decide +kernel⟩
theorem k_RX3_138 : nk_V RX3 138 yX2_empty cX2_empty 2 (some .int) 0 := ⟨wl_mem 468 (by decide +kernel), wl_mem 469 (by decide +kernel), wl_mem 470 (by decide +kernel), wl_mem 49 (by decide +kernel), wl_mem 471 (by decide +kernel), by decide +kernel⟩
theorem k_RL_113 : nk_V RL 113 yX3_textFault cX3_textFault 1 (some .int) 0 := ⟨wl_mem 472 (by decide +kernel), wl_mem 473 (by decide +kernel), wl_mem 474 (by decide +kernel), wl_mem 45 (by decide +kernel), wl_mem 475 (by decide +kernel), by decide +kernel⟩
theorem k_RX3_141 : nk_V RX3 141 yX1_highestWord cX1_highestWord 1 (some .int) 0 := ⟨wl_mem 476 (by decide +kernel), wl_mem 263 (by decide +kernel), wl_mem 264 (by decide +kernel), wl_mem 46 (by decide +kernel), wl_mem 265 (by decide +kernel), by decide +kernel⟩
theorem k_RX3_144 : nk_V RX3 144 yX2_scan cX2_scan 8 (some .int) 2 := ⟨wl_mem 477 (by decide +kernel), wl_mem 478 (by decide +kernel), wl_mem 479 (by decide +kernel), wl_mem 49 (by decide +kernel), wl_mem 480 (by decide +kernel), by decide +kernel⟩
theorem k_RL_117 : nk_V RL 117 yX3_load cX3_load 3 (some .int) 0 := ⟨wl_mem 481 (by decide +kernel), wl_mem 482 (by decide +kernel), wl_mem 483 (by decide +kernel), wl_mem 45 (by decide +kernel), wl_mem 484 (by decide +kernel), by decide +kernel⟩
theorem k_RX3_147 : nk_V RX3 147 yX2_wordsFound cX2_wordsFound 1 (some .int) 0 := ⟨wl_mem 485 (by decide +kernel), wl_mem 486 (by decide +kernel), wl_mem 487 (by decide +kernel), wl_mem 49 (by decide +kernel), wl_mem 488 (by decide +kernel), by decide +kernel⟩
theorem k_RX3_150 : nk_V RX3 150 yX2_wordFound cX2_wordFound 2 (some .int) 1 := ⟨wl_mem 489 (by decide +kernel), wl_mem 490 (by decide +kernel), wl_mem 491 (by decide +kernel), wl_mem 49 (by decide +kernel), wl_mem 492 (by decide +kernel), by decide +kernel⟩
theorem k_RL_121 : nk_V RL 121 yX3_digest cX3_digest 1 (some .long) 0 := ⟨wl_mem 493 (by decide +kernel), wl_mem 494 (by decide +kernel), wl_mem 495 (by decide +kernel), wl_mem 45 (by decide +kernel), wl_mem 496 (by decide +kernel), by decide +kernel⟩
theorem k_RX3_153 : nk_V RX3 153 yX1_hash cX1_hash 5 (some .long) 0 := ⟨wl_mem 497 (by decide +kernel), wl_mem 498 (by decide +kernel), wl_mem 499 (by decide +kernel), wl_mem 46 (by decide +kernel), wl_mem 500 (by decide +kernel), by decide +kernel⟩
theorem k_RX1_157 : nk_V RX1 157 yX1_number cX1_number 2 (some .int) 1 := ⟨wl_mem 503 (by decide +kernel), wl_mem 197 (by decide +kernel), wl_mem 198 (by decide +kernel), wl_mem 46 (by decide +kernel), wl_mem 199 (by decide +kernel), by decide +kernel⟩
theorem k_RX1_160 : nk_V RX1 160 yX1_goesThrough cX1_goesThrough 3 (some .int) 2 := ⟨wl_mem 504 (by decide +kernel), wl_mem 300 (by decide +kernel), wl_mem 301 (by decide +kernel), wl_mem 46 (by decide +kernel), wl_mem 302 (by decide +kernel), by decide +kernel⟩
theorem k_RL_12 : nk_I RL 12 yX4_init cX4_init 1 0 := ⟨wl_mem 507 (by decide +kernel), wl_mem 508 (by decide +kernel), wl_mem 50 (by decide +kernel), wl_mem 509 (by decide +kernel), by decide +kernel⟩
theorem ml_RX4_1 : Cond.methodLink RX4 1 objectInit ∈ nT := wl_mem 510 (by decide +kernel)
theorem k_RX4_22 : nk_V RX4 22 yX4_begins cX4_begins 5 (none) 3 := ⟨wl_mem 511 (by decide +kernel), wl_mem 513 (by decide +kernel), wl_mem 17 (by decide +kernel), wl_mem 50 (by decide +kernel), wl_mem 514 (by decide +kernel), by decide +kernel⟩
theorem k_RL_17 : nk_V RL 17 yX4_begin cX4_begin 5 (some .int) 3 := ⟨wl_mem 543 (by decide +kernel), wl_mem 544 (by decide +kernel), wl_mem 545 (by decide +kernel), wl_mem 50 (by decide +kernel), wl_mem 546 (by decide +kernel), by decide +kernel⟩
theorem k_RX4_34 : nk_S RX4 34 yX4_in cX4_in 3 (some .boolean) 3 := ⟨wl_mem 547 (by decide +kernel), wl_mem 548 (by decide +kernel), wl_mem 50 (by decide +kernel), wl_mem 549 (by decide +kernel), by decide +kernel⟩
theorem k_RX4_62 : nk_V RX4 62 yX4_saves cX4_saves 2 (none) 0 := ⟨wl_mem 550 (by decide +kernel), wl_mem 552 (by decide +kernel), wl_mem 18 (by decide +kernel), wl_mem 50 (by decide +kernel), wl_mem 553 (by decide +kernel), by decide +kernel⟩
theorem k_RX4_30 : nk_V RX4 30 yX4_copies cX4_copies 4 (none) 2 := ⟨wl_mem 554 (by decide +kernel), wl_mem 556 (by decide +kernel), wl_mem 19 (by decide +kernel), wl_mem 50 (by decide +kernel), wl_mem 557 (by decide +kernel), by decide +kernel⟩
theorem k_RX4_42 : nk_V RX4 42 yX4_addresses cX4_addresses 1 (some .int) 0 := ⟨wl_mem 558 (by decide +kernel), wl_mem 560 (by decide +kernel), wl_mem 20 (by decide +kernel), wl_mem 50 (by decide +kernel), wl_mem 561 (by decide +kernel), by decide +kernel⟩
theorem k_RL_22 : nk_V RL 22 yX4_count cX4_count 4 (some .int) 1 := ⟨wl_mem 562 (by decide +kernel), wl_mem 563 (by decide +kernel), wl_mem 564 (by decide +kernel), wl_mem 50 (by decide +kernel), wl_mem 565 (by decide +kernel), by decide +kernel⟩
theorem k_RX4_38 : nk_V RX4 38 yX4_wires cX4_wires 1 (some .int) 0 := ⟨wl_mem 566 (by decide +kernel), wl_mem 568 (by decide +kernel), wl_mem 21 (by decide +kernel), wl_mem 50 (by decide +kernel), wl_mem 569 (by decide +kernel), by decide +kernel⟩
theorem k_RX4_45 : nk_S RX4 45 yX4_ones cX4_ones 3 (some .int) 1 := ⟨wl_mem 570 (by decide +kernel), wl_mem 571 (by decide +kernel), wl_mem 50 (by decide +kernel), wl_mem 572 (by decide +kernel), by decide +kernel⟩
theorem k_RX4_65 : nk_V RX4 65 yX4_costOf cX4_costOf 2 (some .int) 1 := ⟨wl_mem 573 (by decide +kernel), wl_mem 575 (by decide +kernel), wl_mem 22 (by decide +kernel), wl_mem 50 (by decide +kernel), wl_mem 576 (by decide +kernel), by decide +kernel⟩
theorem k_RX4_59 : nk_V RX4 59 yX4_right cX4_right 4 (some .int) 1 := ⟨wl_mem 577 (by decide +kernel), wl_mem 579 (by decide +kernel), wl_mem 23 (by decide +kernel), wl_mem 50 (by decide +kernel), wl_mem 580 (by decide +kernel), by decide +kernel⟩
theorem k_RX4_53 : nk_V RX4 53 yX4_allRings cX4_allRings 1 (some .int) 0 := ⟨wl_mem 581 (by decide +kernel), wl_mem 583 (by decide +kernel), wl_mem 24 (by decide +kernel), wl_mem 50 (by decide +kernel), wl_mem 584 (by decide +kernel), by decide +kernel⟩
theorem k_RX4_56 : nk_V RX4 56 yX4_told cX4_told 6 (some .int) 1 := ⟨wl_mem 585 (by decide +kernel), wl_mem 587 (by decide +kernel), wl_mem 25 (by decide +kernel), wl_mem 50 (by decide +kernel), wl_mem 588 (by decide +kernel), by decide +kernel⟩
theorem k_RX4_49 : nk_V RX4 49 yX4_bit cX4_bit 4 (some .int) 2 := ⟨wl_mem 589 (by decide +kernel), wl_mem 591 (by decide +kernel), wl_mem 26 (by decide +kernel), wl_mem 50 (by decide +kernel), wl_mem 592 (by decide +kernel), by decide +kernel⟩
theorem k_RX4_68 : nk_V RX4 68 yX4_patches cX4_patches 3 (some .int) 0 := ⟨wl_mem 593 (by decide +kernel), wl_mem 595 (by decide +kernel), wl_mem 27 (by decide +kernel), wl_mem 50 (by decide +kernel), wl_mem 596 (by decide +kernel), by decide +kernel⟩
theorem k_RL_27 : nk_V RL 27 yX4_setCode cX4_setCode 4 (some .int) 2 := ⟨wl_mem 597 (by decide +kernel), wl_mem 598 (by decide +kernel), wl_mem 599 (by decide +kernel), wl_mem 50 (by decide +kernel), wl_mem 600 (by decide +kernel), by decide +kernel⟩
theorem k_RX4_71 : nk_V RX4 71 yX4_isRing cX4_isRing 2 (some .boolean) 1 := ⟨wl_mem 601 (by decide +kernel), wl_mem 603 (by decide +kernel), wl_mem 28 (by decide +kernel), wl_mem 50 (by decide +kernel), wl_mem 604 (by decide +kernel), by decide +kernel⟩
theorem k_RL_31 : nk_V RL 31 yX4_code cX4_code 2 (some .int) 1 := ⟨wl_mem 605 (by decide +kernel), wl_mem 606 (by decide +kernel), wl_mem 607 (by decide +kernel), wl_mem 50 (by decide +kernel), wl_mem 608 (by decide +kernel), by decide +kernel⟩
theorem k_RL_35 : nk_V RL 35 yX4_weave cX4_weave 4 (some .int) 2 := ⟨wl_mem 609 (by decide +kernel), wl_mem 610 (by decide +kernel), wl_mem 611 (by decide +kernel), wl_mem 50 (by decide +kernel), wl_mem 612 (by decide +kernel), by decide +kernel⟩
theorem k_RX4_75 : nk_V RX4 75 yX4_isAddress cX4_isAddress 2 (some .boolean) 1 := ⟨wl_mem 613 (by decide +kernel), wl_mem 615 (by decide +kernel), wl_mem 29 (by decide +kernel), wl_mem 50 (by decide +kernel), wl_mem 616 (by decide +kernel), by decide +kernel⟩
theorem k_RX4_78 : nk_V RX4 78 yX4_isWord cX4_isWord 2 (some .boolean) 1 := ⟨wl_mem 617 (by decide +kernel), wl_mem 619 (by decide +kernel), wl_mem 30 (by decide +kernel), wl_mem 50 (by decide +kernel), wl_mem 620 (by decide +kernel), by decide +kernel⟩
theorem k_RL_39 : nk_V RL 39 yX4_word cX4_word 2 (some .int) 1 := ⟨wl_mem 621 (by decide +kernel), wl_mem 622 (by decide +kernel), wl_mem 623 (by decide +kernel), wl_mem 50 (by decide +kernel), wl_mem 624 (by decide +kernel), by decide +kernel⟩
theorem k_RL_43 : nk_V RL 43 yX4_cross cX4_cross 3 (some .int) 1 := ⟨wl_mem 625 (by decide +kernel), wl_mem 626 (by decide +kernel), wl_mem 627 (by decide +kernel), wl_mem 50 (by decide +kernel), wl_mem 628 (by decide +kernel), by decide +kernel⟩
theorem k_RX4_81 : nk_V RX4 81 yX4_isWire cX4_isWire 2 (some .boolean) 1 := ⟨wl_mem 629 (by decide +kernel), wl_mem 631 (by decide +kernel), wl_mem 31 (by decide +kernel), wl_mem 50 (by decide +kernel), wl_mem 632 (by decide +kernel), by decide +kernel⟩
theorem k_RL_47 : nk_V RL 47 yX4_through cX4_through 3 (some .int) 2 := ⟨wl_mem 633 (by decide +kernel), wl_mem 634 (by decide +kernel), wl_mem 635 (by decide +kernel), wl_mem 50 (by decide +kernel), wl_mem 636 (by decide +kernel), by decide +kernel⟩
theorem k_RL_51 : nk_V RL 51 yX4_cost cX4_cost 2 (some .int) 1 := ⟨wl_mem 637 (by decide +kernel), wl_mem 638 (by decide +kernel), wl_mem 639 (by decide +kernel), wl_mem 50 (by decide +kernel), wl_mem 640 (by decide +kernel), by decide +kernel⟩
theorem k_RL_56 : nk_V RL 56 yX4_economize cX4_economize 6 (some .int) 0 := ⟨wl_mem 641 (by decide +kernel), wl_mem 642 (by decide +kernel), wl_mem 643 (by decide +kernel), wl_mem 50 (by decide +kernel), wl_mem 644 (by decide +kernel), by decide +kernel⟩
theorem k_RL_60 : nk_V RL 60 yX4_picked cX4_picked 2 (some .int) 1 := ⟨wl_mem 645 (by decide +kernel), wl_mem 646 (by decide +kernel), wl_mem 647 (by decide +kernel), wl_mem 50 (by decide +kernel), wl_mem 648 (by decide +kernel), by decide +kernel⟩
theorem k_RX4_84 : nk_V RX4 84 yX4_weaves cX4_weaves 2 (none) 0 := ⟨wl_mem 649 (by decide +kernel), wl_mem 651 (by decide +kernel), wl_mem 32 (by decide +kernel), wl_mem 50 (by decide +kernel), wl_mem 652 (by decide +kernel), by decide +kernel⟩
theorem k_RX4_87 : nk_V RX4 87 yX4_picks cX4_picks 4 (some .int) 1 := ⟨wl_mem 653 (by decide +kernel), wl_mem 655 (by decide +kernel), wl_mem 33 (by decide +kernel), wl_mem 50 (by decide +kernel), wl_mem 656 (by decide +kernel), by decide +kernel⟩
theorem k_RL_64 : nk_V RL 64 yX4_read cX4_read 2 (some .int) 1 := ⟨wl_mem 657 (by decide +kernel), wl_mem 658 (by decide +kernel), wl_mem 659 (by decide +kernel), wl_mem 50 (by decide +kernel), wl_mem 660 (by decide +kernel), by decide +kernel⟩
theorem k_RX4_96 : nk_V RX4 96 yX4_reads cX4_reads 2 (some .int) 1 := ⟨wl_mem 661 (by decide +kernel), wl_mem 663 (by decide +kernel), wl_mem 34 (by decide +kernel), wl_mem 50 (by decide +kernel), wl_mem 664 (by decide +kernel), by decide +kernel⟩
theorem k_RX4_93 : nk_V RX4 93 yX4_rawWord cX4_rawWord 2 (some .int) 1 := ⟨wl_mem 665 (by decide +kernel), wl_mem 667 (by decide +kernel), wl_mem 35 (by decide +kernel), wl_mem 50 (by decide +kernel), wl_mem 668 (by decide +kernel), by decide +kernel⟩
theorem k_RX4_90 : nk_V RX4 90 yX4_raw cX4_raw 7 (some .int) 1 := ⟨wl_mem 669 (by decide +kernel), wl_mem 671 (by decide +kernel), wl_mem 36 (by decide +kernel), wl_mem 50 (by decide +kernel), wl_mem 672 (by decide +kernel), by decide +kernel⟩
theorem k_RL_68 : nk_V RL 68 yX4_readRaw cX4_readRaw 2 (some .int) 1 := ⟨wl_mem 673 (by decide +kernel), wl_mem 674 (by decide +kernel), wl_mem 675 (by decide +kernel), wl_mem 50 (by decide +kernel), wl_mem 676 (by decide +kernel), by decide +kernel⟩
theorem k_RL_72 : nk_V RL 72 yX4_parity cX4_parity 2 (some .int) 1 := ⟨wl_mem 677 (by decide +kernel), wl_mem 678 (by decide +kernel), wl_mem 679 (by decide +kernel), wl_mem 50 (by decide +kernel), wl_mem 680 (by decide +kernel), by decide +kernel⟩
theorem k_RX4_99 : nk_V RX4 99 yX4_isEven cX4_isEven 2 (some .boolean) 1 := ⟨wl_mem 681 (by decide +kernel), wl_mem 683 (by decide +kernel), wl_mem 37 (by decide +kernel), wl_mem 50 (by decide +kernel), wl_mem 684 (by decide +kernel), by decide +kernel⟩
theorem k_RL_76 : nk_V RL 76 yX4_wrong cX4_wrong 2 (some .int) 1 := ⟨wl_mem 685 (by decide +kernel), wl_mem 686 (by decide +kernel), wl_mem 687 (by decide +kernel), wl_mem 50 (by decide +kernel), wl_mem 688 (by decide +kernel), by decide +kernel⟩
theorem k_RX4_102 : nk_V RX4 102 yX4_wrongs cX4_wrongs 6 (some .int) 1 := ⟨wl_mem 689 (by decide +kernel), wl_mem 691 (by decide +kernel), wl_mem 38 (by decide +kernel), wl_mem 50 (by decide +kernel), wl_mem 692 (by decide +kernel), by decide +kernel⟩
theorem k_RL_80 : nk_V RL 80 yX4_spoil cX4_spoil 3 (some .int) 2 := ⟨wl_mem 693 (by decide +kernel), wl_mem 694 (by decide +kernel), wl_mem 695 (by decide +kernel), wl_mem 50 (by decide +kernel), wl_mem 696 (by decide +kernel), by decide +kernel⟩
theorem k_RL_84 : nk_V RL 84 yX4_explains cX4_explains 7 (some .int) 1 := ⟨wl_mem 697 (by decide +kernel), wl_mem 698 (by decide +kernel), wl_mem 699 (by decide +kernel), wl_mem 50 (by decide +kernel), wl_mem 700 (by decide +kernel), by decide +kernel⟩
theorem k_RX4_105 : nk_V RX4 105 yX4_isAsNow cX4_isAsNow 3 (some .boolean) 0 := ⟨wl_mem 701 (by decide +kernel), wl_mem 703 (by decide +kernel), wl_mem 39 (by decide +kernel), wl_mem 50 (by decide +kernel), wl_mem 704 (by decide +kernel), by decide +kernel⟩
theorem k_RL_88 : nk_V RL 88 yX4_patch cX4_patch 3 (some .int) 2 := ⟨wl_mem 705 (by decide +kernel), wl_mem 706 (by decide +kernel), wl_mem 707 (by decide +kernel), wl_mem 50 (by decide +kernel), wl_mem 708 (by decide +kernel), by decide +kernel⟩
theorem k_RL_92 : nk_V RL 92 yX4_unpatch cX4_unpatch 2 (some .int) 1 := ⟨wl_mem 709 (by decide +kernel), wl_mem 710 (by decide +kernel), wl_mem 711 (by decide +kernel), wl_mem 50 (by decide +kernel), wl_mem 712 (by decide +kernel), by decide +kernel⟩
theorem k_RL_96 : nk_V RL 96 yX4_patchAll cX4_patchAll 3 (some .int) 0 := ⟨wl_mem 713 (by decide +kernel), wl_mem 714 (by decide +kernel), wl_mem 715 (by decide +kernel), wl_mem 50 (by decide +kernel), wl_mem 716 (by decide +kernel), by decide +kernel⟩
theorem k_RL_100 : nk_V RL 100 yX4_patchOf cX4_patchOf 2 (some .int) 1 := ⟨wl_mem 717 (by decide +kernel), wl_mem 718 (by decide +kernel), wl_mem 719 (by decide +kernel), wl_mem 50 (by decide +kernel), wl_mem 720 (by decide +kernel), by decide +kernel⟩
theorem k_RL_104 : nk_V RL 104 yX4_undo cX4_undo 1 (some .int) 0 := ⟨wl_mem 721 (by decide +kernel), wl_mem 722 (by decide +kernel), wl_mem 723 (by decide +kernel), wl_mem 50 (by decide +kernel), wl_mem 724 (by decide +kernel), by decide +kernel⟩
theorem k_RL_108 : nk_V RL 108 yX4_type cX4_type 2 (some .int) 1 := ⟨wl_mem 725 (by decide +kernel), wl_mem 726 (by decide +kernel), wl_mem 727 (by decide +kernel), wl_mem 50 (by decide +kernel), wl_mem 728 (by decide +kernel), by decide +kernel⟩
theorem k_RL_112 : nk_V RL 112 yX4_clearText cX4_clearText 2 (some .int) 0 := ⟨wl_mem 729 (by decide +kernel), wl_mem 730 (by decide +kernel), wl_mem 731 (by decide +kernel), wl_mem 50 (by decide +kernel), wl_mem 732 (by decide +kernel), by decide +kernel⟩
theorem k_RL_116 : nk_V RL 116 yX4_textFault cX4_textFault 1 (some .int) 0 := ⟨wl_mem 733 (by decide +kernel), wl_mem 734 (by decide +kernel), wl_mem 735 (by decide +kernel), wl_mem 50 (by decide +kernel), wl_mem 736 (by decide +kernel), by decide +kernel⟩
theorem k_RX4_125 : nk_V RX4 125 yX4_readsText cX4_readsText 4 (some .boolean) 1 := ⟨wl_mem 737 (by decide +kernel), wl_mem 739 (by decide +kernel), wl_mem 40 (by decide +kernel), wl_mem 50 (by decide +kernel), wl_mem 740 (by decide +kernel), by decide +kernel⟩
theorem k_RX4_121 : nk_V RX4 121 yX4_readsWord cX4_readsWord 5 (some .boolean) 1 := ⟨wl_mem 741 (by decide +kernel), wl_mem 743 (by decide +kernel), wl_mem 41 (by decide +kernel), wl_mem 50 (by decide +kernel), wl_mem 744 (by decide +kernel), by decide +kernel⟩
theorem k_RX4_115 : nk_V RX4 115 yX4_here cX4_here 1 (some .int) 0 := ⟨wl_mem 745 (by decide +kernel), wl_mem 747 (by decide +kernel), wl_mem 42 (by decide +kernel), wl_mem 50 (by decide +kernel), wl_mem 748 (by decide +kernel), by decide +kernel⟩
theorem k_RL_120 : nk_V RL 120 yX4_load cX4_load 2 (some .int) 0 := ⟨wl_mem 749 (by decide +kernel), wl_mem 750 (by decide +kernel), wl_mem 751 (by decide +kernel), wl_mem 50 (by decide +kernel), wl_mem 752 (by decide +kernel), by decide +kernel⟩
theorem k_RL_125 : nk_V RL 125 yX4_digest cX4_digest 3 (some .long) 0 := ⟨wl_mem 753 (by decide +kernel), wl_mem 754 (by decide +kernel), wl_mem 755 (by decide +kernel), wl_mem 50 (by decide +kernel), wl_mem 756 (by decide +kernel), by decide +kernel⟩
theorem k_RX4_136 : nk_V RX4 136 yX4_count cX4_count 4 (some .int) 1 := ⟨wl_mem 758 (by decide +kernel), wl_mem 563 (by decide +kernel), wl_mem 564 (by decide +kernel), wl_mem 50 (by decide +kernel), wl_mem 565 (by decide +kernel), by decide +kernel⟩
theorem k_RX4_139 : nk_V RX4 139 yX4_note cX4_note 2 (none) 1 := ⟨wl_mem 759 (by decide +kernel), wl_mem 761 (by decide +kernel), wl_mem 43 (by decide +kernel), wl_mem 50 (by decide +kernel), wl_mem 762 (by decide +kernel), by decide +kernel⟩
theorem fl_RX1_28 : Cond.fieldLink RX1 28 "CoreRope$Rope" "rings" "I" ∈ nT := wl_mem 104 (by decide +kernel)
theorem fl_RX1_32 : Cond.fieldLink RX1 32 "CoreRope$Rope" "bits" "I" ∈ nT := wl_mem 105 (by decide +kernel)
theorem fl_RX1_35 : Cond.fieldLink RX1 35 "CoreRope$Rope" "sets" "I" ∈ nT := wl_mem 106 (by decide +kernel)
theorem fl_RX1_9 : Cond.fieldLink RX1 9 "CoreRope$Rope" "ones" "[I" ∈ nT := wl_mem 107 (by decide +kernel)
theorem fl_RX1_15 : Cond.fieldLink RX1 15 "CoreRope$Rope" "wrongWeaves" "[I" ∈ nT := wl_mem 108 (by decide +kernel)
theorem fl_RX1_18 : Cond.fieldLink RX1 18 "CoreRope$Rope" "crossed" "[I" ∈ nT := wl_mem 109 (by decide +kernel)
theorem fl_RX1_21 : Cond.fieldLink RX1 21 "CoreRope$Rope" "patches" "[I" ∈ nT := wl_mem 110 (by decide +kernel)
theorem fl_RX0_11 : Cond.fieldLink RX0 11 "CoreRope$History" "states" "[LCoreRope$Rope;" ∈ nT := wl_mem 136 (by decide +kernel)
theorem fl_RX0_22 : Cond.fieldLink RX0 22 "CoreRope$History" "oldest" "I" ∈ nT := wl_mem 137 (by decide +kernel)
theorem fl_RX0_18 : Cond.fieldLink RX0 18 "CoreRope$History" "size" "I" ∈ nT := wl_mem 138 (by decide +kernel)
theorem fl_RX2_9 : Cond.fieldLink RX2 9 "CoreRope$Text" "bytes" "[I" ∈ nT := wl_mem 152 (by decide +kernel)
theorem fl_RX2_18 : Cond.fieldLink RX2 18 "CoreRope$Text" "length" "I" ∈ nT := wl_mem 153 (by decide +kernel)
theorem fl_RX2_15 : Cond.fieldLink RX2 15 "CoreRope$Text" "words" "[I" ∈ nT := wl_mem 154 (by decide +kernel)
theorem fl_RX2_22 : Cond.fieldLink RX2 22 "CoreRope$Text" "found" "I" ∈ nT := wl_mem 155 (by decide +kernel)
theorem fl_RX3_12 : Cond.fieldLink RX3 12 "CoreRope" "rope" "LCoreRope$Rope;" ∈ nT := wl_mem 165 (by decide +kernel)
theorem fl_RX3_19 : Cond.fieldLink RX3 19 "CoreRope" "history" "LCoreRope$History;" ∈ nT := wl_mem 166 (by decide +kernel)
theorem fl_RX3_26 : Cond.fieldLink RX3 26 "CoreRope" "text" "LCoreRope$Text;" ∈ nT := wl_mem 167 (by decide +kernel)
theorem fl_RX4_7 : Cond.fieldLink RX4 7 "CoreRopeModel" "row" "[I" ∈ nT := wl_mem 515 (by decide +kernel)
theorem fl_RX4_26 : Cond.fieldLink RX4 26 "CoreRopeModel" "saved" "I" ∈ nT := wl_mem 516 (by decide +kernel)
theorem fl_RX4_13 : Cond.fieldLink RX4 13 "CoreRopeModel" "woven" "[I" ∈ nT := wl_mem 517 (by decide +kernel)
theorem fl_RX4_16 : Cond.fieldLink RX4 16 "CoreRopeModel" "now" "[I" ∈ nT := wl_mem 518 (by decide +kernel)
theorem fl_RX4_19 : Cond.fieldLink RX4 19 "CoreRopeModel" "text" "[I" ∈ nT := wl_mem 519 (by decide +kernel)
theorem fl_RX4_109 : Cond.fieldLink RX4 109 "CoreRopeModel" "length" "I" ∈ nT := wl_mem 520 (by decide +kernel)
theorem fl_RX4_112 : Cond.fieldLink RX4 112 "CoreRopeModel" "at" "I" ∈ nT := wl_mem 521 (by decide +kernel)
theorem fl_RX4_118 : Cond.fieldLink RX4 118 "CoreRopeModel" "words" "I" ∈ nT := wl_mem 522 (by decide +kernel)
theorem fl_RX4_130 : Cond.fieldLink RX4 130 "CoreRopeModel" "h" "J" ∈ nT := wl_mem 523 (by decide +kernel)
theorem cl_RL_7 : Cond.classLink RL 7 RX3 ∈ nT := wl_mem 52 (by decide +kernel)
theorem ib_RX3 : Cond.instantiable RX3 3 ∈ nT := wl_mem 53 (by decide +kernel)
theorem cl_RX3_9 : Cond.classLink RX3 9 RX1 ∈ nT := wl_mem 60 (by decide +kernel)
theorem ib_RX1 : Cond.instantiable RX1 7 ∈ nT := wl_mem 61 (by decide +kernel)
theorem ct_RJ6_265 : Cond.constant RJ6 265 (1431655765) ∈ nT := wl_mem 101 (by decide +kernel)
theorem ct_RJ6_266 : Cond.constant RJ6 266 (858993459) ∈ nT := wl_mem 102 (by decide +kernel)
theorem ct_RJ6_267 : Cond.constant RJ6 267 (252645135) ∈ nT := wl_mem 103 (by decide +kernel)
theorem cl_RX3_16 : Cond.classLink RX3 16 RX0 ∈ nT := wl_mem 127 (by decide +kernel)
theorem ib_RX0 : Cond.instantiable RX0 3 ∈ nT := wl_mem 128 (by decide +kernel)
theorem cl_RX0_9 : Cond.classLink RX0 9 RX1 ∈ nT := wl_mem 133 (by decide +kernel)
theorem cl_RX3_23 : Cond.classLink RX3 23 RX2 ∈ nT := wl_mem 146 (by decide +kernel)
theorem ib_RX2 : Cond.instantiable RX2 4 ∈ nT := wl_mem 147 (by decide +kernel)
theorem ct_RX1_153 : Cond.constantLong RX1 153 (17) ∈ nT := wl_mem 501 (by decide +kernel)
theorem ct_RX1_155 : Cond.constantLong RX1 155 (31) ∈ nT := wl_mem 502 (by decide +kernel)
theorem cl_RL_10 : Cond.classLink RL 10 RX4 ∈ nT := wl_mem 505 (by decide +kernel)
theorem ib_RX4 : Cond.instantiable RX4 9 ∈ nT := wl_mem 506 (by decide +kernel)
theorem ct_RX4_134 : Cond.constantLong RX4 134 (17) ∈ nT := wl_mem 757 (by decide +kernel)
theorem ct_RX4_128 : Cond.constantLong RX4 128 (31) ∈ nT := wl_mem 763 (by decide +kernel)
theorem iz_RL : Cond.initialized RL ∈ nT := wl_mem 44 (by decide +kernel)
theorem iz_RX3 : Cond.initialized RX3 ∈ nT := wl_mem 45 (by decide +kernel)
theorem iz_RX1 : Cond.initialized RX1 ∈ nT := wl_mem 46 (by decide +kernel)
theorem iz_RJ6 : Cond.initialized RJ6 ∈ nT := wl_mem 47 (by decide +kernel)
theorem iz_RX0 : Cond.initialized RX0 ∈ nT := wl_mem 48 (by decide +kernel)
theorem iz_RX2 : Cond.initialized RX2 ∈ nT := wl_mem 49 (by decide +kernel)
theorem iz_RX4 : Cond.initialized RX4 ∈ nT := wl_mem 50 (by decide +kernel)
theorem iz_RJ10 : Cond.initialized RJ10 ∈ nT := wl_mem 51 (by decide +kernel)
theorem ac_native : Cond.native arraycopyName ∈ nT := wl_mem 190 (by decide +kernel)
theorem ac_static : Cond.static arraycopyName ∈ nT := wl_mem 189 (by decide +kernel)
end
section
/-! ===== the worlds: a rope, the text, the model; writing contracts and their calls ===== -/
def nTy (cI cR : ClassId) : List (ClassId × FieldType) := [(cI, .int), (cR, .object "CoreRope$Rope")]
def rmK (f lo : Nat) : Room := { frames := f, cells := 0, slots := 0, locals := lo }
def wRp (h : Nat) (a : Nat → Nat) (cI : ClassId) (R B S : Nat) (f0 f1 f2 f3 : Nat → Int32) : va_W := [(h, .inr (1, [.int (nI R), .int (nI B), .int (nI S), .ref (a 0), .ref (a 1), .ref (a 2), .ref (a 3)])), (a 0, .inl (cI, 41, .inl f0)), (a 1, .inl (cI, 41, .inl f1)), (a 2, .inl (cI, 41, .inl f2)), (a 3, .inl (cI, 48, .inl f3))]
def wMd (h : Nat) (a : Nat → Nat) (cI : ClassId) (row : Nat → Int32) (sv : Nat) (g1 g2 tx : Nat → Int32) (ln at0 wd : Nat) (hh : Int64) : va_W := [(h, .inr (4, [.ref (a 0), .int (nI sv), .ref (a 1), .ref (a 2), .ref (a 3), .int (nI ln), .int (nI at0), .int (nI wd), .long hh])), (a 0, .inl (cI, 1134, .inl row)), (a 1, .inl (cI, 41, .inl g1)), (a 2, .inl (cI, 48, .inl g2)), (a 3, .inl (cI, 100, .inl tx))]
def wTx (h : Nat) (a : Nat → Nat) (cI : ClassId) (tx : Nat → Int32) (ln : Nat) (wf0 : Nat → Int32) (fo : Nat) : va_W := [(h, .inr (2, [.ref (a 0), .int (nI ln), .ref (a 1), .int (nI fo)])), (a 0, .inl (cI, 100, .inl tx)), (a 1, .inl (cI, 48, .inl wf0))]
theorem va_P_nil {D : va_G} {H : Heap} : va_P D vwCl [] H := fun k q h => by simp at h
def nPreM (D : va_G) (tys : List (ClassId × FieldType)) (av : List Value) (ws : va_W) (sz : Nat) : Array Value → State → Prop := va_Pc av (fun U => U.heap.size = sz ∧ va_P D vwCl ws U.heap ∧ va_K D vwCl tys U ∧ va_D (fun _ => True) ws)
theorem nPreM_blind {D : va_G} {tys : List (ClassId × FieldType)} {av : List Value} {ws : va_W} {sz : Nat} : FrameBlind (nPreM D tys av ws sz) := fun a U g mk q => ⟨q.1, q.2.1, q.2.2.1, va_K.moved (u := U) (U := U.calling g mk a) (Vm.Alike.refl U.vm) q.2.2.2.1, q.2.2.2.2⟩
theorem nPreM_of {D : va_G} {tys : List (ClassId × FieldType)} {av : List Value} {ws : va_W} {A0 : Nat → Prop} {s : State} {H : Heap} (hP : va_P D vwCl ws H) (hK : va_K D vwCl tys s) (hD : va_D A0 ws) : ∀ U : State, U.heap = H → s.WarmedH U.vm → nPreM D tys av ws H.size av.toArray U := fun U hU hW => ⟨rfl, by rw [hU], by rw [hU]; exact hP, va_K.moved hW.alike hK, hD.weaken (fun _ _ _ _ => trivial)⟩
def QcM (D : va_G) (oc : Option Value) (ws' : va_W) (A : Nat → Prop) : Array Value → State → Outcome → State → Prop := fun _ st o t => o = .returned oc ∧ va_P D vwCl ws' t.heap ∧ va_D A ws' ∧ va_F A st t
theorem met_mut {Qc : (Nat → Prop) → Array Value → State → Outcome → State → Prop} {l : Launch} {y : MethodName} {b : ByteArray} {n mc ms : Nat} {rt : Option FieldType} {rm : Room} {D : va_G} {tys : List (ClassId × FieldType)} {av : List Value} {ws : va_W} {sz : Nat} (hy : plainName y.cls = true) (hn : (lg_sl av).length ≤ n)
    (body : ∀ (p : Program) (e : Env) (s : State) (m : MethodId) (args : Array Value) (below : List Frame) (meth : Method) (c : Code) (ls : Array Slot) (A : Nat → Prop) (H : Heap) (locs : List Loc), p.tables.exec = Jvm.exec → c.code = b → c.maxLocals = n → meth.sig.returnType = rt → meth.locks = false → s.vm.findClass y.cls = some m.cls → (∀ w ∈ nT, w.before args s = true) → va_P D vwCl ws H → va_K D vwCl tys s → va_D A ws → (∀ q, s.heap.size ≤ q → A q) → va_S A s.heap H locs → lv_has ls n (lv_args 0 av) →
      W p l e rm s m args below meth c H locs 0 0 (MQ below (Qc A) args s mc ms A) (F0 m 0 ls [])) : Met l y (wsC y b n rt) rm (nPreM D tys av ws sz) (Qc (va_A ws sz)) mc ms (va_A ws sz) := by
  refine Met.ofW (cc := b) (maxL := n) (ret := rt) hy rfl ?_
  intro p e s m args below meth c s₁ B hml hv
  obtain ⟨rfl, hsz, hP, hK, hD⟩ := hv
  have hts := atoms_spec (ws := wsC y b n rt) B.pre
  have hl := lv_entry av (n := n) hn
  rw [lg_entry_eq]
  generalize (lg_sl av ++ List.replicate (n - (lg_sl av).length) Slot.unset).toArray = ls at hl ⊢
  subst hsz
  exact body p e s m _ below meth c ls (va_A ws s.heap.size) s.heap [] B.exec B.bytes hml B.returns B.notSynchronized (findClass_of_methodNamed B.named) (fun w h => hts w (List.mem_cons_of_mem _ h)) hP hK hD.self (fun q h => Or.inr h) va_S.rf hl
theorem n_fmap {α : Type} {f : Nat → Option α} : ∀ {is : List Nat} {w : List α}, is.map f = w.map some → is.filterMap f = w
  | [], [], _ => rfl
  | [], _ :: _, h => by cases h
  | _ :: _, [], h => by cases h
  | i :: is, x :: w, h => by
    obtain ⟨h1, h2⟩ := List.cons.inj h
    rw [List.filterMap_cons, h1, n_fmap h2]
section MU
variable {p : Program} {l : Launch} {e : Env} {R : Room} {s : State} {m : MethodId} {args : Array Value} {below : List Frame} {meth : Method} {c : Code} {H : Heap} {locs : List Loc} {cells slots mc ms : Nat} {Q : State → Prop}
variable {cc : ByteArray} {pc : Nat} {ls : Array Slot} {D : va_G} {A : Nat → Prop} {tys : List (ClassId × FieldType)} {ws : va_W}
theorem nv_stk {st st' : List Value} (h : st = st') (k : W p l e R s m args below meth c H locs cells slots Q (F0 m pc ls st')) : W p l e R s m args below meth c H locs cells slots Q (F0 m pc ls st) := by
  subst h
  exact k
theorem mu_reti (hx : p.tables.exec = Jvm.exec) (hb : c.code = cc) (hr : meth.sig.returnType = some .int) (hlocks : meth.locks = false) {v r : Int32} (hv : v = r) (hP : va_P D vwCl ws H) (hD : va_D A ws) (hS : va_S A s.heap H locs) (hdg : decode cc pc = .ok (.ireturn, 1)) : W p l e R s m args below meth c H locs cells slots (MQ below (QcM D (some (.int r)) ws A) args s cells slots A) (F0 m pc ls [.int v]) :=
  W.iret hx hb hr (fun t ht _ => ⟨by rw [hv], by rw [ht]; exact hP, hD, hS.F ht⟩) hS.2.2 hdg
theorem mu_retz (hx : p.tables.exec = Jvm.exec) (hb : c.code = cc) (hr : meth.sig.returnType = some .boolean) (hlocks : meth.locks = false) {v r : Int32} (hz : v = 0 ∨ v = 1) (hv : v = r) (hP : va_P D vwCl ws H) (hD : va_D A ws) (hS : va_S A s.heap H locs) (hdg : decode cc pc = .ok (.ireturn, 1)) : W p l e R s m args below meth c H locs cells slots (MQ below (QcM D (some (.int r)) ws A) args s cells slots A) (F0 m pc ls [.int v]) :=
  W.zret hx hb hr (by rcases hz with h | h <;> rw [h] <;> rfl) (fun t ht _ => ⟨by rw [hv], by rw [ht]; exact hP, hD, hS.F ht⟩) hS.2.2 hdg
theorem mu_retl (hx : p.tables.exec = Jvm.exec) (hb : c.code = cc) (hr : meth.sig.returnType = some .long) (hlocks : meth.locks = false) {v r : Int64} (hv : v = r) (hP : va_P D vwCl ws H) (hD : va_D A ws) (hS : va_S A s.heap H locs) (hdg : decode cc pc = .ok (.lreturn, 1)) : W p l e R s m args below meth c H locs cells slots (MQ below (QcM D (some (.long r)) ws A) args s cells slots A) (F0 m pc ls [.long v]) :=
  W.lret hx hb hr (fun t ht _ => ⟨by rw [hv], by rw [ht]; exact hP, hD, hS.F ht⟩) hS.2.2 hdg
theorem mu_retv (hx : p.tables.exec = Jvm.exec) (hb : c.code = cc) (hr : meth.sig.returnType = none) (hlocks : meth.locks = false) (hP : va_P D vwCl ws H) (hD : va_D A ws) (hS : va_S A s.heap H locs) (hdg : decode cc pc = .ok (.return_, 1)) : W p l e R s m args below meth c H locs cells slots (MQ below (QcM D none ws A) args s cells slots A) (F0 m pc ls []) :=
  W.vret hx hb hr (fun t ht _ => ⟨rfl, by rw [ht]; exact hP, hD, hS.F ht⟩) hS.2.2 hdg
/-- a call of a method that writes: its cells come back changed, in their old places -/
theorem mu_call {ws' : va_W} (isC isR perm : List Nat) (As : List Value) (rest : List Value) {own : String} {idx np nL maxL : Nat} {y : MethodName} {bytes : ByteArray} {rt : Option FieldType} {rm : Room} {b : Nat} {wc wc2 : va_W} {oc : Option Value} {st : List Value} {lv : List (Nat × Value)} {q : vw_C} {fs : List Value}
    (hx : p.tables.exec = Jvm.exec) (hb : c.code = cc) (hml : c.maxLocals = nL) (hown : s.vm.findClass own = some m.cls) (hts : ∀ w ∈ nT, w.before args s = true) (hk : nk_V own idx y bytes maxL rt np) (hM : ∀ sz, Met l y (wsC y bytes maxL rt) rm (nPreM D tys (.ref b :: As) wc sz) (QcM D oc wc2 (va_A wc sz)) mc ms (va_A wc sz))
    (hrm : rm.cells = mc ∧ rm.slots = ms ∧ rm.frames + 1 ≤ R.frames ∧ 8 + (maxL + 11) + rm.locals ≤ R.locals) (hP : va_P D vwCl ws H) (hD : va_D A ws) (hS : va_S A s.heap H locs) (hA : ∀ q, s.heap.size ≤ q → A q) (hK : va_K D vwCl tys s) (ci : Nat) (hc : vwCl[ci]? = some q) (hcl : y.cls = q.1) (he : wc[0]? = some (b, .inr (ci, fs)))
    (hC : isC.map (fun i => ws[i]?) = wc.map some) (hnC : va_nd isC = true) (hR : isR.map (fun i => ws[i]?) = (isR.filterMap (fun i => ws[i]?)).map some) (hnR : va_nd isR = true) (hdis : ∀ i ∈ isR, i ∉ isC) (hpe : perm.map (fun i => (isR.filterMap (fun i => ws[i]?) ++ wc2)[i]?) = ws'.map some) (hnp : va_nd perm = true)
    (hn : As.length = np) (hl : lv_has ls nL lv) (hst : st = As.reverse ++ .ref b :: rest) (hcat : (rest.map fun v => v.category).sum ≤ 8) (hdg : decode cc pc = .ok (.invokevirtual idx, 3)) (hf : cells + mc ≤ R.cells ∧ slots + ms ≤ R.slots)
    (kk : ∀ (H1 : Heap) (locs1 : List Loc), va_P D vwCl ws' H1 → va_D A ws' → va_S A s.heap H1 locs1 → W p l e R s m args below meth c H1 locs1 (cells + mc) (slots + ms) Q (F0 m (pc + 3) ls (oc.toList ++ rest))) : W p l e R s m args below meth c H locs cells slots Q (F0 m pc ls st) := by
  have hPc := hP.sub isC (n_fmap hC)
  have hDc := hD.sub isC hnC hC
  have hF := va_free hD hS hA isC hC
  have hrec := va_recv hK hPc hc he
  rw [← hcl] at hrec
  intro T hT X
  obtain ⟨v, st₀, t, T', L, h0, X', hL, e1, e2, ⟨hv, hP1, hD1, hz, hkp⟩, stp⟩ := va_runV (C := y.cls) ⟨hx, hb, hml, hown, hts⟩ (hM H.size) (hk.cw hts hrm.1 hrm.2.1 hrm.2.2) ⟨nPreM_blind, hrec, nPreM_of hPc hK hDc⟩ (g := F0 m pc ls st) rfl hn hl.1 hst (lv_room hcat) hdg hf T hT X
  have hv2 : v = oc := Outcome.returned.inj hv
  subst hv2
  rw [h0] at hz hkp
  rw [← e1] at hP1 hz hkp
  obtain ⟨hPj, hDj⟩ := va_join hP hD isC isR hC hR hnR hdis hkp hF hP1 hD1
  obtain ⟨t2, a1, b1⟩ := kk T'.heap (locs ++ L) (hPj.sub perm (n_fmap hpe)) (hDj.sub perm hnp hpe) ⟨Nat.le_trans hS.1 hz, fun q h1 h2 => by rw [hkp q (Nat.lt_of_lt_of_le h1 hS.1) (fun z => h2 (hF q z))]; exact hS.2.1 q h1 h2, fun q hq => by
      rcases List.mem_append.mp hq with h | h
      · exact hS.2.2 q h
      · exact hF _ (hL q h)⟩ T' rfl X'
  exact ⟨t2, stp t2 a1, b1⟩
end MU
end
section
/-! ===== numbers made of bits ===== -/
def mk (f : Nat → Bool) : Nat → Nat
  | 0 => 0
  | n + 1 => mk f n ||| ((f n).toNat <<< n)
theorem mk_0 (f : Nat → Bool) : mk f 0 = 0 := rfl
theorem mk_s (f : Nat → Bool) (n : Nat) : mk f (n + 1) = mk f n ||| ((f n).toNat <<< n) := rfl
theorem bit1_lt (b : Bool) (n : Nat) : b.toNat <<< n < 2 ^ (n + 1) := by
  rw [Nat.shiftLeft_eq, Nat.pow_succ]
  have h := Nat.two_pow_pos n
  cases b
  · simp only [Bool.toNat_false, Nat.zero_mul]; omega
  · simp only [Bool.toNat_true, Nat.one_mul]; omega
theorem mk_lt (f : Nat → Bool) : ∀ n, mk f n < 2 ^ n
  | 0 => Nat.zero_lt_one
  | n + 1 => by
    rw [mk_s]
    exact Nat.or_lt_two_pow (Nat.lt_of_lt_of_le (mk_lt f n) (Nat.pow_le_pow_right (by decide) (Nat.le_succ n))) (bit1_lt _ _)
theorem b1_bit (b : Bool) (n i : Nat) : (b.toNat <<< n).testBit i = (decide (i = n) && b) := by
  rw [Nat.testBit_shiftLeft]
  cases b
  · simp
  · by_cases h : i = n
    · subst h; simp
    · by_cases h2 : n ≤ i
      · have e : Nat.testBit 1 (i - n) = false := by
          rw [show (1 : Nat) = 2 ^ 0 from rfl, Nat.testBit_two_pow]
          simp; omega
        simp [h, h2, e]
      · simp [h, h2]
theorem mk_bit (f : Nat → Bool) (i : Nat) : ∀ n, (mk f n).testBit i = (decide (i < n) && f i)
  | 0 => by simp [mk]
  | n + 1 => by
    rw [mk_s, Nat.testBit_or, mk_bit f i n, b1_bit]
    by_cases h : i = n
    · subst h; simp
    · by_cases h2 : i < n
      · have h3 : i < n + 1 := by omega
        simp [h, h2, h3]
      · have h3 : ¬ i < n + 1 := by omega
        simp [h, h2, h3]
theorem mk_cong {f g : Nat → Bool} : ∀ {n : Nat}, (∀ i, i < n → f i = g i) → mk f n = mk g n
  | 0, _ => rfl
  | n + 1, h => by rw [mk_s, mk_s, mk_cong (n := n) (fun i hi => h i (by omega)), h n (by omega)]
theorem mk_ext {x y : Nat} (h : ∀ i, x.testBit i = y.testBit i) : x = y := Nat.eq_of_testBit_eq h
theorem tb_lt {x n i : Nat} (h : x < 2 ^ n) (hi : n ≤ i) : x.testBit i = false := Nat.testBit_lt_two_pow (Nat.lt_of_lt_of_le h (Nat.pow_le_pow_right (by decide) hi))
theorem mk_of {x n : Nat} (h : x < 2 ^ n) : mk x.testBit n = x := by
  refine mk_ext fun i => ?_
  rw [mk_bit]
  by_cases hi : i < n
  · simp [hi]
  · rw [tb_lt h (by omega)]; simp
theorem mk_inj {f g : Nat → Bool} {n : Nat} (h : mk f n = mk g n) : ∀ i, i < n → f i = g i := by
  intro i hi
  have h1 := mk_bit f i n
  rw [h, mk_bit g i n] at h1
  simp only [hi, decide_true, Bool.true_and] at h1
  exact h1.symm
theorem mk_full (n i : Nat) : (1 <<< n - 1).testBit i = decide (i < n) := by
  rw [Nat.one_shiftLeft, Nat.testBit_two_pow_sub_one]
theorem sh1 (n : Nat) : 1 <<< n = 2 ^ n := Nat.one_shiftLeft n
theorem sh1_pos (n : Nat) : 1 ≤ 1 <<< n := by rw [sh1]; exact Nat.two_pow_pos n
theorem and_full {x n : Nat} : x &&& (1 <<< n - 1) = x % 2 ^ n := by rw [Nat.one_shiftLeft, Nat.and_two_pow_sub_one_eq_mod]
theorem and_full_of {x n : Nat} (h : x < 2 ^ n) : x &&& (1 <<< n - 1) = x := by rw [and_full, Nat.mod_eq_of_lt h]
theorem mk_xor_full (f : Nat → Bool) (n : Nat) : mk f n ^^^ (1 <<< n - 1) = mk (fun i => !f i) n := by
  refine mk_ext fun i => ?_
  rw [Nat.testBit_xor, mk_bit, mk_bit, mk_full]
  by_cases h : i < n <;> simp [h]
theorem mk_wo_full (f : Nat → Bool) (n : Nat) : nw_wo (1 <<< n - 1) (mk f n) = mk (fun i => !f i) n := by
  refine mk_ext fun i => ?_
  rw [nw_wo_bit, mk_bit, mk_bit, mk_full]
  by_cases h : i < n <;> simp [h]
theorem mk_xor (f g : Nat → Bool) (n : Nat) : mk f n ^^^ mk g n = mk (fun i => f i ^^ g i) n := by
  refine mk_ext fun i => ?_
  rw [Nat.testBit_xor, mk_bit, mk_bit, mk_bit]
  by_cases h : i < n <;> simp [h]
/-- how many -/
def ct (f : Nat → Bool) : Nat → Nat
  | 0 => 0
  | n + 1 => ct f n + (f n).toNat
theorem ct_s (f : Nat → Bool) (n : Nat) : ct f (n + 1) = ct f n + (f n).toNat := rfl
theorem toNat_le (b : Bool) : b.toNat ≤ 1 := by cases b <;> decide
theorem ct_le (f : Nat → Bool) : ∀ n, ct f n ≤ n
  | 0 => Nat.le_refl 0
  | n + 1 => by
    have h := ct_le f n
    have h2 := toNat_le (f n)
    rw [ct_s]
    omega
theorem ct_cong {f g : Nat → Bool} : ∀ {n : Nat}, (∀ i, i < n → f i = g i) → ct f n = ct g n
  | 0, _ => rfl
  | n + 1, h => by rw [ct_s, ct_s, ct_cong (n := n) (fun i hi => h i (by omega)), h n (by omega)]
theorem ct_more (f : Nat → Bool) (n : Nat) (h : ∀ i, n ≤ i → f i = false) : ∀ k, ct f (n + k) = ct f n
  | 0 => rfl
  | k + 1 => by rw [show n + (k + 1) = (n + k) + 1 from rfl, ct_s, ct_more f n h k, h (n + k) (by omega)]; rfl
theorem ct_mono (f : Nat → Bool) (n : Nat) : ∀ k, ct f n ≤ ct f (n + k)
  | 0 => Nat.le_refl _
  | k + 1 => by rw [show n + (k + 1) = (n + k) + 1 from rfl, ct_s]; have := ct_mono f n k; omega
/-- the ones of a number below 2^16 -/
def pop (x : Nat) : Nat := ct x.testBit 16
theorem pop_le (x : Nat) : pop x ≤ 16 := ct_le _ _
theorem pop_mk {f : Nat → Bool} {n : Nat} (hn : n ≤ 16) : pop (mk f n) = ct f n := by
  unfold pop
  rw [show 16 = n + (16 - n) by omega, ct_more _ n (fun i hi => by rw [mk_bit]; simp [Nat.not_lt.mpr hi])]
  exact ct_cong fun i hi => by rw [mk_bit]; simp [hi]
/-! ===== answers of tests ===== -/
def zB (b : Bool) : Int32 := if b then 1 else 0
theorem zB_nI (b : Bool) : zB b = nI b.toNat := by cases b <;> rfl
theorem zB_t : nI 1 = zB true := rfl
theorem zB_f : nI 0 = zB false := rfl
theorem zB_1 {b : Bool} (h : b = true) : nI 1 = zB b := by subst h; rfl
theorem zB_0 {b : Bool} (h : b = false) : nI 0 = zB b := by subst h; rfl
theorem zB_eq0 {b : Bool} (h : zB b = 0) : b = false := by
  cases b
  · rfl
  · exact absurd h (by decide)
theorem zB_ne0 {b : Bool} (h : ¬ zB b = 0) : b = true := by
  cases b
  · exact absurd rfl h
  · rfl
theorem zB_z (b : Bool) : zB b = 0 ∨ zB b = 1 := by cases b <;> decide
/-- x is one of 0 .. n-1 -/
def inB (x : Int32) (n : Nat) : Bool := decide (0 ≤ x.toInt ∧ x.toInt < n)
theorem inB_nI {k n : Nat} (h : k < n) (hn : n < 2 ^ 31) : inB (nI k) n = true := by
  unfold inB
  rw [nI_toInt (by omega)]
  simp; omega
theorem inB_of {x : Int32} {n : Nat} (hn : n < 2 ^ 31) (h : inB x n = true) : ∃ k, k < n ∧ x = nI k := by
  have h1 := of_decide_eq_true h
  obtain ⟨j, hj, e⟩ := vp_in_of (vp_in_iff.mpr h1) hn
  exact ⟨j, hj, e⟩
theorem i_neg {x : Int32} : x < 0 ↔ x.toInt < 0 := Int32.lt_iff_toInt_lt
theorem inB_neg {x : Int32} {n : Nat} (h : x < 0) : inB x n = false := by
  have h1 := i_neg.mp h
  unfold inB
  simp; omega
theorem inB_ge {x : Int32} {n : Nat} (hn : n < 2 ^ 31) (h : nI n ≤ x) : inB x n = false := by
  have h1 := Int32.le_iff_toInt_le.mp h
  rw [nI_toInt hn] at h1
  unfold inB
  simp; omega
theorem inB_in {x : Int32} {n : Nat} (hn : n < 2 ^ 31) (h0 : ¬ x < 0) (h1 : ¬ nI n ≤ x) : inB x n = true := by
  have h2 : ¬ x.toInt < 0 := fun q => h0 (i_neg.mpr q)
  have h3 : ¬ (n : Int) ≤ x.toInt := fun q => h1 (Int32.le_iff_toInt_le.mpr (by rw [nI_toInt hn]; exact q))
  unfold inB
  simp; omega
theorem inB_gt {x : Int32} {n : Nat} (hn : n + 1 < 2 ^ 31) (h : nI n < x) : inB x (n + 1) = false := by
  have h1 := Int32.lt_iff_toInt_lt.mp h
  rw [nI_toInt (by omega)] at h1
  unfold inB
  simp; omega
theorem inB_le {x : Int32} {n : Nat} (hn : n + 1 < 2 ^ 31) (h0 : ¬ x < 0) (h1 : ¬ nI n < x) : inB x (n + 1) = true := by
  have h2 : ¬ x.toInt < 0 := fun q => h0 (i_neg.mpr q)
  have h3 : ¬ (n : Int) < x.toInt := fun q => h1 (Int32.lt_iff_toInt_lt.mpr (by rw [nI_toInt (by omega)]; exact q))
  unfold inB
  simp; omega
theorem nIc {k : Nat} (h : k < 2 ^ 31) : (nI k).toNatClampNeg = k := nI_clamp h
end
section
/-! ===== the state of a rope as numbers: σ 0 rings, σ 1 bits, σ 2 sets, σ (3 + r) codes, σ (19 + a) words, σ (67 + k) crossed, σ (100 + w) wrong weaves, σ (141 + a) patches, one up, 0 none ===== -/
def nW (σ : Nat → Nat) : Nat := 8 + σ 2 * (σ 1 + 1)
def nA (σ : Nat → Nat) : Nat := σ 0 * σ 2
def wf (σ : Nat → Nat) : Prop := 2 ≤ σ 0 ∧ σ 0 ≤ 16 ∧ 1 ≤ σ 1 ∧ σ 1 ≤ 10 ∧ 1 ≤ σ 2 ∧ σ 2 ≤ 3 ∧ (∀ r, r < σ 0 → σ (3 + r) < 16) ∧ (∀ r q, r < σ 0 → q < σ 0 → σ (3 + r) = σ (3 + q) → r = q) ∧ (∀ a, a < nA σ → σ (19 + a) < 2 ^ σ 1) ∧ (∀ k, k < σ 2 * (σ 1 + 1) → σ (67 + k) ≤ 1) ∧ (∀ w, w < nW σ → σ (100 + w) < 2 ^ σ 0) ∧ (∀ a, a < nA σ → σ (141 + a) ≤ 2 ^ σ 1)
theorem wf.a33 {σ : Nat → Nat} (h : wf σ) : σ 2 * (σ 1 + 1) ≤ 33 := by
  obtain ⟨-, -, -, h1, -, h2, -⟩ := h
  calc σ 2 * (σ 1 + 1) ≤ 3 * 11 := Nat.mul_le_mul h2 (by omega)
    _ = 33 := rfl
theorem wf.w41 {σ : Nat → Nat} (h : wf σ) : nW σ ≤ 41 := by
  have := h.a33
  unfold nW
  omega
theorem wf.a48 {σ : Nat → Nat} (h : wf σ) : nA σ ≤ 48 := by
  obtain ⟨-, h1, -, -, -, h2, -⟩ := h
  calc σ 0 * σ 2 ≤ 16 * 3 := Nat.mul_le_mul h1 h2
    _ = 48 := rfl
theorem p2_16 {n : Nat} (h : n ≤ 16) : 2 ^ n ≤ 65536 := Nat.pow_le_pow_right (by decide) h
theorem p2_10 {n : Nat} (h : n ≤ 10) : 2 ^ n ≤ 1024 := Nat.pow_le_pow_right (by decide) h
theorem wf.wd {σ : Nat → Nat} (h : wf σ) {a : Nat} (ha : a < nA σ) : σ (19 + a) < 1024 := Nat.lt_of_lt_of_le (h.2.2.2.2.2.2.2.2.1 a ha) (p2_10 h.2.2.2.1)
theorem wf.sp {σ : Nat → Nat} (h : wf σ) {w : Nat} (hw : w < nW σ) : σ (100 + w) < 65536 := Nat.lt_of_lt_of_le (h.2.2.2.2.2.2.2.2.2.2.1 w hw) (p2_16 h.2.1)
theorem wf.pt {σ : Nat → Nat} (h : wf σ) {a : Nat} (ha : a < nA σ) : σ (141 + a) ≤ 1024 := Nat.le_trans (h.2.2.2.2.2.2.2.2.2.2.2 a ha) (p2_10 h.2.2.2.1)
theorem wf.cd {σ : Nat → Nat} (h : wf σ) {r : Nat} (hr : r < σ 0) : σ (3 + r) < 16 := h.2.2.2.2.2.2.1 r hr
/-- the bit of a word, or its parity bit -/
def sbit (σ : Nat → Nat) (a b : Nat) : Bool := if b < σ 1 then (σ (19 + a)).testBit b else pop (σ (19 + a)) % 2 == 0
def ihb (σ : Nat → Nat) (w r : Nat) : Bool := (σ (3 + r)).testBit (w / 2) == (w % 2 == 1)
def tdB (σ : Nat → Nat) (w r : Nat) : Bool := sbit σ (σ 2 * r + (w - 8) / (σ 1 + 1)) ((w - 8) % (σ 1 + 1))
def onB (σ : Nat → Nat) (w r : Nat) : Bool := if w < 8 then ihb σ w r else tdB σ w r
def onM (σ : Nat → Nat) (w : Nat) : Nat := if w < nW σ then mk (onB σ w) (σ 0) else 0
def crN (σ : Nat → Nat) (w : Nat) : Nat := if w < 8 then 0 else σ (67 + (w - 8))
def onF (σ : Nat → Nat) : Nat → Int32 := fun w => nI (onM σ w)
def wwF (σ : Nat → Nat) : Nat → Int32 := fun w => nI (σ (100 + w))
def crF (σ : Nat → Nat) : Nat → Int32 := fun w => nI (crN σ w)
def ptF (σ : Nat → Nat) : Nat → Int32 := fun a => nI (σ (141 + a)) - 1
def rtB (σ : Nat → Nat) (w r : Nat) : Bool := onB σ w r ^^ (crN σ w == 1)
def rtM (σ : Nat → Nat) (w : Nat) : Nat := mk (rtB σ w) (σ 0)
def wvM (σ : Nat → Nat) (w : Nat) : Nat := rtM σ w ^^^ σ (100 + w)
/-- the wire that is on for the bit b of a code -/
def wOn (c b : Nat) : Nat := 2 * b + 1 - (c >>> b &&& 1)
def ihA (wv : Nat → Nat) (c : Nat) : Nat → Nat
  | 0 => 0
  | n + 1 => ihA wv c n ||| wv (wOn c n)
def pkA (wv : Nat → Nat) (R c : Nat) : Nat → Nat
  | 0 => 1 <<< R - 1
  | n + 1 => nw_wo (pkA wv R c n) (wv (wOn c n))
def pkM (wv : Nat → Nat) (σ : Nat → Nat) (c : Nat) : Nat := pkA wv (σ 0) c 4
theorem wOn_lt {c b : Nat} (h : b < 4) : wOn c b < 8 := by
  unfold wOn
  omega
theorem ihA_pkA (wv : Nat → Nat) (R c : Nat) : ∀ n, nw_wo (1 <<< R - 1) (ihA wv c n) = pkA wv R c n
  | 0 => by
    refine mk_ext fun i => ?_
    rw [nw_wo_bit]
    simp [ihA, pkA]
  | n + 1 => by
    have ih := ihA_pkA wv R c n
    refine mk_ext fun i => ?_
    rw [pkA, ← ih, nw_wo_bit, nw_wo_bit, nw_wo_bit, ihA, Nat.testBit_or]
    cases (1 <<< R - 1).testBit i <;> cases (ihA wv c n).testBit i <;> simp
theorem pkA_bit (wv : Nat → Nat) (R c i : Nat) : ∀ n, (pkA wv R c n).testBit i = (decide (i < R) && (List.range n).all fun b => !(wv (wOn c b)).testBit i)
  | 0 => by rw [pkA, mk_full]; simp
  | n + 1 => by
    rw [pkA, nw_wo_bit, pkA_bit wv R c i n, List.range_succ, List.all_append]
    simp [Bool.and_assoc]
theorem pkM_cong {wv wv' : Nat → Nat} {σ : Nat → Nat} {c : Nat} (h : ∀ w, w < 8 → wv w = wv' w) : pkM wv σ c = pkM wv' σ c := by
  have hk : ∀ n, n ≤ 4 → pkA wv (σ 0) c n = pkA wv' (σ 0) c n := by
    intro n
    induction n with
    | zero => intro _; rfl
    | succ n ih => intro hn; rw [pkA, pkA, ih (by omega), h _ (wOn_lt (by omega))]
  exact hk 4 (Nat.le_refl 4)
theorem pkM_lt (wv : Nat → Nat) (σ : Nat → Nat) (c : Nat) : pkM wv σ c < 2 ^ σ 0 := by
  refine Nat.lt_pow_two_of_testBit _ fun i hi => ?_
  unfold pkM
  rw [pkA_bit]
  simp [Nat.not_lt.mpr hi]
def swN (σ : Nat → Nat) (t b : Nat) : Nat := 8 + t * (σ 1 + 1) + b
theorem sw_lt {σ : Nat → Nat} {t b : Nat} (ht : t < σ 2) (hb : b < σ 1 + 1) : 8 + t * (σ 1 + 1) + b < nW σ := by
  unfold nW
  have h1 : (t + 1) * (σ 1 + 1) ≤ σ 2 * (σ 1 + 1) := Nat.mul_le_mul_right _ ht
  rw [Nat.succ_mul] at h1
  omega
def rwB (wv : Nat → Nat) (σ : Nat → Nat) (a b : Nat) : Bool := (wv (8 + a % σ 2 * (σ 1 + 1) + b) &&& pkM wv σ (σ (3 + a / σ 2)) != 0) ^^ (crN σ (8 + a % σ 2 * (σ 1 + 1) + b) == 1)
def rwM (wv : Nat → Nat) (σ : Nat → Nat) (a : Nat) : Nat := mk (rwB wv σ a) (σ 1 + 1)
def rbB (σ : Nat → Nat) (t pk b : Nat) : Bool := (rtM σ (8 + t * (σ 1 + 1) + b) &&& pk != 0) ^^ (crN σ (8 + t * (σ 1 + 1) + b) == 1)
def rbM (σ : Nat → Nat) (t pk : Nat) : Nat := mk (rbB σ t pk) (σ 1 + 1)
def rrN (σ : Nat → Nat) (a : Nat) : Nat := rwM (wvM σ) σ a &&& (1 <<< σ 1 - 1)
def rdN (σ : Nat → Nat) (a : Nat) : Nat := if σ (141 + a) = 0 then rrN σ a else σ (141 + a) - 1
def paB (σ : Nat → Nat) (a : Nat) : Bool := σ (141 + a) != 0 || pop (rwM (wvM σ) σ a) % 2 == 1
def msB (σ : Nat → Nat) (a : Nat) : Bool := rdN σ a != σ (19 + a)
def iwB (σ : Nat → Nat) (k a : Nat) : Bool := if k = 0 then msB σ a else if k = 1 then !paB σ a else if k = 2 then msB σ a && paB σ a else rrN σ a != σ (19 + a)
def csN (σ : Nat → Nat) (w : Nat) : Nat := pop (rtM σ w) + crN σ w
def sm (f : Nat → Nat) : Nat → Nat
  | 0 => 0
  | n + 1 => sm f n + f n
def nuN (σ : Nat → Nat) (k : Nat) : Nat := if k = 0 then σ 0 else if k = 1 then σ 1 else if k = 2 then σ 2 else if k = 3 then nA σ else if k = 4 then nW σ else if k = 5 then sm (crN σ) (nW σ) else if k = 6 then sm (fun w => pop (σ (100 + w))) (nW σ) else if k = 7 then ct (fun a => σ (141 + a) != 0) (nA σ) else sm (csN σ) (nW σ)
def fsf (p : Nat → Bool) : Nat → Nat
  | 0 => 0
  | n + 1 => if fsf p n < n then fsf p n else if p n then n else n + 1
theorem fsf_le (p : Nat → Bool) : ∀ n, fsf p n ≤ n
  | 0 => Nat.le_refl 0
  | n + 1 => by
    have ih := fsf_le p n
    rw [fsf]
    split
    · omega
    · split <;> omega
theorem fsf_none {p : Nat → Bool} : ∀ {n : Nat}, (∀ j, j < n → p j = false) → fsf p n = n
  | 0, _ => rfl
  | n + 1, h => by
    rw [fsf, fsf_none (n := n) (fun j hj => h j (by omega)), if_neg (by omega), h n (by omega)]
    rfl
theorem fsf_at {p : Nat → Bool} {i : Nat} (h : ∀ j, j < i → p j = false) (hi : p i = true) : ∀ {n : Nat}, i < n → fsf p n = i
  | 0, q => absurd q (Nat.not_lt_zero _)
  | n + 1, q => by
    rw [fsf]
    by_cases e : i = n
    · subst e
      rw [fsf_none h, if_neg (by omega), if_pos hi]
    · rw [fsf_at h hi (n := n) (by omega), if_pos (by omega)]
theorem fsf_no {p : Nat → Bool} : ∀ {n k : Nat}, k < fsf p n → p k = false
  | 0, k, h => absurd h (Nat.not_lt_zero k)
  | n + 1, k, h => by
    rw [fsf] at h
    split at h
    · exact fsf_no h
    · rename_i h1
      have h2 := fsf_le p n
      split at h
      · exact fsf_no (n := n) (by omega)
      · rename_i h3
        by_cases e : k = n
        · subst e
          exact Bool.eq_false_iff.mpr h3
        · exact fsf_no (n := n) (by omega)
theorem fsf_yes {p : Nat → Bool} : ∀ {n : Nat}, fsf p n < n → p (fsf p n) = true
  | 0, h => absurd h (Nat.not_lt_zero _)
  | n + 1, h => by
    rw [fsf] at h ⊢
    split
    · rename_i h1
      exact fsf_yes h1
    · rename_i h1
      rw [if_neg h1] at h
      split
      · rename_i h2
        exact h2
      · rename_i h2
        rw [if_neg h2] at h
        omega
/-- the ring that has a code, or -1 -/
def rcF (σ : Nat → Nat) (c : Nat) : Int32 := if fsf (fun r => σ (3 + r) == c) (σ 0) < σ 0 then nI (fsf (fun r => σ (3 + r) == c) (σ 0)) else -1
theorem rcF_yes {σ : Nat → Nat} {c i : Nat} (h : ∀ j, j < i → ¬ σ (3 + j) = c) (hi : σ (3 + i) = c) (hn : i < σ 0) : nI i = rcF σ c := by
  have e := fsf_at (p := fun r => σ (3 + r) == c) (i := i) (fun j hj => by simp [h j hj]) (by simp [hi]) hn
  unfold rcF
  rw [e, if_pos hn]
theorem rcF_no {σ : Nat → Nat} {c : Nat} (h : ∀ j, j < σ 0 → ¬ σ (3 + j) = c) : -1 = rcF σ c := by
  have e := fsf_none (p := fun r => σ (3 + r) == c) (n := σ 0) (fun j hj => by simp [h j hj])
  unfold rcF
  rw [e, if_neg (Nat.lt_irrefl _)]
theorem rcF_cases (σ : Nat → Nat) (c : Nat) : (∃ i, i < σ 0 ∧ σ (3 + i) = c ∧ rcF σ c = nI i) ∨ ((∀ j, j < σ 0 → ¬ σ (3 + j) = c) ∧ rcF σ c = -1) := by
  by_cases h : fsf (fun r => σ (3 + r) == c) (σ 0) < σ 0
  · refine Or.inl ⟨_, h, ?_, by unfold rcF; rw [if_pos h]⟩
    have := fsf_yes h
    simpa using this
  · refine Or.inr ⟨fun j hj e => ?_, by unfold rcF; rw [if_neg h]⟩
    have h1 : j < fsf (fun r => σ (3 + r) == c) (σ 0) := by omega
    have := fsf_no h1
    simp [e] at this
def stA (σ : Nat → Nat) : Nat → Nat
  | 0 => 0
  | n + 1 => if rwM (wvM σ) σ n = rbM σ (n % σ 2) (1 <<< (n / σ 2)) then stA σ n else stA σ n ||| 1 <<< (n / σ 2)
def tnN (σ : Nat → Nat) (w t : Nat) : Nat := if 8 + t * (σ 1 + 1) ≤ w ∧ w ≤ 8 + t * (σ 1 + 1) + σ 1 then 1 <<< (w - (8 + t * (σ 1 + 1))) else 0
def snE (σ : Nat → Nat) (w r : Nat) : Bool := stA σ (nA σ) == 1 <<< r && (List.range (σ 2)).all fun t => rwM (wvM σ) σ (σ 2 * r + t) == rbM σ t (1 <<< r) ^^^ tnN σ w t
def ihT (σ : Nat → Nat) (q pk : Nat) : Bool := nw_wo (stA σ (nA σ)) (1 <<< q) == 0 && (List.range (σ 2)).all fun t => rwM (wvM σ) σ (σ 2 * q + t) == rbM σ t pk
def ihE (σ : Nat → Nat) (w r : Nat) : Bool := if ihb σ w r then (if fsf (fun q => σ (3 + q) == σ (3 + r) ^^^ 1 <<< (w / 2)) (σ 0) < σ 0 then ihT σ (fsf (fun q => σ (3 + q) == σ (3 + r) ^^^ 1 <<< (w / 2)) (σ 0)) (1 <<< r ||| 1 <<< (fsf (fun q => σ (3 + q) == σ (3 + r) ^^^ 1 <<< (w / 2)) (σ 0))) else stA σ (nA σ) == 0) else ihT σ r 0
def exE (σ : Nat → Nat) (w r : Nat) : Bool := if w < 8 then ihE σ w r else snE σ w r
/-- the rank-th of the numbers below n that p has, as the weave 16 * (i / R) + i % R; -1 if there are not so many -/
def exV (p : Nat → Bool) (R rank : Nat) : Nat → Int32
  | 0 => -1
  | n + 1 => if rank < ct p n then exV p R rank n else if p n && ct p n == rank then nI (16 * (n / R) + n % R) else -1
def hs (g : Nat → Int32) : Nat → Int64 → Int64
  | 0, x => x
  | n + 1, x => 31 * hs g n x + (g n).toInt64
end
section
/-! ===== facts of the state, for the walks ===== -/
theorem sh1e (n : Nat) : 1 <<< n - 1 + 1 = 2 ^ n := by
  rw [sh1]
  have := Nat.two_pow_pos n
  omega
theorem crN_le {σ : Nat → Nat} (hw : wf σ) {w : Nat} (h : w < nW σ) : crN σ w ≤ 1 := by
  unfold crN
  split
  · omega
  · rename_i h8
    unfold nW at h
    exact hw.2.2.2.2.2.2.2.2.2.1 (w - 8) (by omega)
theorem mk_lt16 {f : Nat → Bool} {n : Nat} (h : n ≤ 16) : mk f n < 65536 := Nat.lt_of_lt_of_le (mk_lt f n) (p2_16 h)
theorem onM_lt {σ : Nat → Nat} (hw : wf σ) (w : Nat) : onM σ w < 65536 := by
  unfold onM
  split
  · exact mk_lt16 hw.2.1
  · omega
theorem rtM_lt {σ : Nat → Nat} (hw : wf σ) (w : Nat) : rtM σ w < 65536 := mk_lt16 hw.2.1
theorem wvM_lt {σ : Nat → Nat} (hw : wf σ) {w : Nat} (h : w < nW σ) : wvM σ w < 65536 := Nat.xor_lt_two_pow (n := 16) (rtM_lt hw w) (hw.sp h)
theorem mk_lt11 {f : Nat → Bool} {n : Nat} (h : n ≤ 11) : mk f n < 2048 := Nat.lt_of_lt_of_le (mk_lt f n) (show 2 ^ n ≤ 2 ^ 11 from Nat.pow_le_pow_right (by decide) h)
theorem rwM_lt {σ : Nat → Nat} (hw : wf σ) (wv : Nat → Nat) (a : Nat) : rwM wv σ a < 2048 := mk_lt11 (by have := hw.2.2.2.1; omega)
theorem rbM_lt {σ : Nat → Nat} (hw : wf σ) (t pk : Nat) : rbM σ t pk < 2048 := mk_lt11 (by have := hw.2.2.2.1; omega)
theorem rrN_lt {σ : Nat → Nat} (hw : wf σ) (a : Nat) : rrN σ a < 2048 := Nat.lt_of_le_of_lt Nat.and_le_left (rwM_lt hw _ a)
theorem rdN_lt {σ : Nat → Nat} (hw : wf σ) {a : Nat} (ha : a < nA σ) : rdN σ a < 2048 := by
  unfold rdN
  split
  · exact rrN_lt hw a
  · have := hw.pt ha
    omega
theorem onM_bit {σ : Nat → Nat} {w r : Nat} (h : w < nW σ) (hr : r < σ 0) : (onM σ w).testBit r = onB σ w r := by
  unfold onM
  rw [if_pos h, mk_bit]
  simp [hr]
theorem codeOf_mk {σ : Nat → Nat} (hw : wf σ) {k i : Nat} (hk : k < σ 0) (hi : i = 4) : mk (fun b => (onM σ (2 * b + 1)).testBit k) i = σ (3 + k) := by
  subst hi
  rw [← mk_of (x := σ (3 + k)) (n := 4) (hw.cd hk)]
  refine mk_cong fun b hb => ?_
  have h8 : 2 * b + 1 < 8 := by omega
  rw [onM_bit (by unfold nW; omega) hk]
  unfold onB ihb
  rw [if_pos h8, show (2 * b + 1) / 2 = b by omega, show (2 * b + 1) % 2 = 1 by omega]
  simp
theorem rt_1 {σ : Nat → Nat} {w : Nat} (h : w < nW σ) (hc : crN σ w = 1) : onM σ w ^^^ (1 <<< σ 0 - 1) = rtM σ w := by
  unfold onM rtM
  rw [if_pos h, mk_xor_full]
  refine mk_cong fun i _ => ?_
  unfold rtB
  rw [hc]
  simp
theorem rt_0 {σ : Nat → Nat} {w : Nat} (h : w < nW σ) (hc : ¬ crN σ w = 1) : onM σ w = rtM σ w := by
  unfold onM rtM
  rw [if_pos h]
  refine mk_cong fun i _ => ?_
  unfold rtB
  rw [beq_eq_false_iff_ne.mpr hc]
  simp
theorem wv_inh {σ : Nat → Nat} {w : Nat} (h : w < 8) : onM σ w ^^^ σ (100 + w) = wvM σ w := by
  unfold wvM
  rw [rt_0 (by unfold nW; omega) (by unfold crN; rw [if_pos h]; omega)]
theorem x_cr {b : Bool} {c : Nat} (h : c ≤ 1) : b.toNat ^^^ c = (b ^^ (c == 1)).toNat := by
  rcases (show c = 0 ∨ c = 1 by omega) with rfl | rfl <;> cases b <;> rfl
theorem and_sh1 (x r : Nat) : (x &&& 1 <<< r != 0) = x.testBit r := by
  rw [sh1]
  cases h : x.testBit r
  · rw [(show x &&& 2 ^ r = 0 from ?_)]
    · rfl
    · refine mk_ext fun i => ?_
      rw [Nat.testBit_and, Nat.testBit_two_pow, Nat.zero_testBit]
      by_cases e : r = i
      · subst e; rw [h]; rfl
      · simp [e]
  · refine bne_iff_ne.mpr fun q => ?_
    have h1 : (x &&& 2 ^ r).testBit r = true := by rw [Nat.testBit_and, h, Nat.testBit_two_pow]; simp
    rw [q, Nat.zero_testBit] at h1
    exact absurd h1 (by decide)
theorem rb_own {σ : Nat → Nat} {r t b : Nat} (hr : r < σ 0) (ht : t < σ 2) (hb : b < σ 1 + 1) : rbB σ t (1 <<< r) b = sbit σ (σ 2 * r + t) b := by
  unfold rbB
  have hlt := sw_lt ht hb
  rw [and_sh1]
  have e : (rtM σ (8 + t * (σ 1 + 1) + b)).testBit r = rtB σ (8 + t * (σ 1 + 1) + b) r := by
    unfold rtM
    rw [mk_bit]
    simp [hr]
  rw [e]
  unfold rtB onB tdB
  have e2 : ¬ 8 + t * (σ 1 + 1) + b < 8 := by omega
  have e3 : 8 + t * (σ 1 + 1) + b - 8 = b + t * (σ 1 + 1) := by omega
  rw [if_neg e2, e3, Nat.add_mul_div_right _ _ (by omega), Nat.add_mul_mod_self_right, Nat.div_eq_of_lt hb, Nat.mod_eq_of_lt hb, Nat.zero_add, Bool.xor_assoc, Bool.xor_self, Bool.xor_false]
theorem rb_mk {σ : Nat → Nat} {r t : Nat} (hr : r < σ 0) (ht : t < σ 2) : rbM σ t (1 <<< r) = mk (sbit σ (σ 2 * r + t)) (σ 1 + 1) := mk_cong fun b hb => rb_own hr ht hb
theorem ad_div {σ : Nat → Nat} {a : Nat} (hS : 1 ≤ σ 2) (ha : a < nA σ) : a / σ 2 < σ 0 ∧ a % σ 2 < σ 2 ∧ σ 2 * (a / σ 2) + a % σ 2 = a := by
  refine ⟨?_, Nat.mod_lt _ hS, Nat.div_add_mod a (σ 2)⟩
  exact Nat.div_lt_of_lt_mul (by unfold nA at ha; rw [Nat.mul_comm]; exact ha)
theorem wordAt_eq {σ : Nat → Nat} (hw : wf σ) {a : Nat} (ha : a < nA σ) : rbM σ (a % σ 2) (1 <<< (a / σ 2)) &&& (1 <<< σ 1 - 1) = σ (19 + a) := by
  obtain ⟨h1, h2, h3⟩ := ad_div hw.2.2.2.2.1 ha
  rw [rb_mk h1 h2, h3, and_full]
  have hwd := hw.2.2.2.2.2.2.2.2.1 a ha
  refine mk_ext fun i => ?_
  rw [Nat.testBit_mod_two_pow, mk_bit]
  by_cases hi : i < σ 1
  · unfold sbit
    rw [if_pos hi]
    simp [hi, show i < σ 1 + 1 by omega]
  · rw [tb_lt hwd (by omega)]
    simp [hi]
theorem ptF_m1 {σ : Nat → Nat} {a : Nat} (h : σ (141 + a) ≤ 1024) : ptF σ a = -1 ↔ σ (141 + a) = 0 := by
  unfold ptF
  constructor
  · intro q
    have h1 : nI (σ (141 + a)) = nI 0 := by
      have h2 : nI (σ (141 + a)) - 1 + 1 = -1 + 1 := by rw [q]
      rw [Int32.sub_add_cancel] at h2
      exact h2
    exact (nI_eq (by omega) (by decide)).mp h1
  · intro q
    rw [q]
    rfl
theorem ptF_v {σ : Nat → Nat} {a : Nat} (h : ¬ σ (141 + a) = 0) : ptF σ a = nI (σ (141 + a) - 1) := by
  unfold ptF
  exact pk_sub (a := σ (141 + a)) (b := 1) (by omega)
theorem sm_s (f : Nat → Nat) (n : Nat) : sm f (n + 1) = sm f n + f n := rfl
theorem sm_cr8 (σ : Nat → Nat) : sm (crN σ) 8 = 0 := by
  have h : ∀ n, n ≤ 8 → sm (crN σ) n = 0 := by
    intro n
    induction n with
    | zero => intro _; rfl
    | succ n ih =>
      intro hn
      rw [sm_s, ih (by omega)]
      unfold crN
      rw [if_pos (by omega)]
  exact h 8 (Nat.le_refl 8)
theorem nw_ush {x k : Nat} (hx : x < 2 ^ 32) (hk : k < 32) : ((nI x).toUInt32 >>> ((nI k).toUInt32 &&& Int32.toUInt32 31)).toInt32 = nI (x >>> k) := by
  have h : ∀ n, n < 32 → (((nI n).toUInt32 &&& Int32.toUInt32 31).toBitVec % 32).toNat = n := by decide +kernel
  rw [pk_ushrN hx _ k (h k hk), Nat.shiftRight_eq_div_pow]
theorem lv_repl {ls : Array Slot} {n i : Nat} {l : List (Nat × Value)} (l' : List (Nat × Value)) (k : Nat) {v v' : Value} (hk : l[k]? = some (i, v)) (hv : v = v') (hl : l.set k (i, v') = l') (h : lv_has ls n l) : lv_has ls n l' := by
  subst hv
  have hlt : k < l.length := (List.getElem?_eq_some_iff.mp hk).1
  have e : l.set k (i, v) = l := by
    have h1 := (List.getElem?_eq_some_iff.mp hk).2
    rw [← h1]
    exact List.set_getElem_self hlt
  rw [e] at hl
  rw [← hl]
  exact h
end
section
/-- what java.lang.Integer.bitCount works out, for a number below 2^16 -/
def bc1 (x : Nat) : Nat := x - (x >>> 1 &&& 1431655765)
def bc2 (x : Nat) : Nat := (x &&& 858993459) + (x >>> 2 &&& 858993459)
def bc3 (x : Nat) : Nat := (x + x >>> 4) &&& 252645135
def bc4 (x : Nat) : Nat := x + x >>> 8
def bc5 (x : Nat) : Nat := x + x >>> 16
def bcN (x : Nat) : Nat := bc5 (bc4 (bc3 (bc2 (bc1 x)))) &&& 63
theorem ct_split (f : Nat → Bool) (m : Nat) : ∀ n, ct f (m + n) = ct f m + ct (fun i => f (m + i)) n
  | 0 => rfl
  | n + 1 => by rw [show m + (n + 1) = (m + n) + 1 from rfl, ct_s, ct_split f m n, ct_s, Nat.add_assoc]
theorem two_bit {a b : Nat} (hb : b < 256) (j : Nat) : (256 * a + b).testBit j = if j < 8 then b.testBit j else a.testBit (j - 8) := Nat.testBit_two_pow_mul_add (i := 8) a hb j
theorem bc_and {a b m n k : Nat} (hk : k ≤ 8) (hb : b < 256) (hn : n < 2 ^ (8 - k)) : (256 * a + b) >>> k &&& (256 * m + n) = 256 * (a >>> k &&& m) + (b >>> k &&& n) := by
  have hn2 : n < 256 := Nat.lt_of_lt_of_le hn (show 2 ^ (8 - k) ≤ 2 ^ 8 from Nat.pow_le_pow_right (by decide) (by omega))
  have hb2 : (b >>> k &&& n) < 256 := Nat.lt_of_le_of_lt Nat.and_le_right hn2
  refine mk_ext fun j => ?_
  rw [two_bit hb2, Nat.testBit_and, Nat.testBit_shiftRight, two_bit hb, two_bit hn2]
  by_cases h : j < 8
  · rw [if_pos h, if_pos h, Nat.testBit_and, Nat.testBit_shiftRight]
    by_cases h2 : k + j < 8
    · rw [if_pos h2]
    · rw [tb_lt hn (by omega), Bool.and_false, Bool.and_false]
  · rw [if_neg h, if_neg h, Nat.testBit_and, Nat.testBit_shiftRight, if_neg (by omega), show k + j - 8 = k + (j - 8) by omega]
def by1 (b : Nat) : Nat := b - (b >>> 1 &&& 85)
def by2 (b : Nat) : Nat := (by1 b &&& 51) + (by1 b >>> 2 &&& 51)
theorem by_all : ∀ b, b < 256 → (b >>> 1 &&& 5592405 = b >>> 1 &&& 85) ∧ (b >>> 1 &&& 85 ≤ b) ∧ (by1 b &&& 3355443 = by1 b &&& 51) ∧ (by1 b >>> 2 &&& 3355443 = by1 b >>> 2 &&& 51) ∧ by2 b ≤ 68 ∧ by2 b % 16 ≤ 4 ∧ (by2 b + by2 b >>> 4) &&& 986895 = ct b.testBit 8 ∧ (by2 b + by2 b >>> 4) % 16 = ct b.testBit 8 := by decide +kernel
theorem bc_pop {x : Nat} (h : x < 65536) : bcN x = pop x := by
  obtain ⟨a, b, ha, hb, rfl⟩ : ∃ a b, a < 256 ∧ b < 256 ∧ x = 256 * a + b := ⟨x / 256, x % 256, by omega, by omega, by omega⟩
  obtain ⟨a1, a2, a3, a4, a5, a6, a7, -⟩ := by_all a ha
  obtain ⟨b1, b2, b3, b4, b5, b6, b7, b8⟩ := by_all b hb
  have e1 : bc1 (256 * a + b) = 256 * by1 a + by1 b := by
    have h1 := bc_and (a := a) (b := b) (m := 5592405) (n := 85) (k := 1) (by decide) hb (by decide)
    rw [show 256 * 5592405 + 85 = 1431655765 from rfl, a1] at h1
    unfold bc1 by1
    rw [h1]
    omega
  have hb1 : by1 b < 256 := by unfold by1; omega
  have e2 : bc2 (256 * by1 a + by1 b) = 256 * by2 a + by2 b := by
    have h1 := bc_and (a := by1 a) (b := by1 b) (m := 3355443) (n := 51) (k := 0) (by decide) hb1 (by decide)
    have h2 := bc_and (a := by1 a) (b := by1 b) (m := 3355443) (n := 51) (k := 2) (by decide) hb1 (by decide)
    rw [show 256 * 3355443 + 51 = 858993459 from rfl] at h1 h2
    rw [Nat.shiftRight_zero, Nat.shiftRight_zero, Nat.shiftRight_zero, a3] at h1
    rw [a4] at h2
    unfold bc2 by2
    rw [h1, h2]
    omega
  have hp : pop (256 * a + b) = ct a.testBit 8 + ct b.testBit 8 := by
    show ct (256 * a + b).testBit (8 + 8) = _
    rw [ct_split, Nat.add_comm]
    congr 1
    · refine ct_cong fun i hi => ?_
      rw [two_bit hb, if_neg (by omega), show 8 + i - 8 = i by omega]
    · refine ct_cong fun i hi => ?_
      rw [two_bit hb, if_pos hi]
  have hA := ct_le a.testBit 8
  have hB := ct_le b.testBit 8
  have e3 : bc3 (256 * by2 a + by2 b) = 256 * ct a.testBit 8 + ct b.testBit 8 := by
    unfold bc3
    have h4 : (256 * by2 a + by2 b) + (256 * by2 a + by2 b) >>> 4 = 256 * (by2 a + by2 a >>> 4) + (by2 b + 16 * (by2 a % 16) + by2 b / 16) := by
      rw [Nat.shiftRight_eq_div_pow, Nat.shiftRight_eq_div_pow]
      omega
    have h5 := bc_and (a := by2 a + by2 a >>> 4) (b := by2 b + 16 * (by2 a % 16) + by2 b / 16) (m := 986895) (n := 15) (k := 0) (by decide) (by omega) (by decide)
    rw [show 256 * 986895 + 15 = 252645135 from rfl, Nat.shiftRight_zero, Nat.shiftRight_zero, Nat.shiftRight_zero, a7] at h5
    rw [h4, h5, show 15 = 2 ^ 4 - 1 from rfl, Nat.and_two_pow_sub_one_eq_mod, ← b8, Nat.shiftRight_eq_div_pow]
    omega
  rw [hp]
  unfold bcN
  rw [e1, e2, e3]
  unfold bc5 bc4
  rw [Nat.shiftRight_eq_div_pow, Nat.shiftRight_eq_div_pow, show 63 = 2 ^ 6 - 1 from rfl, Nat.and_two_pow_sub_one_eq_mod]
  clear e1 e2 e3 hp
  generalize ct a.testBit 8 = u at hA ⊢
  generalize ct b.testBit 8 = v at hB ⊢
  rw [show (256 * u + v) / 2 ^ 8 = u by omega, show (256 * u + v + u) / 2 ^ 16 = 0 by omega]
  omega
end
section
set_option maxHeartbeats 4000000 in
set_option maxRecDepth 100000 in
theorem c_X1_addresses (l : Launch) (D : va_G) (cI cR : ClassId) (h : Nat) (a : Nat → Nat) (R : Nat) (B : Nat) (S : Nat) (f0 : Nat → Int32) (f1 : Nat → Int32) (f2 : Nat → Int32) (f3 : Nat → Int32)    : MetR l yX1_addresses cX1_addresses 1 (some .int) (rmK 0 0) (nPre D (nTy cI cR) [.ref h] (wRp h a cI R B S f0 f1 f2 f3)) (nI (R * S)) := by
  refine met_read rfl (Nat.le_of_ble_eq_true rfl) ?_
  intro p e s m args below meth c ls hx hb hml hr hlocks hown hts hP hK hl
  have hl : lv_has ls 1 [(0, .ref h)] := hl
  refine lv_aload_n hx hb dX1_addresses_0 rfl (lv_at hl 0 rfl) ?_
  refine va_get (D := D) (ci := 1) (v := .int (nI R)) (C := RX1) (T := TX1) (N := 7) hx hb hts inX1 hown hK hP 0 rfl rfl 0 (by decide) (hts _ fl_RX1_28) (fun _ h9 => h9) rfl dX1_addresses_1 ?_
  refine lv_aload_n hx hb dX1_addresses_4 rfl (lv_at hl 0 rfl) ?_
  refine va_get (D := D) (ci := 1) (v := .int (nI S)) (C := RX1) (T := TX1) (N := 7) hx hb hts inX1 hown hK hP 0 rfl rfl 2 (by decide) (hts _ fl_RX1_35) (fun _ h9 => h9) rfl dX1_addresses_5 ?_
  refine nv_imul hx hb dX1_addresses_8 ?_
  exact nv_ret hx hb hr hlocks (rfl) dX1_addresses_9
set_option maxHeartbeats 4000000 in
set_option maxRecDepth 100000 in
theorem c_X1_wires (l : Launch) (D : va_G) (cI cR : ClassId) (h : Nat) (a : Nat → Nat) (R : Nat) (B : Nat) (S : Nat) (f0 : Nat → Int32) (f1 : Nat → Int32) (f2 : Nat → Int32) (f3 : Nat → Int32)    : MetR l yX1_wires cX1_wires 1 (some .int) (rmK 0 0) (nPre D (nTy cI cR) [.ref h] (wRp h a cI R B S f0 f1 f2 f3)) (nI (8 + S * (B + 1))) := by
  refine met_read rfl (Nat.le_of_ble_eq_true rfl) ?_
  intro p e s m args below meth c ls hx hb hml hr hlocks hown hts hP hK hl
  have hl : lv_has ls 1 [(0, .ref h)] := hl
  refine lv_bipush (v := nI 8) hx hb dX1_wires_0 (by decide) ?_
  refine lv_aload_n hx hb dX1_wires_2 rfl (lv_at hl 0 rfl) ?_
  refine va_get (D := D) (ci := 1) (v := .int (nI S)) (C := RX1) (T := TX1) (N := 7) hx hb hts inX1 hown hK hP 0 rfl rfl 2 (by decide) (hts _ fl_RX1_35) (fun _ h9 => h9) rfl dX1_wires_3 ?_
  refine lv_aload_n hx hb dX1_wires_6 rfl (lv_at hl 0 rfl) ?_
  refine va_get (D := D) (ci := 1) (v := .int (nI B)) (C := RX1) (T := TX1) (N := 7) hx hb hts inX1 hown hK hP 0 rfl rfl 1 (by decide) (hts _ fl_RX1_32) (fun _ h9 => h9) rfl dX1_wires_7 ?_
  refine lv_iconst (v := nI 1) hx hb dX1_wires_10 (by decide) ?_
  refine nv_iadd hx hb dX1_wires_11 ?_
  refine nv_imul hx hb dX1_wires_12 ?_
  refine nv_iadd hx hb dX1_wires_13 ?_
  exact nv_ret hx hb hr hlocks (rfl) dX1_wires_14
set_option maxHeartbeats 4000000 in
set_option maxRecDepth 100000 in
theorem c_X1_highestWord (l : Launch) (D : va_G) (cI cR : ClassId) (h : Nat) (a : Nat → Nat) (R : Nat) (B : Nat) (S : Nat) (f0 : Nat → Int32) (f1 : Nat → Int32) (f2 : Nat → Int32) (f3 : Nat → Int32)   (hB : B ≤ 10) : MetR l yX1_highestWord cX1_highestWord 1 (some .int) (rmK 0 0) (nPre D (nTy cI cR) [.ref h] (wRp h a cI R B S f0 f1 f2 f3)) (nI (1 <<< B - 1)) := by
  refine met_read rfl (Nat.le_of_ble_eq_true rfl) ?_
  intro p e s m args below meth c ls hx hb hml hr hlocks hown hts hP hK hl
  have hl : lv_has ls 1 [(0, .ref h)] := hl
  refine lv_iconst (v := nI 1) hx hb dX1_highestWord_0 (by decide) ?_
  refine lv_aload_n hx hb dX1_highestWord_1 rfl (lv_at hl 0 rfl) ?_
  refine va_get (D := D) (ci := 1) (v := .int (nI B)) (C := RX1) (T := TX1) (N := 7) hx hb hts inX1 hown hK hP 0 rfl rfl 1 (by decide) (hts _ fl_RX1_32) (fun _ h9 => h9) rfl dX1_highestWord_2 ?_
  refine nv_ishl hx hb dX1_highestWord_5 (by omega) ?_
  refine lv_iconst (v := nI 1) hx hb dX1_highestWord_6 (by decide) ?_
  refine nv_isub hx hb dX1_highestWord_7 (by rw [sh1]; exact Nat.two_pow_pos B) ?_
  exact nv_ret hx hb hr hlocks (rfl) dX1_highestWord_8
set_option maxHeartbeats 4000000 in
set_option maxRecDepth 100000 in
theorem c_X1_ringOf (l : Launch) (D : va_G) (cI cR : ClassId) (h : Nat) (a : Nat → Nat) (R : Nat) (B : Nat) (S : Nat) (f0 : Nat → Int32) (f1 : Nat → Int32) (f2 : Nat → Int32) (f3 : Nat → Int32) (ad : Nat)  (h1 : ad < 2 ^ 31) (h2 : 0 < S) (h3 : S < 2 ^ 31) : MetR l yX1_ringOf cX1_ringOf 2 (some .int) (rmK 0 0) (nPre D (nTy cI cR) [.ref h, .int (nI ad)] (wRp h a cI R B S f0 f1 f2 f3)) (nI (ad / S)) := by
  refine met_read rfl (Nat.le_of_ble_eq_true rfl) ?_
  intro p e s m args below meth c ls hx hb hml hr hlocks hown hts hP hK hl
  have hl : lv_has ls 2 [(0, .ref h), (1, .int (nI ad))] := hl
  refine lv_iload_n hx hb dX1_ringOf_0 rfl (lv_at hl 1 rfl) ?_
  refine lv_aload_n hx hb dX1_ringOf_1 rfl (lv_at hl 0 rfl) ?_
  refine va_get (D := D) (ci := 1) (v := .int (nI S)) (C := RX1) (T := TX1) (N := 7) hx hb hts inX1 hown hK hP 0 rfl rfl 2 (by decide) (hts _ fl_RX1_35) (fun _ h9 => h9) rfl dX1_ringOf_2 ?_
  refine nv_idiv hx hb dX1_ringOf_5 (by omega) (by omega) (by omega) ?_
  exact nv_ret hx hb hr hlocks (rfl) dX1_ringOf_6
set_option maxHeartbeats 4000000 in
set_option maxRecDepth 100000 in
theorem c_X1_setOf (l : Launch) (D : va_G) (cI cR : ClassId) (h : Nat) (a : Nat → Nat) (R : Nat) (B : Nat) (S : Nat) (f0 : Nat → Int32) (f1 : Nat → Int32) (f2 : Nat → Int32) (f3 : Nat → Int32) (ad : Nat)  (h1 : ad < 2 ^ 31) (h2 : 0 < S) (h3 : S < 2 ^ 31) : MetR l yX1_setOf cX1_setOf 2 (some .int) (rmK 0 0) (nPre D (nTy cI cR) [.ref h, .int (nI ad)] (wRp h a cI R B S f0 f1 f2 f3)) (nI (ad % S)) := by
  refine met_read rfl (Nat.le_of_ble_eq_true rfl) ?_
  intro p e s m args below meth c ls hx hb hml hr hlocks hown hts hP hK hl
  have hl : lv_has ls 2 [(0, .ref h), (1, .int (nI ad))] := hl
  refine lv_iload_n hx hb dX1_setOf_0 rfl (lv_at hl 1 rfl) ?_
  refine lv_aload_n hx hb dX1_setOf_1 rfl (lv_at hl 0 rfl) ?_
  refine va_get (D := D) (ci := 1) (v := .int (nI S)) (C := RX1) (T := TX1) (N := 7) hx hb hts inX1 hown hK hP 0 rfl rfl 2 (by decide) (hts _ fl_RX1_35) (fun _ h9 => h9) rfl dX1_setOf_2 ?_
  refine nv_irem hx hb dX1_setOf_5 (by omega) (by omega) (by omega) ?_
  exact nv_ret hx hb hr hlocks (rfl) dX1_setOf_6
set_option maxHeartbeats 4000000 in
set_option maxRecDepth 100000 in
theorem c_X1_senseWire (l : Launch) (D : va_G) (cI cR : ClassId) (h : Nat) (a : Nat → Nat) (R : Nat) (B : Nat) (S : Nat) (f0 : Nat → Int32) (f1 : Nat → Int32) (f2 : Nat → Int32) (f3 : Nat → Int32) (t : Nat) (b : Nat)   : MetR l yX1_senseWire cX1_senseWire 3 (some .int) (rmK 0 0) (nPre D (nTy cI cR) [.ref h, .int (nI t), .int (nI b)] (wRp h a cI R B S f0 f1 f2 f3)) (nI (8 + t * (B + 1) + b)) := by
  refine met_read rfl (Nat.le_of_ble_eq_true rfl) ?_
  intro p e s m args below meth c ls hx hb hml hr hlocks hown hts hP hK hl
  have hl : lv_has ls 3 [(0, .ref h), (1, .int (nI t)), (2, .int (nI b))] := hl
  refine lv_bipush (v := nI 8) hx hb dX1_senseWire_0 (by decide) ?_
  refine lv_iload_n hx hb dX1_senseWire_2 rfl (lv_at hl 1 rfl) ?_
  refine lv_aload_n hx hb dX1_senseWire_3 rfl (lv_at hl 0 rfl) ?_
  refine va_get (D := D) (ci := 1) (v := .int (nI B)) (C := RX1) (T := TX1) (N := 7) hx hb hts inX1 hown hK hP 0 rfl rfl 1 (by decide) (hts _ fl_RX1_32) (fun _ h9 => h9) rfl dX1_senseWire_4 ?_
  refine lv_iconst (v := nI 1) hx hb dX1_senseWire_7 (by decide) ?_
  refine nv_iadd hx hb dX1_senseWire_8 ?_
  refine nv_imul hx hb dX1_senseWire_9 ?_
  refine nv_iadd hx hb dX1_senseWire_10 ?_
  refine lv_iload_n hx hb dX1_senseWire_11 rfl (lv_at hl 2 rfl) ?_
  refine nv_iadd hx hb dX1_senseWire_12 ?_
  exact nv_ret hx hb hr hlocks (rfl) dX1_senseWire_13
set_option maxHeartbeats 4000000 in
set_option maxRecDepth 100000 in
theorem c_X1_hasRing (l : Launch) (D : va_G) (cI cR : ClassId) (h : Nat) (a : Nat → Nat) (R : Nat) (B : Nat) (S : Nat) (f0 : Nat → Int32) (f1 : Nat → Int32) (f2 : Nat → Int32) (f3 : Nat → Int32) (x : Int32)  (hR : R ≤ 16) : MetR l yX1_hasRing cX1_hasRing 2 (some .boolean) (rmK 0 0) (nPre D (nTy cI cR) [.ref h, .int x] (wRp h a cI R B S f0 f1 f2 f3)) (zB (inB x R)) := by
  refine met_read rfl (Nat.le_of_ble_eq_true rfl) ?_
  intro p e s m args below meth c ls hx hb hml hr hlocks hown hts hP hK hl
  have hl : lv_has ls 2 [(0, .ref h), (1, .int x)] := hl
  refine lv_iload_n hx hb dX1_hasRing_0 rfl (lv_at hl 1 rfl) ?_
  refine lv_if_lt (tgt := 16) hx hb dX1_hasRing_1 (by decide) (fun q_1 => ?_) (fun q_1 => ?_)
  · refine lv_iconst (v := nI 0) hx hb dX1_hasRing_16 (by decide) ?_
    exact nv_retz hx hb hr hlocks (by decide) (by first | exact zB_1 (inB_in (by omega) q_1 q_9) | exact zB_0 (inB_neg q_1) | exact zB_0 (inB_ge (by omega) q_9)) dX1_hasRing_17
  · refine lv_iload_n hx hb dX1_hasRing_4 rfl (lv_at hl 1 rfl) ?_
    refine lv_aload_n hx hb dX1_hasRing_5 rfl (lv_at hl 0 rfl) ?_
    refine va_get (D := D) (ci := 1) (v := .int (nI R)) (C := RX1) (T := TX1) (N := 7) hx hb hts inX1 hown hK hP 0 rfl rfl 0 (by decide) (hts _ fl_RX1_28) (fun _ h9 => h9) rfl dX1_hasRing_6 ?_
    refine lv_icmp_ge (tgt := 16) hx hb dX1_hasRing_9 (by decide) (fun q_9 => ?_) (fun q_9 => ?_)
    · refine lv_iconst (v := nI 0) hx hb dX1_hasRing_16 (by decide) ?_
      exact nv_retz hx hb hr hlocks (by decide) (by first | exact zB_1 (inB_in (by omega) q_1 q_9) | exact zB_0 (inB_neg q_1) | exact zB_0 (inB_ge (by omega) q_9)) dX1_hasRing_17
    · refine lv_iconst (v := nI 1) hx hb dX1_hasRing_12 (by decide) ?_
      refine lv_goto (tgt := 17) hx hb dX1_hasRing_13 (by decide) ?_
      exact nv_retz hx hb hr hlocks (by decide) (by first | exact zB_1 (inB_in (by omega) q_1 q_9) | exact zB_0 (inB_neg q_1) | exact zB_0 (inB_ge (by omega) q_9)) dX1_hasRing_17
set_option maxHeartbeats 4000000 in
set_option maxRecDepth 100000 in
theorem c_X1_hasWire (l : Launch) (D : va_G) (cI cR : ClassId) (h : Nat) (a : Nat → Nat) (R : Nat) (B : Nat) (S : Nat) (f0 : Nat → Int32) (f1 : Nat → Int32) (f2 : Nat → Int32) (f3 : Nat → Int32) (x : Int32)  (hA : S * (B + 1) ≤ 33) : MetR l yX1_hasWire cX1_hasWire 2 (some .boolean) (rmK 1 20) (nPre D (nTy cI cR) [.ref h, .int x] (wRp h a cI R B S f0 f1 f2 f3)) (zB (inB x (8 + S * (B + 1)))) := by
  refine met_read rfl (Nat.le_of_ble_eq_true rfl) ?_
  intro p e s m args below meth c ls hx hb hml hr hlocks hown hts hP hK hl
  have hl : lv_has ls 2 [(0, .ref h), (1, .int x)] := hl
  refine lv_iload_n hx hb dX1_hasWire_0 rfl (lv_at hl 1 rfl) ?_
  refine lv_if_lt (tgt := 16) hx hb dX1_hasWire_1 (by decide) (fun q_1 => ?_) (fun q_1 => ?_)
  · refine lv_iconst (v := nI 0) hx hb dX1_hasWire_16 (by decide) ?_
    exact nv_retz hx hb hr hlocks (by decide) (by first | exact zB_1 (inB_in (by omega) q_1 q_9) | exact zB_0 (inB_neg q_1) | exact zB_0 (inB_ge (by omega) q_9)) dX1_hasWire_17
  · refine lv_iload_n hx hb dX1_hasWire_4 rfl (lv_at hl 1 rfl) ?_
    refine lv_aload_n hx hb dX1_hasWire_5 rfl (lv_at hl 0 rfl) ?_
    refine nv_callV [] [.int x] hx hb hml hown hts k_RX1_55 (c_X1_wires l D cI cR h a R B S f0 f1 f2 f3 ) ⟨rfl, rfl, Nat.le_of_ble_eq_true rfl, Nat.le_of_ble_eq_true rfl⟩ hP hK 1 rfl rfl rfl rfl hl rfl (Nat.le_of_ble_eq_true rfl) dX1_hasWire_6 ⟨Nat.zero_le _, Nat.zero_le _⟩ ?_
    refine lv_icmp_ge (tgt := 16) hx hb dX1_hasWire_9 (by decide) (fun q_9 => ?_) (fun q_9 => ?_)
    · refine lv_iconst (v := nI 0) hx hb dX1_hasWire_16 (by decide) ?_
      exact nv_retz hx hb hr hlocks (by decide) (by first | exact zB_1 (inB_in (by omega) q_1 q_9) | exact zB_0 (inB_neg q_1) | exact zB_0 (inB_ge (by omega) q_9)) dX1_hasWire_17
    · refine lv_iconst (v := nI 1) hx hb dX1_hasWire_12 (by decide) ?_
      refine lv_goto (tgt := 17) hx hb dX1_hasWire_13 (by decide) ?_
      exact nv_retz hx hb hr hlocks (by decide) (by first | exact zB_1 (inB_in (by omega) q_1 q_9) | exact zB_0 (inB_neg q_1) | exact zB_0 (inB_ge (by omega) q_9)) dX1_hasWire_17
set_option maxHeartbeats 4000000 in
set_option maxRecDepth 100000 in
theorem c_X1_hasAddress (l : Launch) (D : va_G) (cI cR : ClassId) (h : Nat) (a : Nat → Nat) (R : Nat) (B : Nat) (S : Nat) (f0 : Nat → Int32) (f1 : Nat → Int32) (f2 : Nat → Int32) (f3 : Nat → Int32) (x : Int32)  (hA : R * S ≤ 48) : MetR l yX1_hasAddress cX1_hasAddress 2 (some .boolean) (rmK 1 20) (nPre D (nTy cI cR) [.ref h, .int x] (wRp h a cI R B S f0 f1 f2 f3)) (zB (inB x (R * S))) := by
  refine met_read rfl (Nat.le_of_ble_eq_true rfl) ?_
  intro p e s m args below meth c ls hx hb hml hr hlocks hown hts hP hK hl
  have hl : lv_has ls 2 [(0, .ref h), (1, .int x)] := hl
  refine lv_iload_n hx hb dX1_hasAddress_0 rfl (lv_at hl 1 rfl) ?_
  refine lv_if_lt (tgt := 16) hx hb dX1_hasAddress_1 (by decide) (fun q_1 => ?_) (fun q_1 => ?_)
  · refine lv_iconst (v := nI 0) hx hb dX1_hasAddress_16 (by decide) ?_
    exact nv_retz hx hb hr hlocks (by decide) (by first | exact zB_1 (inB_in (by omega) q_1 q_9) | exact zB_0 (inB_neg q_1) | exact zB_0 (inB_ge (by omega) q_9)) dX1_hasAddress_17
  · refine lv_iload_n hx hb dX1_hasAddress_4 rfl (lv_at hl 1 rfl) ?_
    refine lv_aload_n hx hb dX1_hasAddress_5 rfl (lv_at hl 0 rfl) ?_
    refine nv_callV [] [.int x] hx hb hml hown hts k_RX1_42 (c_X1_addresses l D cI cR h a R B S f0 f1 f2 f3 ) ⟨rfl, rfl, Nat.le_of_ble_eq_true rfl, Nat.le_of_ble_eq_true rfl⟩ hP hK 1 rfl rfl rfl rfl hl rfl (Nat.le_of_ble_eq_true rfl) dX1_hasAddress_6 ⟨Nat.zero_le _, Nat.zero_le _⟩ ?_
    refine lv_icmp_ge (tgt := 16) hx hb dX1_hasAddress_9 (by decide) (fun q_9 => ?_) (fun q_9 => ?_)
    · refine lv_iconst (v := nI 0) hx hb dX1_hasAddress_16 (by decide) ?_
      exact nv_retz hx hb hr hlocks (by decide) (by first | exact zB_1 (inB_in (by omega) q_1 q_9) | exact zB_0 (inB_neg q_1) | exact zB_0 (inB_ge (by omega) q_9)) dX1_hasAddress_17
    · refine lv_iconst (v := nI 1) hx hb dX1_hasAddress_12 (by decide) ?_
      refine lv_goto (tgt := 17) hx hb dX1_hasAddress_13 (by decide) ?_
      exact nv_retz hx hb hr hlocks (by decide) (by first | exact zB_1 (inB_in (by omega) q_1 q_9) | exact zB_0 (inB_neg q_1) | exact zB_0 (inB_ge (by omega) q_9)) dX1_hasAddress_17
set_option maxHeartbeats 4000000 in
set_option maxRecDepth 100000 in
theorem c_X1_fits (l : Launch) (D : va_G) (cI cR : ClassId) (h : Nat) (a : Nat → Nat) (R : Nat) (B : Nat) (S : Nat) (f0 : Nat → Int32) (f1 : Nat → Int32) (f2 : Nat → Int32) (f3 : Nat → Int32) (x : Int32)  (hB : B ≤ 10) : MetR l yX1_fits cX1_fits 2 (some .boolean) (rmK 1 20) (nPre D (nTy cI cR) [.ref h, .int x] (wRp h a cI R B S f0 f1 f2 f3)) (zB (inB x (2 ^ B))) := by
  refine met_read rfl (Nat.le_of_ble_eq_true rfl) ?_
  intro p e s m args below meth c ls hx hb hml hr hlocks hown hts hP hK hl
  have hl : lv_has ls 2 [(0, .ref h), (1, .int x)] := hl
  have hb10 := p2_10 hB
  have hse := sh1e B
  refine lv_iload_n hx hb dX1_fits_0 rfl (lv_at hl 1 rfl) ?_
  refine lv_if_lt (tgt := 16) hx hb dX1_fits_1 (by decide) (fun q_1 => ?_) (fun q_1 => ?_)
  · refine lv_iconst (v := nI 0) hx hb dX1_fits_16 (by decide) ?_
    exact nv_retz hx hb hr hlocks (by decide) (by rw [← sh1e B]; first | exact zB_1 (inB_le (by omega) q_1 q_9) | exact zB_0 (inB_neg q_1) | exact zB_0 (inB_gt (by omega) q_9)) dX1_fits_17
  · refine lv_iload_n hx hb dX1_fits_4 rfl (lv_at hl 1 rfl) ?_
    refine lv_aload_n hx hb dX1_fits_5 rfl (lv_at hl 0 rfl) ?_
    refine nv_callV [] [.int x] hx hb hml hown hts k_RX1_58 (c_X1_highestWord l D cI cR h a R B S f0 f1 f2 f3 (by omega)) ⟨rfl, rfl, Nat.le_of_ble_eq_true rfl, Nat.le_of_ble_eq_true rfl⟩ hP hK 1 rfl rfl rfl rfl hl rfl (Nat.le_of_ble_eq_true rfl) dX1_fits_6 ⟨Nat.zero_le _, Nat.zero_le _⟩ ?_
    refine lv_icmp_gt (tgt := 16) hx hb dX1_fits_9 (by decide) (fun q_9 => ?_) (fun q_9 => ?_)
    · refine lv_iconst (v := nI 0) hx hb dX1_fits_16 (by decide) ?_
      exact nv_retz hx hb hr hlocks (by decide) (by rw [← sh1e B]; first | exact zB_1 (inB_le (by omega) q_1 q_9) | exact zB_0 (inB_neg q_1) | exact zB_0 (inB_gt (by omega) q_9)) dX1_fits_17
    · refine lv_iconst (v := nI 1) hx hb dX1_fits_12 (by decide) ?_
      refine lv_goto (tgt := 17) hx hb dX1_fits_13 (by decide) ?_
      exact nv_retz hx hb hr hlocks (by decide) (by rw [← sh1e B]; first | exact zB_1 (inB_le (by omega) q_1 q_9) | exact zB_0 (inB_neg q_1) | exact zB_0 (inB_gt (by omega) q_9)) dX1_fits_17
theorem c_X1_addressesS (l : Launch) (D : va_G) (cI cR : ClassId) (h : Nat) (a : Nat → Nat) (σ : Nat → Nat)   : MetR l yX1_addresses cX1_addresses 1 (some .int) (rmK 0 0) (nPre D (nTy cI cR) [.ref h] (wRp h a cI (σ 0) (σ 1) (σ 2) (onF σ) (wwF σ) (crF σ) (ptF σ))) (nI (nA σ)) := c_X1_addresses l D cI cR h a (σ 0) (σ 1) (σ 2) (onF σ) (wwF σ) (crF σ) (ptF σ)
theorem c_X1_wiresS (l : Launch) (D : va_G) (cI cR : ClassId) (h : Nat) (a : Nat → Nat) (σ : Nat → Nat)   : MetR l yX1_wires cX1_wires 1 (some .int) (rmK 0 0) (nPre D (nTy cI cR) [.ref h] (wRp h a cI (σ 0) (σ 1) (σ 2) (onF σ) (wwF σ) (crF σ) (ptF σ))) (nI (nW σ)) := c_X1_wires l D cI cR h a (σ 0) (σ 1) (σ 2) (onF σ) (wwF σ) (crF σ) (ptF σ)
theorem c_X1_hasRingS (l : Launch) (D : va_G) (cI cR : ClassId) (h : Nat) (a : Nat → Nat) (σ : Nat → Nat) (x : Int32) (hw : wf σ) : MetR l yX1_hasRing cX1_hasRing 2 (some .boolean) (rmK 0 0) (nPre D (nTy cI cR) [.ref h, .int x] (wRp h a cI (σ 0) (σ 1) (σ 2) (onF σ) (wwF σ) (crF σ) (ptF σ))) (zB (inB x (σ 0))) := c_X1_hasRing l D cI cR h a (σ 0) (σ 1) (σ 2) (onF σ) (wwF σ) (crF σ) (ptF σ) x hw.2.1
theorem c_X1_hasWireS (l : Launch) (D : va_G) (cI cR : ClassId) (h : Nat) (a : Nat → Nat) (σ : Nat → Nat) (x : Int32) (hw : wf σ) : MetR l yX1_hasWire cX1_hasWire 2 (some .boolean) (rmK 1 20) (nPre D (nTy cI cR) [.ref h, .int x] (wRp h a cI (σ 0) (σ 1) (σ 2) (onF σ) (wwF σ) (crF σ) (ptF σ))) (zB (inB x (nW σ))) := c_X1_hasWire l D cI cR h a (σ 0) (σ 1) (σ 2) (onF σ) (wwF σ) (crF σ) (ptF σ) x hw.a33
theorem c_X1_hasAddressS (l : Launch) (D : va_G) (cI cR : ClassId) (h : Nat) (a : Nat → Nat) (σ : Nat → Nat) (x : Int32) (hw : wf σ) : MetR l yX1_hasAddress cX1_hasAddress 2 (some .boolean) (rmK 1 20) (nPre D (nTy cI cR) [.ref h, .int x] (wRp h a cI (σ 0) (σ 1) (σ 2) (onF σ) (wwF σ) (crF σ) (ptF σ))) (zB (inB x (nA σ))) := c_X1_hasAddress l D cI cR h a (σ 0) (σ 1) (σ 2) (onF σ) (wwF σ) (crF σ) (ptF σ) x hw.a48
end
section
set_option maxHeartbeats 4000000 in
set_option maxRecDepth 100000 in
theorem c_J6_bitCount_0f7a4 (l : Launch) (D : va_G) (cI cR : ClassId)  (x : Nat)  (h1 : x < 65536) : MetR l yJ6_bitCount_0f7a4 cJ6_bitCount_0f7a4 1 (some .int) (rmK 0 0) (nPre D (nTy cI cR) [.int (nI x)] []) (nI (pop x)) := by
  refine met_read rfl (Nat.le_of_ble_eq_true rfl) ?_
  intro p e s m args below meth c ls hx hb hml hr hlocks hown hts hP hK hl
  have hl : lv_has ls 1 [(0, .int (nI x))] := hl
  have k1 : x >>> 1 ≤ x := by rw [Nat.shiftRight_eq_div_pow]; exact Nat.div_le_self _ _
  have k2 : (x >>> 1 &&& 1431655765) ≤ x := Nat.le_trans Nat.and_le_left k1
  have t1 : bc1 x ≤ 65536 := by unfold bc1; omega
  have t2 : bc2 (bc1 x) ≤ 2 * 65536 := by unfold bc2; have := @Nat.and_le_left (bc1 x) 858993459; have := @Nat.and_le_left (bc1 x >>> 2) 858993459; have : bc1 x >>> 2 ≤ bc1 x := by rw [Nat.shiftRight_eq_div_pow]; exact Nat.div_le_self _ _
                                          omega
  have t3 : bc3 (bc2 (bc1 x)) ≤ 4 * 65536 := by unfold bc3; have := @Nat.and_le_left (bc2 (bc1 x) + bc2 (bc1 x) >>> 4) 252645135; have : bc2 (bc1 x) >>> 4 ≤ bc2 (bc1 x) := by rw [Nat.shiftRight_eq_div_pow]; exact Nat.div_le_self _ _
                                                omega
  have t4 : bc4 (bc3 (bc2 (bc1 x))) ≤ 8 * 65536 := by unfold bc4; have : bc3 (bc2 (bc1 x)) >>> 8 ≤ bc3 (bc2 (bc1 x)) := by rw [Nat.shiftRight_eq_div_pow]; exact Nat.div_le_self _ _
                                                      omega
  refine lv_iload_n hx hb dJ6_bitCount_0f7a4_0 rfl (lv_at hl 0 rfl) ?_
  refine lv_iload_n hx hb dJ6_bitCount_0f7a4_1 rfl (lv_at hl 0 rfl) ?_
  refine lv_iconst (v := nI 1) hx hb dJ6_bitCount_0f7a4_2 (by decide) ?_
  refine lv_iushr (v := nI (x >>> 1)) hx hb dJ6_bitCount_0f7a4_3 (nw_ush (by omega) (by decide)) ?_
  refine lv_ldcw (v := 1431655765) hx hb hown (hts _ ct_RJ6_265) dJ6_bitCount_0f7a4_4 ?_
  refine nv_tope (nI (1431655765)) (by decide) ?_
  refine nv_iand hx hb dJ6_bitCount_0f7a4_7 ?_
  refine nv_isub hx hb dJ6_bitCount_0f7a4_8 (by omega) ?_
  refine nv_top (bc1 x) (rfl) ?_
  refine lv_istore_n (lv' := [(0, .int (nI (bc1 x)))]) hx hb dJ6_bitCount_0f7a4_9 rfl hl (by decide) rfl (fun ls hl => ?_)
  refine lv_iload_n hx hb dJ6_bitCount_0f7a4_10 rfl (lv_at hl 0 rfl) ?_
  refine lv_ldcw (v := 858993459) hx hb hown (hts _ ct_RJ6_266) dJ6_bitCount_0f7a4_11 ?_
  refine nv_tope (nI (858993459)) (by decide) ?_
  refine nv_iand hx hb dJ6_bitCount_0f7a4_14 ?_
  refine lv_iload_n hx hb dJ6_bitCount_0f7a4_15 rfl (lv_at hl 0 rfl) ?_
  refine lv_iconst (v := nI 2) hx hb dJ6_bitCount_0f7a4_16 (by decide) ?_
  refine lv_iushr (v := nI (bc1 x >>> 2)) hx hb dJ6_bitCount_0f7a4_17 (nw_ush (by omega) (by decide)) ?_
  refine lv_ldcw (v := 858993459) hx hb hown (hts _ ct_RJ6_266) dJ6_bitCount_0f7a4_18 ?_
  refine nv_tope (nI (858993459)) (by decide) ?_
  refine nv_iand hx hb dJ6_bitCount_0f7a4_21 ?_
  refine nv_iadd hx hb dJ6_bitCount_0f7a4_22 ?_
  refine nv_top (bc2 (bc1 x)) (rfl) ?_
  refine lv_istore_n (lv' := [(0, .int (nI (bc2 (bc1 x))))]) hx hb dJ6_bitCount_0f7a4_23 rfl hl (by decide) rfl (fun ls hl => ?_)
  refine lv_iload_n hx hb dJ6_bitCount_0f7a4_24 rfl (lv_at hl 0 rfl) ?_
  refine lv_iload_n hx hb dJ6_bitCount_0f7a4_25 rfl (lv_at hl 0 rfl) ?_
  refine lv_iconst (v := nI 4) hx hb dJ6_bitCount_0f7a4_26 (by decide) ?_
  refine lv_iushr (v := nI (bc2 (bc1 x) >>> 4)) hx hb dJ6_bitCount_0f7a4_27 (nw_ush (by omega) (by decide)) ?_
  refine nv_iadd hx hb dJ6_bitCount_0f7a4_28 ?_
  refine lv_ldcw (v := 252645135) hx hb hown (hts _ ct_RJ6_267) dJ6_bitCount_0f7a4_29 ?_
  refine nv_tope (nI (252645135)) (by decide) ?_
  refine nv_iand hx hb dJ6_bitCount_0f7a4_32 ?_
  refine nv_top (bc3 (bc2 (bc1 x))) (rfl) ?_
  refine lv_istore_n (lv' := [(0, .int (nI (bc3 (bc2 (bc1 x)))))]) hx hb dJ6_bitCount_0f7a4_33 rfl hl (by decide) rfl (fun ls hl => ?_)
  refine lv_iload_n hx hb dJ6_bitCount_0f7a4_34 rfl (lv_at hl 0 rfl) ?_
  refine lv_iload_n hx hb dJ6_bitCount_0f7a4_35 rfl (lv_at hl 0 rfl) ?_
  refine lv_bipush (v := nI 8) hx hb dJ6_bitCount_0f7a4_36 (by decide) ?_
  refine lv_iushr (v := nI (bc3 (bc2 (bc1 x)) >>> 8)) hx hb dJ6_bitCount_0f7a4_38 (nw_ush (by omega) (by decide)) ?_
  refine nv_iadd hx hb dJ6_bitCount_0f7a4_39 ?_
  refine nv_top (bc4 (bc3 (bc2 (bc1 x)))) (rfl) ?_
  refine lv_istore_n (lv' := [(0, .int (nI (bc4 (bc3 (bc2 (bc1 x))))))]) hx hb dJ6_bitCount_0f7a4_40 rfl hl (by decide) rfl (fun ls hl => ?_)
  refine lv_iload_n hx hb dJ6_bitCount_0f7a4_41 rfl (lv_at hl 0 rfl) ?_
  refine lv_iload_n hx hb dJ6_bitCount_0f7a4_42 rfl (lv_at hl 0 rfl) ?_
  refine lv_bipush (v := nI 16) hx hb dJ6_bitCount_0f7a4_43 (by decide) ?_
  refine lv_iushr (v := nI (bc4 (bc3 (bc2 (bc1 x))) >>> 16)) hx hb dJ6_bitCount_0f7a4_45 (nw_ush (by omega) (by decide)) ?_
  refine nv_iadd hx hb dJ6_bitCount_0f7a4_46 ?_
  refine nv_top (bc5 (bc4 (bc3 (bc2 (bc1 x))))) (rfl) ?_
  refine lv_istore_n (lv' := [(0, .int (nI (bc5 (bc4 (bc3 (bc2 (bc1 x)))))))]) hx hb dJ6_bitCount_0f7a4_47 rfl hl (by decide) rfl (fun ls hl => ?_)
  refine lv_iload_n hx hb dJ6_bitCount_0f7a4_48 rfl (lv_at hl 0 rfl) ?_
  refine lv_bipush (v := nI 63) hx hb dJ6_bitCount_0f7a4_49 (by decide) ?_
  refine nv_iand hx hb dJ6_bitCount_0f7a4_51 ?_
  exact nv_ret hx hb hr hlocks (congrArg nI (show bcN x = pop x from bc_pop h1)) dJ6_bitCount_0f7a4_52
set_option maxHeartbeats 4000000 in
set_option maxRecDepth 100000 in
theorem c_X1_codeOf (l : Launch) (D : va_G) (cI cR : ClassId) (h : Nat) (a : Nat → Nat) (σ : Nat → Nat) (k : Nat)  (hw : wf σ) (hk : k < σ 0) : MetR l yX1_codeOf cX1_codeOf 4 (some .int) (rmK 0 0) (nPre D (nTy cI cR) [.ref h, .int (nI k)] (wRp h a cI (σ 0) (σ 1) (σ 2) (onF σ) (wwF σ) (crF σ) (ptF σ))) (nI (σ (3 + k))) := by
  refine met_read rfl (Nat.le_of_ble_eq_true rfl) ?_
  intro p e s m args below meth c ls hx hb hml hr hlocks hown hts hP hK hl
  have hl : lv_has ls 4 [(0, .ref h), (1, .int (nI k))] := hl
  have hA41 := hw.w41
  have hA33 := hw.a33
  have hA48 := hw.a48
  obtain ⟨hR2, hR, hB1, hB, hS1, hS, -⟩ := id hw
  refine lv_iconst (v := nI 0) hx hb dX1_codeOf_0 (by decide) ?_
  refine lv_istore_n (lv' := [(2, .int (nI 0)), (0, .ref h), (1, .int (nI k))]) hx hb dX1_codeOf_1 rfl hl (by decide) rfl (fun ls hl => ?_)
  refine lv_iconst (v := nI 0) hx hb dX1_codeOf_2 (by decide) ?_
  refine lv_istore_n (lv' := [(3, .int (nI 0)), (2, .int (nI 0)), (0, .ref h), (1, .int (nI k))]) hx hb dX1_codeOf_3 rfl hl (by decide) rfl (fun ls hl => ?_)
  have L4 : ∀ (n4 i : Nat), 4 + 1 ≤ i + n4 → i ≤ 4 → ∀ (ls : Array Slot), lv_has ls 4 [(0, .ref h), (1, .int (nI k)), (2, .int (nI (mk (fun b => (onM σ (2 * b + 1)).testBit k) i))), (3, .int (nI i))] → W p l e (rmK 0 0) s m args below meth c s.heap [] 0 0 (MQ below (QcRead (nI (σ (3 + k)))) args s 0 0 (fun _ => False)) (F0 m 4 ls []) := by
    intro n4
    induction n4 with
    | zero =>
      intro i h1_4 h2_4
      exact False.elim (by omega)
    | succ n4 ih4 =>
      intro i h1_4 h2_4  ls hl
      refine lv_iload_n hx hb dX1_codeOf_4 rfl (lv_at hl 3 rfl) ?_
      refine lv_iconst (v := nI 4) hx hb dX1_codeOf_5 (by decide) ?_
      refine nv_icmp_ge (tgt := 34) hx hb dX1_codeOf_6 (by decide) (by omega) (by omega) (fun q_6 => ?_) (fun q_6 => ?_)
      · refine lv_iload_n hx hb dX1_codeOf_34 rfl (lv_at hl 2 rfl) ?_
        exact nv_ret hx hb hr hlocks (congrArg nI (codeOf_mk hw hk (by omega))) dX1_codeOf_35
      · refine lv_iload_n hx hb dX1_codeOf_9 rfl (lv_at hl 2 rfl) ?_
        refine lv_aload_n hx hb dX1_codeOf_10 rfl (lv_at hl 0 rfl) ?_
        refine va_get (D := D) (ci := 1) (v := .ref (a 0)) (C := RX1) (T := TX1) (N := 7) hx hb hts inX1 hown hK hP 0 rfl rfl 3 (by decide) (hts _ fl_RX1_9) (fun _ h9 => h9) rfl dX1_codeOf_11 ?_
        refine lv_iconst (v := nI 2) hx hb dX1_codeOf_14 (by decide) ?_
        refine lv_iload_n hx hb dX1_codeOf_15 rfl (lv_at hl 3 rfl) ?_
        refine nv_imul hx hb dX1_codeOf_16 ?_
        refine lv_iconst (v := nI 1) hx hb dX1_codeOf_17 (by decide) ?_
        refine nv_iadd hx hb dX1_codeOf_18 ?_
        refine nv_iald (D := D) (v := nI (onM σ ((2 * i) + 1))) hx hb hK hP 1 0 rfl rfl (k := (2 * i) + 1) (by omega) (by decide) (rfl) dX1_codeOf_19 ?_
        refine lv_iload_n hx hb dX1_codeOf_20 rfl (lv_at hl 1 rfl) ?_
        refine nv_ishr hx hb dX1_codeOf_21 (Nat.lt_trans (onM_lt hw _) (by decide)) (by omega) ?_
        refine lv_iconst (v := nI 1) hx hb dX1_codeOf_22 (by decide) ?_
        refine nv_iand hx hb dX1_codeOf_23 ?_
        refine nv_top (((onM σ (2 * i + 1)).testBit k).toNat) (nw_tb _ _) ?_
        refine lv_iload_n hx hb dX1_codeOf_24 rfl (lv_at hl 3 rfl) ?_
        refine nv_ishl hx hb dX1_codeOf_25 (by omega) ?_
        refine nv_ior hx hb dX1_codeOf_26 ?_
        refine lv_istore_n (lv' := [(2, .int (nI ((mk (fun b => (onM σ (2 * b + 1)).testBit k) i) ||| ((((onM σ (2 * i + 1)).testBit k).toNat) <<< i)))), (0, .ref h), (1, .int (nI k)), (3, .int (nI i))]) hx hb dX1_codeOf_27 rfl hl (by decide) rfl (fun ls hl => ?_)
        refine nv_inc (k := 3) (lv' := [(3, .int (nI (i + 1))), (2, .int (nI ((mk (fun b => (onM σ (2 * b + 1)).testBit k) i) ||| ((((onM σ (2 * i + 1)).testBit k).toNat) <<< i)))), (0, .ref h), (1, .int (nI k))]) hx hb dX1_codeOf_28 hl rfl (by decide) rfl (fun ls hl => ?_)
        refine lv_goto (tgt := 4) hx hb dX1_codeOf_31 (by decide) ?_
        exact ih4 (i + 1) (by omega) (by omega)  ls (lv_sub hl [2, 3, 1, 0] rfl)
  exact L4 (4 + 1) 0 (by omega) (by omega)  ls (lv_sub hl [2, 3, 1, 0] rfl)
set_option maxHeartbeats 4000000 in
set_option maxRecDepth 100000 in
theorem c_X1_ringWithCode (l : Launch) (D : va_G) (cI cR : ClassId) (h : Nat) (a : Nat → Nat) (σ : Nat → Nat) (k : Nat)  (hw : wf σ) (hk : k < 2 ^ 31) : MetR l yX1_ringWithCode cX1_ringWithCode 3 (some .int) (rmK 1 23) (nPre D (nTy cI cR) [.ref h, .int (nI k)] (wRp h a cI (σ 0) (σ 1) (σ 2) (onF σ) (wwF σ) (crF σ) (ptF σ))) (rcF σ k) := by
  refine met_read rfl (Nat.le_of_ble_eq_true rfl) ?_
  intro p e s m args below meth c ls hx hb hml hr hlocks hown hts hP hK hl
  have hl : lv_has ls 3 [(0, .ref h), (1, .int (nI k))] := hl
  have hA41 := hw.w41
  have hA33 := hw.a33
  have hA48 := hw.a48
  obtain ⟨hR2, hR, hB1, hB, hS1, hS, -⟩ := id hw
  refine lv_iconst (v := nI 0) hx hb dX1_ringWithCode_0 (by decide) ?_
  refine lv_istore_n (lv' := [(2, .int (nI 0)), (0, .ref h), (1, .int (nI k))]) hx hb dX1_ringWithCode_1 rfl hl (by decide) rfl (fun ls hl => ?_)
  have L2 : ∀ (n2 i : Nat), σ 0 + 1 ≤ i + n2 → i ≤ σ 0 → (∀ j, j < i → ¬ σ (3 + j) = k) → ∀ (ls : Array Slot), lv_has ls 3 [(0, .ref h), (1, .int (nI k)), (2, .int (nI i))] → W p l e (rmK 1 23) s m args below meth c s.heap [] 0 0 (MQ below (QcRead (rcF σ k)) args s 0 0 (fun _ => False)) (F0 m 2 ls []) := by
    intro n2
    induction n2 with
    | zero =>
      intro i h1_2 h2_2
      exact False.elim (by omega)
    | succ n2 ih2 =>
      intro i h1_2 h2_2 hno ls hl
      refine lv_iload_n hx hb dX1_ringWithCode_2 rfl (lv_at hl 2 rfl) ?_
      refine lv_aload_n hx hb dX1_ringWithCode_3 rfl (lv_at hl 0 rfl) ?_
      refine va_get (D := D) (ci := 1) (v := .int (nI (σ 0))) (C := RX1) (T := TX1) (N := 7) hx hb hts inX1 hown hK hP 0 rfl rfl 0 (by decide) (hts _ fl_RX1_28) (fun _ h9 => h9) rfl dX1_ringWithCode_4 ?_
      refine nv_icmp_ge (tgt := 27) hx hb dX1_ringWithCode_7 (by decide) (by omega) (by omega) (fun q_7 => ?_) (fun q_7 => ?_)
      · refine lv_iconst (v := -1) hx hb dX1_ringWithCode_27 (by decide) ?_
        exact nv_ret hx hb hr hlocks (rcF_no (fun j hj => hno j (by omega))) dX1_ringWithCode_28
      · refine lv_aload_n hx hb dX1_ringWithCode_10 rfl (lv_at hl 0 rfl) ?_
        refine lv_iload_n hx hb dX1_ringWithCode_11 rfl (lv_at hl 2 rfl) ?_
        refine nv_callV [.int (nI i)] [] hx hb hml hown hts k_RX1_85 (c_X1_codeOf l D cI cR h a σ i hw (by omega)) ⟨rfl, rfl, Nat.le_of_ble_eq_true rfl, Nat.le_of_ble_eq_true rfl⟩ hP hK 1 rfl rfl rfl rfl hl rfl (Nat.le_of_ble_eq_true rfl) dX1_ringWithCode_12 ⟨Nat.zero_le _, Nat.zero_le _⟩ ?_
        refine lv_iload_n hx hb dX1_ringWithCode_15 rfl (lv_at hl 1 rfl) ?_
        refine nv_icmp_ne (tgt := 21) hx hb dX1_ringWithCode_16 (by decide) (by have := hw.cd (r := i) (by omega); omega) (by omega) (fun q_16 => ?_) (fun q_16 => ?_)
        · refine nv_inc (k := 2) (lv' := [(2, .int (nI (i + 1))), (0, .ref h), (1, .int (nI k))]) hx hb dX1_ringWithCode_21 hl rfl (by decide) rfl (fun ls hl => ?_)
          refine lv_goto (tgt := 2) hx hb dX1_ringWithCode_24 (by decide) ?_
          exact ih2 (i + 1) (by omega) (by omega) (fun j hj => by rcases Nat.lt_succ_iff_lt_or_eq.mp hj with q | q; exact hno j q; exact q ▸ q_16) ls (lv_sub hl [1, 2, 0] rfl)
        · refine lv_iload_n hx hb dX1_ringWithCode_19 rfl (lv_at hl 2 rfl) ?_
          exact nv_ret hx hb hr hlocks (rcF_yes hno q_16 (by omega)) dX1_ringWithCode_20
  exact L2 (σ 0 + 1) 0 (by omega) (by omega) (fun j hj => absurd hj (Nat.not_lt_zero j)) ls (lv_sub hl [1, 2, 0] rfl)
set_option maxHeartbeats 4000000 in
set_option maxRecDepth 100000 in
theorem c_X1_rightWeave (l : Launch) (D : va_G) (cI cR : ClassId) (h : Nat) (a : Nat → Nat) (σ : Nat → Nat) (w : Nat)  (hw : wf σ) (h1 : w < nW σ) : MetR l yX1_rightWeave cX1_rightWeave 2 (some .int) (rmK 0 0) (nPre D (nTy cI cR) [.ref h, .int (nI w)] (wRp h a cI (σ 0) (σ 1) (σ 2) (onF σ) (wwF σ) (crF σ) (ptF σ))) (nI (rtM σ w)) := by
  refine met_read rfl (Nat.le_of_ble_eq_true rfl) ?_
  intro p e s m args below meth c ls hx hb hml hr hlocks hown hts hP hK hl
  have hl : lv_has ls 2 [(0, .ref h), (1, .int (nI w))] := hl
  have hA41 := hw.w41
  have hA33 := hw.a33
  have hA48 := hw.a48
  obtain ⟨hR2, hR, hB1, hB, hS1, hS, -⟩ := id hw
  have hc1 := crN_le hw h1
  refine lv_aload_n hx hb dX1_rightWeave_0 rfl (lv_at hl 0 rfl) ?_
  refine va_get (D := D) (ci := 1) (v := .ref (a 2)) (C := RX1) (T := TX1) (N := 7) hx hb hts inX1 hown hK hP 0 rfl rfl 5 (by decide) (hts _ fl_RX1_18) (fun _ h9 => h9) rfl dX1_rightWeave_1 ?_
  refine lv_iload_n hx hb dX1_rightWeave_4 rfl (lv_at hl 1 rfl) ?_
  refine nv_iald (D := D) (v := nI (crN σ w)) hx hb hK hP 3 0 rfl rfl (k := w) (by omega) (by decide) (rfl) dX1_rightWeave_5 ?_
  refine lv_iconst (v := nI 1) hx hb dX1_rightWeave_6 (by decide) ?_
  refine nv_icmp_ne (tgt := 28) hx hb dX1_rightWeave_7 (by decide) (by omega) (by omega) (fun q_7 => ?_) (fun q_7 => ?_)
  · refine lv_aload_n hx hb dX1_rightWeave_28 rfl (lv_at hl 0 rfl) ?_
    refine va_get (D := D) (ci := 1) (v := .ref (a 0)) (C := RX1) (T := TX1) (N := 7) hx hb hts inX1 hown hK hP 0 rfl rfl 3 (by decide) (hts _ fl_RX1_9) (fun _ h9 => h9) rfl dX1_rightWeave_29 ?_
    refine lv_iload_n hx hb dX1_rightWeave_32 rfl (lv_at hl 1 rfl) ?_
    refine nv_iald (D := D) (v := nI (onM σ w)) hx hb hK hP 1 0 rfl rfl (k := w) (by omega) (by decide) (rfl) dX1_rightWeave_33 ?_
    exact nv_ret hx hb hr hlocks (by first | exact congrArg nI (rt_1 h1 q_7) | exact congrArg nI (rt_0 h1 q_7)) dX1_rightWeave_34
  · refine lv_aload_n hx hb dX1_rightWeave_10 rfl (lv_at hl 0 rfl) ?_
    refine va_get (D := D) (ci := 1) (v := .ref (a 0)) (C := RX1) (T := TX1) (N := 7) hx hb hts inX1 hown hK hP 0 rfl rfl 3 (by decide) (hts _ fl_RX1_9) (fun _ h9 => h9) rfl dX1_rightWeave_11 ?_
    refine lv_iload_n hx hb dX1_rightWeave_14 rfl (lv_at hl 1 rfl) ?_
    refine nv_iald (D := D) (v := nI (onM σ w)) hx hb hK hP 1 0 rfl rfl (k := w) (by omega) (by decide) (rfl) dX1_rightWeave_15 ?_
    refine lv_iconst (v := nI 1) hx hb dX1_rightWeave_16 (by decide) ?_
    refine lv_aload_n hx hb dX1_rightWeave_17 rfl (lv_at hl 0 rfl) ?_
    refine va_get (D := D) (ci := 1) (v := .int (nI (σ 0))) (C := RX1) (T := TX1) (N := 7) hx hb hts inX1 hown hK hP 0 rfl rfl 0 (by decide) (hts _ fl_RX1_28) (fun _ h9 => h9) rfl dX1_rightWeave_18 ?_
    refine nv_ishl hx hb dX1_rightWeave_21 (by omega) ?_
    refine lv_iconst (v := nI 1) hx hb dX1_rightWeave_22 (by decide) ?_
    refine nv_isub hx hb dX1_rightWeave_23 (sh1_pos _) ?_
    refine nv_ixor hx hb dX1_rightWeave_24 ?_
    refine lv_goto (tgt := 34) hx hb dX1_rightWeave_25 (by decide) ?_
    exact nv_ret hx hb hr hlocks (by first | exact congrArg nI (rt_1 h1 q_7) | exact congrArg nI (rt_0 h1 q_7)) dX1_rightWeave_34
set_option maxHeartbeats 4000000 in
set_option maxRecDepth 100000 in
theorem c_X1_costOf (l : Launch) (D : va_G) (cI cR : ClassId) (h : Nat) (a : Nat → Nat) (σ : Nat → Nat) (w : Nat)  (hw : wf σ) (h1 : w < nW σ) : MetR l yX1_costOf cX1_costOf 2 (some .int) (rmK 1 21) (nPre D (nTy cI cR) [.ref h, .int (nI w)] (wRp h a cI (σ 0) (σ 1) (σ 2) (onF σ) (wwF σ) (crF σ) (ptF σ))) (nI (csN σ w)) := by
  refine met_read rfl (Nat.le_of_ble_eq_true rfl) ?_
  intro p e s m args below meth c ls hx hb hml hr hlocks hown hts hP hK hl
  have hl : lv_has ls 2 [(0, .ref h), (1, .int (nI w))] := hl
  have hA41 := hw.w41
  have hA33 := hw.a33
  have hA48 := hw.a48
  obtain ⟨hR2, hR, hB1, hB, hS1, hS, -⟩ := id hw
  refine lv_aload_n hx hb dX1_costOf_0 rfl (lv_at hl 0 rfl) ?_
  refine lv_iload_n hx hb dX1_costOf_1 rfl (lv_at hl 1 rfl) ?_
  refine nv_callV [.int (nI w)] [] hx hb hml hown hts k_RX1_101 (c_X1_rightWeave l D cI cR h a σ w hw (by omega)) ⟨rfl, rfl, Nat.le_of_ble_eq_true rfl, Nat.le_of_ble_eq_true rfl⟩ hP hK 1 rfl rfl rfl rfl hl rfl (Nat.le_of_ble_eq_true rfl) dX1_costOf_2 ⟨Nat.zero_le _, Nat.zero_le _⟩ ?_
  refine nv_callS [.int (nI (rtM σ w))] [] hx hb hml hown hts k_RX1_73 (c_J6_bitCount_0f7a4 l D cI cR (rtM σ w) (rtM_lt hw w)) ⟨rfl, rfl, Nat.le_of_ble_eq_true rfl, Nat.le_of_ble_eq_true rfl⟩ (va_P_nil) hK rfl hl rfl (Nat.le_of_ble_eq_true rfl) dX1_costOf_5 ⟨Nat.zero_le _, Nat.zero_le _⟩ ?_
  refine lv_aload_n hx hb dX1_costOf_8 rfl (lv_at hl 0 rfl) ?_
  refine va_get (D := D) (ci := 1) (v := .ref (a 2)) (C := RX1) (T := TX1) (N := 7) hx hb hts inX1 hown hK hP 0 rfl rfl 5 (by decide) (hts _ fl_RX1_18) (fun _ h9 => h9) rfl dX1_costOf_9 ?_
  refine lv_iload_n hx hb dX1_costOf_12 rfl (lv_at hl 1 rfl) ?_
  refine nv_iald (D := D) (v := nI (crN σ w)) hx hb hK hP 3 0 rfl rfl (k := w) (by omega) (by decide) (rfl) dX1_costOf_13 ?_
  refine nv_iadd hx hb dX1_costOf_14 ?_
  exact nv_ret hx hb hr hlocks (rfl) dX1_costOf_15
set_option maxHeartbeats 4000000 in
set_option maxRecDepth 100000 in
theorem c_X1_goesThrough (l : Launch) (D : va_G) (cI cR : ClassId) (h : Nat) (a : Nat → Nat) (σ : Nat → Nat) (w : Nat) (r : Nat)  (hw : wf σ) (h1 : w < nW σ) (h2 : r < σ 0) : MetR l yX1_goesThrough cX1_goesThrough 3 (some .int) (rmK 1 21) (nPre D (nTy cI cR) [.ref h, .int (nI w), .int (nI r)] (wRp h a cI (σ 0) (σ 1) (σ 2) (onF σ) (wwF σ) (crF σ) (ptF σ))) (nI (((wvM σ w).testBit r).toNat)) := by
  refine met_read rfl (Nat.le_of_ble_eq_true rfl) ?_
  intro p e s m args below meth c ls hx hb hml hr hlocks hown hts hP hK hl
  have hl : lv_has ls 3 [(0, .ref h), (1, .int (nI w)), (2, .int (nI r))] := hl
  have hA41 := hw.w41
  have hA33 := hw.a33
  have hA48 := hw.a48
  obtain ⟨hR2, hR, hB1, hB, hS1, hS, -⟩ := id hw
  refine lv_aload_n hx hb dX1_goesThrough_0 rfl (lv_at hl 0 rfl) ?_
  refine lv_iload_n hx hb dX1_goesThrough_1 rfl (lv_at hl 1 rfl) ?_
  refine nv_callV [.int (nI w)] [] hx hb hml hown hts k_RX1_101 (c_X1_rightWeave l D cI cR h a σ w hw (by omega)) ⟨rfl, rfl, Nat.le_of_ble_eq_true rfl, Nat.le_of_ble_eq_true rfl⟩ hP hK 1 rfl rfl rfl rfl hl rfl (Nat.le_of_ble_eq_true rfl) dX1_goesThrough_2 ⟨Nat.zero_le _, Nat.zero_le _⟩ ?_
  refine lv_aload_n hx hb dX1_goesThrough_5 rfl (lv_at hl 0 rfl) ?_
  refine va_get (D := D) (ci := 1) (v := .ref (a 1)) (C := RX1) (T := TX1) (N := 7) hx hb hts inX1 hown hK hP 0 rfl rfl 4 (by decide) (hts _ fl_RX1_15) (fun _ h9 => h9) rfl dX1_goesThrough_6 ?_
  refine lv_iload_n hx hb dX1_goesThrough_9 rfl (lv_at hl 1 rfl) ?_
  refine nv_iald (D := D) (v := nI (σ (100 + w))) hx hb hK hP 2 0 rfl rfl (k := w) (by omega) (by decide) (rfl) dX1_goesThrough_10 ?_
  refine nv_ixor hx hb dX1_goesThrough_11 ?_
  refine nv_top (wvM σ w) (rfl) ?_
  refine lv_iload_n hx hb dX1_goesThrough_12 rfl (lv_at hl 2 rfl) ?_
  refine nv_ishr hx hb dX1_goesThrough_13 (Nat.lt_trans (wvM_lt hw h1) (by decide)) (by omega) ?_
  refine lv_iconst (v := nI 1) hx hb dX1_goesThrough_14 (by decide) ?_
  refine nv_iand hx hb dX1_goesThrough_15 ?_
  refine nv_top (((wvM σ w).testBit r).toNat) (nw_tb _ _) ?_
  exact nv_ret hx hb hr hlocks (rfl) dX1_goesThrough_16
set_option maxHeartbeats 4000000 in
set_option maxRecDepth 100000 in
theorem c_X1_bitFrom (l : Launch) (D : va_G) (cI cR : ClassId) (h : Nat) (a : Nat → Nat) (σ : Nat → Nat) (w : Nat) (v : Nat) (k : Nat)  (hw : wf σ) (h1 : w < nW σ) (h2 : v < 65536) : MetR l yX1_bitFrom cX1_bitFrom 5 (some .int) (rmK 0 0) (nPre D (nTy cI cR) [.ref h, .int (nI w), .int (nI v), .int (nI k)] (wRp h a cI (σ 0) (σ 1) (σ 2) (onF σ) (wwF σ) (crF σ) (ptF σ))) (nI (((v &&& k != 0) ^^ (crN σ w == 1)).toNat)) := by
  refine met_read rfl (Nat.le_of_ble_eq_true rfl) ?_
  intro p e s m args below meth c ls hx hb hml hr hlocks hown hts hP hK hl
  have hl : lv_has ls 5 [(0, .ref h), (1, .int (nI w)), (2, .int (nI v)), (3, .int (nI k))] := hl
  have hA41 := hw.w41
  have hA33 := hw.a33
  have hA48 := hw.a48
  obtain ⟨hR2, hR, hB1, hB, hS1, hS, -⟩ := id hw
  have hc1 := crN_le hw h1
  have hv := Nat.lt_of_le_of_lt (@Nat.and_le_left v k) h2
  refine lv_iload_n hx hb dX1_bitFrom_0 rfl (lv_at hl 2 rfl) ?_
  refine lv_iload_n hx hb dX1_bitFrom_1 rfl (lv_at hl 3 rfl) ?_
  refine nv_iand hx hb dX1_bitFrom_2 ?_
  have J3 : ∀ (ls : Array Slot), lv_has ls 5 [(0, .ref h), (1, .int (nI w)), (2, .int (nI v)), (3, .int (nI k))] → W p l e (rmK 0 0) s m args below meth c s.heap [] 0 0 (MQ below (QcRead (nI (((v &&& k != 0) ^^ (crN σ w == 1)).toNat))) args s 0 0 (fun _ => False)) (F0 m 11 ls [.int (nI ((v &&& k != 0).toNat))]) := by
    intro ls hl
    refine lv_istore (lv' := [(4, .int (nI ((v &&& k != 0).toNat))), (0, .ref h), (1, .int (nI w)), (2, .int (nI v)), (3, .int (nI k))]) hx hb dX1_bitFrom_11 hl (by decide) rfl (fun ls hl => ?_)
    refine lv_iload hx hb dX1_bitFrom_13 (lv_at hl 0 rfl) ?_
    refine lv_aload_n hx hb dX1_bitFrom_15 rfl (lv_at hl 1 rfl) ?_
    refine va_get (D := D) (ci := 1) (v := .ref (a 2)) (C := RX1) (T := TX1) (N := 7) hx hb hts inX1 hown hK hP 0 rfl rfl 5 (by decide) (hts _ fl_RX1_18) (fun _ h9 => h9) rfl dX1_bitFrom_16 ?_
    refine lv_iload_n hx hb dX1_bitFrom_19 rfl (lv_at hl 2 rfl) ?_
    refine nv_iald (D := D) (v := nI (crN σ w)) hx hb hK hP 3 0 rfl rfl (k := w) (by omega) (by decide) (rfl) dX1_bitFrom_20 ?_
    refine nv_ixor hx hb dX1_bitFrom_21 ?_
    exact nv_ret hx hb hr hlocks (congrArg nI (x_cr hc1)) dX1_bitFrom_22
  refine nv_if_ne (tgt := 10) hx hb dX1_bitFrom_3 (by decide) (by omega) (fun q_3 => ?_) (fun q_3 => ?_)
  · refine lv_iconst (v := nI 1) hx hb dX1_bitFrom_10 (by decide) ?_
    refine nv_top ((v &&& k != 0).toNat) (by first | (rw [q_3]; rfl) | (rw [bne_iff_ne.mpr q_3]; rfl)) ?_
    exact J3 ls (lv_sub hl [0, 1, 2, 3] rfl)
  · refine lv_iconst (v := nI 0) hx hb dX1_bitFrom_6 (by decide) ?_
    refine lv_goto (tgt := 11) hx hb dX1_bitFrom_7 (by decide) ?_
    refine nv_top ((v &&& k != 0).toNat) (by first | (rw [q_3]; rfl) | (rw [bne_iff_ne.mpr q_3]; rfl)) ?_
    exact J3 ls (lv_sub hl [0, 1, 2, 3] rfl)
set_option maxHeartbeats 4000000 in
set_option maxRecDepth 100000 in
theorem c_X1_pickedBy (l : Launch) (D : va_G) (cI cR : ClassId) (h : Nat) (a : Nat → Nat) (σ : Nat → Nat) (k : Nat)  (hw : wf σ) (hk : k < 2 ^ 31) : MetR l yX1_pickedBy cX1_pickedBy 5 (some .int) (rmK 0 0) (nPre D (nTy cI cR) [.ref h, .int (nI k)] (wRp h a cI (σ 0) (σ 1) (σ 2) (onF σ) (wwF σ) (crF σ) (ptF σ))) (nI (pkM (wvM σ) σ k)) := by
  refine met_read rfl (Nat.le_of_ble_eq_true rfl) ?_
  intro p e s m args below meth c ls hx hb hml hr hlocks hown hts hP hK hl
  have hl : lv_has ls 5 [(0, .ref h), (1, .int (nI k))] := hl
  have hA41 := hw.w41
  have hA33 := hw.a33
  have hA48 := hw.a48
  obtain ⟨hR2, hR, hB1, hB, hS1, hS, -⟩ := id hw
  refine lv_iconst (v := nI 0) hx hb dX1_pickedBy_0 (by decide) ?_
  refine lv_istore_n (lv' := [(2, .int (nI 0)), (0, .ref h), (1, .int (nI k))]) hx hb dX1_pickedBy_1 rfl hl (by decide) rfl (fun ls hl => ?_)
  refine lv_iconst (v := nI 0) hx hb dX1_pickedBy_2 (by decide) ?_
  refine lv_istore_n (lv' := [(3, .int (nI 0)), (2, .int (nI 0)), (0, .ref h), (1, .int (nI k))]) hx hb dX1_pickedBy_3 rfl hl (by decide) rfl (fun ls hl => ?_)
  have L4 : ∀ (n4 i : Nat), 4 + 1 ≤ i + n4 → i ≤ 4 → ∀ (ls : Array Slot), lv_has ls 5 [(0, .ref h), (1, .int (nI k)), (2, .int (nI (ihA (wvM σ) k i))), (3, .int (nI i))] → W p l e (rmK 0 0) s m args below meth c s.heap [] 0 0 (MQ below (QcRead (nI (pkM (wvM σ) σ k))) args s 0 0 (fun _ => False)) (F0 m 4 ls []) := by
    intro n4
    induction n4 with
    | zero =>
      intro i h1_4 h2_4
      exact False.elim (by omega)
    | succ n4 ih4 =>
      intro i h1_4 h2_4  ls hl
      refine lv_iload_n hx hb dX1_pickedBy_4 rfl (lv_at hl 3 rfl) ?_
      refine lv_iconst (v := nI 4) hx hb dX1_pickedBy_5 (by decide) ?_
      refine nv_icmp_ge (tgt := 46) hx hb dX1_pickedBy_6 (by decide) (by omega) (by omega) (fun q_6 => ?_) (fun q_6 => ?_)
      · refine lv_iload_n hx hb dX1_pickedBy_46 rfl (lv_at hl 2 rfl) ?_
        refine lv_iconst (v := -1) hx hb dX1_pickedBy_47 (by decide) ?_
        refine lv_ixor hx hb dX1_pickedBy_48 ?_
        refine lv_iconst (v := nI 1) hx hb dX1_pickedBy_49 (by decide) ?_
        refine lv_aload_n hx hb dX1_pickedBy_50 rfl (lv_at hl 0 rfl) ?_
        refine va_get (D := D) (ci := 1) (v := .int (nI (σ 0))) (C := RX1) (T := TX1) (N := 7) hx hb hts inX1 hown hK hP 0 rfl rfl 0 (by decide) (hts _ fl_RX1_28) (fun _ h9 => h9) rfl dX1_pickedBy_51 ?_
        refine nv_ishl hx hb dX1_pickedBy_54 (by omega) ?_
        refine lv_iconst (v := nI 1) hx hb dX1_pickedBy_55 (by decide) ?_
        refine nv_isub hx hb dX1_pickedBy_56 (sh1_pos _) ?_
        refine nv_iandm hx hb dX1_pickedBy_57 ?_
        exact nv_ret hx hb hr hlocks (congrArg nI (by rw [show i = 4 by omega]; exact ihA_pkA _ _ _ _)) dX1_pickedBy_58
      · refine lv_iconst (v := nI 2) hx hb dX1_pickedBy_9 (by decide) ?_
        refine lv_iload_n hx hb dX1_pickedBy_10 rfl (lv_at hl 3 rfl) ?_
        refine nv_imul hx hb dX1_pickedBy_11 ?_
        refine lv_iconst (v := nI 1) hx hb dX1_pickedBy_12 (by decide) ?_
        refine nv_iadd hx hb dX1_pickedBy_13 ?_
        refine lv_iload_n hx hb dX1_pickedBy_14 rfl (lv_at hl 1 rfl) ?_
        refine lv_iload_n hx hb dX1_pickedBy_15 rfl (lv_at hl 3 rfl) ?_
        refine nv_ishr hx hb dX1_pickedBy_16 (by omega) (by omega) ?_
        refine lv_iconst (v := nI 1) hx hb dX1_pickedBy_17 (by decide) ?_
        refine nv_iand hx hb dX1_pickedBy_18 ?_
        refine nv_isub hx hb dX1_pickedBy_19 (by have := @Nat.and_le_right (k >>> i) 1; omega) ?_
        refine nv_top (wOn k i) (rfl) ?_
        refine lv_istore (lv' := [(4, .int (nI (wOn k i))), (0, .ref h), (1, .int (nI k)), (2, .int (nI (ihA (wvM σ) k i))), (3, .int (nI i))]) hx hb dX1_pickedBy_20 hl (by decide) rfl (fun ls hl => ?_)
        refine lv_iload_n hx hb dX1_pickedBy_22 rfl (lv_at hl 3 rfl) ?_
        refine lv_aload_n hx hb dX1_pickedBy_23 rfl (lv_at hl 1 rfl) ?_
        refine va_get (D := D) (ci := 1) (v := .ref (a 0)) (C := RX1) (T := TX1) (N := 7) hx hb hts inX1 hown hK hP 0 rfl rfl 3 (by decide) (hts _ fl_RX1_9) (fun _ h9 => h9) rfl dX1_pickedBy_24 ?_
        refine lv_iload hx hb dX1_pickedBy_27 (lv_at hl 0 rfl) ?_
        refine nv_iald (D := D) (v := nI (onM σ (wOn k i))) hx hb hK hP 1 0 rfl rfl (k := wOn k i) (Nat.lt_trans (wOn_lt (by omega)) (by decide)) (by decide) (rfl) dX1_pickedBy_29 ?_
        refine lv_aload_n hx hb dX1_pickedBy_30 rfl (lv_at hl 1 rfl) ?_
        refine va_get (D := D) (ci := 1) (v := .ref (a 1)) (C := RX1) (T := TX1) (N := 7) hx hb hts inX1 hown hK hP 0 rfl rfl 4 (by decide) (hts _ fl_RX1_15) (fun _ h9 => h9) rfl dX1_pickedBy_31 ?_
        refine lv_iload hx hb dX1_pickedBy_34 (lv_at hl 0 rfl) ?_
        refine nv_iald (D := D) (v := nI (σ (100 + (wOn k i)))) hx hb hK hP 2 0 rfl rfl (k := wOn k i) (Nat.lt_trans (wOn_lt (by omega)) (by decide)) (by decide) (rfl) dX1_pickedBy_36 ?_
        refine nv_ixor hx hb dX1_pickedBy_37 ?_
        refine nv_top (wvM σ (wOn k i)) (wv_inh (wOn_lt (by omega))) ?_
        refine nv_ior hx hb dX1_pickedBy_38 ?_
        refine lv_istore_n (lv' := [(2, .int (nI ((ihA (wvM σ) k i) ||| (wvM σ (wOn k i))))), (4, .int (nI (wOn k i))), (0, .ref h), (1, .int (nI k)), (3, .int (nI i))]) hx hb dX1_pickedBy_39 rfl hl (by decide) rfl (fun ls hl => ?_)
        refine nv_inc (k := 4) (lv' := [(3, .int (nI (i + 1))), (2, .int (nI ((ihA (wvM σ) k i) ||| (wvM σ (wOn k i))))), (4, .int (nI (wOn k i))), (0, .ref h), (1, .int (nI k))]) hx hb dX1_pickedBy_40 hl rfl (by decide) rfl (fun ls hl => ?_)
        refine lv_goto (tgt := 4) hx hb dX1_pickedBy_43 (by decide) ?_
        exact ih4 (i + 1) (by omega) (by omega)  ls (lv_sub hl [3, 4, 1, 0] rfl)
  exact L4 (4 + 1) 0 (by omega) (by omega)  ls (lv_sub hl [2, 3, 1, 0] rfl)
set_option maxHeartbeats 4000000 in
set_option maxRecDepth 100000 in
theorem c_X1_rightBits (l : Launch) (D : va_G) (cI cR : ClassId) (h : Nat) (a : Nat → Nat) (σ : Nat → Nat) (t : Nat) (k : Nat)  (hw : wf σ) (h1 : t < σ 2) : MetR l yX1_rightBits cX1_rightBits 6 (some .int) (rmK 1 24) (nPre D (nTy cI cR) [.ref h, .int (nI t), .int (nI k)] (wRp h a cI (σ 0) (σ 1) (σ 2) (onF σ) (wwF σ) (crF σ) (ptF σ))) (nI (rbM σ t k)) := by
  refine met_read rfl (Nat.le_of_ble_eq_true rfl) ?_
  intro p e s m args below meth c ls hx hb hml hr hlocks hown hts hP hK hl
  have hl : lv_has ls 6 [(0, .ref h), (1, .int (nI t)), (2, .int (nI k))] := hl
  have hA41 := hw.w41
  have hA33 := hw.a33
  have hA48 := hw.a48
  obtain ⟨hR2, hR, hB1, hB, hS1, hS, -⟩ := id hw
  refine lv_iconst (v := nI 0) hx hb dX1_rightBits_0 (by decide) ?_
  refine lv_istore_n (lv' := [(3, .int (nI 0)), (0, .ref h), (1, .int (nI t)), (2, .int (nI k))]) hx hb dX1_rightBits_1 rfl hl (by decide) rfl (fun ls hl => ?_)
  refine lv_iconst (v := nI 0) hx hb dX1_rightBits_2 (by decide) ?_
  refine lv_istore (lv' := [(4, .int (nI 0)), (3, .int (nI 0)), (0, .ref h), (1, .int (nI t)), (2, .int (nI k))]) hx hb dX1_rightBits_3 hl (by decide) rfl (fun ls hl => ?_)
  have L5 : ∀ (n5 i : Nat), σ 1 + 1 + 1 ≤ i + n5 → i ≤ σ 1 + 1 → ∀ (ls : Array Slot), lv_has ls 6 [(0, .ref h), (1, .int (nI t)), (2, .int (nI k)), (3, .int (nI (mk (rbB σ t k) i))), (4, .int (nI i))] → W p l e (rmK 1 24) s m args below meth c s.heap [] 0 0 (MQ below (QcRead (nI (rbM σ t k))) args s 0 0 (fun _ => False)) (F0 m 5 ls []) := by
    intro n5
    induction n5 with
    | zero =>
      intro i h1_5 h2_5
      exact False.elim (by omega)
    | succ n5 ih5 =>
      intro i h1_5 h2_5  ls hl
      refine lv_iload hx hb dX1_rightBits_5 (lv_at hl 4 rfl) ?_
      refine lv_aload_n hx hb dX1_rightBits_7 rfl (lv_at hl 0 rfl) ?_
      refine va_get (D := D) (ci := 1) (v := .int (nI (σ 1))) (C := RX1) (T := TX1) (N := 7) hx hb hts inX1 hown hK hP 0 rfl rfl 1 (by decide) (hts _ fl_RX1_32) (fun _ h9 => h9) rfl dX1_rightBits_8 ?_
      refine nv_icmp_gt (tgt := 48) hx hb dX1_rightBits_11 (by decide) (by omega) (by omega) (fun q_11 => ?_) (fun q_11 => ?_)
      · refine lv_iload_n hx hb dX1_rightBits_48 rfl (lv_at hl 3 rfl) ?_
        exact nv_ret hx hb hr hlocks (congrArg nI (by rw [show i = σ 1 + 1 by omega]; rfl)) dX1_rightBits_49
      · refine lv_aload_n hx hb dX1_rightBits_14 rfl (lv_at hl 0 rfl) ?_
        refine lv_iload_n hx hb dX1_rightBits_15 rfl (lv_at hl 1 rfl) ?_
        refine lv_iload hx hb dX1_rightBits_16 (lv_at hl 4 rfl) ?_
        refine nv_callV [.int (nI t), .int (nI i)] [] hx hb hml hown hts k_RX1_98 (c_X1_senseWire l D cI cR h a (σ 0) (σ 1) (σ 2) (onF σ) (wwF σ) (crF σ) (ptF σ) t i ) ⟨rfl, rfl, Nat.le_of_ble_eq_true rfl, Nat.le_of_ble_eq_true rfl⟩ hP hK 1 rfl rfl rfl rfl hl rfl (Nat.le_of_ble_eq_true rfl) dX1_rightBits_18 ⟨Nat.zero_le _, Nat.zero_le _⟩ ?_
        refine lv_istore (lv' := [(5, .int (nI (8 + t * ((σ 1) + 1) + i))), (0, .ref h), (1, .int (nI t)), (2, .int (nI k)), (3, .int (nI (mk (rbB σ t k) i))), (4, .int (nI i))]) hx hb dX1_rightBits_21 hl (by decide) rfl (fun ls hl => ?_)
        refine lv_iload_n hx hb dX1_rightBits_23 rfl (lv_at hl 4 rfl) ?_
        refine lv_aload_n hx hb dX1_rightBits_24 rfl (lv_at hl 1 rfl) ?_
        refine lv_iload hx hb dX1_rightBits_25 (lv_at hl 0 rfl) ?_
        refine lv_aload_n hx hb dX1_rightBits_27 rfl (lv_at hl 1 rfl) ?_
        refine lv_iload hx hb dX1_rightBits_28 (lv_at hl 0 rfl) ?_
        refine nv_callV [.int (nI (8 + t * ((σ 1) + 1) + i))] [.int (nI (8 + t * ((σ 1) + 1) + i)), .ref h, .int (nI (mk (rbB σ t k) i))] hx hb hml hown hts k_RX1_101 (c_X1_rightWeave l D cI cR h a σ (8 + t * ((σ 1) + 1) + i) hw (sw_lt h1 (by omega))) ⟨rfl, rfl, Nat.le_of_ble_eq_true rfl, Nat.le_of_ble_eq_true rfl⟩ hP hK 1 rfl rfl rfl rfl hl rfl (Nat.le_of_ble_eq_true rfl) dX1_rightBits_30 ⟨Nat.zero_le _, Nat.zero_le _⟩ ?_
        refine lv_iload_n hx hb dX1_rightBits_33 rfl (lv_at hl 3 rfl) ?_
        refine nv_callV [.int (nI (8 + t * ((σ 1) + 1) + i)), .int (nI (rtM σ (8 + t * ((σ 1) + 1) + i))), .int (nI k)] [.int (nI (mk (rbB σ t k) i))] hx hb hml hown hts k_RX1_110 (c_X1_bitFrom l D cI cR h a σ (8 + t * ((σ 1) + 1) + i) (rtM σ (8 + t * ((σ 1) + 1) + i)) k hw (sw_lt h1 (by omega)) (rtM_lt hw _)) ⟨rfl, rfl, Nat.le_of_ble_eq_true rfl, Nat.le_of_ble_eq_true rfl⟩ hP hK 1 rfl rfl rfl rfl hl rfl (Nat.le_of_ble_eq_true rfl) dX1_rightBits_34 ⟨Nat.zero_le _, Nat.zero_le _⟩ ?_
        refine lv_iload hx hb dX1_rightBits_37 (lv_at hl 5 rfl) ?_
        refine nv_ishl hx hb dX1_rightBits_39 (by omega) ?_
        refine nv_ior hx hb dX1_rightBits_40 ?_
        refine lv_istore_n (lv' := [(3, .int (nI ((mk (rbB σ t k) i) ||| (((((rtM σ (8 + t * ((σ 1) + 1) + i)) &&& k != 0) ^^ (crN σ (8 + t * ((σ 1) + 1) + i) == 1)).toNat) <<< i)))), (5, .int (nI (8 + t * ((σ 1) + 1) + i))), (0, .ref h), (1, .int (nI t)), (2, .int (nI k)), (4, .int (nI i))]) hx hb dX1_rightBits_41 rfl hl (by decide) rfl (fun ls hl => ?_)
        refine nv_inc (k := 5) (lv' := [(4, .int (nI (i + 1))), (3, .int (nI ((mk (rbB σ t k) i) ||| (((((rtM σ (8 + t * ((σ 1) + 1) + i)) &&& k != 0) ^^ (crN σ (8 + t * ((σ 1) + 1) + i) == 1)).toNat) <<< i)))), (5, .int (nI (8 + t * ((σ 1) + 1) + i))), (0, .ref h), (1, .int (nI t)), (2, .int (nI k))]) hx hb dX1_rightBits_42 hl rfl (by decide) rfl (fun ls hl => ?_)
        refine lv_goto (tgt := 5) hx hb dX1_rightBits_45 (by decide) ?_
        exact ih5 (i + 1) (by omega) (by omega)  ls (lv_sub hl [3, 4, 5, 1, 0] rfl)
  exact L5 (σ 1 + 1 + 1) 0 (by omega) (by omega)  ls (lv_sub hl [2, 3, 4, 1, 0] rfl)
set_option maxHeartbeats 4000000 in
set_option maxRecDepth 100000 in
theorem c_X1_rawBits (l : Launch) (D : va_G) (cI cR : ClassId) (h : Nat) (a : Nat → Nat) (σ : Nat → Nat) (ad : Nat)  (hw : wf σ) (h1 : ad < nA σ) : MetR l yX1_rawBits cX1_rawBits 7 (some .int) (rmK 1 24) (nPre D (nTy cI cR) [.ref h, .int (nI ad)] (wRp h a cI (σ 0) (σ 1) (σ 2) (onF σ) (wwF σ) (crF σ) (ptF σ))) (nI (rwM (wvM σ) σ ad)) := by
  refine met_read rfl (Nat.le_of_ble_eq_true rfl) ?_
  intro p e s m args below meth c ls hx hb hml hr hlocks hown hts hP hK hl
  have hl : lv_has ls 7 [(0, .ref h), (1, .int (nI ad))] := hl
  have hA41 := hw.w41
  have hA33 := hw.a33
  have hA48 := hw.a48
  obtain ⟨hR2, hR, hB1, hB, hS1, hS, -⟩ := id hw
  obtain ⟨hd1, hd2, hd3⟩ := ad_div hS1 h1
  refine lv_aload_n hx hb dX1_rawBits_0 rfl (lv_at hl 0 rfl) ?_
  refine lv_aload_n hx hb dX1_rawBits_1 rfl (lv_at hl 0 rfl) ?_
  refine lv_aload_n hx hb dX1_rawBits_2 rfl (lv_at hl 0 rfl) ?_
  refine lv_iload_n hx hb dX1_rawBits_3 rfl (lv_at hl 1 rfl) ?_
  refine nv_callV [.int (nI ad)] [.ref h, .ref h] hx hb hml hown hts k_RX1_91 (c_X1_ringOf l D cI cR h a (σ 0) (σ 1) (σ 2) (onF σ) (wwF σ) (crF σ) (ptF σ) ad (by omega) (by omega) (by omega)) ⟨rfl, rfl, Nat.le_of_ble_eq_true rfl, Nat.le_of_ble_eq_true rfl⟩ hP hK 1 rfl rfl rfl rfl hl rfl (Nat.le_of_ble_eq_true rfl) dX1_rawBits_4 ⟨Nat.zero_le _, Nat.zero_le _⟩ ?_
  refine nv_callV [.int (nI (ad / (σ 2)))] [.ref h] hx hb hml hown hts k_RX1_85 (c_X1_codeOf l D cI cR h a σ (ad / (σ 2)) hw hd1) ⟨rfl, rfl, Nat.le_of_ble_eq_true rfl, Nat.le_of_ble_eq_true rfl⟩ hP hK 1 rfl rfl rfl rfl hl rfl (Nat.le_of_ble_eq_true rfl) dX1_rawBits_7 ⟨Nat.zero_le _, Nat.zero_le _⟩ ?_
  refine nv_callV [.int (nI (σ (3 + (ad / (σ 2)))))] [] hx hb hml hown hts k_RX1_107 (c_X1_pickedBy l D cI cR h a σ (σ (3 + (ad / (σ 2)))) hw (by have := hw.cd hd1; omega)) ⟨rfl, rfl, Nat.le_of_ble_eq_true rfl, Nat.le_of_ble_eq_true rfl⟩ hP hK 1 rfl rfl rfl rfl hl rfl (Nat.le_of_ble_eq_true rfl) dX1_rawBits_10 ⟨Nat.zero_le _, Nat.zero_le _⟩ ?_
  refine lv_istore_n (lv' := [(2, .int (nI (pkM (wvM σ) σ (σ (3 + (ad / (σ 2))))))), (0, .ref h), (1, .int (nI ad))]) hx hb dX1_rawBits_13 rfl hl (by decide) rfl (fun ls hl => ?_)
  refine lv_aload_n hx hb dX1_rawBits_14 rfl (lv_at hl 1 rfl) ?_
  refine lv_iload_n hx hb dX1_rawBits_15 rfl (lv_at hl 2 rfl) ?_
  refine nv_callV [.int (nI ad)] [] hx hb hml hown hts k_RX1_88 (c_X1_setOf l D cI cR h a (σ 0) (σ 1) (σ 2) (onF σ) (wwF σ) (crF σ) (ptF σ) ad (by omega) (by omega) (by omega)) ⟨rfl, rfl, Nat.le_of_ble_eq_true rfl, Nat.le_of_ble_eq_true rfl⟩ hP hK 1 rfl rfl rfl rfl hl rfl (Nat.le_of_ble_eq_true rfl) dX1_rawBits_16 ⟨Nat.zero_le _, Nat.zero_le _⟩ ?_
  refine lv_istore_n (lv' := [(3, .int (nI (ad % (σ 2)))), (2, .int (nI (pkM (wvM σ) σ (σ (3 + (ad / (σ 2))))))), (0, .ref h), (1, .int (nI ad))]) hx hb dX1_rawBits_19 rfl hl (by decide) rfl (fun ls hl => ?_)
  refine lv_iconst (v := nI 0) hx hb dX1_rawBits_20 (by decide) ?_
  refine lv_istore (lv' := [(4, .int (nI 0)), (3, .int (nI (ad % (σ 2)))), (2, .int (nI (pkM (wvM σ) σ (σ (3 + (ad / (σ 2))))))), (0, .ref h), (1, .int (nI ad))]) hx hb dX1_rawBits_21 hl (by decide) rfl (fun ls hl => ?_)
  refine lv_iconst (v := nI 0) hx hb dX1_rawBits_23 (by decide) ?_
  refine lv_istore (lv' := [(5, .int (nI 0)), (4, .int (nI 0)), (3, .int (nI (ad % (σ 2)))), (2, .int (nI (pkM (wvM σ) σ (σ (3 + (ad / (σ 2))))))), (0, .ref h), (1, .int (nI ad))]) hx hb dX1_rawBits_24 hl (by decide) rfl (fun ls hl => ?_)
  have L26 : ∀ (n26 i : Nat), σ 1 + 1 + 1 ≤ i + n26 → i ≤ σ 1 + 1 → ∀ (ls : Array Slot), lv_has ls 7 [(0, .ref h), (1, .int (nI ad)), (2, .int (nI (pkM (wvM σ) σ (σ (3 + ad / σ 2))))), (3, .int (nI (ad % σ 2))), (4, .int (nI (mk (rwB (wvM σ) σ ad) i))), (5, .int (nI i))] → W p l e (rmK 1 24) s m args below meth c s.heap [] 0 0 (MQ below (QcRead (nI (rwM (wvM σ) σ ad))) args s 0 0 (fun _ => False)) (F0 m 26 ls []) := by
    intro n26
    induction n26 with
    | zero =>
      intro i h1_26 h2_26
      exact False.elim (by omega)
    | succ n26 ih26 =>
      intro i h1_26 h2_26  ls hl
      refine lv_iload hx hb dX1_rawBits_26 (lv_at hl 5 rfl) ?_
      refine lv_aload_n hx hb dX1_rawBits_28 rfl (lv_at hl 0 rfl) ?_
      refine va_get (D := D) (ci := 1) (v := .int (nI (σ 1))) (C := RX1) (T := TX1) (N := 7) hx hb hts inX1 hown hK hP 0 rfl rfl 1 (by decide) (hts _ fl_RX1_32) (fun _ h9 => h9) rfl dX1_rawBits_29 ?_
      refine nv_icmp_gt (tgt := 79) hx hb dX1_rawBits_32 (by decide) (by omega) (by omega) (fun q_32 => ?_) (fun q_32 => ?_)
      · refine lv_iload hx hb dX1_rawBits_79 (lv_at hl 4 rfl) ?_
        exact nv_ret hx hb hr hlocks (congrArg nI (by rw [show i = σ 1 + 1 by omega]; rfl)) dX1_rawBits_81
      · refine lv_aload_n hx hb dX1_rawBits_35 rfl (lv_at hl 0 rfl) ?_
        refine lv_iload_n hx hb dX1_rawBits_36 rfl (lv_at hl 3 rfl) ?_
        refine lv_iload hx hb dX1_rawBits_37 (lv_at hl 5 rfl) ?_
        refine nv_callV [.int (nI (ad % σ 2)), .int (nI i)] [] hx hb hml hown hts k_RX1_98 (c_X1_senseWire l D cI cR h a (σ 0) (σ 1) (σ 2) (onF σ) (wwF σ) (crF σ) (ptF σ) (ad % σ 2) i ) ⟨rfl, rfl, Nat.le_of_ble_eq_true rfl, Nat.le_of_ble_eq_true rfl⟩ hP hK 1 rfl rfl rfl rfl hl rfl (Nat.le_of_ble_eq_true rfl) dX1_rawBits_39 ⟨Nat.zero_le _, Nat.zero_le _⟩ ?_
        refine lv_istore (lv' := [(6, .int (nI (8 + (ad % σ 2) * ((σ 1) + 1) + i))), (0, .ref h), (1, .int (nI ad)), (2, .int (nI (pkM (wvM σ) σ (σ (3 + ad / σ 2))))), (3, .int (nI (ad % σ 2))), (4, .int (nI (mk (rwB (wvM σ) σ ad) i))), (5, .int (nI i))]) hx hb dX1_rawBits_42 hl (by decide) rfl (fun ls hl => ?_)
        refine lv_iload hx hb dX1_rawBits_44 (lv_at hl 5 rfl) ?_
        refine lv_aload_n hx hb dX1_rawBits_46 rfl (lv_at hl 1 rfl) ?_
        refine lv_iload hx hb dX1_rawBits_47 (lv_at hl 0 rfl) ?_
        refine lv_aload_n hx hb dX1_rawBits_49 rfl (lv_at hl 1 rfl) ?_
        refine lv_iload hx hb dX1_rawBits_50 (lv_at hl 0 rfl) ?_
        refine nv_callV [.int (nI (8 + (ad % σ 2) * ((σ 1) + 1) + i))] [.int (nI (8 + (ad % σ 2) * ((σ 1) + 1) + i)), .ref h, .int (nI (mk (rwB (wvM σ) σ ad) i))] hx hb hml hown hts k_RX1_101 (c_X1_rightWeave l D cI cR h a σ (8 + (ad % σ 2) * ((σ 1) + 1) + i) hw (sw_lt hd2 (by omega))) ⟨rfl, rfl, Nat.le_of_ble_eq_true rfl, Nat.le_of_ble_eq_true rfl⟩ hP hK 1 rfl rfl rfl rfl hl rfl (Nat.le_of_ble_eq_true rfl) dX1_rawBits_52 ⟨Nat.zero_le _, Nat.zero_le _⟩ ?_
        refine lv_aload_n hx hb dX1_rawBits_55 rfl (lv_at hl 1 rfl) ?_
        refine va_get (D := D) (ci := 1) (v := .ref (a 1)) (C := RX1) (T := TX1) (N := 7) hx hb hts inX1 hown hK hP 0 rfl rfl 4 (by decide) (hts _ fl_RX1_15) (fun _ h9 => h9) rfl dX1_rawBits_56 ?_
        refine lv_iload hx hb dX1_rawBits_59 (lv_at hl 0 rfl) ?_
        refine nv_iald (D := D) (v := nI (σ (100 + (8 + (ad % σ 2) * ((σ 1) + 1) + i)))) hx hb hK hP 2 0 rfl rfl (k := 8 + (ad % σ 2) * ((σ 1) + 1) + i) (by have := sw_lt (σ := σ) (b := i) hd2 (by omega); omega) (by decide) (rfl) dX1_rawBits_61 ?_
        refine nv_ixor hx hb dX1_rawBits_62 ?_
        refine nv_top (wvM σ (8 + ad % σ 2 * (σ 1 + 1) + i)) (rfl) ?_
        refine lv_iload_n hx hb dX1_rawBits_63 rfl (lv_at hl 3 rfl) ?_
        refine nv_callV [.int (nI (8 + (ad % σ 2) * ((σ 1) + 1) + i)), .int (nI (wvM σ (8 + ad % σ 2 * (σ 1 + 1) + i))), .int (nI (pkM (wvM σ) σ (σ (3 + ad / σ 2))))] [.int (nI (mk (rwB (wvM σ) σ ad) i))] hx hb hml hown hts k_RX1_110 (c_X1_bitFrom l D cI cR h a σ (8 + (ad % σ 2) * ((σ 1) + 1) + i) (wvM σ (8 + ad % σ 2 * (σ 1 + 1) + i)) (pkM (wvM σ) σ (σ (3 + ad / σ 2))) hw (sw_lt hd2 (by omega)) (wvM_lt hw (sw_lt hd2 (by omega)))) ⟨rfl, rfl, Nat.le_of_ble_eq_true rfl, Nat.le_of_ble_eq_true rfl⟩ hP hK 1 rfl rfl rfl rfl hl rfl (Nat.le_of_ble_eq_true rfl) dX1_rawBits_64 ⟨Nat.zero_le _, Nat.zero_le _⟩ ?_
        refine lv_iload hx hb dX1_rawBits_67 (lv_at hl 6 rfl) ?_
        refine nv_ishl hx hb dX1_rawBits_69 (by omega) ?_
        refine nv_ior hx hb dX1_rawBits_70 ?_
        refine lv_istore (lv' := [(4, .int (nI ((mk (rwB (wvM σ) σ ad) i) ||| (((((wvM σ (8 + ad % σ 2 * (σ 1 + 1) + i)) &&& (pkM (wvM σ) σ (σ (3 + ad / σ 2))) != 0) ^^ (crN σ (8 + (ad % σ 2) * ((σ 1) + 1) + i) == 1)).toNat) <<< i)))), (6, .int (nI (8 + (ad % σ 2) * ((σ 1) + 1) + i))), (0, .ref h), (1, .int (nI ad)), (2, .int (nI (pkM (wvM σ) σ (σ (3 + ad / σ 2))))), (3, .int (nI (ad % σ 2))), (5, .int (nI i))]) hx hb dX1_rawBits_71 hl (by decide) rfl (fun ls hl => ?_)
        refine nv_inc (k := 6) (lv' := [(5, .int (nI (i + 1))), (4, .int (nI ((mk (rwB (wvM σ) σ ad) i) ||| (((((wvM σ (8 + ad % σ 2 * (σ 1 + 1) + i)) &&& (pkM (wvM σ) σ (σ (3 + ad / σ 2))) != 0) ^^ (crN σ (8 + (ad % σ 2) * ((σ 1) + 1) + i) == 1)).toNat) <<< i)))), (6, .int (nI (8 + (ad % σ 2) * ((σ 1) + 1) + i))), (0, .ref h), (1, .int (nI ad)), (2, .int (nI (pkM (wvM σ) σ (σ (3 + ad / σ 2))))), (3, .int (nI (ad % σ 2)))]) hx hb dX1_rawBits_73 hl rfl (by decide) rfl (fun ls hl => ?_)
        refine lv_goto (tgt := 26) hx hb dX1_rawBits_76 (by decide) ?_
        exact ih26 (i + 1) (by omega) (by omega)  ls (lv_sub hl [3, 4, 5, 6, 1, 0] rfl)
  exact L26 (σ 1 + 1 + 1) 0 (by omega) (by omega)  ls (lv_sub hl [4, 5, 3, 2, 1, 0] rfl)
set_option maxHeartbeats 4000000 in
set_option maxRecDepth 100000 in
theorem c_X1_wordAt (l : Launch) (D : va_G) (cI cR : ClassId) (h : Nat) (a : Nat → Nat) (σ : Nat → Nat) (ad : Nat)  (hw : wf σ) (h1 : ad < nA σ) : MetR l yX1_wordAt cX1_wordAt 2 (some .int) (rmK 2 49) (nPre D (nTy cI cR) [.ref h, .int (nI ad)] (wRp h a cI (σ 0) (σ 1) (σ 2) (onF σ) (wwF σ) (crF σ) (ptF σ))) (nI (σ (19 + ad))) := by
  refine met_read rfl (Nat.le_of_ble_eq_true rfl) ?_
  intro p e s m args below meth c ls hx hb hml hr hlocks hown hts hP hK hl
  have hl : lv_has ls 2 [(0, .ref h), (1, .int (nI ad))] := hl
  have hA41 := hw.w41
  have hA33 := hw.a33
  have hA48 := hw.a48
  obtain ⟨hR2, hR, hB1, hB, hS1, hS, -⟩ := id hw
  obtain ⟨hd1, hd2, hd3⟩ := ad_div hS1 h1
  refine lv_aload_n hx hb dX1_wordAt_0 rfl (lv_at hl 0 rfl) ?_
  refine lv_aload_n hx hb dX1_wordAt_1 rfl (lv_at hl 0 rfl) ?_
  refine lv_iload_n hx hb dX1_wordAt_2 rfl (lv_at hl 1 rfl) ?_
  refine nv_callV [.int (nI ad)] [.ref h] hx hb hml hown hts k_RX1_88 (c_X1_setOf l D cI cR h a (σ 0) (σ 1) (σ 2) (onF σ) (wwF σ) (crF σ) (ptF σ) ad (by omega) (by omega) (by omega)) ⟨rfl, rfl, Nat.le_of_ble_eq_true rfl, Nat.le_of_ble_eq_true rfl⟩ hP hK 1 rfl rfl rfl rfl hl rfl (Nat.le_of_ble_eq_true rfl) dX1_wordAt_3 ⟨Nat.zero_le _, Nat.zero_le _⟩ ?_
  refine lv_iconst (v := nI 1) hx hb dX1_wordAt_6 (by decide) ?_
  refine lv_aload_n hx hb dX1_wordAt_7 rfl (lv_at hl 0 rfl) ?_
  refine lv_iload_n hx hb dX1_wordAt_8 rfl (lv_at hl 1 rfl) ?_
  refine nv_callV [.int (nI ad)] [.int (nI 1), .int (nI (ad % (σ 2))), .ref h] hx hb hml hown hts k_RX1_91 (c_X1_ringOf l D cI cR h a (σ 0) (σ 1) (σ 2) (onF σ) (wwF σ) (crF σ) (ptF σ) ad (by omega) (by omega) (by omega)) ⟨rfl, rfl, Nat.le_of_ble_eq_true rfl, Nat.le_of_ble_eq_true rfl⟩ hP hK 1 rfl rfl rfl rfl hl rfl (Nat.le_of_ble_eq_true rfl) dX1_wordAt_9 ⟨Nat.zero_le _, Nat.zero_le _⟩ ?_
  refine nv_ishl hx hb dX1_wordAt_12 (by omega) ?_
  refine nv_callV [.int (nI (ad % (σ 2))), .int (nI (1 <<< (ad / (σ 2))))] [] hx hb hml hown hts k_RX1_94 (c_X1_rightBits l D cI cR h a σ (ad % (σ 2)) (1 <<< (ad / (σ 2))) hw hd2) ⟨rfl, rfl, Nat.le_of_ble_eq_true rfl, Nat.le_of_ble_eq_true rfl⟩ hP hK 1 rfl rfl rfl rfl hl rfl (Nat.le_of_ble_eq_true rfl) dX1_wordAt_13 ⟨Nat.zero_le _, Nat.zero_le _⟩ ?_
  refine lv_aload_n hx hb dX1_wordAt_16 rfl (lv_at hl 0 rfl) ?_
  refine nv_callV [] [.int (nI (rbM σ (ad % (σ 2)) (1 <<< (ad / (σ 2)))))] hx hb hml hown hts k_RX1_58 (c_X1_highestWord l D cI cR h a (σ 0) (σ 1) (σ 2) (onF σ) (wwF σ) (crF σ) (ptF σ) (by omega)) ⟨rfl, rfl, Nat.le_of_ble_eq_true rfl, Nat.le_of_ble_eq_true rfl⟩ hP hK 1 rfl rfl rfl rfl hl rfl (Nat.le_of_ble_eq_true rfl) dX1_wordAt_17 ⟨Nat.zero_le _, Nat.zero_le _⟩ ?_
  refine nv_iand hx hb dX1_wordAt_20 ?_
  exact nv_ret hx hb hr hlocks (congrArg nI (wordAt_eq hw h1)) dX1_wordAt_21
set_option maxHeartbeats 4000000 in
set_option maxRecDepth 100000 in
theorem c_X1_rawWord (l : Launch) (D : va_G) (cI cR : ClassId) (h : Nat) (a : Nat → Nat) (σ : Nat → Nat) (ad : Nat)  (hw : wf σ) (h1 : ad < nA σ) : MetR l yX1_rawWord cX1_rawWord 2 (some .int) (rmK 2 50) (nPre D (nTy cI cR) [.ref h, .int (nI ad)] (wRp h a cI (σ 0) (σ 1) (σ 2) (onF σ) (wwF σ) (crF σ) (ptF σ))) (nI (rrN σ ad)) := by
  refine met_read rfl (Nat.le_of_ble_eq_true rfl) ?_
  intro p e s m args below meth c ls hx hb hml hr hlocks hown hts hP hK hl
  have hl : lv_has ls 2 [(0, .ref h), (1, .int (nI ad))] := hl
  have hA41 := hw.w41
  have hA33 := hw.a33
  have hA48 := hw.a48
  obtain ⟨hR2, hR, hB1, hB, hS1, hS, -⟩ := id hw
  refine lv_aload_n hx hb dX1_rawWord_0 rfl (lv_at hl 0 rfl) ?_
  refine lv_iload_n hx hb dX1_rawWord_1 rfl (lv_at hl 1 rfl) ?_
  refine nv_callV [.int (nI ad)] [] hx hb hml hown hts k_RX1_114 (c_X1_rawBits l D cI cR h a σ ad hw h1) ⟨rfl, rfl, Nat.le_of_ble_eq_true rfl, Nat.le_of_ble_eq_true rfl⟩ hP hK 1 rfl rfl rfl rfl hl rfl (Nat.le_of_ble_eq_true rfl) dX1_rawWord_2 ⟨Nat.zero_le _, Nat.zero_le _⟩ ?_
  refine lv_aload_n hx hb dX1_rawWord_5 rfl (lv_at hl 0 rfl) ?_
  refine nv_callV [] [.int (nI (rwM (wvM σ) σ ad))] hx hb hml hown hts k_RX1_58 (c_X1_highestWord l D cI cR h a (σ 0) (σ 1) (σ 2) (onF σ) (wwF σ) (crF σ) (ptF σ) (by omega)) ⟨rfl, rfl, Nat.le_of_ble_eq_true rfl, Nat.le_of_ble_eq_true rfl⟩ hP hK 1 rfl rfl rfl rfl hl rfl (Nat.le_of_ble_eq_true rfl) dX1_rawWord_6 ⟨Nat.zero_le _, Nat.zero_le _⟩ ?_
  refine nv_iand hx hb dX1_rawWord_9 ?_
  exact nv_ret hx hb hr hlocks (rfl) dX1_rawWord_10
set_option maxHeartbeats 4000000 in
set_option maxRecDepth 100000 in
theorem c_X1_wordRead (l : Launch) (D : va_G) (cI cR : ClassId) (h : Nat) (a : Nat → Nat) (σ : Nat → Nat) (ad : Nat)  (hw : wf σ) (h1 : ad < nA σ) : MetR l yX1_wordRead cX1_wordRead 2 (some .int) (rmK 2 50) (nPre D (nTy cI cR) [.ref h, .int (nI ad)] (wRp h a cI (σ 0) (σ 1) (σ 2) (onF σ) (wwF σ) (crF σ) (ptF σ))) (nI (rdN σ ad)) := by
  refine met_read rfl (Nat.le_of_ble_eq_true rfl) ?_
  intro p e s m args below meth c ls hx hb hml hr hlocks hown hts hP hK hl
  have hl : lv_has ls 2 [(0, .ref h), (1, .int (nI ad))] := hl
  have hA41 := hw.w41
  have hA33 := hw.a33
  have hA48 := hw.a48
  obtain ⟨hR2, hR, hB1, hB, hS1, hS, -⟩ := id hw
  have hp := hw.pt h1
  refine lv_aload_n hx hb dX1_wordRead_0 rfl (lv_at hl 0 rfl) ?_
  refine va_get (D := D) (ci := 1) (v := .ref (a 3)) (C := RX1) (T := TX1) (N := 7) hx hb hts inX1 hown hK hP 0 rfl rfl 6 (by decide) (hts _ fl_RX1_21) (fun _ h9 => h9) rfl dX1_wordRead_1 ?_
  refine lv_iload_n hx hb dX1_wordRead_4 rfl (lv_at hl 1 rfl) ?_
  refine nv_iald (D := D) (v := (ptF σ) ad) hx hb hK hP 4 0 rfl rfl (k := ad) (by omega) (by decide) (rfl) dX1_wordRead_5 ?_
  refine lv_iconst (v := -1) hx hb dX1_wordRead_6 (by decide) ?_
  refine lv_icmp_ne (tgt := 23) hx hb dX1_wordRead_7 (by decide) (fun q_7 => ?_) (fun q_7 => ?_)
  · refine lv_aload_n hx hb dX1_wordRead_23 rfl (lv_at hl 0 rfl) ?_
    refine va_get (D := D) (ci := 1) (v := .ref (a 3)) (C := RX1) (T := TX1) (N := 7) hx hb hts inX1 hown hK hP 0 rfl rfl 6 (by decide) (hts _ fl_RX1_21) (fun _ h9 => h9) rfl dX1_wordRead_24 ?_
    refine lv_iload_n hx hb dX1_wordRead_27 rfl (lv_at hl 1 rfl) ?_
    refine nv_iald (D := D) (v := (ptF σ) ad) hx hb hK hP 4 0 rfl rfl (k := ad) (by omega) (by decide) (rfl) dX1_wordRead_28 ?_
    exact nv_ret hx hb hr hlocks (by first | (have q := (ptF_m1 hp).mp q_7; unfold rdN; rw [if_pos q]; rfl) | (have q := mt (ptF_m1 hp).mpr q_7; unfold rdN; rw [if_neg q]; exact ptF_v q)) dX1_wordRead_29
  · refine lv_aload_n hx hb dX1_wordRead_10 rfl (lv_at hl 0 rfl) ?_
    refine lv_iload_n hx hb dX1_wordRead_11 rfl (lv_at hl 1 rfl) ?_
    refine nv_callV [.int (nI ad)] [] hx hb hml hown hts k_RX1_114 (c_X1_rawBits l D cI cR h a σ ad hw h1) ⟨rfl, rfl, Nat.le_of_ble_eq_true rfl, Nat.le_of_ble_eq_true rfl⟩ hP hK 1 rfl rfl rfl rfl hl rfl (Nat.le_of_ble_eq_true rfl) dX1_wordRead_12 ⟨Nat.zero_le _, Nat.zero_le _⟩ ?_
    refine lv_aload_n hx hb dX1_wordRead_15 rfl (lv_at hl 0 rfl) ?_
    refine nv_callV [] [.int (nI (rwM (wvM σ) σ ad))] hx hb hml hown hts k_RX1_58 (c_X1_highestWord l D cI cR h a (σ 0) (σ 1) (σ 2) (onF σ) (wwF σ) (crF σ) (ptF σ) (by omega)) ⟨rfl, rfl, Nat.le_of_ble_eq_true rfl, Nat.le_of_ble_eq_true rfl⟩ hP hK 1 rfl rfl rfl rfl hl rfl (Nat.le_of_ble_eq_true rfl) dX1_wordRead_16 ⟨Nat.zero_le _, Nat.zero_le _⟩ ?_
    refine nv_iand hx hb dX1_wordRead_19 ?_
    refine lv_goto (tgt := 29) hx hb dX1_wordRead_20 (by decide) ?_
    exact nv_ret hx hb hr hlocks (by first | (have q := (ptF_m1 hp).mp q_7; unfold rdN; rw [if_pos q]; rfl) | (have q := mt (ptF_m1 hp).mpr q_7; unfold rdN; rw [if_neg q]; exact ptF_v q)) dX1_wordRead_29
set_option maxHeartbeats 4000000 in
set_option maxRecDepth 100000 in
theorem c_X1_parityIsRight (l : Launch) (D : va_G) (cI cR : ClassId) (h : Nat) (a : Nat → Nat) (σ : Nat → Nat) (ad : Nat)  (hw : wf σ) (h1 : ad < nA σ) : MetR l yX1_parityIsRight cX1_parityIsRight 2 (some .boolean) (rmK 2 50) (nPre D (nTy cI cR) [.ref h, .int (nI ad)] (wRp h a cI (σ 0) (σ 1) (σ 2) (onF σ) (wwF σ) (crF σ) (ptF σ))) (zB (paB σ ad)) := by
  refine met_read rfl (Nat.le_of_ble_eq_true rfl) ?_
  intro p e s m args below meth c ls hx hb hml hr hlocks hown hts hP hK hl
  have hl : lv_has ls 2 [(0, .ref h), (1, .int (nI ad))] := hl
  have hA41 := hw.w41
  have hA33 := hw.a33
  have hA48 := hw.a48
  obtain ⟨hR2, hR, hB1, hB, hS1, hS, -⟩ := id hw
  have hp := hw.pt h1
  have hm2 := Nat.mod_lt (pop (rwM (wvM σ) σ ad)) (show 0 < 2 by decide)
  refine lv_aload_n hx hb dX1_parityIsRight_0 rfl (lv_at hl 0 rfl) ?_
  refine va_get (D := D) (ci := 1) (v := .ref (a 3)) (C := RX1) (T := TX1) (N := 7) hx hb hts inX1 hown hK hP 0 rfl rfl 6 (by decide) (hts _ fl_RX1_21) (fun _ h9 => h9) rfl dX1_parityIsRight_1 ?_
  refine lv_iload_n hx hb dX1_parityIsRight_4 rfl (lv_at hl 1 rfl) ?_
  refine nv_iald (D := D) (v := (ptF σ) ad) hx hb hK hP 4 0 rfl rfl (k := ad) (by omega) (by decide) (rfl) dX1_parityIsRight_5 ?_
  refine lv_iconst (v := -1) hx hb dX1_parityIsRight_6 (by decide) ?_
  refine lv_icmp_eq (tgt := 12) hx hb dX1_parityIsRight_7 (by decide) (fun q_7 => ?_) (fun q_7 => ?_)
  · refine lv_aload_n hx hb dX1_parityIsRight_12 rfl (lv_at hl 0 rfl) ?_
    refine lv_iload_n hx hb dX1_parityIsRight_13 rfl (lv_at hl 1 rfl) ?_
    refine nv_callV [.int (nI ad)] [] hx hb hml hown hts k_RX1_114 (c_X1_rawBits l D cI cR h a σ ad hw h1) ⟨rfl, rfl, Nat.le_of_ble_eq_true rfl, Nat.le_of_ble_eq_true rfl⟩ hP hK 1 rfl rfl rfl rfl hl rfl (Nat.le_of_ble_eq_true rfl) dX1_parityIsRight_14 ⟨Nat.zero_le _, Nat.zero_le _⟩ ?_
    refine nv_callS [.int (nI (rwM (wvM σ) σ ad))] [] hx hb hml hown hts k_RX1_73 (c_J6_bitCount_0f7a4 l D cI cR (rwM (wvM σ) σ ad) (Nat.lt_trans (rwM_lt hw _ _) (by decide))) ⟨rfl, rfl, Nat.le_of_ble_eq_true rfl, Nat.le_of_ble_eq_true rfl⟩ (va_P_nil) hK rfl hl rfl (Nat.le_of_ble_eq_true rfl) dX1_parityIsRight_17 ⟨Nat.zero_le _, Nat.zero_le _⟩ ?_
    refine lv_iconst (v := nI 1) hx hb dX1_parityIsRight_20 (by decide) ?_
    refine nv_iand hx hb dX1_parityIsRight_21 ?_
    refine nv_top (pop (rwM (wvM σ) σ ad) % 2) (Nat.and_one_is_mod _) ?_
    refine lv_iconst (v := nI 1) hx hb dX1_parityIsRight_22 (by decide) ?_
    refine nv_icmp_ne (tgt := 30) hx hb dX1_parityIsRight_23 (by decide) (by omega) (by omega) (fun q_23 => ?_) (fun q_23 => ?_)
    · refine lv_iconst (v := nI 0) hx hb dX1_parityIsRight_30 (by decide) ?_
      exact nv_retz hx hb hr hlocks (by decide) (by have q := (ptF_m1 hp).mp q_7; first | exact zB_1 (by unfold paB; simp [q, q_23]) | exact zB_0 (by unfold paB; simp [q]; omega)) dX1_parityIsRight_31
    · refine lv_iconst (v := nI 1) hx hb dX1_parityIsRight_26 (by decide) ?_
      refine lv_goto (tgt := 31) hx hb dX1_parityIsRight_27 (by decide) ?_
      exact nv_retz hx hb hr hlocks (by decide) (by have q := (ptF_m1 hp).mp q_7; first | exact zB_1 (by unfold paB; simp [q, q_23]) | exact zB_0 (by unfold paB; simp [q]; omega)) dX1_parityIsRight_31
  · refine lv_iconst (v := nI 1) hx hb dX1_parityIsRight_10 (by decide) ?_
    exact nv_retz hx hb hr hlocks (by decide) (zB_1 (by unfold paB; simp [mt (ptF_m1 hp).mpr q_7])) dX1_parityIsRight_11
set_option maxHeartbeats 4000000 in
set_option maxRecDepth 100000 in
theorem c_X1_isMisread (l : Launch) (D : va_G) (cI cR : ClassId) (h : Nat) (a : Nat → Nat) (σ : Nat → Nat) (ad : Nat)  (hw : wf σ) (h1 : ad < nA σ) : MetR l yX1_isMisread cX1_isMisread 2 (some .boolean) (rmK 3 71) (nPre D (nTy cI cR) [.ref h, .int (nI ad)] (wRp h a cI (σ 0) (σ 1) (σ 2) (onF σ) (wwF σ) (crF σ) (ptF σ))) (zB (msB σ ad)) := by
  refine met_read rfl (Nat.le_of_ble_eq_true rfl) ?_
  intro p e s m args below meth c ls hx hb hml hr hlocks hown hts hP hK hl
  have hl : lv_has ls 2 [(0, .ref h), (1, .int (nI ad))] := hl
  have hA41 := hw.w41
  have hA33 := hw.a33
  have hA48 := hw.a48
  obtain ⟨hR2, hR, hB1, hB, hS1, hS, -⟩ := id hw
  have hr1 := rdN_lt hw h1
  have hw1 := hw.wd h1
  refine lv_aload_n hx hb dX1_isMisread_0 rfl (lv_at hl 0 rfl) ?_
  refine lv_iload_n hx hb dX1_isMisread_1 rfl (lv_at hl 1 rfl) ?_
  refine nv_callV [.int (nI ad)] [] hx hb hml hown hts k_RX1_134 (c_X1_wordRead l D cI cR h a σ ad hw h1) ⟨rfl, rfl, Nat.le_of_ble_eq_true rfl, Nat.le_of_ble_eq_true rfl⟩ hP hK 1 rfl rfl rfl rfl hl rfl (Nat.le_of_ble_eq_true rfl) dX1_isMisread_2 ⟨Nat.zero_le _, Nat.zero_le _⟩ ?_
  refine lv_aload_n hx hb dX1_isMisread_5 rfl (lv_at hl 0 rfl) ?_
  refine lv_iload_n hx hb dX1_isMisread_6 rfl (lv_at hl 1 rfl) ?_
  refine nv_callV [.int (nI ad)] [.int (nI (rdN σ ad))] hx hb hml hown hts k_RX1_131 (c_X1_wordAt l D cI cR h a σ ad hw h1) ⟨rfl, rfl, Nat.le_of_ble_eq_true rfl, Nat.le_of_ble_eq_true rfl⟩ hP hK 1 rfl rfl rfl rfl hl rfl (Nat.le_of_ble_eq_true rfl) dX1_isMisread_7 ⟨Nat.zero_le _, Nat.zero_le _⟩ ?_
  refine nv_icmp_eq (tgt := 17) hx hb dX1_isMisread_10 (by decide) (by omega) (by omega) (fun q_10 => ?_) (fun q_10 => ?_)
  · refine lv_iconst (v := nI 0) hx hb dX1_isMisread_17 (by decide) ?_
    exact nv_retz hx hb hr hlocks (by decide) (by unfold msB; first | exact zB_1 (by simp [q_10]) | exact zB_0 (by simp [q_10])) dX1_isMisread_18
  · refine lv_iconst (v := nI 1) hx hb dX1_isMisread_13 (by decide) ?_
    refine lv_goto (tgt := 18) hx hb dX1_isMisread_14 (by decide) ?_
    exact nv_retz hx hb hr hlocks (by decide) (by unfold msB; first | exact zB_1 (by simp [q_10]) | exact zB_0 (by simp [q_10])) dX1_isMisread_18
end
section
theorem stA_lt {σ : Nat → Nat} (hw : wf σ) : ∀ n, n ≤ nA σ → stA σ n < 65536
  | 0, _ => by unfold stA; omega
  | n + 1, h => by
    have ih := stA_lt hw n (by omega)
    obtain ⟨hd, -, -⟩ := ad_div hw.2.2.2.2.1 (show n < nA σ by omega)
    rw [stA]
    split
    · exact ih
    · refine Nat.or_lt_two_pow (n := 16) ih ?_
      rw [sh1]
      exact Nat.pow_lt_pow_right (by decide) (by have := hw.2.1; omega)
theorem sr_lt {σ : Nat → Nat} {r t : Nat} (hr : r < σ 0) (ht : t < σ 2) : σ 2 * r + t < nA σ := by
  unfold nA
  have h1 : σ 2 * (r + 1) ≤ σ 2 * σ 0 := Nat.mul_le_mul_left _ hr
  rw [Nat.mul_succ] at h1
  rw [Nat.mul_comm (σ 0)]
  omega
theorem tn_lt {σ : Nat → Nat} (hw : wf σ) (w t : Nat) : tnN σ w t < 2048 := by
  unfold tnN
  split
  · rename_i h
    rw [sh1]
    refine Nat.lt_of_le_of_lt (Nat.pow_le_pow_right (n := 2) (by decide) (show w - (8 + t * (σ 1 + 1)) ≤ 10 by have := hw.2.2.2.1; omega)) (by decide)
  · omega
theorem nw_wo_le (b a : Nat) : nw_wo b a ≤ b := by
  have h : nw_wo b a = nw_wo b a &&& b := by
    refine mk_ext fun i => ?_
    rw [Nat.testBit_and, nw_wo_bit]
    cases b.testBit i <;> simp
  rw [h]
  exact Nat.and_le_right
theorem nI_m1 {n : Nat} (h : n < 2 ^ 31) : ¬ nI n = -1 := by
  intro q
  have h1 : (nI n).toInt = (-1 : Int32).toInt := by rw [q]
  rw [nI_toInt h] at h1
  have h2 : (-1 : Int32).toInt = -1 := by decide
  omega
theorem snE_t {σ : Nat → Nat} {w r : Nat} (h : stA σ (nA σ) = 1 <<< r) (h2 : ∀ t, t < σ 2 → rwM (wvM σ) σ (σ 2 * r + t) = rbM σ t (1 <<< r) ^^^ tnN σ w t) : snE σ w r = true := by
  unfold snE
  rw [h]
  simp
  exact h2
theorem snE_f1 {σ : Nat → Nat} {w r : Nat} (h : ¬ stA σ (nA σ) = 1 <<< r) : snE σ w r = false := by
  unfold snE
  simp [h]
theorem snE_f2 {σ : Nat → Nat} {w r t : Nat} (ht : t < σ 2) (h : ¬ rwM (wvM σ) σ (σ 2 * r + t) = rbM σ t (1 <<< r) ^^^ tnN σ w t) : snE σ w r = false := by
  unfold snE
  refine Bool.eq_false_iff.mpr fun q => ?_
  rw [Bool.and_eq_true, List.all_eq_true] at q
  have h1 := q.2 t (List.mem_range.mpr ht)
  exact h (eq_of_beq h1)
theorem ihT_t {σ : Nat → Nat} {q pk : Nat} (h : nw_wo (stA σ (nA σ)) (1 <<< q) = 0) (h2 : ∀ t, t < σ 2 → rwM (wvM σ) σ (σ 2 * q + t) = rbM σ t pk) : ihT σ q pk = true := by
  unfold ihT
  rw [h]
  simp
  exact h2
theorem ihT_f1 {σ : Nat → Nat} {q pk : Nat} (h : ¬ nw_wo (stA σ (nA σ)) (1 <<< q) = 0) : ihT σ q pk = false := by
  unfold ihT
  simp [h]
theorem ihT_f2 {σ : Nat → Nat} {q pk t : Nat} (ht : t < σ 2) (h : ¬ rwM (wvM σ) σ (σ 2 * q + t) = rbM σ t pk) : ihT σ q pk = false := by
  unfold ihT
  refine Bool.eq_false_iff.mpr fun z => ?_
  rw [Bool.and_eq_true, List.all_eq_true] at z
  have h1 := z.2 t (List.mem_range.mpr ht)
  exact h (eq_of_beq h1)
theorem ihE_A {σ : Nat → Nat} (hw : wf σ) {w r q : Nat} (h : ihb σ w r = true) (hq : q < σ 0) (e : σ (3 + q) = σ (3 + r) ^^^ 1 <<< (w / 2)) : ihE σ w r = ihT σ q (1 <<< r ||| 1 <<< q) := by
  have h1 : fsf (fun q => σ (3 + q) == σ (3 + r) ^^^ 1 <<< (w / 2)) (σ 0) = q := by
    refine fsf_at (fun j hj => ?_) (by simp [e]) hq
    refine beq_eq_false_iff_ne.mpr fun z => ?_
    have := hw.2.2.2.2.2.2.2.1 j q (by omega) hq (by rw [z, e])
    omega
  unfold ihE
  rw [h1, if_pos h, if_pos hq]
theorem ihE_N {σ : Nat → Nat} {w r : Nat} (h : ihb σ w r = true) (hn : ∀ j, j < σ 0 → ¬ σ (3 + j) = σ (3 + r) ^^^ 1 <<< (w / 2)) : ihE σ w r = (stA σ (nA σ) == 0) := by
  have h1 : fsf (fun q => σ (3 + q) == σ (3 + r) ^^^ 1 <<< (w / 2)) (σ 0) = σ 0 := fsf_none fun j hj => beq_eq_false_iff_ne.mpr (hn j hj)
  unfold ihE
  rw [h1, if_pos h, if_neg (Nat.lt_irrefl _)]
theorem ihE_B {σ : Nat → Nat} {w r : Nat} (h : ihb σ w r = false) : ihE σ w r = ihT σ r 0 := by
  unfold ihE
  rw [h]
  rfl
theorem exE_i {σ : Nat → Nat} {w r : Nat} (h : w < 8) : exE σ w r = ihE σ w r := by unfold exE; rw [if_pos h]
theorem exE_s {σ : Nat → Nat} {w r : Nat} (h : 8 ≤ w) : exE σ w r = snE σ w r := by unfold exE; rw [if_neg (by omega)]
def exP (σ : Nat → Nat) (n : Nat) : Bool := exE σ (n / σ 0) (n % σ 0)
theorem exP_at {σ : Nat → Nat} {w i : Nat} (hi : i < σ 0) : exP σ (w * σ 0 + i) = exE σ w i := by
  unfold exP
  rw [Nat.mul_comm, Nat.mul_add_div (by omega), Nat.div_eq_of_lt hi, Nat.mul_add_mod, Nat.mod_eq_of_lt hi, Nat.add_zero]
theorem ct_le_of {p : Nat → Bool} {n m : Nat} (h : n ≤ m) : ct p n ≤ ct p m := by
  rw [show m = n + (m - n) by omega]
  exact ct_mono p n _
theorem exV_at {p : Nat → Bool} {R k n : Nat} (hp : p n = true) (hc : ct p n = k) : ∀ {m : Nat}, n < m → exV p R k m = nI (16 * (n / R) + n % R)
  | 0, h => absurd h (Nat.not_lt_zero n)
  | m + 1, h => by
    rw [exV]
    by_cases e : n = m
    · subst e
      rw [if_neg (by omega), hp, hc]
      simp
    · have h1 : ct p (n + 1) ≤ ct p m := ct_le_of (by omega)
      rw [ct_s, hp, hc] at h1
      simp only [Bool.toNat_true] at h1
      rw [if_pos (show k < ct p m by omega), exV_at hp hc (m := m) (by omega)]
theorem exV_none {p : Nat → Bool} {R k : Nat} : ∀ {m : Nat}, ct p m ≤ k → exV p R k m = -1
  | 0, _ => rfl
  | m + 1, h => by
    rw [ct_s] at h
    rw [exV, if_neg (by omega)]
    split
    · rename_i q
      rw [Bool.and_eq_true] at q
      have h1 := eq_of_beq q.2
      rw [q.1] at h
      simp only [Bool.toNat_true] at h
      omega
    · rfl
def exF (σ : Nat → Nat) (k : Nat) : Int32 := exV (exP σ) (σ 0) k (nW σ * σ 0)
/-- the digest -/
def hq (σ : Nat → Nat) : Nat → Int64 → Int64
  | 0, x => x
  | n + 1, x => 31 * (31 * (31 * (31 * hq σ n x + (nI (σ (19 + n))).toInt64) + (nI (rdN σ n)).toInt64) + (nI (paB σ n).toNat).toInt64) + (ptF σ n).toInt64
def hv (σ : Nat → Nat) : Nat → Int64 → Int64
  | 0, x => x
  | n + 1, x => hs (fun r => nI ((wvM σ n).testBit r).toNat) (σ 0) (hv σ n x)
def hsF (σ : Nat → Nat) : Int64 := hv σ (nW σ) (hq σ (nA σ) (hs (fun r => nI (σ (3 + r))) (σ 0) (hs (fun k => nI (nuN σ k)) 9 17)))
theorem exF_at {σ : Nat → Nat} {w i k : Nat} (hw : w < nW σ) (hi : i < σ 0) (h : exE σ w i = true) (h1 : ct (exP σ) (w * σ 0 + i) ≤ k) (h2 : k - ct (exP σ) (w * σ 0 + i) = 0) : nI (16 * w + i) = exF σ k := by
  have h3 : (w + 1) * σ 0 ≤ nW σ * σ 0 := Nat.mul_le_mul_right _ hw
  rw [Nat.succ_mul] at h3
  unfold exF
  rw [exV_at (n := w * σ 0 + i) (by rw [exP_at hi]; exact h) (by omega) (by omega), Nat.mul_comm w, Nat.mul_add_div (by omega), Nat.div_eq_of_lt hi, Nat.mul_add_mod, Nat.mod_eq_of_lt hi, Nat.add_zero]
theorem exF_none {σ : Nat → Nat} {k : Nat} (h : ct (exP σ) (nW σ * σ 0) ≤ k) : -1 = exF σ k := (exV_none h).symm
end
section
set_option maxHeartbeats 4000000 in
set_option maxRecDepth 100000 in
theorem c_X1_isWrong (l : Launch) (D : va_G) (cI cR : ClassId) (h : Nat) (a : Nat → Nat) (σ : Nat → Nat) (k : Nat) (ad : Nat)  (hw : wf σ) (h0 : k < 4) (h1 : ad < nA σ) : MetR l yX1_isWrong cX1_isWrong 3 (some .boolean) (rmK 4 92) (nPre D (nTy cI cR) [.ref h, .int (nI k), .int (nI ad)] (wRp h a cI (σ 0) (σ 1) (σ 2) (onF σ) (wwF σ) (crF σ) (ptF σ))) (zB (iwB σ k ad)) := by
  refine met_read rfl (Nat.le_of_ble_eq_true rfl) ?_
  intro p e s m args below meth c ls hx hb hml hr hlocks hown hts hP hK hl
  have hl : lv_has ls 3 [(0, .ref h), (1, .int (nI k)), (2, .int (nI ad))] := hl
  have hA41 := hw.w41
  have hA33 := hw.a33
  have hA48 := hw.a48
  obtain ⟨hR2, hR, hB1, hB, hS1, hS, -⟩ := id hw
  have hr1 := rrN_lt hw ad
  have hw1 := hw.wd h1
  refine lv_iload_n hx hb dX1_isWrong_0 rfl (lv_at hl 1 rfl) ?_
  rcases (show k = 0 ∨ k = 1 ∨ k = 2 ∨ k = 3 by omega) with rfl | rfl | rfl | rfl
  · refine lv_tableIn (off := 27) (tgt := 28) hx hb dX1_isWrong_1 (by decide) (by decide) rfl (by decide) ?_
    refine lv_aload_n hx hb dX1_isWrong_28 rfl (lv_at hl 0 rfl) ?_
    refine lv_iload_n hx hb dX1_isWrong_29 rfl (lv_at hl 2 rfl) ?_
    refine nv_callV [.int (nI ad)] [] hx hb hml hown hts k_RX1_121 (c_X1_isMisread l D cI cR h a σ ad hw h1) ⟨rfl, rfl, Nat.le_of_ble_eq_true rfl, Nat.le_of_ble_eq_true rfl⟩ hP hK 1 rfl rfl rfl rfl hl rfl (Nat.le_of_ble_eq_true rfl) dX1_isWrong_30 ⟨Nat.zero_le _, Nat.zero_le _⟩ ?_
    exact nv_retz hx hb hr hlocks (zB_z _) (rfl) dX1_isWrong_33
  · refine lv_tableIn (off := 33) (tgt := 34) hx hb dX1_isWrong_1 (by decide) (by decide) rfl (by decide) ?_
    refine lv_aload_n hx hb dX1_isWrong_34 rfl (lv_at hl 0 rfl) ?_
    refine lv_iload_n hx hb dX1_isWrong_35 rfl (lv_at hl 2 rfl) ?_
    refine nv_callV [.int (nI ad)] [] hx hb hml hown hts k_RX1_125 (c_X1_parityIsRight l D cI cR h a σ ad hw h1) ⟨rfl, rfl, Nat.le_of_ble_eq_true rfl, Nat.le_of_ble_eq_true rfl⟩ hP hK 1 rfl rfl rfl rfl hl rfl (Nat.le_of_ble_eq_true rfl) dX1_isWrong_36 ⟨Nat.zero_le _, Nat.zero_le _⟩ ?_
    refine lv_if_ne (tgt := 46) hx hb dX1_isWrong_39 (by decide) (fun q_39 => ?_) (fun q_39 => ?_)
    · refine lv_iconst (v := nI 0) hx hb dX1_isWrong_46 (by decide) ?_
      exact nv_retz hx hb hr hlocks (by decide) (by first | exact zB_1 (show (!paB σ ad) = true by rw [zB_eq0 q_39]; rfl) | exact zB_0 (show (!paB σ ad) = false by rw [zB_ne0 q_39]; rfl)) dX1_isWrong_47
    · refine lv_iconst (v := nI 1) hx hb dX1_isWrong_42 (by decide) ?_
      refine lv_goto (tgt := 47) hx hb dX1_isWrong_43 (by decide) ?_
      exact nv_retz hx hb hr hlocks (by decide) (by first | exact zB_1 (show (!paB σ ad) = true by rw [zB_eq0 q_39]; rfl) | exact zB_0 (show (!paB σ ad) = false by rw [zB_ne0 q_39]; rfl)) dX1_isWrong_47
  · refine lv_tableIn (off := 47) (tgt := 48) hx hb dX1_isWrong_1 (by decide) (by decide) rfl (by decide) ?_
    refine lv_aload_n hx hb dX1_isWrong_48 rfl (lv_at hl 0 rfl) ?_
    refine lv_iload_n hx hb dX1_isWrong_49 rfl (lv_at hl 2 rfl) ?_
    refine nv_callV [.int (nI ad)] [] hx hb hml hown hts k_RX1_121 (c_X1_isMisread l D cI cR h a σ ad hw h1) ⟨rfl, rfl, Nat.le_of_ble_eq_true rfl, Nat.le_of_ble_eq_true rfl⟩ hP hK 1 rfl rfl rfl rfl hl rfl (Nat.le_of_ble_eq_true rfl) dX1_isWrong_50 ⟨Nat.zero_le _, Nat.zero_le _⟩ ?_
    refine lv_if_eq (tgt := 68) hx hb dX1_isWrong_53 (by decide) (fun q_53 => ?_) (fun q_53 => ?_)
    · refine lv_iconst (v := nI 0) hx hb dX1_isWrong_68 (by decide) ?_
      exact nv_retz hx hb hr hlocks (by decide) (by first | exact zB_1 (show (msB σ ad && paB σ ad) = true by rw [zB_ne0 q_53, zB_ne0 q_61]; rfl) | exact zB_0 (show (msB σ ad && paB σ ad) = false by rw [zB_eq0 q_53]; rfl) | exact zB_0 (show (msB σ ad && paB σ ad) = false by rw [zB_ne0 q_53, zB_eq0 q_61]; rfl)) dX1_isWrong_69
    · refine lv_aload_n hx hb dX1_isWrong_56 rfl (lv_at hl 0 rfl) ?_
      refine lv_iload_n hx hb dX1_isWrong_57 rfl (lv_at hl 2 rfl) ?_
      refine nv_callV [.int (nI ad)] [] hx hb hml hown hts k_RX1_125 (c_X1_parityIsRight l D cI cR h a σ ad hw h1) ⟨rfl, rfl, Nat.le_of_ble_eq_true rfl, Nat.le_of_ble_eq_true rfl⟩ hP hK 1 rfl rfl rfl rfl hl rfl (Nat.le_of_ble_eq_true rfl) dX1_isWrong_58 ⟨Nat.zero_le _, Nat.zero_le _⟩ ?_
      refine lv_if_eq (tgt := 68) hx hb dX1_isWrong_61 (by decide) (fun q_61 => ?_) (fun q_61 => ?_)
      · refine lv_iconst (v := nI 0) hx hb dX1_isWrong_68 (by decide) ?_
        exact nv_retz hx hb hr hlocks (by decide) (by first | exact zB_1 (show (msB σ ad && paB σ ad) = true by rw [zB_ne0 q_53, zB_ne0 q_61]; rfl) | exact zB_0 (show (msB σ ad && paB σ ad) = false by rw [zB_eq0 q_53]; rfl) | exact zB_0 (show (msB σ ad && paB σ ad) = false by rw [zB_ne0 q_53, zB_eq0 q_61]; rfl)) dX1_isWrong_69
      · refine lv_iconst (v := nI 1) hx hb dX1_isWrong_64 (by decide) ?_
        refine lv_goto (tgt := 69) hx hb dX1_isWrong_65 (by decide) ?_
        exact nv_retz hx hb hr hlocks (by decide) (by first | exact zB_1 (show (msB σ ad && paB σ ad) = true by rw [zB_ne0 q_53, zB_ne0 q_61]; rfl) | exact zB_0 (show (msB σ ad && paB σ ad) = false by rw [zB_eq0 q_53]; rfl) | exact zB_0 (show (msB σ ad && paB σ ad) = false by rw [zB_ne0 q_53, zB_eq0 q_61]; rfl)) dX1_isWrong_69
  · refine lv_tableOut (tgt := 70) hx hb dX1_isWrong_1 (Or.inr (by decide)) (by decide) ?_
    refine lv_aload_n hx hb dX1_isWrong_70 rfl (lv_at hl 0 rfl) ?_
    refine lv_iload_n hx hb dX1_isWrong_71 rfl (lv_at hl 2 rfl) ?_
    refine nv_callV [.int (nI ad)] [] hx hb hml hown hts k_RX1_128 (c_X1_rawWord l D cI cR h a σ ad hw h1) ⟨rfl, rfl, Nat.le_of_ble_eq_true rfl, Nat.le_of_ble_eq_true rfl⟩ hP hK 1 rfl rfl rfl rfl hl rfl (Nat.le_of_ble_eq_true rfl) dX1_isWrong_72 ⟨Nat.zero_le _, Nat.zero_le _⟩ ?_
    refine lv_aload_n hx hb dX1_isWrong_75 rfl (lv_at hl 0 rfl) ?_
    refine lv_iload_n hx hb dX1_isWrong_76 rfl (lv_at hl 2 rfl) ?_
    refine nv_callV [.int (nI ad)] [.int (nI (rrN σ ad))] hx hb hml hown hts k_RX1_131 (c_X1_wordAt l D cI cR h a σ ad hw h1) ⟨rfl, rfl, Nat.le_of_ble_eq_true rfl, Nat.le_of_ble_eq_true rfl⟩ hP hK 1 rfl rfl rfl rfl hl rfl (Nat.le_of_ble_eq_true rfl) dX1_isWrong_77 ⟨Nat.zero_le _, Nat.zero_le _⟩ ?_
    refine nv_icmp_eq (tgt := 87) hx hb dX1_isWrong_80 (by decide) (by omega) (by omega) (fun q_80 => ?_) (fun q_80 => ?_)
    · refine lv_iconst (v := nI 0) hx hb dX1_isWrong_87 (by decide) ?_
      exact nv_retz hx hb hr hlocks (by decide) (by first | exact zB_1 (show (rrN σ ad != σ (19 + ad)) = true by simp [q_80]) | exact zB_0 (show (rrN σ ad != σ (19 + ad)) = false by simp [q_80])) dX1_isWrong_88
    · refine lv_iconst (v := nI 1) hx hb dX1_isWrong_83 (by decide) ?_
      refine lv_goto (tgt := 88) hx hb dX1_isWrong_84 (by decide) ?_
      exact nv_retz hx hb hr hlocks (by decide) (by first | exact zB_1 (show (rrN σ ad != σ (19 + ad)) = true by simp [q_80]) | exact zB_0 (show (rrN σ ad != σ (19 + ad)) = false by simp [q_80])) dX1_isWrong_88
set_option maxHeartbeats 4000000 in
set_option maxRecDepth 100000 in
theorem c_X1_wrongAddresses (l : Launch) (D : va_G) (cI cR : ClassId) (h : Nat) (a : Nat → Nat) (σ : Nat → Nat) (k : Nat)  (hw : wf σ) (h0 : k < 4) : MetR l yX1_wrongAddresses cX1_wrongAddresses 4 (some .int) (rmK 5 114) (nPre D (nTy cI cR) [.ref h, .int (nI k)] (wRp h a cI (σ 0) (σ 1) (σ 2) (onF σ) (wwF σ) (crF σ) (ptF σ))) (nI (ct (iwB σ k) (nA σ))) := by
  refine met_read rfl (Nat.le_of_ble_eq_true rfl) ?_
  intro p e s m args below meth c ls hx hb hml hr hlocks hown hts hP hK hl
  have hl : lv_has ls 4 [(0, .ref h), (1, .int (nI k))] := hl
  have hA41 := hw.w41
  have hA33 := hw.a33
  have hA48 := hw.a48
  obtain ⟨hR2, hR, hB1, hB, hS1, hS, -⟩ := id hw
  refine lv_iconst (v := nI 0) hx hb dX1_wrongAddresses_0 (by decide) ?_
  refine lv_istore_n (lv' := [(2, .int (nI 0)), (0, .ref h), (1, .int (nI k))]) hx hb dX1_wrongAddresses_1 rfl hl (by decide) rfl (fun ls hl => ?_)
  refine lv_iconst (v := nI 0) hx hb dX1_wrongAddresses_2 (by decide) ?_
  refine lv_istore_n (lv' := [(3, .int (nI 0)), (2, .int (nI 0)), (0, .ref h), (1, .int (nI k))]) hx hb dX1_wrongAddresses_3 rfl hl (by decide) rfl (fun ls hl => ?_)
  have L4 : ∀ (n4 i : Nat), nA σ + 1 ≤ i + n4 → i ≤ nA σ → ∀ (ls : Array Slot), lv_has ls 4 [(0, .ref h), (1, .int (nI k)), (2, .int (nI (ct (iwB σ k) i))), (3, .int (nI i))] → W p l e (rmK 5 114) s m args below meth c s.heap [] 0 0 (MQ below (QcRead (nI (ct (iwB σ k) (nA σ)))) args s 0 0 (fun _ => False)) (F0 m 4 ls []) := by
    intro n4
    induction n4 with
    | zero =>
      intro i h1_4 h2_4
      exact False.elim (by omega)
    | succ n4 ih4 =>
      intro i h1_4 h2_4  ls hl
      refine lv_iload_n hx hb dX1_wrongAddresses_4 rfl (lv_at hl 3 rfl) ?_
      refine lv_aload_n hx hb dX1_wrongAddresses_5 rfl (lv_at hl 0 rfl) ?_
      refine nv_callV [] [.int (nI i)] hx hb hml hown hts k_RX1_42 (c_X1_addressesS l D cI cR h a σ ) ⟨rfl, rfl, Nat.le_of_ble_eq_true rfl, Nat.le_of_ble_eq_true rfl⟩ hP hK 1 rfl rfl rfl rfl hl rfl (Nat.le_of_ble_eq_true rfl) dX1_wrongAddresses_6 ⟨Nat.zero_le _, Nat.zero_le _⟩ ?_
      refine nv_icmp_ge (tgt := 30) hx hb dX1_wrongAddresses_9 (by decide) (by omega) (by omega) (fun q_9 => ?_) (fun q_9 => ?_)
      · refine lv_iload_n hx hb dX1_wrongAddresses_30 rfl (lv_at hl 2 rfl) ?_
        exact nv_ret hx hb hr hlocks (congrArg nI (by rw [show i = nA σ by omega])) dX1_wrongAddresses_31
      · refine lv_aload_n hx hb dX1_wrongAddresses_12 rfl (lv_at hl 0 rfl) ?_
        refine lv_iload_n hx hb dX1_wrongAddresses_13 rfl (lv_at hl 1 rfl) ?_
        refine lv_iload_n hx hb dX1_wrongAddresses_14 rfl (lv_at hl 3 rfl) ?_
        refine nv_callV [.int (nI k), .int (nI i)] [] hx hb hml hown hts k_RX1_117 (c_X1_isWrong l D cI cR h a σ k i hw h0 (by omega)) ⟨rfl, rfl, Nat.le_of_ble_eq_true rfl, Nat.le_of_ble_eq_true rfl⟩ hP hK 1 rfl rfl rfl rfl hl rfl (Nat.le_of_ble_eq_true rfl) dX1_wrongAddresses_15 ⟨Nat.zero_le _, Nat.zero_le _⟩ ?_
        have J18 : ∀ (ls : Array Slot), lv_has ls 4 [(0, .ref h), (1, .int (nI k)), (2, .int (nI (ct (iwB σ k) (i + 1)))), (3, .int (nI i))] → W p l e (rmK 5 114) s m args below meth c s.heap [] 0 0 (MQ below (QcRead (nI (ct (iwB σ k) (nA σ)))) args s 0 0 (fun _ => False)) (F0 m 24 ls []) := by
          intro ls hl
          refine nv_inc (k := 3) (lv' := [(3, .int (nI (i + 1))), (0, .ref h), (1, .int (nI k)), (2, .int (nI (ct (iwB σ k) (i + 1))))]) hx hb dX1_wrongAddresses_24 hl rfl (by decide) rfl (fun ls hl => ?_)
          refine lv_goto (tgt := 4) hx hb dX1_wrongAddresses_27 (by decide) ?_
          exact ih4 (i + 1) (by omega) (by omega)  ls (lv_sub hl [1, 2, 3, 0] rfl)
        refine lv_if_eq (tgt := 24) hx hb dX1_wrongAddresses_18 (by decide) (fun q_18 => ?_) (fun q_18 => ?_)
        · have hl := lv_repl [(0, .ref h), (1, .int (nI k)), (2, .int (nI (ct (iwB σ k) (i + 1)))), (3, .int (nI i))] 2 rfl (congrArg (fun z : Nat => Value.int (nI z)) (show (ct (iwB σ k) i) = (ct (iwB σ k) (i + 1)) from by rw [ct_s]; first | (rw [zB_eq0 q_18]; rfl) | (rw [zB_ne0 q_18]; rfl))) rfl hl
          exact J18 ls (lv_sub hl [0, 1, 2, 3] rfl)
        · refine nv_inc (k := 2) (lv' := [(2, .int (nI ((ct (iwB σ k) i) + 1))), (0, .ref h), (1, .int (nI k)), (3, .int (nI i))]) hx hb dX1_wrongAddresses_21 hl rfl (by decide) rfl (fun ls hl => ?_)
          have hl := lv_repl [(2, .int (nI (ct (iwB σ k) (i + 1)))), (0, .ref h), (1, .int (nI k)), (3, .int (nI i))] 0 rfl (congrArg (fun z : Nat => Value.int (nI z)) (show ((ct (iwB σ k) i) + 1) = (ct (iwB σ k) (i + 1)) from by rw [ct_s]; first | (rw [zB_eq0 q_18]; rfl) | (rw [zB_ne0 q_18]; rfl))) rfl hl
          exact J18 ls (lv_sub hl [1, 2, 0, 3] rfl)
  exact L4 (nA σ + 1) 0 (by omega) (by omega)  ls (lv_sub hl [2, 3, 1, 0] rfl)
set_option maxHeartbeats 4000000 in
set_option maxRecDepth 100000 in
theorem c_X1_crossedWires (l : Launch) (D : va_G) (cI cR : ClassId) (h : Nat) (a : Nat → Nat) (σ : Nat → Nat)   (hw : wf σ) : MetR l yX1_crossedWires cX1_crossedWires 3 (some .int) (rmK 1 20) (nPre D (nTy cI cR) [.ref h] (wRp h a cI (σ 0) (σ 1) (σ 2) (onF σ) (wwF σ) (crF σ) (ptF σ))) (nI (sm (crN σ) (nW σ))) := by
  refine met_read rfl (Nat.le_of_ble_eq_true rfl) ?_
  intro p e s m args below meth c ls hx hb hml hr hlocks hown hts hP hK hl
  have hl : lv_has ls 3 [(0, .ref h)] := hl
  have hA41 := hw.w41
  have hA33 := hw.a33
  have hA48 := hw.a48
  obtain ⟨hR2, hR, hB1, hB, hS1, hS, -⟩ := id hw
  have h8 : 8 ≤ nW σ := by unfold nW; omega
  refine lv_iconst (v := nI 0) hx hb dX1_crossedWires_0 (by decide) ?_
  refine lv_istore_n (lv' := [(1, .int (nI 0)), (0, .ref h)]) hx hb dX1_crossedWires_1 rfl hl (by decide) rfl (fun ls hl => ?_)
  refine lv_bipush (v := nI 8) hx hb dX1_crossedWires_2 (by decide) ?_
  refine lv_istore_n (lv' := [(2, .int (nI 8)), (1, .int (nI 0)), (0, .ref h)]) hx hb dX1_crossedWires_4 rfl hl (by decide) rfl (fun ls hl => ?_)
  have L5 : ∀ (n5 i : Nat), nW σ + 1 ≤ i + n5 → i ≤ nW σ → ∀ (ls : Array Slot), lv_has ls 3 [(0, .ref h), (1, .int (nI (sm (crN σ) i))), (2, .int (nI i))] → W p l e (rmK 1 20) s m args below meth c s.heap [] 0 0 (MQ below (QcRead (nI (sm (crN σ) (nW σ)))) args s 0 0 (fun _ => False)) (F0 m 5 ls []) := by
    intro n5
    induction n5 with
    | zero =>
      intro i h1_5 h2_5
      exact False.elim (by omega)
    | succ n5 ih5 =>
      intro i h1_5 h2_5  ls hl
      refine lv_iload_n hx hb dX1_crossedWires_5 rfl (lv_at hl 2 rfl) ?_
      refine lv_aload_n hx hb dX1_crossedWires_6 rfl (lv_at hl 0 rfl) ?_
      refine nv_callV [] [.int (nI i)] hx hb hml hown hts k_RX1_55 (c_X1_wiresS l D cI cR h a σ ) ⟨rfl, rfl, Nat.le_of_ble_eq_true rfl, Nat.le_of_ble_eq_true rfl⟩ hP hK 1 rfl rfl rfl rfl hl rfl (Nat.le_of_ble_eq_true rfl) dX1_crossedWires_7 ⟨Nat.zero_le _, Nat.zero_le _⟩ ?_
      refine nv_icmp_ge (tgt := 28) hx hb dX1_crossedWires_10 (by decide) (by omega) (by omega) (fun q_10 => ?_) (fun q_10 => ?_)
      · refine lv_iload_n hx hb dX1_crossedWires_28 rfl (lv_at hl 1 rfl) ?_
        exact nv_ret hx hb hr hlocks (congrArg nI (by rw [show i = nW σ by omega])) dX1_crossedWires_29
      · refine lv_iload_n hx hb dX1_crossedWires_13 rfl (lv_at hl 1 rfl) ?_
        refine lv_aload_n hx hb dX1_crossedWires_14 rfl (lv_at hl 0 rfl) ?_
        refine va_get (D := D) (ci := 1) (v := .ref (a 2)) (C := RX1) (T := TX1) (N := 7) hx hb hts inX1 hown hK hP 0 rfl rfl 5 (by decide) (hts _ fl_RX1_18) (fun _ h9 => h9) rfl dX1_crossedWires_15 ?_
        refine lv_iload_n hx hb dX1_crossedWires_18 rfl (lv_at hl 2 rfl) ?_
        refine nv_iald (D := D) (v := nI (crN σ i)) hx hb hK hP 3 0 rfl rfl (k := i) (by omega) (by decide) (rfl) dX1_crossedWires_19 ?_
        refine nv_iadd hx hb dX1_crossedWires_20 ?_
        refine lv_istore_n (lv' := [(1, .int (nI ((sm (crN σ) i) + (crN σ i)))), (0, .ref h), (2, .int (nI i))]) hx hb dX1_crossedWires_21 rfl hl (by decide) rfl (fun ls hl => ?_)
        refine nv_inc (k := 2) (lv' := [(2, .int (nI (i + 1))), (1, .int (nI ((sm (crN σ) i) + (crN σ i)))), (0, .ref h)]) hx hb dX1_crossedWires_22 hl rfl (by decide) rfl (fun ls hl => ?_)
        refine lv_goto (tgt := 5) hx hb dX1_crossedWires_25 (by decide) ?_
        exact ih5 (i + 1) (by omega) (by omega)  ls (lv_sub hl [2, 1, 0] rfl)
  have hl := lv_repl [(2, .int (nI 8)), (1, .int (nI (sm (crN σ) 8))), (0, .ref h)] 1 rfl (congrArg (fun z : Nat => Value.int (nI z)) (show 0 = (sm (crN σ) 8) from (sm_cr8 σ).symm)) rfl hl
  exact L5 (nW σ + 1) 8 (by omega) (by omega)  ls (lv_sub hl [2, 1, 0] rfl)
set_option maxHeartbeats 4000000 in
set_option maxRecDepth 100000 in
theorem c_X1_wrongWeaveCount (l : Launch) (D : va_G) (cI cR : ClassId) (h : Nat) (a : Nat → Nat) (σ : Nat → Nat)   (hw : wf σ) : MetR l yX1_wrongWeaveCount cX1_wrongWeaveCount 3 (some .int) (rmK 1 20) (nPre D (nTy cI cR) [.ref h] (wRp h a cI (σ 0) (σ 1) (σ 2) (onF σ) (wwF σ) (crF σ) (ptF σ))) (nI (sm (fun w => pop (σ (100 + w))) (nW σ))) := by
  refine met_read rfl (Nat.le_of_ble_eq_true rfl) ?_
  intro p e s m args below meth c ls hx hb hml hr hlocks hown hts hP hK hl
  have hl : lv_has ls 3 [(0, .ref h)] := hl
  have hA41 := hw.w41
  have hA33 := hw.a33
  have hA48 := hw.a48
  obtain ⟨hR2, hR, hB1, hB, hS1, hS, -⟩ := id hw
  refine lv_iconst (v := nI 0) hx hb dX1_wrongWeaveCount_0 (by decide) ?_
  refine lv_istore_n (lv' := [(1, .int (nI 0)), (0, .ref h)]) hx hb dX1_wrongWeaveCount_1 rfl hl (by decide) rfl (fun ls hl => ?_)
  refine lv_iconst (v := nI 0) hx hb dX1_wrongWeaveCount_2 (by decide) ?_
  refine lv_istore_n (lv' := [(2, .int (nI 0)), (1, .int (nI 0)), (0, .ref h)]) hx hb dX1_wrongWeaveCount_3 rfl hl (by decide) rfl (fun ls hl => ?_)
  have L4 : ∀ (n4 i : Nat), nW σ + 1 ≤ i + n4 → i ≤ nW σ → ∀ (ls : Array Slot), lv_has ls 3 [(0, .ref h), (1, .int (nI (sm (fun w => pop (σ (100 + w))) i))), (2, .int (nI i))] → W p l e (rmK 1 20) s m args below meth c s.heap [] 0 0 (MQ below (QcRead (nI (sm (fun w => pop (σ (100 + w))) (nW σ)))) args s 0 0 (fun _ => False)) (F0 m 4 ls []) := by
    intro n4
    induction n4 with
    | zero =>
      intro i h1_4 h2_4
      exact False.elim (by omega)
    | succ n4 ih4 =>
      intro i h1_4 h2_4  ls hl
      refine lv_iload_n hx hb dX1_wrongWeaveCount_4 rfl (lv_at hl 2 rfl) ?_
      refine lv_aload_n hx hb dX1_wrongWeaveCount_5 rfl (lv_at hl 0 rfl) ?_
      refine nv_callV [] [.int (nI i)] hx hb hml hown hts k_RX1_55 (c_X1_wiresS l D cI cR h a σ ) ⟨rfl, rfl, Nat.le_of_ble_eq_true rfl, Nat.le_of_ble_eq_true rfl⟩ hP hK 1 rfl rfl rfl rfl hl rfl (Nat.le_of_ble_eq_true rfl) dX1_wrongWeaveCount_6 ⟨Nat.zero_le _, Nat.zero_le _⟩ ?_
      refine nv_icmp_ge (tgt := 30) hx hb dX1_wrongWeaveCount_9 (by decide) (by omega) (by omega) (fun q_9 => ?_) (fun q_9 => ?_)
      · refine lv_iload_n hx hb dX1_wrongWeaveCount_30 rfl (lv_at hl 1 rfl) ?_
        exact nv_ret hx hb hr hlocks (congrArg nI (by rw [show i = nW σ by omega])) dX1_wrongWeaveCount_31
      · refine lv_iload_n hx hb dX1_wrongWeaveCount_12 rfl (lv_at hl 1 rfl) ?_
        refine lv_aload_n hx hb dX1_wrongWeaveCount_13 rfl (lv_at hl 0 rfl) ?_
        refine va_get (D := D) (ci := 1) (v := .ref (a 1)) (C := RX1) (T := TX1) (N := 7) hx hb hts inX1 hown hK hP 0 rfl rfl 4 (by decide) (hts _ fl_RX1_15) (fun _ h9 => h9) rfl dX1_wrongWeaveCount_14 ?_
        refine lv_iload_n hx hb dX1_wrongWeaveCount_17 rfl (lv_at hl 2 rfl) ?_
        refine nv_iald (D := D) (v := nI (σ (100 + i))) hx hb hK hP 2 0 rfl rfl (k := i) (by omega) (by decide) (rfl) dX1_wrongWeaveCount_18 ?_
        refine nv_callS [.int (nI (σ (100 + i)))] [.int (nI (sm (fun w => pop (σ (100 + w))) i))] hx hb hml hown hts k_RX1_73 (c_J6_bitCount_0f7a4 l D cI cR (σ (100 + i)) (hw.sp (by omega))) ⟨rfl, rfl, Nat.le_of_ble_eq_true rfl, Nat.le_of_ble_eq_true rfl⟩ (va_P_nil) hK rfl hl rfl (Nat.le_of_ble_eq_true rfl) dX1_wrongWeaveCount_19 ⟨Nat.zero_le _, Nat.zero_le _⟩ ?_
        refine nv_iadd hx hb dX1_wrongWeaveCount_22 ?_
        refine lv_istore_n (lv' := [(1, .int (nI ((sm (fun w => pop (σ (100 + w))) i) + (pop (σ (100 + i)))))), (0, .ref h), (2, .int (nI i))]) hx hb dX1_wrongWeaveCount_23 rfl hl (by decide) rfl (fun ls hl => ?_)
        refine nv_inc (k := 2) (lv' := [(2, .int (nI (i + 1))), (1, .int (nI ((sm (fun w => pop (σ (100 + w))) i) + (pop (σ (100 + i)))))), (0, .ref h)]) hx hb dX1_wrongWeaveCount_24 hl rfl (by decide) rfl (fun ls hl => ?_)
        refine lv_goto (tgt := 4) hx hb dX1_wrongWeaveCount_27 (by decide) ?_
        exact ih4 (i + 1) (by omega) (by omega)  ls (lv_sub hl [2, 1, 0] rfl)
  exact L4 (nW σ + 1) 0 (by omega) (by omega)  ls (lv_sub hl [2, 1, 0] rfl)
set_option maxHeartbeats 4000000 in
set_option maxRecDepth 100000 in
theorem c_X1_wholeCost (l : Launch) (D : va_G) (cI cR : ClassId) (h : Nat) (a : Nat → Nat) (σ : Nat → Nat)   (hw : wf σ) : MetR l yX1_wholeCost cX1_wholeCost 3 (some .int) (rmK 2 42) (nPre D (nTy cI cR) [.ref h] (wRp h a cI (σ 0) (σ 1) (σ 2) (onF σ) (wwF σ) (crF σ) (ptF σ))) (nI (sm (csN σ) (nW σ))) := by
  refine met_read rfl (Nat.le_of_ble_eq_true rfl) ?_
  intro p e s m args below meth c ls hx hb hml hr hlocks hown hts hP hK hl
  have hl : lv_has ls 3 [(0, .ref h)] := hl
  have hA41 := hw.w41
  have hA33 := hw.a33
  have hA48 := hw.a48
  obtain ⟨hR2, hR, hB1, hB, hS1, hS, -⟩ := id hw
  refine lv_iconst (v := nI 0) hx hb dX1_wholeCost_0 (by decide) ?_
  refine lv_istore_n (lv' := [(1, .int (nI 0)), (0, .ref h)]) hx hb dX1_wholeCost_1 rfl hl (by decide) rfl (fun ls hl => ?_)
  refine lv_iconst (v := nI 0) hx hb dX1_wholeCost_2 (by decide) ?_
  refine lv_istore_n (lv' := [(2, .int (nI 0)), (1, .int (nI 0)), (0, .ref h)]) hx hb dX1_wholeCost_3 rfl hl (by decide) rfl (fun ls hl => ?_)
  have L4 : ∀ (n4 i : Nat), nW σ + 1 ≤ i + n4 → i ≤ nW σ → ∀ (ls : Array Slot), lv_has ls 3 [(0, .ref h), (1, .int (nI (sm (csN σ) i))), (2, .int (nI i))] → W p l e (rmK 2 42) s m args below meth c s.heap [] 0 0 (MQ below (QcRead (nI (sm (csN σ) (nW σ)))) args s 0 0 (fun _ => False)) (F0 m 4 ls []) := by
    intro n4
    induction n4 with
    | zero =>
      intro i h1_4 h2_4
      exact False.elim (by omega)
    | succ n4 ih4 =>
      intro i h1_4 h2_4  ls hl
      refine lv_iload_n hx hb dX1_wholeCost_4 rfl (lv_at hl 2 rfl) ?_
      refine lv_aload_n hx hb dX1_wholeCost_5 rfl (lv_at hl 0 rfl) ?_
      refine nv_callV [] [.int (nI i)] hx hb hml hown hts k_RX1_55 (c_X1_wiresS l D cI cR h a σ ) ⟨rfl, rfl, Nat.le_of_ble_eq_true rfl, Nat.le_of_ble_eq_true rfl⟩ hP hK 1 rfl rfl rfl rfl hl rfl (Nat.le_of_ble_eq_true rfl) dX1_wholeCost_6 ⟨Nat.zero_le _, Nat.zero_le _⟩ ?_
      refine nv_icmp_ge (tgt := 26) hx hb dX1_wholeCost_9 (by decide) (by omega) (by omega) (fun q_9 => ?_) (fun q_9 => ?_)
      · refine lv_iload_n hx hb dX1_wholeCost_26 rfl (lv_at hl 1 rfl) ?_
        exact nv_ret hx hb hr hlocks (congrArg nI (by rw [show i = nW σ by omega])) dX1_wholeCost_27
      · refine lv_iload_n hx hb dX1_wholeCost_12 rfl (lv_at hl 1 rfl) ?_
        refine lv_aload_n hx hb dX1_wholeCost_13 rfl (lv_at hl 0 rfl) ?_
        refine lv_iload_n hx hb dX1_wholeCost_14 rfl (lv_at hl 2 rfl) ?_
        refine nv_callV [.int (nI i)] [.int (nI (sm (csN σ) i))] hx hb hml hown hts k_RX1_79 (c_X1_costOf l D cI cR h a σ i hw (by omega)) ⟨rfl, rfl, Nat.le_of_ble_eq_true rfl, Nat.le_of_ble_eq_true rfl⟩ hP hK 1 rfl rfl rfl rfl hl rfl (Nat.le_of_ble_eq_true rfl) dX1_wholeCost_15 ⟨Nat.zero_le _, Nat.zero_le _⟩ ?_
        refine nv_iadd hx hb dX1_wholeCost_18 ?_
        refine lv_istore_n (lv' := [(1, .int (nI ((sm (csN σ) i) + (csN σ i)))), (0, .ref h), (2, .int (nI i))]) hx hb dX1_wholeCost_19 rfl hl (by decide) rfl (fun ls hl => ?_)
        refine nv_inc (k := 2) (lv' := [(2, .int (nI (i + 1))), (1, .int (nI ((sm (csN σ) i) + (csN σ i)))), (0, .ref h)]) hx hb dX1_wholeCost_20 hl rfl (by decide) rfl (fun ls hl => ?_)
        refine lv_goto (tgt := 4) hx hb dX1_wholeCost_23 (by decide) ?_
        exact ih4 (i + 1) (by omega) (by omega)  ls (lv_sub hl [2, 1, 0] rfl)
  exact L4 (nW σ + 1) 0 (by omega) (by omega)  ls (lv_sub hl [2, 1, 0] rfl)
set_option maxHeartbeats 4000000 in
set_option maxRecDepth 100000 in
theorem c_X1_patchCount (l : Launch) (D : va_G) (cI cR : ClassId) (h : Nat) (a : Nat → Nat) (σ : Nat → Nat)   (hw : wf σ) : MetR l yX1_patchCount cX1_patchCount 3 (some .int) (rmK 1 20) (nPre D (nTy cI cR) [.ref h] (wRp h a cI (σ 0) (σ 1) (σ 2) (onF σ) (wwF σ) (crF σ) (ptF σ))) (nI (ct (fun a => σ (141 + a) != 0) (nA σ))) := by
  refine met_read rfl (Nat.le_of_ble_eq_true rfl) ?_
  intro p e s m args below meth c ls hx hb hml hr hlocks hown hts hP hK hl
  have hl : lv_has ls 3 [(0, .ref h)] := hl
  have hA41 := hw.w41
  have hA33 := hw.a33
  have hA48 := hw.a48
  obtain ⟨hR2, hR, hB1, hB, hS1, hS, -⟩ := id hw
  refine lv_iconst (v := nI 0) hx hb dX1_patchCount_0 (by decide) ?_
  refine lv_istore_n (lv' := [(1, .int (nI 0)), (0, .ref h)]) hx hb dX1_patchCount_1 rfl hl (by decide) rfl (fun ls hl => ?_)
  refine lv_iconst (v := nI 0) hx hb dX1_patchCount_2 (by decide) ?_
  refine lv_istore_n (lv' := [(2, .int (nI 0)), (1, .int (nI 0)), (0, .ref h)]) hx hb dX1_patchCount_3 rfl hl (by decide) rfl (fun ls hl => ?_)
  have L4 : ∀ (n4 i : Nat), nA σ + 1 ≤ i + n4 → i ≤ nA σ → ∀ (ls : Array Slot), lv_has ls 3 [(0, .ref h), (1, .int (nI (ct (fun a => σ (141 + a) != 0) i))), (2, .int (nI i))] → W p l e (rmK 1 20) s m args below meth c s.heap [] 0 0 (MQ below (QcRead (nI (ct (fun a => σ (141 + a) != 0) (nA σ)))) args s 0 0 (fun _ => False)) (F0 m 4 ls []) := by
    intro n4
    induction n4 with
    | zero =>
      intro i h1_4 h2_4
      exact False.elim (by omega)
    | succ n4 ih4 =>
      intro i h1_4 h2_4  ls hl
      refine lv_iload_n hx hb dX1_patchCount_4 rfl (lv_at hl 2 rfl) ?_
      refine lv_aload_n hx hb dX1_patchCount_5 rfl (lv_at hl 0 rfl) ?_
      refine nv_callV [] [.int (nI i)] hx hb hml hown hts k_RX1_42 (c_X1_addressesS l D cI cR h a σ ) ⟨rfl, rfl, Nat.le_of_ble_eq_true rfl, Nat.le_of_ble_eq_true rfl⟩ hP hK 1 rfl rfl rfl rfl hl rfl (Nat.le_of_ble_eq_true rfl) dX1_patchCount_6 ⟨Nat.zero_le _, Nat.zero_le _⟩ ?_
      refine nv_icmp_ge (tgt := 31) hx hb dX1_patchCount_9 (by decide) (by omega) (by omega) (fun q_9 => ?_) (fun q_9 => ?_)
      · refine lv_iload_n hx hb dX1_patchCount_31 rfl (lv_at hl 1 rfl) ?_
        exact nv_ret hx hb hr hlocks (congrArg nI (by rw [show i = nA σ by omega])) dX1_patchCount_32
      · refine lv_aload_n hx hb dX1_patchCount_12 rfl (lv_at hl 0 rfl) ?_
        refine va_get (D := D) (ci := 1) (v := .ref (a 3)) (C := RX1) (T := TX1) (N := 7) hx hb hts inX1 hown hK hP 0 rfl rfl 6 (by decide) (hts _ fl_RX1_21) (fun _ h9 => h9) rfl dX1_patchCount_13 ?_
        refine lv_iload_n hx hb dX1_patchCount_16 rfl (lv_at hl 2 rfl) ?_
        refine nv_iald (D := D) (v := (ptF σ) i) hx hb hK hP 4 0 rfl rfl (k := i) (by omega) (by decide) (rfl) dX1_patchCount_17 ?_
        refine lv_iconst (v := -1) hx hb dX1_patchCount_18 (by decide) ?_
        have J19 : ∀ (ls : Array Slot), lv_has ls 3 [(0, .ref h), (1, .int (nI (ct (fun a => σ (141 + a) != 0) (i + 1)))), (2, .int (nI i))] → W p l e (rmK 1 20) s m args below meth c s.heap [] 0 0 (MQ below (QcRead (nI (ct (fun a => σ (141 + a) != 0) (nA σ)))) args s 0 0 (fun _ => False)) (F0 m 25 ls []) := by
          intro ls hl
          refine nv_inc (k := 2) (lv' := [(2, .int (nI (i + 1))), (0, .ref h), (1, .int (nI (ct (fun a => σ (141 + a) != 0) (i + 1))))]) hx hb dX1_patchCount_25 hl rfl (by decide) rfl (fun ls hl => ?_)
          refine lv_goto (tgt := 4) hx hb dX1_patchCount_28 (by decide) ?_
          exact ih4 (i + 1) (by omega) (by omega)  ls (lv_sub hl [1, 2, 0] rfl)
        refine lv_icmp_eq (tgt := 25) hx hb dX1_patchCount_19 (by decide) (fun q_19 => ?_) (fun q_19 => ?_)
        · have hl := lv_repl [(0, .ref h), (1, .int (nI (ct (fun a => σ (141 + a) != 0) (i + 1)))), (2, .int (nI i))] 1 rfl (congrArg (fun z : Nat => Value.int (nI z)) (show (ct (fun a => σ (141 + a) != 0) i) = (ct (fun a => σ (141 + a) != 0) (i + 1)) from by rw [ct_s]; first | (rw [(ptF_m1 (hw.pt (by omega))).mp q_19]; rfl) | (rw [bne_iff_ne.mpr (mt (ptF_m1 (hw.pt (show i < nA σ by omega))).mpr q_19)]; rfl))) rfl hl
          exact J19 ls (lv_sub hl [0, 1, 2] rfl)
        · refine nv_inc (k := 1) (lv' := [(1, .int (nI ((ct (fun a => σ (141 + a) != 0) i) + 1))), (0, .ref h), (2, .int (nI i))]) hx hb dX1_patchCount_22 hl rfl (by decide) rfl (fun ls hl => ?_)
          have hl := lv_repl [(1, .int (nI (ct (fun a => σ (141 + a) != 0) (i + 1)))), (0, .ref h), (2, .int (nI i))] 0 rfl (congrArg (fun z : Nat => Value.int (nI z)) (show ((ct (fun a => σ (141 + a) != 0) i) + 1) = (ct (fun a => σ (141 + a) != 0) (i + 1)) from by rw [ct_s]; first | (rw [(ptF_m1 (hw.pt (by omega))).mp q_19]; rfl) | (rw [bne_iff_ne.mpr (mt (ptF_m1 (hw.pt (show i < nA σ by omega))).mpr q_19)]; rfl))) rfl hl
          exact J19 ls (lv_sub hl [1, 0, 2] rfl)
  exact L4 (nA σ + 1) 0 (by omega) (by omega)  ls (lv_sub hl [2, 1, 0] rfl)
set_option maxHeartbeats 4000000 in
set_option maxRecDepth 100000 in
theorem c_X1_number (l : Launch) (D : va_G) (cI cR : ClassId) (h : Nat) (a : Nat → Nat) (σ : Nat → Nat) (k : Nat)  (hw : wf σ) (h0 : k < 9) : MetR l yX1_number cX1_number 2 (some .int) (rmK 3 64) (nPre D (nTy cI cR) [.ref h, .int (nI k)] (wRp h a cI (σ 0) (σ 1) (σ 2) (onF σ) (wwF σ) (crF σ) (ptF σ))) (nI (nuN σ k)) := by
  refine met_read rfl (Nat.le_of_ble_eq_true rfl) ?_
  intro p e s m args below meth c ls hx hb hml hr hlocks hown hts hP hK hl
  have hl : lv_has ls 2 [(0, .ref h), (1, .int (nI k))] := hl
  have hA41 := hw.w41
  have hA33 := hw.a33
  have hA48 := hw.a48
  obtain ⟨hR2, hR, hB1, hB, hS1, hS, -⟩ := id hw
  refine lv_iload_n hx hb dX1_number_0 rfl (lv_at hl 1 rfl) ?_
  rcases (show k = 0 ∨ k = 1 ∨ k = 2 ∨ k = 3 ∨ k = 4 ∨ k = 5 ∨ k = 6 ∨ k = 7 ∨ k = 8 by omega) with rfl | rfl | rfl | rfl | rfl | rfl | rfl | rfl | rfl
  · refine lv_tableIn (off := 47) (tgt := 48) hx hb dX1_number_1 (by decide) (by decide) rfl (by decide) ?_
    refine lv_aload_n hx hb dX1_number_48 rfl (lv_at hl 0 rfl) ?_
    refine va_get (D := D) (ci := 1) (v := .int (nI (σ 0))) (C := RX1) (T := TX1) (N := 7) hx hb hts inX1 hown hK hP 0 rfl rfl 0 (by decide) (hts _ fl_RX1_28) (fun _ h9 => h9) rfl dX1_number_49 ?_
    exact nv_ret hx hb hr hlocks (rfl) dX1_number_52
  · refine lv_tableIn (off := 52) (tgt := 53) hx hb dX1_number_1 (by decide) (by decide) rfl (by decide) ?_
    refine lv_aload_n hx hb dX1_number_53 rfl (lv_at hl 0 rfl) ?_
    refine va_get (D := D) (ci := 1) (v := .int (nI (σ 1))) (C := RX1) (T := TX1) (N := 7) hx hb hts inX1 hown hK hP 0 rfl rfl 1 (by decide) (hts _ fl_RX1_32) (fun _ h9 => h9) rfl dX1_number_54 ?_
    exact nv_ret hx hb hr hlocks (rfl) dX1_number_57
  · refine lv_tableIn (off := 57) (tgt := 58) hx hb dX1_number_1 (by decide) (by decide) rfl (by decide) ?_
    refine lv_aload_n hx hb dX1_number_58 rfl (lv_at hl 0 rfl) ?_
    refine va_get (D := D) (ci := 1) (v := .int (nI (σ 2))) (C := RX1) (T := TX1) (N := 7) hx hb hts inX1 hown hK hP 0 rfl rfl 2 (by decide) (hts _ fl_RX1_35) (fun _ h9 => h9) rfl dX1_number_59 ?_
    exact nv_ret hx hb hr hlocks (rfl) dX1_number_62
  · refine lv_tableIn (off := 62) (tgt := 63) hx hb dX1_number_1 (by decide) (by decide) rfl (by decide) ?_
    refine lv_aload_n hx hb dX1_number_63 rfl (lv_at hl 0 rfl) ?_
    refine nv_callV [] [] hx hb hml hown hts k_RX1_42 (c_X1_addressesS l D cI cR h a σ ) ⟨rfl, rfl, Nat.le_of_ble_eq_true rfl, Nat.le_of_ble_eq_true rfl⟩ hP hK 1 rfl rfl rfl rfl hl rfl (Nat.le_of_ble_eq_true rfl) dX1_number_64 ⟨Nat.zero_le _, Nat.zero_le _⟩ ?_
    exact nv_ret hx hb hr hlocks (rfl) dX1_number_67
  · refine lv_tableIn (off := 67) (tgt := 68) hx hb dX1_number_1 (by decide) (by decide) rfl (by decide) ?_
    refine lv_aload_n hx hb dX1_number_68 rfl (lv_at hl 0 rfl) ?_
    refine nv_callV [] [] hx hb hml hown hts k_RX1_55 (c_X1_wiresS l D cI cR h a σ ) ⟨rfl, rfl, Nat.le_of_ble_eq_true rfl, Nat.le_of_ble_eq_true rfl⟩ hP hK 1 rfl rfl rfl rfl hl rfl (Nat.le_of_ble_eq_true rfl) dX1_number_69 ⟨Nat.zero_le _, Nat.zero_le _⟩ ?_
    exact nv_ret hx hb hr hlocks (rfl) dX1_number_72
  · refine lv_tableIn (off := 72) (tgt := 73) hx hb dX1_number_1 (by decide) (by decide) rfl (by decide) ?_
    refine lv_aload_n hx hb dX1_number_73 rfl (lv_at hl 0 rfl) ?_
    refine nv_callV [] [] hx hb hml hown hts k_RX1_61 (c_X1_crossedWires l D cI cR h a σ hw) ⟨rfl, rfl, Nat.le_of_ble_eq_true rfl, Nat.le_of_ble_eq_true rfl⟩ hP hK 1 rfl rfl rfl rfl hl rfl (Nat.le_of_ble_eq_true rfl) dX1_number_74 ⟨Nat.zero_le _, Nat.zero_le _⟩ ?_
    exact nv_ret hx hb hr hlocks (rfl) dX1_number_77
  · refine lv_tableIn (off := 77) (tgt := 78) hx hb dX1_number_1 (by decide) (by decide) rfl (by decide) ?_
    refine lv_aload_n hx hb dX1_number_78 rfl (lv_at hl 0 rfl) ?_
    refine nv_callV [] [] hx hb hml hown hts k_RX1_64 (c_X1_wrongWeaveCount l D cI cR h a σ hw) ⟨rfl, rfl, Nat.le_of_ble_eq_true rfl, Nat.le_of_ble_eq_true rfl⟩ hP hK 1 rfl rfl rfl rfl hl rfl (Nat.le_of_ble_eq_true rfl) dX1_number_79 ⟨Nat.zero_le _, Nat.zero_le _⟩ ?_
    exact nv_ret hx hb hr hlocks (rfl) dX1_number_82
  · refine lv_tableIn (off := 82) (tgt := 83) hx hb dX1_number_1 (by decide) (by decide) rfl (by decide) ?_
    refine lv_aload_n hx hb dX1_number_83 rfl (lv_at hl 0 rfl) ?_
    refine nv_callV [] [] hx hb hml hown hts k_RX1_67 (c_X1_patchCount l D cI cR h a σ hw) ⟨rfl, rfl, Nat.le_of_ble_eq_true rfl, Nat.le_of_ble_eq_true rfl⟩ hP hK 1 rfl rfl rfl rfl hl rfl (Nat.le_of_ble_eq_true rfl) dX1_number_84 ⟨Nat.zero_le _, Nat.zero_le _⟩ ?_
    exact nv_ret hx hb hr hlocks (rfl) dX1_number_87
  · refine lv_tableOut (tgt := 88) hx hb dX1_number_1 (Or.inr (by decide)) (by decide) ?_
    refine lv_aload_n hx hb dX1_number_88 rfl (lv_at hl 0 rfl) ?_
    refine nv_callV [] [] hx hb hml hown hts k_RX1_70 (c_X1_wholeCost l D cI cR h a σ hw) ⟨rfl, rfl, Nat.le_of_ble_eq_true rfl, Nat.le_of_ble_eq_true rfl⟩ hP hK 1 rfl rfl rfl rfl hl rfl (Nat.le_of_ble_eq_true rfl) dX1_number_89 ⟨Nat.zero_le _, Nat.zero_le _⟩ ?_
    exact nv_ret hx hb hr hlocks (rfl) dX1_number_92
set_option maxHeartbeats 4000000 in
set_option maxRecDepth 100000 in
theorem c_X1_patchAt (l : Launch) (D : va_G) (cI cR : ClassId) (h : Nat) (a : Nat → Nat) (σ : Nat → Nat) (ad : Nat)  (hw : wf σ) (h1 : ad < nA σ) : MetR l yX1_patchAt cX1_patchAt 2 (some .int) (rmK 0 0) (nPre D (nTy cI cR) [.ref h, .int (nI ad)] (wRp h a cI (σ 0) (σ 1) (σ 2) (onF σ) (wwF σ) (crF σ) (ptF σ))) (ptF σ ad) := by
  refine met_read rfl (Nat.le_of_ble_eq_true rfl) ?_
  intro p e s m args below meth c ls hx hb hml hr hlocks hown hts hP hK hl
  have hl : lv_has ls 2 [(0, .ref h), (1, .int (nI ad))] := hl
  have hA41 := hw.w41
  have hA33 := hw.a33
  have hA48 := hw.a48
  obtain ⟨hR2, hR, hB1, hB, hS1, hS, -⟩ := id hw
  refine lv_aload_n hx hb dX1_patchAt_0 rfl (lv_at hl 0 rfl) ?_
  refine va_get (D := D) (ci := 1) (v := .ref (a 3)) (C := RX1) (T := TX1) (N := 7) hx hb hts inX1 hown hK hP 0 rfl rfl 6 (by decide) (hts _ fl_RX1_21) (fun _ h9 => h9) rfl dX1_patchAt_1 ?_
  refine lv_iload_n hx hb dX1_patchAt_4 rfl (lv_at hl 1 rfl) ?_
  refine nv_iald (D := D) (v := (ptF σ) ad) hx hb hK hP 4 0 rfl rfl (k := ad) (by omega) (by decide) (rfl) dX1_patchAt_5 ?_
  exact nv_ret hx hb hr hlocks (rfl) dX1_patchAt_6
set_option maxHeartbeats 4000000 in
set_option maxRecDepth 100000 in
theorem c_X1_strayRings (l : Launch) (D : va_G) (cI cR : ClassId) (h : Nat) (a : Nat → Nat) (σ : Nat → Nat)   (hw : wf σ) : MetR l yX1_strayRings cX1_strayRings 4 (some .int) (rmK 2 50) (nPre D (nTy cI cR) [.ref h] (wRp h a cI (σ 0) (σ 1) (σ 2) (onF σ) (wwF σ) (crF σ) (ptF σ))) (nI (stA σ (nA σ))) := by
  refine met_read rfl (Nat.le_of_ble_eq_true rfl) ?_
  intro p e s m args below meth c ls hx hb hml hr hlocks hown hts hP hK hl
  have hl : lv_has ls 4 [(0, .ref h)] := hl
  have hA41 := hw.w41
  have hA33 := hw.a33
  have hA48 := hw.a48
  obtain ⟨hR2, hR, hB1, hB, hS1, hS, -⟩ := id hw
  refine lv_iconst (v := nI 0) hx hb dX1_strayRings_0 (by decide) ?_
  refine lv_istore_n (lv' := [(1, .int (nI 0)), (0, .ref h)]) hx hb dX1_strayRings_1 rfl hl (by decide) rfl (fun ls hl => ?_)
  refine lv_iconst (v := nI 0) hx hb dX1_strayRings_2 (by decide) ?_
  refine lv_istore_n (lv' := [(2, .int (nI 0)), (1, .int (nI 0)), (0, .ref h)]) hx hb dX1_strayRings_3 rfl hl (by decide) rfl (fun ls hl => ?_)
  have L4 : ∀ (n4 i : Nat), nA σ + 1 ≤ i + n4 → i ≤ nA σ → ∀ (ls : Array Slot), lv_has ls 4 [(0, .ref h), (1, .int (nI (stA σ i))), (2, .int (nI i))] → W p l e (rmK 2 50) s m args below meth c s.heap [] 0 0 (MQ below (QcRead (nI (stA σ (nA σ)))) args s 0 0 (fun _ => False)) (F0 m 4 ls []) := by
    intro n4
    induction n4 with
    | zero =>
      intro i h1_4 h2_4
      exact False.elim (by omega)
    | succ n4 ih4 =>
      intro i h1_4 h2_4  ls hl
      refine lv_iload_n hx hb dX1_strayRings_4 rfl (lv_at hl 2 rfl) ?_
      refine lv_aload_n hx hb dX1_strayRings_5 rfl (lv_at hl 0 rfl) ?_
      refine nv_callV [] [.int (nI i)] hx hb hml hown hts k_RX1_42 (c_X1_addressesS l D cI cR h a σ ) ⟨rfl, rfl, Nat.le_of_ble_eq_true rfl, Nat.le_of_ble_eq_true rfl⟩ hP hK 1 rfl rfl rfl rfl hl rfl (Nat.le_of_ble_eq_true rfl) dX1_strayRings_6 ⟨Nat.zero_le _, Nat.zero_le _⟩ ?_
      refine nv_icmp_ge (tgt := 50) hx hb dX1_strayRings_9 (by decide) (by omega) (by omega) (fun q_9 => ?_) (fun q_9 => ?_)
      · refine lv_iload_n hx hb dX1_strayRings_50 rfl (lv_at hl 1 rfl) ?_
        exact nv_ret hx hb hr hlocks (congrArg nI (by rw [show i = nA σ by omega])) dX1_strayRings_51
      · obtain ⟨hd1, hd2, hd3⟩ := ad_div hS1 (show i < nA σ by omega)
        refine lv_aload_n hx hb dX1_strayRings_12 rfl (lv_at hl 0 rfl) ?_
        refine lv_iload_n hx hb dX1_strayRings_13 rfl (lv_at hl 2 rfl) ?_
        refine nv_callV [.int (nI i)] [] hx hb hml hown hts k_RX1_91 (c_X1_ringOf l D cI cR h a (σ 0) (σ 1) (σ 2) (onF σ) (wwF σ) (crF σ) (ptF σ) i (by omega) (by omega) (by omega)) ⟨rfl, rfl, Nat.le_of_ble_eq_true rfl, Nat.le_of_ble_eq_true rfl⟩ hP hK 1 rfl rfl rfl rfl hl rfl (Nat.le_of_ble_eq_true rfl) dX1_strayRings_14 ⟨Nat.zero_le _, Nat.zero_le _⟩ ?_
        refine lv_istore_n (lv' := [(3, .int (nI (i / (σ 2)))), (0, .ref h), (1, .int (nI (stA σ i))), (2, .int (nI i))]) hx hb dX1_strayRings_17 rfl hl (by decide) rfl (fun ls hl => ?_)
        refine lv_aload_n hx hb dX1_strayRings_18 rfl (lv_at hl 1 rfl) ?_
        refine lv_iload_n hx hb dX1_strayRings_19 rfl (lv_at hl 3 rfl) ?_
        refine nv_callV [.int (nI i)] [] hx hb hml hown hts k_RX1_114 (c_X1_rawBits l D cI cR h a σ i hw (by omega)) ⟨rfl, rfl, Nat.le_of_ble_eq_true rfl, Nat.le_of_ble_eq_true rfl⟩ hP hK 1 rfl rfl rfl rfl hl rfl (Nat.le_of_ble_eq_true rfl) dX1_strayRings_20 ⟨Nat.zero_le _, Nat.zero_le _⟩ ?_
        refine lv_aload_n hx hb dX1_strayRings_23 rfl (lv_at hl 1 rfl) ?_
        refine lv_aload_n hx hb dX1_strayRings_24 rfl (lv_at hl 1 rfl) ?_
        refine lv_iload_n hx hb dX1_strayRings_25 rfl (lv_at hl 3 rfl) ?_
        refine nv_callV [.int (nI i)] [.ref h, .int (nI (rwM (wvM σ) σ i))] hx hb hml hown hts k_RX1_88 (c_X1_setOf l D cI cR h a (σ 0) (σ 1) (σ 2) (onF σ) (wwF σ) (crF σ) (ptF σ) i (by omega) (by omega) (by omega)) ⟨rfl, rfl, Nat.le_of_ble_eq_true rfl, Nat.le_of_ble_eq_true rfl⟩ hP hK 1 rfl rfl rfl rfl hl rfl (Nat.le_of_ble_eq_true rfl) dX1_strayRings_26 ⟨Nat.zero_le _, Nat.zero_le _⟩ ?_
        refine lv_iconst (v := nI 1) hx hb dX1_strayRings_29 (by decide) ?_
        refine lv_iload_n hx hb dX1_strayRings_30 rfl (lv_at hl 0 rfl) ?_
        refine nv_ishl hx hb dX1_strayRings_31 (by omega) ?_
        refine nv_callV [.int (nI (i % (σ 2))), .int (nI (1 <<< (i / (σ 2))))] [.int (nI (rwM (wvM σ) σ i))] hx hb hml hown hts k_RX1_94 (c_X1_rightBits l D cI cR h a σ (i % (σ 2)) (1 <<< (i / (σ 2))) hw hd2) ⟨rfl, rfl, Nat.le_of_ble_eq_true rfl, Nat.le_of_ble_eq_true rfl⟩ hP hK 1 rfl rfl rfl rfl hl rfl (Nat.le_of_ble_eq_true rfl) dX1_strayRings_32 ⟨Nat.zero_le _, Nat.zero_le _⟩ ?_
        have J35 : ∀ (ls : Array Slot), lv_has ls 4 [(0, .ref h), (1, .int (nI (stA σ (i + 1)))), (2, .int (nI i))] → W p l e (rmK 2 50) s m args below meth c s.heap [] 0 0 (MQ below (QcRead (nI (stA σ (nA σ)))) args s 0 0 (fun _ => False)) (F0 m 44 ls []) := by
          intro ls hl
          refine nv_inc (k := 2) (lv' := [(2, .int (nI (i + 1))), (0, .ref h), (1, .int (nI (stA σ (i + 1))))]) hx hb dX1_strayRings_44 hl rfl (by decide) rfl (fun ls hl => ?_)
          refine lv_goto (tgt := 4) hx hb dX1_strayRings_47 (by decide) ?_
          exact ih4 (i + 1) (by omega) (by omega)  ls (lv_sub hl [1, 2, 0] rfl)
        refine nv_icmp_eq (tgt := 44) hx hb dX1_strayRings_35 (by decide) (Nat.lt_trans (rwM_lt hw _ _) (by decide)) (Nat.lt_trans (rbM_lt hw _ _) (by decide)) (fun q_35 => ?_) (fun q_35 => ?_)
        · have hl := lv_repl [(3, .int (nI (i / (σ 2)))), (0, .ref h), (1, .int (nI (stA σ (i + 1)))), (2, .int (nI i))] 2 rfl (congrArg (fun z : Nat => Value.int (nI z)) (show (stA σ i) = (stA σ (i + 1)) from by rw [stA]; first | rw [if_pos q_35] | rw [if_neg q_35])) rfl hl
          exact J35 ls (lv_sub hl [1, 2, 3] rfl)
        · refine lv_iload_n hx hb dX1_strayRings_38 rfl (lv_at hl 2 rfl) ?_
          refine lv_iconst (v := nI 1) hx hb dX1_strayRings_39 (by decide) ?_
          refine lv_iload_n hx hb dX1_strayRings_40 rfl (lv_at hl 0 rfl) ?_
          refine nv_ishl hx hb dX1_strayRings_41 (by omega) ?_
          refine nv_ior hx hb dX1_strayRings_42 ?_
          refine lv_istore_n (lv' := [(1, .int (nI ((stA σ i) ||| (1 <<< (i / (σ 2)))))), (3, .int (nI (i / (σ 2)))), (0, .ref h), (2, .int (nI i))]) hx hb dX1_strayRings_43 rfl hl (by decide) rfl (fun ls hl => ?_)
          have hl := lv_repl [(1, .int (nI (stA σ (i + 1)))), (3, .int (nI (i / (σ 2)))), (0, .ref h), (2, .int (nI i))] 0 rfl (congrArg (fun z : Nat => Value.int (nI z)) (show ((stA σ i) ||| (1 <<< (i / (σ 2)))) = (stA σ (i + 1)) from by rw [stA]; first | rw [if_pos q_35] | rw [if_neg q_35])) rfl hl
          exact J35 ls (lv_sub hl [2, 0, 3] rfl)
  exact L4 (nA σ + 1) 0 (by omega) (by omega)  ls (lv_sub hl [2, 1, 0] rfl)
set_option maxHeartbeats 4000000 in
set_option maxRecDepth 100000 in
theorem c_X1_senseExplains (l : Launch) (D : va_G) (cI cR : ClassId) (h : Nat) (a : Nat → Nat) (σ : Nat → Nat) (w : Nat) (r : Nat) (t : Nat)  (hw : wf σ) (h1 : w < nW σ) (h2 : r < σ 0) (ht : t = stA σ (nA σ)) : MetR l yX1_senseExplains cX1_senseExplains 7 (some .boolean) (rmK 2 50) (nPre D (nTy cI cR) [.ref h, .int (nI w), .int (nI r), .int (nI t)] (wRp h a cI (σ 0) (σ 1) (σ 2) (onF σ) (wwF σ) (crF σ) (ptF σ))) (zB (snE σ w r)) := by
  refine met_read rfl (Nat.le_of_ble_eq_true rfl) ?_
  intro p e s m args below meth c ls hx hb hml hr hlocks hown hts hP hK hl
  have hl : lv_has ls 7 [(0, .ref h), (1, .int (nI w)), (2, .int (nI r)), (3, .int (nI t))] := hl
  have hA41 := hw.w41
  have hA33 := hw.a33
  have hA48 := hw.a48
  obtain ⟨hR2, hR, hB1, hB, hS1, hS, -⟩ := id hw
  have hst : t < 65536 := ht ▸ stA_lt hw _ (Nat.le_refl _)
  have hp16 : 1 <<< r < 65536 := by rw [sh1]; exact (show 2 ^ r < 2 ^ 16 from Nat.pow_lt_pow_right (by decide) (by omega))
  refine lv_iload_n hx hb dX1_senseExplains_0 rfl (lv_at hl 3 rfl) ?_
  refine lv_iconst (v := nI 1) hx hb dX1_senseExplains_1 (by decide) ?_
  refine lv_iload_n hx hb dX1_senseExplains_2 rfl (lv_at hl 2 rfl) ?_
  refine nv_ishl hx hb dX1_senseExplains_3 (by omega) ?_
  refine nv_icmp_eq (tgt := 9) hx hb dX1_senseExplains_4 (by decide) (by omega) (by omega) (fun q_4 => ?_) (fun q_4 => ?_)
  · refine lv_iconst (v := nI 0) hx hb dX1_senseExplains_9 (by decide) ?_
    refine lv_istore (lv' := [(4, .int (nI 0)), (0, .ref h), (1, .int (nI w)), (2, .int (nI r)), (3, .int (nI t))]) hx hb dX1_senseExplains_10 hl (by decide) rfl (fun ls hl => ?_)
    have L12 : ∀ (n12 i : Nat), σ 2 + 1 ≤ i + n12 → i ≤ σ 2 → (∀ j, j < i → rwM (wvM σ) σ (σ 2 * r + j) = rbM σ j (1 <<< r) ^^^ tnN σ w j) → ∀ (ls : Array Slot), lv_has ls 7 [(4, .int (nI i)), (0, .ref h), (1, .int (nI w)), (2, .int (nI r)), (3, .int (nI t))] → W p l e (rmK 2 50) s m args below meth c s.heap [] 0 0 (MQ below (QcRead (zB (snE σ w r))) args s 0 0 (fun _ => False)) (F0 m 12 ls []) := by
      intro n12
      induction n12 with
      | zero =>
        intro i h1_12 h2_12
        exact False.elim (by omega)
      | succ n12 ih12 =>
        intro i h1_12 h2_12 hno ls hl
        refine lv_iload hx hb dX1_senseExplains_12 (lv_at hl 0 rfl) ?_
        refine lv_aload_n hx hb dX1_senseExplains_14 rfl (lv_at hl 1 rfl) ?_
        refine va_get (D := D) (ci := 1) (v := .int (nI (σ 2))) (C := RX1) (T := TX1) (N := 7) hx hb hts inX1 hown hK hP 0 rfl rfl 2 (by decide) (hts _ fl_RX1_35) (fun _ h9 => h9) rfl dX1_senseExplains_15 ?_
        refine nv_icmp_ge (tgt := 92) hx hb dX1_senseExplains_18 (by decide) (by omega) (by omega) (fun q_18 => ?_) (fun q_18 => ?_)
        · refine lv_iconst (v := nI 1) hx hb dX1_senseExplains_92 (by decide) ?_
          exact nv_retz hx hb hr hlocks (by decide) (zB_1 (snE_t (ht.symm.trans q_4) (fun j hj => hno j (by omega)))) dX1_senseExplains_93
        · refine lv_iload_n hx hb dX1_senseExplains_21 rfl (lv_at hl 2 rfl) ?_
          refine lv_aload_n hx hb dX1_senseExplains_22 rfl (lv_at hl 1 rfl) ?_
          refine lv_iload hx hb dX1_senseExplains_23 (lv_at hl 0 rfl) ?_
          refine lv_iconst (v := nI 0) hx hb dX1_senseExplains_25 (by decide) ?_
          refine nv_callV [.int (nI i), .int (nI 0)] [.int (nI w)] hx hb hml hown hts k_RX1_98 (c_X1_senseWire l D cI cR h a (σ 0) (σ 1) (σ 2) (onF σ) (wwF σ) (crF σ) (ptF σ) i 0 ) ⟨rfl, rfl, Nat.le_of_ble_eq_true rfl, Nat.le_of_ble_eq_true rfl⟩ hP hK 1 rfl rfl rfl rfl hl rfl (Nat.le_of_ble_eq_true rfl) dX1_senseExplains_26 ⟨Nat.zero_le _, Nat.zero_le _⟩ ?_
          have hsw := sw_lt (σ := σ) (b := 0) (show i < σ 2 by omega) (by omega)
          refine nv_top (8 + i * (σ 1 + 1)) (Nat.add_zero _) ?_
          by_cases hc : 8 + i * (σ 1 + 1) ≤ w
          · refine nv_isub hx hb dX1_senseExplains_29 hc ?_
            refine lv_istore (lv' := [(5, .int (nI (w - (8 + i * (σ 1 + 1))))), (4, .int (nI i)), (0, .ref h), (1, .int (nI w)), (2, .int (nI r)), (3, .int (nI t))]) hx hb dX1_senseExplains_30 hl (by decide) rfl (fun ls hl => ?_)
            refine lv_iload hx hb dX1_senseExplains_32 (lv_at hl 0 rfl) ?_
            refine nv_if_lt (tgt := 53) hx hb dX1_senseExplains_34 (by decide) (by omega) ?_
            refine lv_iload hx hb dX1_senseExplains_37 (lv_at hl 0 rfl) ?_
            refine lv_aload_n hx hb dX1_senseExplains_39 rfl (lv_at hl 2 rfl) ?_
            refine va_get (D := D) (ci := 1) (v := .int (nI (σ 1))) (C := RX1) (T := TX1) (N := 7) hx hb hts inX1 hown hK hP 0 rfl rfl 1 (by decide) (hts _ fl_RX1_32) (fun _ h9 => h9) rfl dX1_senseExplains_40 ?_
            refine nv_icmp_gt (tgt := 53) hx hb dX1_senseExplains_43 (by decide) (by omega) (by omega) (fun q_43 => ?_) (fun q_43 => ?_)
            · refine lv_iconst (v := nI 0) hx hb dX1_senseExplains_53 (by decide) ?_
              refine nv_top (tnN σ w i) (by unfold tnN; rw [if_neg (fun z => by omega)]) ?_
              refine lv_istore (lv' := [(6, .int (nI (tnN σ w i))), (5, .int (nI (w - (8 + i * (σ 1 + 1))))), (4, .int (nI i)), (0, .ref h), (1, .int (nI w)), (2, .int (nI r)), (3, .int (nI t))]) hx hb dX1_senseExplains_54 hl (by decide) rfl (fun ls hl => ?_)
              have htn := tn_lt hw w i
              refine lv_aload_n hx hb dX1_senseExplains_56 rfl (lv_at hl 3 rfl) ?_
              refine lv_aload_n hx hb dX1_senseExplains_57 rfl (lv_at hl 3 rfl) ?_
              refine va_get (D := D) (ci := 1) (v := .int (nI (σ 2))) (C := RX1) (T := TX1) (N := 7) hx hb hts inX1 hown hK hP 0 rfl rfl 2 (by decide) (hts _ fl_RX1_35) (fun _ h9 => h9) rfl dX1_senseExplains_58 ?_
              refine lv_iload_n hx hb dX1_senseExplains_61 rfl (lv_at hl 5 rfl) ?_
              refine nv_imul hx hb dX1_senseExplains_62 ?_
              refine lv_iload hx hb dX1_senseExplains_63 (lv_at hl 2 rfl) ?_
              refine nv_iadd hx hb dX1_senseExplains_65 ?_
              refine nv_callV [.int (nI (((σ 2) * r) + i))] [] hx hb hml hown hts k_RX1_114 (c_X1_rawBits l D cI cR h a σ (((σ 2) * r) + i) hw (sr_lt h2 (by omega))) ⟨rfl, rfl, Nat.le_of_ble_eq_true rfl, Nat.le_of_ble_eq_true rfl⟩ hP hK 1 rfl rfl rfl rfl hl rfl (Nat.le_of_ble_eq_true rfl) dX1_senseExplains_66 ⟨Nat.zero_le _, Nat.zero_le _⟩ ?_
              refine lv_aload_n hx hb dX1_senseExplains_69 rfl (lv_at hl 3 rfl) ?_
              refine lv_iload hx hb dX1_senseExplains_70 (lv_at hl 2 rfl) ?_
              refine lv_iconst (v := nI 1) hx hb dX1_senseExplains_72 (by decide) ?_
              refine lv_iload_n hx hb dX1_senseExplains_73 rfl (lv_at hl 5 rfl) ?_
              refine nv_ishl hx hb dX1_senseExplains_74 (by omega) ?_
              refine nv_callV [.int (nI i), .int (nI (1 <<< r))] [.int (nI (rwM (wvM σ) σ (((σ 2) * r) + i)))] hx hb hml hown hts k_RX1_94 (c_X1_rightBits l D cI cR h a σ i (1 <<< r) hw (by omega)) ⟨rfl, rfl, Nat.le_of_ble_eq_true rfl, Nat.le_of_ble_eq_true rfl⟩ hP hK 1 rfl rfl rfl rfl hl rfl (Nat.le_of_ble_eq_true rfl) dX1_senseExplains_75 ⟨Nat.zero_le _, Nat.zero_le _⟩ ?_
              refine lv_iload hx hb dX1_senseExplains_78 (lv_at hl 0 rfl) ?_
              refine nv_ixor hx hb dX1_senseExplains_80 ?_
              refine nv_icmp_eq (tgt := 86) hx hb dX1_senseExplains_81 (by decide) (Nat.lt_trans (rwM_lt hw _ _) (by decide)) (Nat.lt_trans (Nat.xor_lt_two_pow (n := 11) (rbM_lt hw _ _) htn) (by decide)) (fun q_81 => ?_) (fun q_81 => ?_)
              · refine nv_inc (k := 2) (lv' := [(4, .int (nI (i + 1))), (6, .int (nI (tnN σ w i))), (5, .int (nI (w - (8 + i * (σ 1 + 1))))), (0, .ref h), (1, .int (nI w)), (2, .int (nI r)), (3, .int (nI t))]) hx hb dX1_senseExplains_86 hl rfl (by decide) rfl (fun ls hl => ?_)
                refine lv_goto (tgt := 12) hx hb dX1_senseExplains_89 (by decide) ?_
                exact ih12 (i + 1) (by omega) (by omega) (fun j hj => by rcases Nat.lt_succ_iff_lt_or_eq.mp hj with q | q; exact hno j q; exact q ▸ q_81) ls (lv_sub hl [0, 3, 4, 5, 6] rfl)
              · refine lv_iconst (v := nI 0) hx hb dX1_senseExplains_84 (by decide) ?_
                exact nv_retz hx hb hr hlocks (by decide) (zB_0 (snE_f2 (by omega) q_81)) dX1_senseExplains_85
            · refine lv_iconst (v := nI 1) hx hb dX1_senseExplains_46 (by decide) ?_
              refine lv_iload hx hb dX1_senseExplains_47 (lv_at hl 0 rfl) ?_
              refine nv_ishl hx hb dX1_senseExplains_49 (by omega) ?_
              refine lv_goto (tgt := 54) hx hb dX1_senseExplains_50 (by decide) ?_
              refine nv_top (tnN σ w i) (by unfold tnN; rw [if_pos ⟨hc, by omega⟩]) ?_
              refine lv_istore (lv' := [(6, .int (nI (tnN σ w i))), (5, .int (nI (w - (8 + i * (σ 1 + 1))))), (4, .int (nI i)), (0, .ref h), (1, .int (nI w)), (2, .int (nI r)), (3, .int (nI t))]) hx hb dX1_senseExplains_54 hl (by decide) rfl (fun ls hl => ?_)
              have htn := tn_lt hw w i
              refine lv_aload_n hx hb dX1_senseExplains_56 rfl (lv_at hl 3 rfl) ?_
              refine lv_aload_n hx hb dX1_senseExplains_57 rfl (lv_at hl 3 rfl) ?_
              refine va_get (D := D) (ci := 1) (v := .int (nI (σ 2))) (C := RX1) (T := TX1) (N := 7) hx hb hts inX1 hown hK hP 0 rfl rfl 2 (by decide) (hts _ fl_RX1_35) (fun _ h9 => h9) rfl dX1_senseExplains_58 ?_
              refine lv_iload_n hx hb dX1_senseExplains_61 rfl (lv_at hl 5 rfl) ?_
              refine nv_imul hx hb dX1_senseExplains_62 ?_
              refine lv_iload hx hb dX1_senseExplains_63 (lv_at hl 2 rfl) ?_
              refine nv_iadd hx hb dX1_senseExplains_65 ?_
              refine nv_callV [.int (nI (((σ 2) * r) + i))] [] hx hb hml hown hts k_RX1_114 (c_X1_rawBits l D cI cR h a σ (((σ 2) * r) + i) hw (sr_lt h2 (by omega))) ⟨rfl, rfl, Nat.le_of_ble_eq_true rfl, Nat.le_of_ble_eq_true rfl⟩ hP hK 1 rfl rfl rfl rfl hl rfl (Nat.le_of_ble_eq_true rfl) dX1_senseExplains_66 ⟨Nat.zero_le _, Nat.zero_le _⟩ ?_
              refine lv_aload_n hx hb dX1_senseExplains_69 rfl (lv_at hl 3 rfl) ?_
              refine lv_iload hx hb dX1_senseExplains_70 (lv_at hl 2 rfl) ?_
              refine lv_iconst (v := nI 1) hx hb dX1_senseExplains_72 (by decide) ?_
              refine lv_iload_n hx hb dX1_senseExplains_73 rfl (lv_at hl 5 rfl) ?_
              refine nv_ishl hx hb dX1_senseExplains_74 (by omega) ?_
              refine nv_callV [.int (nI i), .int (nI (1 <<< r))] [.int (nI (rwM (wvM σ) σ (((σ 2) * r) + i)))] hx hb hml hown hts k_RX1_94 (c_X1_rightBits l D cI cR h a σ i (1 <<< r) hw (by omega)) ⟨rfl, rfl, Nat.le_of_ble_eq_true rfl, Nat.le_of_ble_eq_true rfl⟩ hP hK 1 rfl rfl rfl rfl hl rfl (Nat.le_of_ble_eq_true rfl) dX1_senseExplains_75 ⟨Nat.zero_le _, Nat.zero_le _⟩ ?_
              refine lv_iload hx hb dX1_senseExplains_78 (lv_at hl 0 rfl) ?_
              refine nv_ixor hx hb dX1_senseExplains_80 ?_
              refine nv_icmp_eq (tgt := 86) hx hb dX1_senseExplains_81 (by decide) (Nat.lt_trans (rwM_lt hw _ _) (by decide)) (Nat.lt_trans (Nat.xor_lt_two_pow (n := 11) (rbM_lt hw _ _) htn) (by decide)) (fun q_81 => ?_) (fun q_81 => ?_)
              · refine nv_inc (k := 2) (lv' := [(4, .int (nI (i + 1))), (6, .int (nI (tnN σ w i))), (5, .int (nI (w - (8 + i * (σ 1 + 1))))), (0, .ref h), (1, .int (nI w)), (2, .int (nI r)), (3, .int (nI t))]) hx hb dX1_senseExplains_86 hl rfl (by decide) rfl (fun ls hl => ?_)
                refine lv_goto (tgt := 12) hx hb dX1_senseExplains_89 (by decide) ?_
                exact ih12 (i + 1) (by omega) (by omega) (fun j hj => by rcases Nat.lt_succ_iff_lt_or_eq.mp hj with q | q; exact hno j q; exact q ▸ q_81) ls (lv_sub hl [0, 3, 4, 5, 6] rfl)
              · refine lv_iconst (v := nI 0) hx hb dX1_senseExplains_84 (by decide) ?_
                exact nv_retz hx hb hr hlocks (by decide) (zB_0 (snE_f2 (by omega) q_81)) dX1_senseExplains_85
          · refine lv_isub hx hb dX1_senseExplains_29 ?_
            refine lv_istore (lv' := [(5, .int ((nI (w)) - (nI (8 + i * (σ 1 + 1))))), (4, .int (nI i)), (0, .ref h), (1, .int (nI w)), (2, .int (nI r)), (3, .int (nI t))]) hx hb dX1_senseExplains_30 hl (by decide) rfl (fun ls hl => ?_)
            refine lv_iload hx hb dX1_senseExplains_32 (lv_at hl 0 rfl) ?_
            refine lv_if_lt (tgt := 53) hx hb dX1_senseExplains_34 (by decide) (fun q_34 => ?_) (fun q_34 => False.elim (q_34 (pk_sneg (by omega) (by omega))))
            refine lv_iconst (v := nI 0) hx hb dX1_senseExplains_53 (by decide) ?_
            refine nv_top (tnN σ w i) (by unfold tnN; rw [if_neg (fun z => hc z.1)]) ?_
            refine lv_istore (lv' := [(6, .int (nI (tnN σ w i))), (5, .int ((nI (w)) - (nI (8 + i * (σ 1 + 1))))), (4, .int (nI i)), (0, .ref h), (1, .int (nI w)), (2, .int (nI r)), (3, .int (nI t))]) hx hb dX1_senseExplains_54 hl (by decide) rfl (fun ls hl => ?_)
            have htn := tn_lt hw w i
            refine lv_aload_n hx hb dX1_senseExplains_56 rfl (lv_at hl 3 rfl) ?_
            refine lv_aload_n hx hb dX1_senseExplains_57 rfl (lv_at hl 3 rfl) ?_
            refine va_get (D := D) (ci := 1) (v := .int (nI (σ 2))) (C := RX1) (T := TX1) (N := 7) hx hb hts inX1 hown hK hP 0 rfl rfl 2 (by decide) (hts _ fl_RX1_35) (fun _ h9 => h9) rfl dX1_senseExplains_58 ?_
            refine lv_iload_n hx hb dX1_senseExplains_61 rfl (lv_at hl 5 rfl) ?_
            refine nv_imul hx hb dX1_senseExplains_62 ?_
            refine lv_iload hx hb dX1_senseExplains_63 (lv_at hl 2 rfl) ?_
            refine nv_iadd hx hb dX1_senseExplains_65 ?_
            refine nv_callV [.int (nI (((σ 2) * r) + i))] [] hx hb hml hown hts k_RX1_114 (c_X1_rawBits l D cI cR h a σ (((σ 2) * r) + i) hw (sr_lt h2 (by omega))) ⟨rfl, rfl, Nat.le_of_ble_eq_true rfl, Nat.le_of_ble_eq_true rfl⟩ hP hK 1 rfl rfl rfl rfl hl rfl (Nat.le_of_ble_eq_true rfl) dX1_senseExplains_66 ⟨Nat.zero_le _, Nat.zero_le _⟩ ?_
            refine lv_aload_n hx hb dX1_senseExplains_69 rfl (lv_at hl 3 rfl) ?_
            refine lv_iload hx hb dX1_senseExplains_70 (lv_at hl 2 rfl) ?_
            refine lv_iconst (v := nI 1) hx hb dX1_senseExplains_72 (by decide) ?_
            refine lv_iload_n hx hb dX1_senseExplains_73 rfl (lv_at hl 5 rfl) ?_
            refine nv_ishl hx hb dX1_senseExplains_74 (by omega) ?_
            refine nv_callV [.int (nI i), .int (nI (1 <<< r))] [.int (nI (rwM (wvM σ) σ (((σ 2) * r) + i)))] hx hb hml hown hts k_RX1_94 (c_X1_rightBits l D cI cR h a σ i (1 <<< r) hw (by omega)) ⟨rfl, rfl, Nat.le_of_ble_eq_true rfl, Nat.le_of_ble_eq_true rfl⟩ hP hK 1 rfl rfl rfl rfl hl rfl (Nat.le_of_ble_eq_true rfl) dX1_senseExplains_75 ⟨Nat.zero_le _, Nat.zero_le _⟩ ?_
            refine lv_iload hx hb dX1_senseExplains_78 (lv_at hl 0 rfl) ?_
            refine nv_ixor hx hb dX1_senseExplains_80 ?_
            refine nv_icmp_eq (tgt := 86) hx hb dX1_senseExplains_81 (by decide) (Nat.lt_trans (rwM_lt hw _ _) (by decide)) (Nat.lt_trans (Nat.xor_lt_two_pow (n := 11) (rbM_lt hw _ _) htn) (by decide)) (fun q_81 => ?_) (fun q_81 => ?_)
            · refine nv_inc (k := 2) (lv' := [(4, .int (nI (i + 1))), (6, .int (nI (tnN σ w i))), (5, .int ((nI (w)) - (nI (8 + i * (σ 1 + 1))))), (0, .ref h), (1, .int (nI w)), (2, .int (nI r)), (3, .int (nI t))]) hx hb dX1_senseExplains_86 hl rfl (by decide) rfl (fun ls hl => ?_)
              refine lv_goto (tgt := 12) hx hb dX1_senseExplains_89 (by decide) ?_
              exact ih12 (i + 1) (by omega) (by omega) (fun j hj => by rcases Nat.lt_succ_iff_lt_or_eq.mp hj with q | q; exact hno j q; exact q ▸ q_81) ls (lv_sub hl [0, 3, 4, 5, 6] rfl)
            · refine lv_iconst (v := nI 0) hx hb dX1_senseExplains_84 (by decide) ?_
              exact nv_retz hx hb hr hlocks (by decide) (zB_0 (snE_f2 (by omega) q_81)) dX1_senseExplains_85
    exact L12 (σ 2 + 1) 0 (by omega) (by omega) (fun j hj => absurd hj (Nat.not_lt_zero j)) ls (lv_sub hl [0, 1, 2, 3, 4] rfl)
  · refine lv_iconst (v := nI 0) hx hb dX1_senseExplains_7 (by decide) ?_
    exact nv_retz hx hb hr hlocks (by decide) (zB_0 (snE_f1 (fun q => q_4 (ht.trans q)))) dX1_senseExplains_8
set_option maxHeartbeats 4000000 in
set_option maxRecDepth 100000 in
theorem c_X1_inhibitExplains (l : Launch) (D : va_G) (cI cR : ClassId) (h : Nat) (a : Nat → Nat) (σ : Nat → Nat) (w : Nat) (r : Nat) (t : Nat)  (hw : wf σ) (h1 : w < 8) (h2 : r < σ 0) (ht : t = stA σ (nA σ)) : MetR l yX1_inhibitExplains cX1_inhibitExplains 8 (some .boolean) (rmK 2 50) (nPre D (nTy cI cR) [.ref h, .int (nI w), .int (nI r), .int (nI t)] (wRp h a cI (σ 0) (σ 1) (σ 2) (onF σ) (wwF σ) (crF σ) (ptF σ))) (zB (ihE σ w r)) := by
  refine met_read rfl (Nat.le_of_ble_eq_true rfl) ?_
  intro p e s m args below meth c ls hx hb hml hr hlocks hown hts hP hK hl
  have hl : lv_has ls 8 [(0, .ref h), (1, .int (nI w)), (2, .int (nI r)), (3, .int (nI t))] := hl
  have hA41 := hw.w41
  have hA33 := hw.a33
  have hA48 := hw.a48
  obtain ⟨hR2, hR, hB1, hB, hS1, hS, -⟩ := id hw
  have h8 : 8 ≤ nW σ := by unfold nW; omega
  have hst : t < 65536 := ht ▸ stA_lt hw _ (Nat.le_refl _)
  have hcd := hw.cd h2
  have hcq : σ (3 + r) ^^^ 1 <<< (w / 2) < 65536 := Nat.xor_lt_two_pow (n := 16) (by omega) (by rw [sh1]; exact Nat.pow_lt_pow_right (by decide) (by omega))
  refine lv_aload_n hx hb dX1_inhibitExplains_0 rfl (lv_at hl 0 rfl) ?_
  refine va_get (D := D) (ci := 1) (v := .ref (a 0)) (C := RX1) (T := TX1) (N := 7) hx hb hts inX1 hown hK hP 0 rfl rfl 3 (by decide) (hts _ fl_RX1_9) (fun _ h9 => h9) rfl dX1_inhibitExplains_1 ?_
  refine lv_iload_n hx hb dX1_inhibitExplains_4 rfl (lv_at hl 1 rfl) ?_
  refine nv_iald (D := D) (v := nI (onM σ w)) hx hb hK hP 1 0 rfl rfl (k := w) (by omega) (by decide) (rfl) dX1_inhibitExplains_5 ?_
  refine lv_iload_n hx hb dX1_inhibitExplains_6 rfl (lv_at hl 2 rfl) ?_
  refine nv_ishr hx hb dX1_inhibitExplains_7 (Nat.lt_trans (onM_lt hw _) (by decide)) (by omega) ?_
  refine lv_iconst (v := nI 1) hx hb dX1_inhibitExplains_8 (by decide) ?_
  refine nv_iand hx hb dX1_inhibitExplains_9 ?_
  refine nv_top (((onM σ w).testBit r).toNat) (nw_tb _ _) ?_
  refine nv_top ((ihb σ w r).toNat) (by rw [onM_bit (by omega) h2]; unfold onB; rw [if_pos h1]) ?_
  refine lv_iconst (v := nI 1) hx hb dX1_inhibitExplains_10 (by decide) ?_
  refine nv_icmp_ne (tgt := 18) hx hb dX1_inhibitExplains_11 (by decide) (by have := toNat_le (ihb σ w r); omega) (by omega) (fun q_11 => ?_) (fun q_11 => ?_)
  · have hbf : ihb σ w r = false := by cases hz : ihb σ w r with | false => rfl | true => exact absurd (by rw [hz]; rfl) q_11
    refine lv_iconst (v := nI 0) hx hb dX1_inhibitExplains_18 (by decide) ?_
    refine lv_istore (lv' := [(4, .int (nI 0)), (0, .ref h), (1, .int (nI w)), (2, .int (nI r)), (3, .int (nI t))]) hx hb dX1_inhibitExplains_19 hl (by decide) rfl (fun ls hl => ?_)
    refine lv_iload_n hx hb dX1_inhibitExplains_21 rfl (lv_at hl 3 rfl) ?_
    refine lv_istore (lv' := [(5, .int (nI r)), (4, .int (nI 0)), (0, .ref h), (1, .int (nI w)), (2, .int (nI r)), (3, .int (nI t))]) hx hb dX1_inhibitExplains_22 hl (by decide) rfl (fun ls hl => ?_)
    refine lv_iconst (v := nI 0) hx hb dX1_inhibitExplains_24 (by decide) ?_
    refine lv_istore (lv' := [(6, .int (nI 0)), (5, .int (nI r)), (4, .int (nI 0)), (0, .ref h), (1, .int (nI w)), (2, .int (nI r)), (3, .int (nI t))]) hx hb dX1_inhibitExplains_25 hl (by decide) rfl (fun ls hl => ?_)
    refine lv_iload hx hb dX1_inhibitExplains_27 (lv_at hl 2 rfl) ?_
    refine nv_if_eq (tgt := 75) hx hb dX1_inhibitExplains_29 (by decide) (by omega) (fun q_29 => ?_) (fun q_29 => False.elim (by omega))
    refine lv_iload_n hx hb dX1_inhibitExplains_75 rfl (lv_at hl 6 rfl) ?_
    refine lv_iconst (v := nI 1) hx hb dX1_inhibitExplains_76 (by decide) ?_
    refine lv_iload hx hb dX1_inhibitExplains_77 (lv_at hl 1 rfl) ?_
    refine nv_ishl hx hb dX1_inhibitExplains_79 (by omega) ?_
    refine lv_iconst (v := -1) hx hb dX1_inhibitExplains_80 (by decide) ?_
    refine lv_ixor hx hb dX1_inhibitExplains_81 ?_
    refine nv_iandn hx hb dX1_inhibitExplains_82 ?_
    have hwo := nw_wo_le t (1 <<< r)
    refine nv_if_eq (tgt := 88) hx hb dX1_inhibitExplains_83 (by decide) (by omega) (fun q_83 => ?_) (fun q_83 => ?_)
    · refine lv_iconst (v := nI 0) hx hb dX1_inhibitExplains_88 (by decide) ?_
      refine lv_istore (lv' := [(7, .int (nI 0)), (6, .int (nI 0)), (5, .int (nI r)), (4, .int (nI 0)), (0, .ref h), (1, .int (nI w)), (2, .int (nI r)), (3, .int (nI t))]) hx hb dX1_inhibitExplains_89 hl (by decide) rfl (fun ls hl => ?_)
      have L91 : ∀ (n91 i : Nat), σ 2 + 1 ≤ i + n91 → i ≤ σ 2 → (∀ j, j < i → rwM (wvM σ) σ (σ 2 * r + j) = rbM σ j (0)) → ∀ (ls : Array Slot), lv_has ls 8 [(7, .int (nI i)), (6, .int (nI 0)), (5, .int (nI r)), (4, .int (nI 0)), (0, .ref h), (1, .int (nI w)), (2, .int (nI r)), (3, .int (nI t))] → W p l e (rmK 2 50) s m args below meth c s.heap [] 0 0 (MQ below (QcRead (zB (ihE σ w r))) args s 0 0 (fun _ => False)) (F0 m 91 ls []) := by
        intro n91
        induction n91 with
        | zero =>
          intro i h1_91 h2_91
          exact False.elim (by omega)
        | succ n91 ih91 =>
          intro i h1_91 h2_91 hno ls hl
          refine lv_iload hx hb dX1_inhibitExplains_91 (lv_at hl 0 rfl) ?_
          refine lv_aload_n hx hb dX1_inhibitExplains_93 rfl (lv_at hl 4 rfl) ?_
          refine va_get (D := D) (ci := 1) (v := .int (nI (σ 2))) (C := RX1) (T := TX1) (N := 7) hx hb hts inX1 hown hK hP 0 rfl rfl 2 (by decide) (hts _ fl_RX1_35) (fun _ h9 => h9) rfl dX1_inhibitExplains_94 ?_
          refine nv_icmp_ge (tgt := 133) hx hb dX1_inhibitExplains_97 (by decide) (by omega) (by omega) (fun q_97 => ?_) (fun q_97 => ?_)
          · refine lv_iconst (v := nI 1) hx hb dX1_inhibitExplains_133 (by decide) ?_
            exact nv_retz hx hb hr hlocks (by decide) (by rw [ihE_B hbf]; exact zB_1 (ihT_t (ht ▸ q_83) (fun j hj => hno j (by omega)))) dX1_inhibitExplains_134
          · refine lv_aload_n hx hb dX1_inhibitExplains_100 rfl (lv_at hl 4 rfl) ?_
            refine lv_aload_n hx hb dX1_inhibitExplains_101 rfl (lv_at hl 4 rfl) ?_
            refine va_get (D := D) (ci := 1) (v := .int (nI (σ 2))) (C := RX1) (T := TX1) (N := 7) hx hb hts inX1 hown hK hP 0 rfl rfl 2 (by decide) (hts _ fl_RX1_35) (fun _ h9 => h9) rfl dX1_inhibitExplains_102 ?_
            refine lv_iload hx hb dX1_inhibitExplains_105 (lv_at hl 2 rfl) ?_
            refine nv_imul hx hb dX1_inhibitExplains_107 ?_
            refine lv_iload hx hb dX1_inhibitExplains_108 (lv_at hl 0 rfl) ?_
            refine nv_iadd hx hb dX1_inhibitExplains_110 ?_
            refine nv_callV [.int (nI (((σ 2) * r) + i))] [] hx hb hml hown hts k_RX1_114 (c_X1_rawBits l D cI cR h a σ (((σ 2) * r) + i) hw (sr_lt (by omega) (by omega))) ⟨rfl, rfl, Nat.le_of_ble_eq_true rfl, Nat.le_of_ble_eq_true rfl⟩ hP hK 1 rfl rfl rfl rfl hl rfl (Nat.le_of_ble_eq_true rfl) dX1_inhibitExplains_111 ⟨Nat.zero_le _, Nat.zero_le _⟩ ?_
            refine lv_aload_n hx hb dX1_inhibitExplains_114 rfl (lv_at hl 4 rfl) ?_
            refine lv_iload hx hb dX1_inhibitExplains_115 (lv_at hl 0 rfl) ?_
            refine lv_iload hx hb dX1_inhibitExplains_117 (lv_at hl 1 rfl) ?_
            refine nv_callV [.int (nI i), .int (nI 0)] [.int (nI (rwM (wvM σ) σ (((σ 2) * r) + i)))] hx hb hml hown hts k_RX1_94 (c_X1_rightBits l D cI cR h a σ i 0 hw (by omega)) ⟨rfl, rfl, Nat.le_of_ble_eq_true rfl, Nat.le_of_ble_eq_true rfl⟩ hP hK 1 rfl rfl rfl rfl hl rfl (Nat.le_of_ble_eq_true rfl) dX1_inhibitExplains_119 ⟨Nat.zero_le _, Nat.zero_le _⟩ ?_
            refine nv_icmp_eq (tgt := 127) hx hb dX1_inhibitExplains_122 (by decide) (Nat.lt_trans (rwM_lt hw _ _) (by decide)) (Nat.lt_trans (rbM_lt hw _ _) (by decide)) (fun q_122 => ?_) (fun q_122 => ?_)
            · refine nv_inc (k := 0) (lv' := [(7, .int (nI (i + 1))), (6, .int (nI 0)), (5, .int (nI r)), (4, .int (nI 0)), (0, .ref h), (1, .int (nI w)), (2, .int (nI r)), (3, .int (nI t))]) hx hb dX1_inhibitExplains_127 hl rfl (by decide) rfl (fun ls hl => ?_)
              refine lv_goto (tgt := 91) hx hb dX1_inhibitExplains_130 (by decide) ?_
              exact ih91 (i + 1) (by omega) (by omega) (fun j hj => by rcases Nat.lt_succ_iff_lt_or_eq.mp hj with z | z; exact hno j z; exact z ▸ q_122) ls (lv_sub hl [0, 1, 2, 3, 4, 5, 6, 7] rfl)
            · refine lv_iconst (v := nI 0) hx hb dX1_inhibitExplains_125 (by decide) ?_
              exact nv_retz hx hb hr hlocks (by decide) (by rw [ihE_B hbf]; exact zB_0 (ihT_f2 (by omega) q_122)) dX1_inhibitExplains_126
      exact L91 (σ 2 + 1) 0 (by omega) (by omega) (fun j hj => absurd hj (Nat.not_lt_zero j)) ls (lv_sub hl [0, 1, 2, 3, 4, 5, 6, 7] rfl)
    · refine lv_iconst (v := nI 0) hx hb dX1_inhibitExplains_86 (by decide) ?_
      exact nv_retz hx hb hr hlocks (by decide) (by rw [ihE_B hbf]; exact zB_0 (ihT_f1 (ht ▸ q_83))) dX1_inhibitExplains_87
  · have hbt : ihb σ w r = true := by cases hz : ihb σ w r with | true => rfl | false => rw [hz] at q_11; exact absurd q_11 (by decide)
    refine lv_iconst (v := nI 1) hx hb dX1_inhibitExplains_14 (by decide) ?_
    refine lv_goto (tgt := 19) hx hb dX1_inhibitExplains_15 (by decide) ?_
    refine lv_istore (lv' := [(4, .int (nI 1)), (0, .ref h), (1, .int (nI w)), (2, .int (nI r)), (3, .int (nI t))]) hx hb dX1_inhibitExplains_19 hl (by decide) rfl (fun ls hl => ?_)
    refine lv_iload_n hx hb dX1_inhibitExplains_21 rfl (lv_at hl 3 rfl) ?_
    refine lv_istore (lv' := [(5, .int (nI r)), (4, .int (nI 1)), (0, .ref h), (1, .int (nI w)), (2, .int (nI r)), (3, .int (nI t))]) hx hb dX1_inhibitExplains_22 hl (by decide) rfl (fun ls hl => ?_)
    refine lv_iconst (v := nI 0) hx hb dX1_inhibitExplains_24 (by decide) ?_
    refine lv_istore (lv' := [(6, .int (nI 0)), (5, .int (nI r)), (4, .int (nI 1)), (0, .ref h), (1, .int (nI w)), (2, .int (nI r)), (3, .int (nI t))]) hx hb dX1_inhibitExplains_25 hl (by decide) rfl (fun ls hl => ?_)
    refine lv_iload hx hb dX1_inhibitExplains_27 (lv_at hl 2 rfl) ?_
    refine nv_if_eq (tgt := 75) hx hb dX1_inhibitExplains_29 (by decide) (by omega) (fun q_29 => False.elim (by omega)) (fun q_29 => ?_)
    refine lv_aload_n hx hb dX1_inhibitExplains_32 rfl (lv_at hl 3 rfl) ?_
    refine lv_aload_n hx hb dX1_inhibitExplains_33 rfl (lv_at hl 3 rfl) ?_
    refine lv_iload_n hx hb dX1_inhibitExplains_34 rfl (lv_at hl 5 rfl) ?_
    refine nv_callV [.int (nI r)] [.ref h] hx hb hml hown hts k_RX1_85 (c_X1_codeOf l D cI cR h a σ r hw (by omega)) ⟨rfl, rfl, Nat.le_of_ble_eq_true rfl, Nat.le_of_ble_eq_true rfl⟩ hP hK 1 rfl rfl rfl rfl hl rfl (Nat.le_of_ble_eq_true rfl) dX1_inhibitExplains_35 ⟨Nat.zero_le _, Nat.zero_le _⟩ ?_
    refine lv_iconst (v := nI 1) hx hb dX1_inhibitExplains_38 (by decide) ?_
    refine lv_iload_n hx hb dX1_inhibitExplains_39 rfl (lv_at hl 4 rfl) ?_
    refine lv_iconst (v := nI 2) hx hb dX1_inhibitExplains_40 (by decide) ?_
    refine nv_idiv hx hb dX1_inhibitExplains_41 (by omega) (by omega) (by omega) ?_
    refine nv_ishl hx hb dX1_inhibitExplains_42 (by omega) ?_
    refine nv_ixor hx hb dX1_inhibitExplains_43 ?_
    refine nv_callV [.int (nI ((σ (3 + r)) ^^^ (1 <<< (w / 2))))] [] hx hb hml hown hts k_RX1_150 (c_X1_ringWithCode l D cI cR h a σ ((σ (3 + r)) ^^^ (1 <<< (w / 2))) hw (by omega)) ⟨rfl, rfl, Nat.le_of_ble_eq_true rfl, Nat.le_of_ble_eq_true rfl⟩ hP hK 1 rfl rfl rfl rfl hl rfl (Nat.le_of_ble_eq_true rfl) dX1_inhibitExplains_44 ⟨Nat.zero_le _, Nat.zero_le _⟩ ?_
    rcases rcF_cases σ (σ (3 + r) ^^^ 1 <<< (w / 2)) with ⟨q, hq1, hq2, hq3⟩ | ⟨hq1, hq3⟩
    · refine nv_tope (nI (q)) (hq3) ?_
      refine lv_istore (lv' := [(5, .int (nI q)), (6, .int (nI 0)), (4, .int (nI 1)), (0, .ref h), (1, .int (nI w)), (2, .int (nI r)), (3, .int (nI t))]) hx hb dX1_inhibitExplains_47 hl (by decide) rfl (fun ls hl => ?_)
      refine lv_iload hx hb dX1_inhibitExplains_49 (lv_at hl 0 rfl) ?_
      refine lv_iconst (v := -1) hx hb dX1_inhibitExplains_51 (by decide) ?_
      refine lv_icmp_ne (tgt := 65) hx hb dX1_inhibitExplains_52 (by decide) (fun q_52 => ?_) (fun q_52 => False.elim (nI_m1 (by omega) q_52))
      refine lv_iconst (v := nI 1) hx hb dX1_inhibitExplains_65 (by decide) ?_
      refine lv_iload_n hx hb dX1_inhibitExplains_66 rfl (lv_at hl 5 rfl) ?_
      refine nv_ishl hx hb dX1_inhibitExplains_67 (by omega) ?_
      refine lv_iconst (v := nI 1) hx hb dX1_inhibitExplains_68 (by decide) ?_
      refine lv_iload hx hb dX1_inhibitExplains_69 (lv_at hl 0 rfl) ?_
      refine nv_ishl hx hb dX1_inhibitExplains_71 (by omega) ?_
      refine nv_ior hx hb dX1_inhibitExplains_72 ?_
      refine lv_istore (lv' := [(6, .int (nI ((1 <<< r) ||| (1 <<< q)))), (5, .int (nI q)), (4, .int (nI 1)), (0, .ref h), (1, .int (nI w)), (2, .int (nI r)), (3, .int (nI t))]) hx hb dX1_inhibitExplains_73 hl (by decide) rfl (fun ls hl => ?_)
      refine lv_iload_n hx hb dX1_inhibitExplains_75 rfl (lv_at hl 6 rfl) ?_
      refine lv_iconst (v := nI 1) hx hb dX1_inhibitExplains_76 (by decide) ?_
      refine lv_iload hx hb dX1_inhibitExplains_77 (lv_at hl 1 rfl) ?_
      refine nv_ishl hx hb dX1_inhibitExplains_79 (by omega) ?_
      refine lv_iconst (v := -1) hx hb dX1_inhibitExplains_80 (by decide) ?_
      refine lv_ixor hx hb dX1_inhibitExplains_81 ?_
      refine nv_iandn hx hb dX1_inhibitExplains_82 ?_
      have hwo := nw_wo_le t (1 <<< q)
      refine nv_if_eq (tgt := 88) hx hb dX1_inhibitExplains_83 (by decide) (by omega) (fun q_83 => ?_) (fun q_83 => ?_)
      · refine lv_iconst (v := nI 0) hx hb dX1_inhibitExplains_88 (by decide) ?_
        refine lv_istore (lv' := [(7, .int (nI 0)), (6, .int (nI ((1 <<< r) ||| (1 <<< q)))), (5, .int (nI q)), (4, .int (nI 1)), (0, .ref h), (1, .int (nI w)), (2, .int (nI r)), (3, .int (nI t))]) hx hb dX1_inhibitExplains_89 hl (by decide) rfl (fun ls hl => ?_)
        have L91 : ∀ (n91 i : Nat), σ 2 + 1 ≤ i + n91 → i ≤ σ 2 → (∀ j, j < i → rwM (wvM σ) σ (σ 2 * q + j) = rbM σ j ((1 <<< r) ||| (1 <<< q))) → ∀ (ls : Array Slot), lv_has ls 8 [(7, .int (nI i)), (6, .int (nI ((1 <<< r) ||| (1 <<< q)))), (5, .int (nI q)), (4, .int (nI 1)), (0, .ref h), (1, .int (nI w)), (2, .int (nI r)), (3, .int (nI t))] → W p l e (rmK 2 50) s m args below meth c s.heap [] 0 0 (MQ below (QcRead (zB (ihE σ w r))) args s 0 0 (fun _ => False)) (F0 m 91 ls []) := by
          intro n91
          induction n91 with
          | zero =>
            intro i h1_91 h2_91
            exact False.elim (by omega)
          | succ n91 ih91 =>
            intro i h1_91 h2_91 hno ls hl
            refine lv_iload hx hb dX1_inhibitExplains_91 (lv_at hl 0 rfl) ?_
            refine lv_aload_n hx hb dX1_inhibitExplains_93 rfl (lv_at hl 4 rfl) ?_
            refine va_get (D := D) (ci := 1) (v := .int (nI (σ 2))) (C := RX1) (T := TX1) (N := 7) hx hb hts inX1 hown hK hP 0 rfl rfl 2 (by decide) (hts _ fl_RX1_35) (fun _ h9 => h9) rfl dX1_inhibitExplains_94 ?_
            refine nv_icmp_ge (tgt := 133) hx hb dX1_inhibitExplains_97 (by decide) (by omega) (by omega) (fun q_97 => ?_) (fun q_97 => ?_)
            · refine lv_iconst (v := nI 1) hx hb dX1_inhibitExplains_133 (by decide) ?_
              exact nv_retz hx hb hr hlocks (by decide) (by rw [ihE_A hw hbt hq1 hq2]; exact zB_1 (ihT_t (ht ▸ q_83) (fun j hj => hno j (by omega)))) dX1_inhibitExplains_134
            · refine lv_aload_n hx hb dX1_inhibitExplains_100 rfl (lv_at hl 4 rfl) ?_
              refine lv_aload_n hx hb dX1_inhibitExplains_101 rfl (lv_at hl 4 rfl) ?_
              refine va_get (D := D) (ci := 1) (v := .int (nI (σ 2))) (C := RX1) (T := TX1) (N := 7) hx hb hts inX1 hown hK hP 0 rfl rfl 2 (by decide) (hts _ fl_RX1_35) (fun _ h9 => h9) rfl dX1_inhibitExplains_102 ?_
              refine lv_iload hx hb dX1_inhibitExplains_105 (lv_at hl 2 rfl) ?_
              refine nv_imul hx hb dX1_inhibitExplains_107 ?_
              refine lv_iload hx hb dX1_inhibitExplains_108 (lv_at hl 0 rfl) ?_
              refine nv_iadd hx hb dX1_inhibitExplains_110 ?_
              refine nv_callV [.int (nI (((σ 2) * q) + i))] [] hx hb hml hown hts k_RX1_114 (c_X1_rawBits l D cI cR h a σ (((σ 2) * q) + i) hw (sr_lt (by omega) (by omega))) ⟨rfl, rfl, Nat.le_of_ble_eq_true rfl, Nat.le_of_ble_eq_true rfl⟩ hP hK 1 rfl rfl rfl rfl hl rfl (Nat.le_of_ble_eq_true rfl) dX1_inhibitExplains_111 ⟨Nat.zero_le _, Nat.zero_le _⟩ ?_
              refine lv_aload_n hx hb dX1_inhibitExplains_114 rfl (lv_at hl 4 rfl) ?_
              refine lv_iload hx hb dX1_inhibitExplains_115 (lv_at hl 0 rfl) ?_
              refine lv_iload hx hb dX1_inhibitExplains_117 (lv_at hl 1 rfl) ?_
              refine nv_callV [.int (nI i), .int (nI ((1 <<< r) ||| (1 <<< q)))] [.int (nI (rwM (wvM σ) σ (((σ 2) * q) + i)))] hx hb hml hown hts k_RX1_94 (c_X1_rightBits l D cI cR h a σ i ((1 <<< r) ||| (1 <<< q)) hw (by omega)) ⟨rfl, rfl, Nat.le_of_ble_eq_true rfl, Nat.le_of_ble_eq_true rfl⟩ hP hK 1 rfl rfl rfl rfl hl rfl (Nat.le_of_ble_eq_true rfl) dX1_inhibitExplains_119 ⟨Nat.zero_le _, Nat.zero_le _⟩ ?_
              refine nv_icmp_eq (tgt := 127) hx hb dX1_inhibitExplains_122 (by decide) (Nat.lt_trans (rwM_lt hw _ _) (by decide)) (Nat.lt_trans (rbM_lt hw _ _) (by decide)) (fun q_122 => ?_) (fun q_122 => ?_)
              · refine nv_inc (k := 0) (lv' := [(7, .int (nI (i + 1))), (6, .int (nI ((1 <<< r) ||| (1 <<< q)))), (5, .int (nI q)), (4, .int (nI 1)), (0, .ref h), (1, .int (nI w)), (2, .int (nI r)), (3, .int (nI t))]) hx hb dX1_inhibitExplains_127 hl rfl (by decide) rfl (fun ls hl => ?_)
                refine lv_goto (tgt := 91) hx hb dX1_inhibitExplains_130 (by decide) ?_
                exact ih91 (i + 1) (by omega) (by omega) (fun j hj => by rcases Nat.lt_succ_iff_lt_or_eq.mp hj with z | z; exact hno j z; exact z ▸ q_122) ls (lv_sub hl [0, 1, 2, 3, 4, 5, 6, 7] rfl)
              · refine lv_iconst (v := nI 0) hx hb dX1_inhibitExplains_125 (by decide) ?_
                exact nv_retz hx hb hr hlocks (by decide) (by rw [ihE_A hw hbt hq1 hq2]; exact zB_0 (ihT_f2 (by omega) q_122)) dX1_inhibitExplains_126
        exact L91 (σ 2 + 1) 0 (by omega) (by omega) (fun j hj => absurd hj (Nat.not_lt_zero j)) ls (lv_sub hl [0, 1, 2, 3, 4, 5, 6, 7] rfl)
      · refine lv_iconst (v := nI 0) hx hb dX1_inhibitExplains_86 (by decide) ?_
        exact nv_retz hx hb hr hlocks (by decide) (by rw [ihE_A hw hbt hq1 hq2]; exact zB_0 (ihT_f1 (ht ▸ q_83))) dX1_inhibitExplains_87
    · refine nv_tope (-1) (hq3) ?_
      refine lv_istore (lv' := [(5, .int (-1)), (6, .int (nI 0)), (4, .int (nI 1)), (0, .ref h), (1, .int (nI w)), (2, .int (nI r)), (3, .int (nI t))]) hx hb dX1_inhibitExplains_47 hl (by decide) rfl (fun ls hl => ?_)
      refine lv_iload hx hb dX1_inhibitExplains_49 (lv_at hl 0 rfl) ?_
      refine lv_iconst (v := -1) hx hb dX1_inhibitExplains_51 (by decide) ?_
      refine lv_icmp_ne (tgt := 65) hx hb dX1_inhibitExplains_52 (by decide) (fun q_52 => False.elim (q_52 rfl)) (fun q_52 => ?_)
      refine lv_iload_n hx hb dX1_inhibitExplains_55 rfl (lv_at hl 6 rfl) ?_
      refine nv_if_ne (tgt := 63) hx hb dX1_inhibitExplains_56 (by decide) (by omega) (fun q_56 => ?_) (fun q_56 => ?_)
      · refine lv_iconst (v := nI 0) hx hb dX1_inhibitExplains_63 (by decide) ?_
        exact nv_retz hx hb hr hlocks (by decide) (by rw [ihE_N hbt hq1, ← ht]; first | exact zB_1 (by simp [q_56]) | exact zB_0 (by simp [q_56])) dX1_inhibitExplains_64
      · refine lv_iconst (v := nI 1) hx hb dX1_inhibitExplains_59 (by decide) ?_
        refine lv_goto (tgt := 64) hx hb dX1_inhibitExplains_60 (by decide) ?_
        exact nv_retz hx hb hr hlocks (by decide) (by rw [ihE_N hbt hq1, ← ht]; first | exact zB_1 (by simp [q_56]) | exact zB_0 (by simp [q_56])) dX1_inhibitExplains_64
set_option maxHeartbeats 4000000 in
set_option maxRecDepth 100000 in
theorem c_X1_isExplainedBy (l : Launch) (D : va_G) (cI cR : ClassId) (h : Nat) (a : Nat → Nat) (σ : Nat → Nat) (w : Nat) (r : Nat) (t : Nat)  (hw : wf σ) (h1 : w < nW σ) (h2 : r < σ 0) (ht : t = stA σ (nA σ)) : MetR l yX1_isExplainedBy cX1_isExplainedBy 4 (some .boolean) (rmK 3 77) (nPre D (nTy cI cR) [.ref h, .int (nI w), .int (nI r), .int (nI t)] (wRp h a cI (σ 0) (σ 1) (σ 2) (onF σ) (wwF σ) (crF σ) (ptF σ))) (zB (exE σ w r)) := by
  refine met_read rfl (Nat.le_of_ble_eq_true rfl) ?_
  intro p e s m args below meth c ls hx hb hml hr hlocks hown hts hP hK hl
  have hl : lv_has ls 4 [(0, .ref h), (1, .int (nI w)), (2, .int (nI r)), (3, .int (nI t))] := hl
  have hA41 := hw.w41
  have hA33 := hw.a33
  have hA48 := hw.a48
  obtain ⟨hR2, hR, hB1, hB, hS1, hS, -⟩ := id hw
  refine lv_iload_n hx hb dX1_isExplainedBy_0 rfl (lv_at hl 1 rfl) ?_
  refine lv_bipush (v := nI 8) hx hb dX1_isExplainedBy_1 (by decide) ?_
  refine nv_icmp_ge (tgt := 16) hx hb dX1_isExplainedBy_3 (by decide) (by omega) (by omega) (fun q_3 => ?_) (fun q_3 => ?_)
  · refine lv_aload_n hx hb dX1_isExplainedBy_16 rfl (lv_at hl 0 rfl) ?_
    refine lv_iload_n hx hb dX1_isExplainedBy_17 rfl (lv_at hl 1 rfl) ?_
    refine lv_iload_n hx hb dX1_isExplainedBy_18 rfl (lv_at hl 2 rfl) ?_
    refine lv_iload_n hx hb dX1_isExplainedBy_19 rfl (lv_at hl 3 rfl) ?_
    refine nv_callV [.int (nI w), .int (nI r), .int (nI t)] [] hx hb hml hown hts k_RX1_147 (c_X1_senseExplains l D cI cR h a σ w r t hw h1 h2 ht) ⟨rfl, rfl, Nat.le_of_ble_eq_true rfl, Nat.le_of_ble_eq_true rfl⟩ hP hK 1 rfl rfl rfl rfl hl rfl (Nat.le_of_ble_eq_true rfl) dX1_isExplainedBy_20 ⟨Nat.zero_le _, Nat.zero_le _⟩ ?_
    exact nv_retz hx hb hr hlocks (zB_z _) (by first | rw [exE_i q_3] | rw [exE_s q_3]) dX1_isExplainedBy_23
  · refine lv_aload_n hx hb dX1_isExplainedBy_6 rfl (lv_at hl 0 rfl) ?_
    refine lv_iload_n hx hb dX1_isExplainedBy_7 rfl (lv_at hl 1 rfl) ?_
    refine lv_iload_n hx hb dX1_isExplainedBy_8 rfl (lv_at hl 2 rfl) ?_
    refine lv_iload_n hx hb dX1_isExplainedBy_9 rfl (lv_at hl 3 rfl) ?_
    refine nv_callV [.int (nI w), .int (nI r), .int (nI t)] [] hx hb hml hown hts k_RX1_144 (c_X1_inhibitExplains l D cI cR h a σ w r t hw q_3 h2 ht) ⟨rfl, rfl, Nat.le_of_ble_eq_true rfl, Nat.le_of_ble_eq_true rfl⟩ hP hK 1 rfl rfl rfl rfl hl rfl (Nat.le_of_ble_eq_true rfl) dX1_isExplainedBy_10 ⟨Nat.zero_le _, Nat.zero_le _⟩ ?_
    refine lv_goto (tgt := 23) hx hb dX1_isExplainedBy_13 (by decide) ?_
    exact nv_retz hx hb hr hlocks (zB_z _) (by first | rw [exE_i q_3] | rw [exE_s q_3]) dX1_isExplainedBy_23
set_option maxHeartbeats 4000000 in
set_option maxRecDepth 100000 in
theorem c_X1_explanation (l : Launch) (D : va_G) (cI cR : ClassId) (h : Nat) (a : Nat → Nat) (σ : Nat → Nat) (k : Nat)  (hw : wf σ) (hk : k < 2 ^ 31) : MetR l yX1_explanation cX1_explanation 6 (some .int) (rmK 4 100) (nPre D (nTy cI cR) [.ref h, .int (nI k)] (wRp h a cI (σ 0) (σ 1) (σ 2) (onF σ) (wwF σ) (crF σ) (ptF σ))) (exF σ k) := by
  refine met_read rfl (Nat.le_of_ble_eq_true rfl) ?_
  intro p e s m args below meth c ls hx hb hml hr hlocks hown hts hP hK hl
  have hl : lv_has ls 6 [(0, .ref h), (1, .int (nI k))] := hl
  have hA41 := hw.w41
  have hA33 := hw.a33
  have hA48 := hw.a48
  obtain ⟨hR2, hR, hB1, hB, hS1, hS, -⟩ := id hw
  refine lv_aload_n hx hb dX1_explanation_0 rfl (lv_at hl 0 rfl) ?_
  refine nv_callV [] [] hx hb hml hown hts k_RX1_137 (c_X1_strayRings l D cI cR h a σ hw) ⟨rfl, rfl, Nat.le_of_ble_eq_true rfl, Nat.le_of_ble_eq_true rfl⟩ hP hK 1 rfl rfl rfl rfl hl rfl (Nat.le_of_ble_eq_true rfl) dX1_explanation_1 ⟨Nat.zero_le _, Nat.zero_le _⟩ ?_
  refine lv_istore_n (lv' := [(2, .int (nI (stA σ (nA σ)))), (0, .ref h), (1, .int (nI k))]) hx hb dX1_explanation_4 rfl hl (by decide) rfl (fun ls hl => ?_)
  refine lv_iload_n hx hb dX1_explanation_5 rfl (lv_at hl 2 rfl) ?_
  refine lv_istore_n (lv' := [(3, .int (nI k)), (2, .int (nI (stA σ (nA σ)))), (0, .ref h), (1, .int (nI k))]) hx hb dX1_explanation_6 rfl hl (by decide) rfl (fun ls hl => ?_)
  refine lv_iconst (v := nI 0) hx hb dX1_explanation_7 (by decide) ?_
  refine lv_istore (lv' := [(4, .int (nI 0)), (3, .int (nI k)), (2, .int (nI (stA σ (nA σ)))), (0, .ref h), (1, .int (nI k))]) hx hb dX1_explanation_8 hl (by decide) rfl (fun ls hl => ?_)
  have L10 : ∀ (n10 w : Nat), nW σ + 1 ≤ w + n10 → w ≤ nW σ → (ct (exP σ) (w * σ 0) ≤ k) → ∀ (ls : Array Slot), lv_has ls 6 [(4, .int (nI w)), (3, .int (nI (k - ct (exP σ) (w * σ 0)))), (2, .int (nI (stA σ (nA σ)))), (0, .ref h), (1, .int (nI k))] → W p l e (rmK 4 100) s m args below meth c s.heap [] 0 0 (MQ below (QcRead (exF σ k)) args s 0 0 (fun _ => False)) (F0 m 10 ls []) := by
    intro n10
    induction n10 with
    | zero =>
      intro w h1_10 h2_10
      exact False.elim (by omega)
    | succ n10 ih10 =>
      intro w h1_10 h2_10 hle ls hl
      refine lv_iload hx hb dX1_explanation_10 (lv_at hl 0 rfl) ?_
      refine lv_aload_n hx hb dX1_explanation_12 rfl (lv_at hl 3 rfl) ?_
      refine nv_callV [] [.int (nI w)] hx hb hml hown hts k_RX1_55 (c_X1_wiresS l D cI cR h a σ ) ⟨rfl, rfl, Nat.le_of_ble_eq_true rfl, Nat.le_of_ble_eq_true rfl⟩ hP hK 1 rfl rfl rfl rfl hl rfl (Nat.le_of_ble_eq_true rfl) dX1_explanation_13 ⟨Nat.zero_le _, Nat.zero_le _⟩ ?_
      refine nv_icmp_ge (tgt := 71) hx hb dX1_explanation_16 (by decide) (by omega) (by omega) (fun q_16 => ?_) (fun q_16 => ?_)
      · refine lv_iconst (v := -1) hx hb dX1_explanation_71 (by decide) ?_
        exact nv_ret hx hb hr hlocks (exF_none (by rw [← show w = nW σ by omega]; exact hle)) dX1_explanation_72
      · refine lv_iconst (v := nI 0) hx hb dX1_explanation_19 (by decide) ?_
        refine lv_istore (lv' := [(5, .int (nI 0)), (4, .int (nI w)), (3, .int (nI (k - ct (exP σ) (w * σ 0)))), (2, .int (nI (stA σ (nA σ)))), (0, .ref h), (1, .int (nI k))]) hx hb dX1_explanation_20 hl (by decide) rfl (fun ls hl => ?_)
        have L22 : ∀ (n22 i : Nat), σ 0 + 1 ≤ i + n22 → i ≤ σ 0 → (ct (exP σ) (w * σ 0 + i) ≤ k) → ∀ (ls : Array Slot), lv_has ls 6 [(5, .int (nI i)), (4, .int (nI w)), (3, .int (nI (k - ct (exP σ) (w * σ 0 + i)))), (2, .int (nI (stA σ (nA σ)))), (0, .ref h), (1, .int (nI k))] → W p l e (rmK 4 100) s m args below meth c s.heap [] 0 0 (MQ below (QcRead (exF σ k)) args s 0 0 (fun _ => False)) (F0 m 22 ls []) := by
          intro n22
          induction n22 with
          | zero =>
            intro i h1_22 h2_22
            exact False.elim (by omega)
          | succ n22 ih22 =>
            intro i h1_22 h2_22 hle2 ls hl
            refine lv_iload hx hb dX1_explanation_22 (lv_at hl 0 rfl) ?_
            refine lv_aload_n hx hb dX1_explanation_24 rfl (lv_at hl 4 rfl) ?_
            refine va_get (D := D) (ci := 1) (v := .int (nI (σ 0))) (C := RX1) (T := TX1) (N := 7) hx hb hts inX1 hown hK hP 0 rfl rfl 0 (by decide) (hts _ fl_RX1_28) (fun _ h9 => h9) rfl dX1_explanation_25 ?_
            refine nv_icmp_ge (tgt := 65) hx hb dX1_explanation_28 (by decide) (by omega) (by omega) (fun q_28 => ?_) (fun q_28 => ?_)
            · refine nv_inc (k := 1) (lv' := [(4, .int (nI (w + 1))), (5, .int (nI i)), (3, .int (nI (k - ct (exP σ) (w * σ 0 + i)))), (2, .int (nI (stA σ (nA σ)))), (0, .ref h), (1, .int (nI k))]) hx hb dX1_explanation_65 hl rfl (by decide) rfl (fun ls hl => ?_)
              refine lv_goto (tgt := 10) hx hb dX1_explanation_68 (by decide) ?_
              have hl := lv_repl [(4, .int (nI (w + 1))), (5, .int (nI i)), (3, .int (nI (k - ct (exP σ) ((w + 1) * σ 0)))), (2, .int (nI (stA σ (nA σ)))), (0, .ref h), (1, .int (nI k))] 2 rfl (congrArg (fun z : Nat => Value.int (nI z)) (show (k - ct (exP σ) (w * σ 0 + i)) = (k - ct (exP σ) ((w + 1) * σ 0)) from by rw [show (w + 1) * σ 0 = w * σ 0 + i by rw [Nat.succ_mul]; omega])) rfl hl
              exact ih10 (w + 1) (by omega) (by omega) (by rw [show (w + 1) * σ 0 = w * σ 0 + i by rw [Nat.succ_mul]; omega]; exact hle2) ls (lv_sub hl [0, 2, 3, 4, 5] rfl)
            · refine lv_aload_n hx hb dX1_explanation_31 rfl (lv_at hl 4 rfl) ?_
              refine lv_iload hx hb dX1_explanation_32 (lv_at hl 1 rfl) ?_
              refine lv_iload hx hb dX1_explanation_34 (lv_at hl 0 rfl) ?_
              refine lv_iload_n hx hb dX1_explanation_36 rfl (lv_at hl 3 rfl) ?_
              refine nv_callV [.int (nI w), .int (nI i), .int (nI (stA σ (nA σ)))] [] hx hb hml hown hts k_RX1_140 (c_X1_isExplainedBy l D cI cR h a σ w i (stA σ (nA σ)) hw (by omega) (by omega) rfl) ⟨rfl, rfl, Nat.le_of_ble_eq_true rfl, Nat.le_of_ble_eq_true rfl⟩ hP hK 1 rfl rfl rfl rfl hl rfl (Nat.le_of_ble_eq_true rfl) dX1_explanation_37 ⟨Nat.zero_le _, Nat.zero_le _⟩ ?_
              refine lv_if_eq (tgt := 59) hx hb dX1_explanation_40 (by decide) (fun q_40 => ?_) (fun q_40 => ?_)
              · refine nv_inc (k := 0) (lv' := [(5, .int (nI (i + 1))), (4, .int (nI w)), (3, .int (nI (k - ct (exP σ) (w * σ 0 + i)))), (2, .int (nI (stA σ (nA σ)))), (0, .ref h), (1, .int (nI k))]) hx hb dX1_explanation_59 hl rfl (by decide) rfl (fun ls hl => ?_)
                refine lv_goto (tgt := 22) hx hb dX1_explanation_62 (by decide) ?_
                have hl := lv_repl [(5, .int (nI (i + 1))), (4, .int (nI w)), (3, .int (nI (k - ct (exP σ) (w * σ 0 + (i + 1))))), (2, .int (nI (stA σ (nA σ)))), (0, .ref h), (1, .int (nI k))] 2 rfl (congrArg (fun z : Nat => Value.int (nI z)) (show (k - ct (exP σ) (w * σ 0 + i)) = (k - ct (exP σ) (w * σ 0 + (i + 1))) from by rw [← Nat.add_assoc, ct_s, exP_at (by omega)]; first | (rw [zB_eq0 q_40]; rfl) | (rw [zB_ne0 q_40]; simp only [Bool.toNat_true]; omega))) rfl hl
                exact ih22 (i + 1) (by omega) (by omega) (by rw [← Nat.add_assoc, ct_s, exP_at (by omega)]; first | (rw [zB_eq0 q_40]; exact hle2) | (rw [zB_ne0 q_40]; simp only [Bool.toNat_true]; omega)) ls (lv_sub hl [0, 1, 2, 3, 4, 5] rfl)
              · refine lv_iload_n hx hb dX1_explanation_43 rfl (lv_at hl 2 rfl) ?_
                refine nv_if_ne (tgt := 56) hx hb dX1_explanation_44 (by decide) (by omega) (fun q_44 => ?_) (fun q_44 => ?_)
                · refine nv_dec (k := 2) (lv' := [(3, .int (nI ((k - ct (exP σ) (w * σ 0 + i)) - 1))), (5, .int (nI i)), (4, .int (nI w)), (2, .int (nI (stA σ (nA σ)))), (0, .ref h), (1, .int (nI k))]) hx hb dX1_explanation_56 hl rfl (by omega) (by decide) rfl (fun ls hl => ?_)
                  refine nv_inc (k := 1) (lv' := [(5, .int (nI (i + 1))), (3, .int (nI ((k - ct (exP σ) (w * σ 0 + i)) - 1))), (4, .int (nI w)), (2, .int (nI (stA σ (nA σ)))), (0, .ref h), (1, .int (nI k))]) hx hb dX1_explanation_59 hl rfl (by decide) rfl (fun ls hl => ?_)
                  refine lv_goto (tgt := 22) hx hb dX1_explanation_62 (by decide) ?_
                  have hl := lv_repl [(5, .int (nI (i + 1))), (3, .int (nI (k - ct (exP σ) (w * σ 0 + (i + 1))))), (4, .int (nI w)), (2, .int (nI (stA σ (nA σ)))), (0, .ref h), (1, .int (nI k))] 1 rfl (congrArg (fun z : Nat => Value.int (nI z)) (show ((k - ct (exP σ) (w * σ 0 + i)) - 1) = (k - ct (exP σ) (w * σ 0 + (i + 1))) from by rw [← Nat.add_assoc, ct_s, exP_at (by omega)]; first | (rw [zB_eq0 q_40]; rfl) | (rw [zB_ne0 q_40]; simp only [Bool.toNat_true]; omega))) rfl hl
                  exact ih22 (i + 1) (by omega) (by omega) (by rw [← Nat.add_assoc, ct_s, exP_at (by omega)]; first | (rw [zB_eq0 q_40]; exact hle2) | (rw [zB_ne0 q_40]; simp only [Bool.toNat_true]; omega)) ls (lv_sub hl [0, 2, 1, 3, 4, 5] rfl)
                · refine lv_bipush (v := nI 16) hx hb dX1_explanation_47 (by decide) ?_
                  refine lv_iload hx hb dX1_explanation_49 (lv_at hl 1 rfl) ?_
                  refine nv_imul hx hb dX1_explanation_51 ?_
                  refine lv_iload hx hb dX1_explanation_52 (lv_at hl 0 rfl) ?_
                  refine nv_iadd hx hb dX1_explanation_54 ?_
                  exact nv_ret hx hb hr hlocks (exF_at (by omega) (by omega) (zB_ne0 q_40) hle2 (by omega)) dX1_explanation_55
        exact L22 (σ 0 + 1) 0 (by omega) (by omega) (hle) ls (lv_sub hl [0, 1, 2, 3, 4, 5] rfl)
  have hl := lv_repl [(4, .int (nI 0)), (3, .int (nI (k - ct (exP σ) (0 * σ 0)))), (2, .int (nI (stA σ (nA σ)))), (0, .ref h), (1, .int (nI k))] 1 rfl (congrArg (fun z : Nat => Value.int (nI z)) (show k = (k - ct (exP σ) (0 * σ 0)) from by rw [Nat.zero_mul]; rfl)) rfl hl
  exact L10 (nW σ + 1) 0 (by omega) (by omega) (by rw [Nat.zero_mul]; exact Nat.zero_le _) ls (lv_sub hl [0, 1, 2, 3, 4] rfl)
set_option maxHeartbeats 4000000 in
set_option maxRecDepth 100000 in
theorem c_X1_hash (l : Launch) (D : va_G) (cI cR : ClassId) (h : Nat) (a : Nat → Nat) (σ : Nat → Nat)   (hw : wf σ) : MetL l yX1_hash cX1_hash 5 (some .long) (rmK 4 85) (nPre D (nTy cI cR) [.ref h] (wRp h a cI (σ 0) (σ 1) (σ 2) (onF σ) (wwF σ) (crF σ) (ptF σ))) (hsF σ) := by
  refine met_read rfl (Nat.le_of_ble_eq_true rfl) ?_
  intro p e s m args below meth c ls hx hb hml hr hlocks hown hts hP hK hl
  have hl : lv_has ls 5 [(0, .ref h)] := hl
  have hA41 := hw.w41
  have hA33 := hw.a33
  have hA48 := hw.a48
  obtain ⟨hR2, hR, hB1, hB, hS1, hS, -⟩ := id hw
  refine lv_ldc2 (v := 17) hx hb hown (hts _ ct_RX1_153) dX1_hash_0 ?_
  refine lv_lstore_n (lv' := [(1, .long 17), (0, .ref h)]) hx hb dX1_hash_3 rfl hl (by decide) rfl (fun ls hl => ?_)
  refine lv_iconst (v := nI 0) hx hb dX1_hash_4 (by decide) ?_
  refine lv_istore_n (lv' := [(3, .int (nI 0)), (1, .long 17), (0, .ref h)]) hx hb dX1_hash_5 rfl hl (by decide) rfl (fun ls hl => ?_)
  have L6 : ∀ (n6 i : Nat), 9 + 1 ≤ i + n6 → i ≤ 9 → ∀ (ls : Array Slot), lv_has ls 5 [(3, .int (nI i)), (1, .long (hs (fun k => nI (nuN σ k)) i 17)), (0, .ref h)] → W p l e (rmK 4 85) s m args below meth c s.heap [] 0 0 (MQ below (QcReadL (hsF σ)) args s 0 0 (fun _ => False)) (F0 m 6 ls []) := by
    intro n6
    induction n6 with
    | zero =>
      intro i h1_6 h2_6
      exact False.elim (by omega)
    | succ n6 ih6 =>
      intro i h1_6 h2_6  ls hl
      refine lv_iload_n hx hb dX1_hash_6 rfl (lv_at hl 0 rfl) ?_
      refine lv_bipush (v := nI 9) hx hb dX1_hash_7 (by decide) ?_
      refine nv_icmp_ge (tgt := 31) hx hb dX1_hash_9 (by decide) (by omega) (by omega) (fun q_9 => ?_) (fun q_9 => ?_)
      · refine lv_iconst (v := nI 0) hx hb dX1_hash_31 (by decide) ?_
        refine lv_istore_n (lv' := [(3, .int (nI 0)), (1, .long (hs (fun k => nI (nuN σ k)) i 17)), (0, .ref h)]) hx hb dX1_hash_32 rfl hl (by decide) rfl (fun ls hl => ?_)
        have L33 : ∀ (n33 i : Nat), σ 0 + 1 ≤ i + n33 → i ≤ σ 0 → ∀ (ls : Array Slot), lv_has ls 5 [(3, .int (nI i)), (1, .long (hs (fun r => nI (σ (3 + r))) i (hs (fun k => nI (nuN σ k)) 9 17))), (0, .ref h)] → W p l e (rmK 4 85) s m args below meth c s.heap [] 0 0 (MQ below (QcReadL (hsF σ)) args s 0 0 (fun _ => False)) (F0 m 33 ls []) := by
          intro n33
          induction n33 with
          | zero =>
            intro i h1_33 h2_33
            exact False.elim (by omega)
          | succ n33 ih33 =>
            intro i h1_33 h2_33  ls hl
            refine lv_iload_n hx hb dX1_hash_33 rfl (lv_at hl 0 rfl) ?_
            refine lv_aload_n hx hb dX1_hash_34 rfl (lv_at hl 2 rfl) ?_
            refine va_get (D := D) (ci := 1) (v := .int (nI (σ 0))) (C := RX1) (T := TX1) (N := 7) hx hb hts inX1 hown hK hP 0 rfl rfl 0 (by decide) (hts _ fl_RX1_28) (fun _ h9 => h9) rfl dX1_hash_35 ?_
            refine nv_icmp_ge (tgt := 60) hx hb dX1_hash_38 (by decide) (by omega) (by omega) (fun q_38 => ?_) (fun q_38 => ?_)
            · refine lv_iconst (v := nI 0) hx hb dX1_hash_60 (by decide) ?_
              refine lv_istore_n (lv' := [(3, .int (nI 0)), (1, .long (hs (fun r => nI (σ (3 + r))) i (hs (fun k => nI (nuN σ k)) 9 17))), (0, .ref h)]) hx hb dX1_hash_61 rfl hl (by decide) rfl (fun ls hl => ?_)
              have L62 : ∀ (n62 i : Nat), nA σ + 1 ≤ i + n62 → i ≤ nA σ → ∀ (ls : Array Slot), lv_has ls 5 [(3, .int (nI i)), (1, .long (hq σ i (hs (fun r => nI (σ (3 + r))) (σ 0) (hs (fun k => nI (nuN σ k)) 9 17)))), (0, .ref h)] → W p l e (rmK 4 85) s m args below meth c s.heap [] 0 0 (MQ below (QcReadL (hsF σ)) args s 0 0 (fun _ => False)) (F0 m 62 ls []) := by
                intro n62
                induction n62 with
                | zero =>
                  intro i h1_62 h2_62
                  exact False.elim (by omega)
                | succ n62 ih62 =>
                  intro i h1_62 h2_62  ls hl
                  refine lv_iload_n hx hb dX1_hash_62 rfl (lv_at hl 0 rfl) ?_
                  refine lv_aload_n hx hb dX1_hash_63 rfl (lv_at hl 2 rfl) ?_
                  refine nv_callV [] [.int (nI i)] hx hb hml hown hts k_RX1_42 (c_X1_addressesS l D cI cR h a σ ) ⟨rfl, rfl, Nat.le_of_ble_eq_true rfl, Nat.le_of_ble_eq_true rfl⟩ hP hK 1 rfl rfl rfl rfl hl rfl (Nat.le_of_ble_eq_true rfl) dX1_hash_64 ⟨Nat.zero_le _, Nat.zero_le _⟩ ?_
                  refine nv_icmp_ge (tgt := 137) hx hb dX1_hash_67 (by decide) (by omega) (by omega) (fun q_67 => ?_) (fun q_67 => ?_)
                  · refine lv_iconst (v := nI 0) hx hb dX1_hash_137 (by decide) ?_
                    refine lv_istore_n (lv' := [(3, .int (nI 0)), (1, .long (hq σ i (hs (fun r => nI (σ (3 + r))) (σ 0) (hs (fun k => nI (nuN σ k)) 9 17)))), (0, .ref h)]) hx hb dX1_hash_138 rfl hl (by decide) rfl (fun ls hl => ?_)
                    have L139 : ∀ (n139 w : Nat), nW σ + 1 ≤ w + n139 → w ≤ nW σ → ∀ (ls : Array Slot), lv_has ls 5 [(3, .int (nI w)), (1, .long (hv σ w (hq σ (nA σ) (hs (fun r => nI (σ (3 + r))) (σ 0) (hs (fun k => nI (nuN σ k)) 9 17))))), (0, .ref h)] → W p l e (rmK 4 85) s m args below meth c s.heap [] 0 0 (MQ below (QcReadL (hsF σ)) args s 0 0 (fun _ => False)) (F0 m 139 ls []) := by
                      intro n139
                      induction n139 with
                      | zero =>
                        intro w h1_139 h2_139
                        exact False.elim (by omega)
                      | succ n139 ih139 =>
                        intro w h1_139 h2_139  ls hl
                        refine lv_iload_n hx hb dX1_hash_139 rfl (lv_at hl 0 rfl) ?_
                        refine lv_aload_n hx hb dX1_hash_140 rfl (lv_at hl 2 rfl) ?_
                        refine nv_callV [] [.int (nI w)] hx hb hml hown hts k_RX1_55 (c_X1_wiresS l D cI cR h a σ ) ⟨rfl, rfl, Nat.le_of_ble_eq_true rfl, Nat.le_of_ble_eq_true rfl⟩ hP hK 1 rfl rfl rfl rfl hl rfl (Nat.le_of_ble_eq_true rfl) dX1_hash_141 ⟨Nat.zero_le _, Nat.zero_le _⟩ ?_
                        refine nv_icmp_ge (tgt := 186) hx hb dX1_hash_144 (by decide) (by omega) (by omega) (fun q_144 => ?_) (fun q_144 => ?_)
                        · refine lv_lload_n hx hb dX1_hash_186 rfl (lv_at hl 1 rfl) ?_
                          exact nv_retl hx hb hr hlocks (by rw [show w = nW σ by omega]; rfl) dX1_hash_187
                        · refine lv_iconst (v := nI 0) hx hb dX1_hash_147 (by decide) ?_
                          refine lv_istore (lv' := [(4, .int (nI 0)), (3, .int (nI w)), (1, .long (hv σ w (hq σ (nA σ) (hs (fun r => nI (σ (3 + r))) (σ 0) (hs (fun k => nI (nuN σ k)) 9 17))))), (0, .ref h)]) hx hb dX1_hash_148 hl (by decide) rfl (fun ls hl => ?_)
                          have L150 : ∀ (n150 i : Nat), σ 0 + 1 ≤ i + n150 → i ≤ σ 0 → ∀ (ls : Array Slot), lv_has ls 5 [(4, .int (nI i)), (3, .int (nI w)), (1, .long (hs (fun r => nI ((wvM σ w).testBit r).toNat) i (hv σ w (hq σ (nA σ) (hs (fun r => nI (σ (3 + r))) (σ 0) (hs (fun k => nI (nuN σ k)) 9 17)))))), (0, .ref h)] → W p l e (rmK 4 85) s m args below meth c s.heap [] 0 0 (MQ below (QcReadL (hsF σ)) args s 0 0 (fun _ => False)) (F0 m 150 ls []) := by
                            intro n150
                            induction n150 with
                            | zero =>
                              intro i h1_150 h2_150
                              exact False.elim (by omega)
                            | succ n150 ih150 =>
                              intro i h1_150 h2_150  ls hl
                              refine lv_iload hx hb dX1_hash_150 (lv_at hl 0 rfl) ?_
                              refine lv_aload_n hx hb dX1_hash_152 rfl (lv_at hl 3 rfl) ?_
                              refine va_get (D := D) (ci := 1) (v := .int (nI (σ 0))) (C := RX1) (T := TX1) (N := 7) hx hb hts inX1 hown hK hP 0 rfl rfl 0 (by decide) (hts _ fl_RX1_28) (fun _ h9 => h9) rfl dX1_hash_153 ?_
                              refine nv_icmp_ge (tgt := 180) hx hb dX1_hash_156 (by decide) (by omega) (by omega) (fun q_156 => ?_) (fun q_156 => ?_)
                              · refine nv_inc (k := 1) (lv' := [(3, .int (nI (w + 1))), (4, .int (nI i)), (1, .long (hs (fun r => nI ((wvM σ w).testBit r).toNat) i (hv σ w (hq σ (nA σ) (hs (fun r => nI (σ (3 + r))) (σ 0) (hs (fun k => nI (nuN σ k)) 9 17)))))), (0, .ref h)]) hx hb dX1_hash_180 hl rfl (by decide) rfl (fun ls hl => ?_)
                                refine lv_goto (tgt := 139) hx hb dX1_hash_183 (by decide) ?_
                                have hl := lv_repl [(3, .int (nI (w + 1))), (4, .int (nI i)), (1, .long (hv σ (w + 1) (hq σ (nA σ) (hs (fun r => nI (σ (3 + r))) (σ 0) (hs (fun k => nI (nuN σ k)) 9 17))))), (0, .ref h)] 2 rfl (congrArg (fun z : Int64 => Value.long z) (show (hs (fun r => nI ((wvM σ w).testBit r).toNat) i (hv σ w (hq σ (nA σ) (hs (fun r => nI (σ (3 + r))) (σ 0) (hs (fun k => nI (nuN σ k)) 9 17))))) = (hv σ (w + 1) (hq σ (nA σ) (hs (fun r => nI (σ (3 + r))) (σ 0) (hs (fun k => nI (nuN σ k)) 9 17)))) from by rw [show i = σ 0 by omega]; rfl)) rfl hl
                                exact ih139 (w + 1) (by omega) (by omega)  ls (lv_sub hl [0, 2, 3] rfl)
                              · refine lv_ldc2 (v := 31) hx hb hown (hts _ ct_RX1_155) dX1_hash_159 ?_
                                refine lv_lload_n hx hb dX1_hash_162 rfl (lv_at hl 2 rfl) ?_
                                refine lv_lmul hx hb dX1_hash_163 ?_
                                refine lv_aload_n hx hb dX1_hash_164 rfl (lv_at hl 3 rfl) ?_
                                refine lv_iload_n hx hb dX1_hash_165 rfl (lv_at hl 1 rfl) ?_
                                refine lv_iload hx hb dX1_hash_166 (lv_at hl 0 rfl) ?_
                                refine nv_callV [.int (nI w), .int (nI i)] [.long (31 * (hs (fun r => nI ((wvM σ w).testBit r).toNat) i (hv σ w (hq σ (nA σ) (hs (fun r => nI (σ (3 + r))) (σ 0) (hs (fun k => nI (nuN σ k)) 9 17))))))] hx hb hml hown hts k_RX1_160 (c_X1_goesThrough l D cI cR h a σ w i hw (by omega) (by omega)) ⟨rfl, rfl, Nat.le_of_ble_eq_true rfl, Nat.le_of_ble_eq_true rfl⟩ hP hK 1 rfl rfl rfl rfl hl rfl (Nat.le_of_ble_eq_true rfl) dX1_hash_168 ⟨Nat.zero_le _, Nat.zero_le _⟩ ?_
                                refine lv_i2l (v := (nI (((wvM σ w).testBit i).toNat)).toInt64) hx hb dX1_hash_171 rfl ?_
                                refine lv_ladd hx hb dX1_hash_172 ?_
                                refine lv_lstore_n (lv' := [(1, .long ((31 * (hs (fun r => nI ((wvM σ w).testBit r).toNat) i (hv σ w (hq σ (nA σ) (hs (fun r => nI (σ (3 + r))) (σ 0) (hs (fun k => nI (nuN σ k)) 9 17)))))) + ((nI (((wvM σ w).testBit i).toNat)).toInt64))), (4, .int (nI i)), (3, .int (nI w)), (0, .ref h)]) hx hb dX1_hash_173 rfl hl (by decide) rfl (fun ls hl => ?_)
                                refine nv_inc (k := 1) (lv' := [(4, .int (nI (i + 1))), (1, .long ((31 * (hs (fun r => nI ((wvM σ w).testBit r).toNat) i (hv σ w (hq σ (nA σ) (hs (fun r => nI (σ (3 + r))) (σ 0) (hs (fun k => nI (nuN σ k)) 9 17)))))) + ((nI (((wvM σ w).testBit i).toNat)).toInt64))), (3, .int (nI w)), (0, .ref h)]) hx hb dX1_hash_174 hl rfl (by decide) rfl (fun ls hl => ?_)
                                refine lv_goto (tgt := 150) hx hb dX1_hash_177 (by decide) ?_
                                exact ih150 (i + 1) (by omega) (by omega)  ls (lv_sub hl [0, 2, 1, 3] rfl)
                          exact L150 (σ 0 + 1) 0 (by omega) (by omega)  ls (lv_sub hl [0, 1, 2, 3] rfl)
                    have hl := lv_repl [(3, .int (nI 0)), (1, .long (hv σ 0 (hq σ (nA σ) (hs (fun r => nI (σ (3 + r))) (σ 0) (hs (fun k => nI (nuN σ k)) 9 17))))), (0, .ref h)] 1 rfl (congrArg (fun z : Int64 => Value.long z) (show (hq σ i (hs (fun r => nI (σ (3 + r))) (σ 0) (hs (fun k => nI (nuN σ k)) 9 17))) = (hv σ 0 (hq σ (nA σ) (hs (fun r => nI (σ (3 + r))) (σ 0) (hs (fun k => nI (nuN σ k)) 9 17)))) from by rw [show i = nA σ by omega]; rfl)) rfl hl
                    exact L139 (nW σ + 1) 0 (by omega) (by omega)  ls (lv_sub hl [0, 1, 2] rfl)
                  · refine lv_ldc2 (v := 31) hx hb hown (hts _ ct_RX1_155) dX1_hash_70 ?_
                    refine lv_lload_n hx hb dX1_hash_73 rfl (lv_at hl 1 rfl) ?_
                    refine lv_lmul hx hb dX1_hash_74 ?_
                    refine lv_aload_n hx hb dX1_hash_75 rfl (lv_at hl 2 rfl) ?_
                    refine lv_iload_n hx hb dX1_hash_76 rfl (lv_at hl 0 rfl) ?_
                    refine nv_callV [.int (nI i)] [.long (31 * (hq σ i (hs (fun r => nI (σ (3 + r))) (σ 0) (hs (fun k => nI (nuN σ k)) 9 17))))] hx hb hml hown hts k_RX1_131 (c_X1_wordAt l D cI cR h a σ i hw (by omega)) ⟨rfl, rfl, Nat.le_of_ble_eq_true rfl, Nat.le_of_ble_eq_true rfl⟩ hP hK 1 rfl rfl rfl rfl hl rfl (Nat.le_of_ble_eq_true rfl) dX1_hash_77 ⟨Nat.zero_le _, Nat.zero_le _⟩ ?_
                    refine lv_i2l (v := (nI (σ (19 + i))).toInt64) hx hb dX1_hash_80 rfl ?_
                    refine lv_ladd hx hb dX1_hash_81 ?_
                    refine lv_lstore_n (lv' := [(1, .long ((31 * (hq σ i (hs (fun r => nI (σ (3 + r))) (σ 0) (hs (fun k => nI (nuN σ k)) 9 17)))) + ((nI (σ (19 + i))).toInt64))), (3, .int (nI i)), (0, .ref h)]) hx hb dX1_hash_82 rfl hl (by decide) rfl (fun ls hl => ?_)
                    refine lv_ldc2 (v := 31) hx hb hown (hts _ ct_RX1_155) dX1_hash_83 ?_
                    refine lv_lload_n hx hb dX1_hash_86 rfl (lv_at hl 0 rfl) ?_
                    refine lv_lmul hx hb dX1_hash_87 ?_
                    refine lv_aload_n hx hb dX1_hash_88 rfl (lv_at hl 2 rfl) ?_
                    refine lv_iload_n hx hb dX1_hash_89 rfl (lv_at hl 1 rfl) ?_
                    refine nv_callV [.int (nI i)] [.long (31 * ((31 * (hq σ i (hs (fun r => nI (σ (3 + r))) (σ 0) (hs (fun k => nI (nuN σ k)) 9 17)))) + ((nI (σ (19 + i))).toInt64)))] hx hb hml hown hts k_RX1_134 (c_X1_wordRead l D cI cR h a σ i hw (by omega)) ⟨rfl, rfl, Nat.le_of_ble_eq_true rfl, Nat.le_of_ble_eq_true rfl⟩ hP hK 1 rfl rfl rfl rfl hl rfl (Nat.le_of_ble_eq_true rfl) dX1_hash_90 ⟨Nat.zero_le _, Nat.zero_le _⟩ ?_
                    refine lv_i2l (v := (nI (rdN σ i)).toInt64) hx hb dX1_hash_93 rfl ?_
                    refine lv_ladd hx hb dX1_hash_94 ?_
                    refine lv_lstore_n (lv' := [(1, .long ((31 * ((31 * (hq σ i (hs (fun r => nI (σ (3 + r))) (σ 0) (hs (fun k => nI (nuN σ k)) 9 17)))) + ((nI (σ (19 + i))).toInt64))) + ((nI (rdN σ i)).toInt64))), (3, .int (nI i)), (0, .ref h)]) hx hb dX1_hash_95 rfl hl (by decide) rfl (fun ls hl => ?_)
                    refine lv_ldc2 (v := 31) hx hb hown (hts _ ct_RX1_155) dX1_hash_96 ?_
                    refine lv_lload_n hx hb dX1_hash_99 rfl (lv_at hl 0 rfl) ?_
                    refine lv_lmul hx hb dX1_hash_100 ?_
                    refine lv_aload_n hx hb dX1_hash_101 rfl (lv_at hl 2 rfl) ?_
                    refine lv_iload_n hx hb dX1_hash_102 rfl (lv_at hl 1 rfl) ?_
                    refine nv_callV [.int (nI i)] [.long (31 * ((31 * ((31 * (hq σ i (hs (fun r => nI (σ (3 + r))) (σ 0) (hs (fun k => nI (nuN σ k)) 9 17)))) + ((nI (σ (19 + i))).toInt64))) + ((nI (rdN σ i)).toInt64)))] hx hb hml hown hts k_RX1_125 (c_X1_parityIsRight l D cI cR h a σ i hw (by omega)) ⟨rfl, rfl, Nat.le_of_ble_eq_true rfl, Nat.le_of_ble_eq_true rfl⟩ hP hK 1 rfl rfl rfl rfl hl rfl (Nat.le_of_ble_eq_true rfl) dX1_hash_103 ⟨Nat.zero_le _, Nat.zero_le _⟩ ?_
                    have J106 : ∀ (ls : Array Slot), lv_has ls 5 [(1, .long ((31 * ((31 * (hq σ i (hs (fun r => nI (σ (3 + r))) (σ 0) (hs (fun k => nI (nuN σ k)) 9 17)))) + ((nI (σ (19 + i))).toInt64))) + ((nI (rdN σ i)).toInt64))), (3, .int (nI i)), (0, .ref h)] → W p l e (rmK 4 85) s m args below meth c s.heap [] 0 0 (MQ below (QcReadL (hsF σ)) args s 0 0 (fun _ => False)) (F0 m 114 ls [.int (nI ((paB σ i).toNat)), .long (31 * ((31 * ((31 * (hq σ i (hs (fun r => nI (σ (3 + r))) (σ 0) (hs (fun k => nI (nuN σ k)) 9 17)))) + ((nI (σ (19 + i))).toInt64))) + ((nI (rdN σ i)).toInt64)))]) := by
                      intro ls hl
                      refine lv_i2l (v := (nI ((paB σ i).toNat)).toInt64) hx hb dX1_hash_114 rfl ?_
                      refine lv_ladd hx hb dX1_hash_115 ?_
                      refine lv_lstore_n (lv' := [(1, .long ((31 * ((31 * ((31 * (hq σ i (hs (fun r => nI (σ (3 + r))) (σ 0) (hs (fun k => nI (nuN σ k)) 9 17)))) + ((nI (σ (19 + i))).toInt64))) + ((nI (rdN σ i)).toInt64))) + ((nI ((paB σ i).toNat)).toInt64))), (3, .int (nI i)), (0, .ref h)]) hx hb dX1_hash_116 rfl hl (by decide) rfl (fun ls hl => ?_)
                      refine lv_ldc2 (v := 31) hx hb hown (hts _ ct_RX1_155) dX1_hash_117 ?_
                      refine lv_lload_n hx hb dX1_hash_120 rfl (lv_at hl 0 rfl) ?_
                      refine lv_lmul hx hb dX1_hash_121 ?_
                      refine lv_aload_n hx hb dX1_hash_122 rfl (lv_at hl 2 rfl) ?_
                      refine va_get (D := D) (ci := 1) (v := .ref (a 3)) (C := RX1) (T := TX1) (N := 7) hx hb hts inX1 hown hK hP 0 rfl rfl 6 (by decide) (hts _ fl_RX1_21) (fun _ h9 => h9) rfl dX1_hash_123 ?_
                      refine lv_iload_n hx hb dX1_hash_126 rfl (lv_at hl 1 rfl) ?_
                      refine nv_iald (D := D) (v := (ptF σ) i) hx hb hK hP 4 0 rfl rfl (k := i) (by omega) (by decide) (rfl) dX1_hash_127 ?_
                      refine lv_i2l (v := ((ptF σ) i).toInt64) hx hb dX1_hash_128 rfl ?_
                      refine lv_ladd hx hb dX1_hash_129 ?_
                      refine lv_lstore_n (lv' := [(1, .long ((31 * ((31 * ((31 * ((31 * (hq σ i (hs (fun r => nI (σ (3 + r))) (σ 0) (hs (fun k => nI (nuN σ k)) 9 17)))) + ((nI (σ (19 + i))).toInt64))) + ((nI (rdN σ i)).toInt64))) + ((nI ((paB σ i).toNat)).toInt64))) + (((ptF σ) i).toInt64))), (3, .int (nI i)), (0, .ref h)]) hx hb dX1_hash_130 rfl hl (by decide) rfl (fun ls hl => ?_)
                      refine nv_inc (k := 1) (lv' := [(3, .int (nI (i + 1))), (1, .long ((31 * ((31 * ((31 * ((31 * (hq σ i (hs (fun r => nI (σ (3 + r))) (σ 0) (hs (fun k => nI (nuN σ k)) 9 17)))) + ((nI (σ (19 + i))).toInt64))) + ((nI (rdN σ i)).toInt64))) + ((nI ((paB σ i).toNat)).toInt64))) + (((ptF σ) i).toInt64))), (0, .ref h)]) hx hb dX1_hash_131 hl rfl (by decide) rfl (fun ls hl => ?_)
                      refine lv_goto (tgt := 62) hx hb dX1_hash_134 (by decide) ?_
                      exact ih62 (i + 1) (by omega) (by omega)  ls (lv_sub hl [0, 1, 2] rfl)
                    refine lv_if_eq (tgt := 113) hx hb dX1_hash_106 (by decide) (fun q_106 => ?_) (fun q_106 => ?_)
                    · refine lv_iconst (v := nI 0) hx hb dX1_hash_113 (by decide) ?_
                      refine nv_top ((paB σ i).toNat) (by first | (rw [zB_eq0 q_106]; rfl) | (rw [zB_ne0 q_106]; rfl)) ?_
                      exact J106 ls (lv_sub hl [0, 1, 2] rfl)
                    · refine lv_iconst (v := nI 1) hx hb dX1_hash_109 (by decide) ?_
                      refine lv_goto (tgt := 114) hx hb dX1_hash_110 (by decide) ?_
                      refine nv_top ((paB σ i).toNat) (by first | (rw [zB_eq0 q_106]; rfl) | (rw [zB_ne0 q_106]; rfl)) ?_
                      exact J106 ls (lv_sub hl [0, 1, 2] rfl)
              have hl := lv_repl [(3, .int (nI 0)), (1, .long (hq σ 0 (hs (fun r => nI (σ (3 + r))) (σ 0) (hs (fun k => nI (nuN σ k)) 9 17)))), (0, .ref h)] 1 rfl (congrArg (fun z : Int64 => Value.long z) (show (hs (fun r => nI (σ (3 + r))) i (hs (fun k => nI (nuN σ k)) 9 17)) = (hq σ 0 (hs (fun r => nI (σ (3 + r))) (σ 0) (hs (fun k => nI (nuN σ k)) 9 17))) from by rw [show i = σ 0 by omega]; rfl)) rfl hl
              exact L62 (nA σ + 1) 0 (by omega) (by omega)  ls (lv_sub hl [0, 1, 2] rfl)
            · refine lv_ldc2 (v := 31) hx hb hown (hts _ ct_RX1_155) dX1_hash_41 ?_
              refine lv_lload_n hx hb dX1_hash_44 rfl (lv_at hl 1 rfl) ?_
              refine lv_lmul hx hb dX1_hash_45 ?_
              refine lv_aload_n hx hb dX1_hash_46 rfl (lv_at hl 2 rfl) ?_
              refine lv_iload_n hx hb dX1_hash_47 rfl (lv_at hl 0 rfl) ?_
              refine nv_callV [.int (nI i)] [.long (31 * (hs (fun r => nI (σ (3 + r))) i (hs (fun k => nI (nuN σ k)) 9 17)))] hx hb hml hown hts k_RX1_85 (c_X1_codeOf l D cI cR h a σ i hw (by omega)) ⟨rfl, rfl, Nat.le_of_ble_eq_true rfl, Nat.le_of_ble_eq_true rfl⟩ hP hK 1 rfl rfl rfl rfl hl rfl (Nat.le_of_ble_eq_true rfl) dX1_hash_48 ⟨Nat.zero_le _, Nat.zero_le _⟩ ?_
              refine lv_i2l (v := (nI (σ (3 + i))).toInt64) hx hb dX1_hash_51 rfl ?_
              refine lv_ladd hx hb dX1_hash_52 ?_
              refine lv_lstore_n (lv' := [(1, .long ((31 * (hs (fun r => nI (σ (3 + r))) i (hs (fun k => nI (nuN σ k)) 9 17))) + ((nI (σ (3 + i))).toInt64))), (3, .int (nI i)), (0, .ref h)]) hx hb dX1_hash_53 rfl hl (by decide) rfl (fun ls hl => ?_)
              refine nv_inc (k := 1) (lv' := [(3, .int (nI (i + 1))), (1, .long ((31 * (hs (fun r => nI (σ (3 + r))) i (hs (fun k => nI (nuN σ k)) 9 17))) + ((nI (σ (3 + i))).toInt64))), (0, .ref h)]) hx hb dX1_hash_54 hl rfl (by decide) rfl (fun ls hl => ?_)
              refine lv_goto (tgt := 33) hx hb dX1_hash_57 (by decide) ?_
              exact ih33 (i + 1) (by omega) (by omega)  ls (lv_sub hl [0, 1, 2] rfl)
        have hl := lv_repl [(3, .int (nI 0)), (1, .long (hs (fun r => nI (σ (3 + r))) 0 (hs (fun k => nI (nuN σ k)) 9 17))), (0, .ref h)] 1 rfl (congrArg (fun z : Int64 => Value.long z) (show (hs (fun k => nI (nuN σ k)) i 17) = (hs (fun r => nI (σ (3 + r))) 0 (hs (fun k => nI (nuN σ k)) 9 17)) from by rw [show i = 9 by omega]; rfl)) rfl hl
        exact L33 (σ 0 + 1) 0 (by omega) (by omega)  ls (lv_sub hl [0, 1, 2] rfl)
      · refine lv_ldc2 (v := 31) hx hb hown (hts _ ct_RX1_155) dX1_hash_12 ?_
        refine lv_lload_n hx hb dX1_hash_15 rfl (lv_at hl 1 rfl) ?_
        refine lv_lmul hx hb dX1_hash_16 ?_
        refine lv_aload_n hx hb dX1_hash_17 rfl (lv_at hl 2 rfl) ?_
        refine lv_iload_n hx hb dX1_hash_18 rfl (lv_at hl 0 rfl) ?_
        refine nv_callV [.int (nI i)] [.long (31 * (hs (fun k => nI (nuN σ k)) i 17))] hx hb hml hown hts k_RX1_157 (c_X1_number l D cI cR h a σ i hw (by omega)) ⟨rfl, rfl, Nat.le_of_ble_eq_true rfl, Nat.le_of_ble_eq_true rfl⟩ hP hK 1 rfl rfl rfl rfl hl rfl (Nat.le_of_ble_eq_true rfl) dX1_hash_19 ⟨Nat.zero_le _, Nat.zero_le _⟩ ?_
        refine lv_i2l (v := (nI (nuN σ i)).toInt64) hx hb dX1_hash_22 rfl ?_
        refine lv_ladd hx hb dX1_hash_23 ?_
        refine lv_lstore_n (lv' := [(1, .long ((31 * (hs (fun k => nI (nuN σ k)) i 17)) + ((nI (nuN σ i)).toInt64))), (3, .int (nI i)), (0, .ref h)]) hx hb dX1_hash_24 rfl hl (by decide) rfl (fun ls hl => ?_)
        refine nv_inc (k := 1) (lv' := [(3, .int (nI (i + 1))), (1, .long ((31 * (hs (fun k => nI (nuN σ k)) i 17)) + ((nI (nuN σ i)).toInt64))), (0, .ref h)]) hx hb dX1_hash_25 hl rfl (by decide) rfl (fun ls hl => ?_)
        refine lv_goto (tgt := 6) hx hb dX1_hash_28 (by decide) ?_
        exact ih6 (i + 1) (by omega) (by omega)  ls (lv_sub hl [0, 1, 2] rfl)
  exact L6 (9 + 1) 0 (by omega) (by omega)  ls (lv_sub hl [0, 1, 2] rfl)
end
section
/-! ===== writing: a world in other words, numbers in rows ===== -/
def nF (g : Nat → Nat) : Nat → Int32 := fun w => nI (g w)
theorem upd_nF (g : Nat → Nat) (w x : Nat) : upd (nF g) w (nI x) = nF (va_up g w x) := by
  funext j
  unfold upd nF va_up
  by_cases h : j = w <;> simp [h]
theorem up_s {α : Type} (g : Nat → α) (w : Nat) (x : α) : va_up g w x w = x := by unfold va_up; rw [if_pos rfl]
theorem up_n {α : Type} (g : Nat → α) {w j : Nat} (x : α) (h : ¬ j = w) : va_up g w x j = g j := by unfold va_up; rw [if_neg h]
def pbN (x r b : Nat) : Nat := nw_wo x (1 <<< r) ||| b <<< r
theorem pbN_bit (x r : Nat) (b : Bool) (i : Nat) : (pbN x r b.toNat).testBit i = if i = r then b else x.testBit i := by
  unfold pbN
  rw [Nat.testBit_or, nw_wo_bit, b1_bit]
  have h : (1 <<< r).testBit i = decide (i = r) := by
    have := b1_bit true r i
    simpa using this
  rw [h]
  by_cases e : i = r <;> simp [e]
def pcG (g : Nat → Nat) (r c n : Nat) : Nat → Nat := fun w => if w < n then pbN (g w) r (c.testBit (w / 2) == (w % 2 == 1)).toNat else g w
theorem pc_0 (g : Nat → Nat) (r c : Nat) : nF g = nF (pcG g r c (2 * 0)) := by
  funext j
  unfold nF pcG
  rw [if_neg (by omega)]
theorem pc_step (g : Nat → Nat) (r c i : Nat) : va_up (va_up (pcG g r c (2 * i)) (2 * i) (pbN (pcG g r c (2 * i) (2 * i)) r (1 - (c.testBit i).toNat))) (2 * i + 1) (pbN (va_up (pcG g r c (2 * i)) (2 * i) (pbN (pcG g r c (2 * i) (2 * i)) r (1 - (c.testBit i).toNat)) (2 * i + 1)) r (c.testBit i).toNat) = pcG g r c (2 * (i + 1)) := by
  funext j
  by_cases h1 : j = 2 * i + 1
  · subst h1
    rw [up_s, up_n _ _ (by omega)]
    unfold pcG
    rw [if_neg (by omega), if_pos (by omega), show (2 * i + 1) / 2 = i by omega, show (2 * i + 1) % 2 = 1 by omega]
    simp
  · rw [up_n _ _ h1]
    by_cases h2 : j = 2 * i
    · subst h2
      rw [up_s]
      unfold pcG
      rw [if_neg (by omega), if_pos (by omega), show (2 * i) / 2 = i by omega, show (2 * i) % 2 = 0 by omega]
      cases c.testBit i <;> rfl
    · rw [up_n _ _ h2]
      unfold pcG
      by_cases h3 : j < 2 * i
      · rw [if_pos h3, if_pos (by omega)]
      · rw [if_neg h3, if_neg (by omega)]
def wbt (B wd j : Nat) : Bool := if j < B then wd.testBit j else pop wd % 2 == 0
def pwG (S B : Nat) (g : Nat → Nat) (ad wd n : Nat) : Nat → Nat := fun w => if 8 + ad % S * (B + 1) ≤ w ∧ w < 8 + ad % S * (B + 1) + n then pbN (g w) (ad / S) (wbt B wd (w - (8 + ad % S * (B + 1)))).toNat else g w
theorem pw_0 (S B : Nat) (g : Nat → Nat) (ad wd : Nat) : nF g = nF (pwG S B g ad wd 0) := by
  funext j
  unfold nF pwG
  rw [if_neg (by omega)]
theorem pw_step (S B : Nat) (g : Nat → Nat) (ad wd i : Nat) : va_up (pwG S B g ad wd i) (8 + ad % S * (B + 1) + i) (pbN (pwG S B g ad wd i (8 + ad % S * (B + 1) + i)) (ad / S) (wbt B wd i).toNat) = pwG S B g ad wd (i + 1) := by
  funext j
  by_cases h1 : j = 8 + ad % S * (B + 1) + i
  · subst h1
    rw [up_s]
    unfold pwG
    rw [if_neg (by omega), if_pos (by omega), show 8 + ad % S * (B + 1) + i - (8 + ad % S * (B + 1)) = i by omega]
  · rw [up_n _ _ h1]
    unfold pwG
    by_cases h2 : 8 + ad % S * (B + 1) ≤ j ∧ j < 8 + ad % S * (B + 1) + i
    · rw [if_pos h2, if_pos (by omega)]
    · rw [if_neg h2, if_neg (by omega)]
theorem wbt_lo {B wd i : Nat} (h : i < B) : (wd.testBit i).toNat = (wbt B wd i).toNat := by unfold wbt; rw [if_pos h]
theorem wbt_hi {B wd : Nat} : 1 - (pop wd &&& 1) = (wbt B wd B).toNat := by
  unfold wbt
  rw [if_neg (Nat.lt_irrefl _), Nat.and_one_is_mod]
  rcases Nat.mod_two_eq_zero_or_one (pop wd) with h | h <;> rw [h] <;> rfl
def zfF (f : Nat → Int32) (z : Int32) (n : Nat) : Nat → Int32 := fun w => if w < n then z else f w
theorem zf_0 (f : Nat → Int32) (z : Int32) : f = zfF f z 0 := by
  funext j
  unfold zfF
  rw [if_neg (by omega)]
theorem zf_s (f : Nat → Int32) (z : Int32) (i : Nat) : upd (zfF f z i) i z = zfF f z (i + 1) := by
  funext j
  unfold upd zfF
  by_cases h : j = i
  · rw [if_pos h, if_pos (by omega)]
  · rw [if_neg h]
    by_cases h2 : j < i
    · rw [if_pos h2, if_pos (by omega)]
    · rw [if_neg h2, if_neg (by omega)]
def scG : Nat → Nat → Nat
  | 0 => fun _ => 0
  | n + 1 => pcG (scG n) n n 8
def swG (R B S : Nat) : Nat → Nat → Nat
  | 0 => scG R
  | n + 1 => pwG S B (swG R B S n) n 0 (B + 1)
/-- one world holds where another does -/
def nTo (D : va_G) (w1 w2 : va_W) : Prop := (∀ H, va_P D vwCl w1 H → va_P D vwCl w2 H) ∧ ∀ A : Nat → Prop, va_D A w1 → va_D A w2
theorem nTo.rf {D : va_G} {w : va_W} : nTo D w w := ⟨fun _ h => h, fun _ h => h⟩
theorem nTo.tr {D : va_G} {w1 w2 w3 : va_W} (h : nTo D w1 w2) (k : nTo D w2 w3) : nTo D w1 w3 := ⟨fun H q => k.1 H (h.1 H q), fun A q => k.2 A (h.2 A q)⟩
theorem nTo.app {D : va_G} {v1 v2 w1 w2 : va_W} (hv : v1.map Prod.fst = v2.map Prod.fst) (hw : w1.map Prod.fst = w2.map Prod.fst) (h : ∀ H, va_P D vwCl v1 H → va_P D vwCl v2 H) (k : ∀ H, va_P D vwCl w1 H → va_P D vwCl w2 H) : nTo D (v1 ++ w1) (v2 ++ w2) := by
  have hl : v1.length = v2.length := by have := congrArg List.length hv; simpa using this
  have hl2 : w1.length = w2.length := by have := congrArg List.length hw; simpa using this
  have hm : (v1 ++ w1).map Prod.fst = (v2 ++ w2).map Prod.fst := by rw [List.map_append, List.map_append, hv, hw]
  have ad : ∀ {k : Nat} {q : Nat × va_E}, (v2 ++ w2)[k]? = some q → ∃ q' : Nat × va_E, (v1 ++ w1)[k]? = some q' ∧ q'.1 = q.1 := by
    intro k q hq
    have h1 : ((v2 ++ w2).map Prod.fst)[k]? = some q.1 := by rw [List.getElem?_map, hq]; rfl
    rw [← hm, List.getElem?_map] at h1
    cases hz : (v1 ++ w1)[k]? with
    | none => rw [hz] at h1; cases h1
    | some q' => rw [hz] at h1; exact ⟨q', rfl, Option.some.inj h1⟩
  refine ⟨fun H q => va_P.app (h H fun i x hx => q i x ?_) (k H fun i x hx => q (v1.length + i) x ?_), fun A q => ⟨fun i j x y hx hy e => ?_, fun i x hx => ?_⟩⟩
  · rw [List.getElem?_append_left (List.getElem?_eq_some_iff.mp hx).1]
    exact hx
  · rw [List.getElem?_append_right (by omega), Nat.add_sub_cancel_left]
    exact hx
  · obtain ⟨x', hx', ex⟩ := ad hx
    obtain ⟨y', hy', ey⟩ := ad hy
    exact q.1 i j x' y' hx' hy' (by rw [ex, ey, e])
  · obtain ⟨x', hx', ex⟩ := ad hx
    rw [← ex]
    exact q.2 i x' hx'
theorem vp_cell_eq {c : ClassId} {n : Nat} {f g : Nat → Int32} (h : ∀ j, j < n → f j = g j) : vp_cell c (n, .inl f) = vp_cell c (n, .inl g) := by
  rw [vp_cell_i, vp_cell_i]
  unfold arrV
  congr 1
  refine Array.ext (by simp) fun i h1 h2 => ?_
  simp only [Array.getElem_ofFn]
  rw [h i (by simpa using h1)]
theorem va_P_cell {D : va_G} {cl : List vw_C} {ws ws' : va_W} {H : Heap} (q : Nat) {a n : Nat} {c : ClassId} {f g : Nat → Int32} (ha : ws[q]? = some (a, .inl (c, n, .inl f))) (hw : ws.set q (a, .inl (c, n, .inl g)) = ws') (h : ∀ j, j < n → f j = g j) (hP : va_P D cl ws H) : va_P D cl ws' H := by
  subst hw
  intro k x hx
  rw [List.getElem?_set] at hx
  by_cases e : q = k
  · subst e
    rw [if_pos rfl, if_pos (List.getElem?_eq_some_iff.mp ha).1] at hx
    cases hx
    have h1 := hP q _ ha
    show H[a]? = some (vp_cell c (n, .inl g))
    rw [← vp_cell_eq h]
    exact h1
  · rw [if_neg e] at hx
    exact hP k x hx
theorem va_D_cell {A : Nat → Prop} {ws ws' : va_W} (q : Nat) {a n : Nat} {c : ClassId} {f g : Nat → Int32} (ha : ws[q]? = some (a, .inl (c, n, .inl f))) (hw : ws.set q (a, .inl (c, n, .inl g)) = ws') (hD : va_D A ws) : va_D A ws' := by
  subst hw
  exact hD.set ha
theorem rp_to {D : va_G} {h : Nat} {a : Nat → Nat} {cI : ClassId} {R B S R' B' S' : Nat} {f0 f1 f2 f3 g0 g1 g2 g3 : Nat → Int32} (eR : R = R') (eB : B = B') (eS : S = S') (h0 : ∀ j, j < 41 → f0 j = g0 j) (h1 : ∀ j, j < 41 → f1 j = g1 j) (h2 : ∀ j, j < 41 → f2 j = g2 j) (h3 : ∀ j, j < 48 → f3 j = g3 j) : nTo D (wRp h a cI R B S f0 f1 f2 f3) (wRp h a cI R' B' S' g0 g1 g2 g3) := by
  subst eR eB eS
  refine ⟨fun H hP => ?_, fun A hD => ?_⟩
  · have p1 : va_P D vwCl (wRp h a cI R B S g0 f1 f2 f3) H := va_P_cell 1 rfl rfl h0 hP
    have p2 : va_P D vwCl (wRp h a cI R B S g0 g1 f2 f3) H := va_P_cell 2 rfl rfl h1 p1
    have p3 : va_P D vwCl (wRp h a cI R B S g0 g1 g2 f3) H := va_P_cell 3 rfl rfl h2 p2
    exact va_P_cell 4 rfl rfl h3 p3
  · have p1 : va_D A (wRp h a cI R B S g0 f1 f2 f3) := va_D_cell 1 (f := f0) rfl rfl hD
    have p2 : va_D A (wRp h a cI R B S g0 g1 f2 f3) := va_D_cell 2 (f := f1) rfl rfl p1
    have p3 : va_D A (wRp h a cI R B S g0 g1 g2 f3) := va_D_cell 3 (f := f2) rfl rfl p2
    exact va_D_cell 4 (f := f3) rfl rfl p3
theorem Met.to {l : Launch} {y : MethodName} {ws : List Cond} {rm : Room} {Pc : Array Value → State → Prop} {D : va_G} {oc : Option Value} {w1 w2 : va_W} {A : Nat → Prop} {mc ms : Nat} {free : Addr → Prop} (h : Met l y ws rm Pc (QcM D oc w1 A) mc ms free) (t : nTo D w1 w2) : Met l y ws rm Pc (QcM D oc w2 A) mc ms free := by
  intro p e ha hc hk s m args below hf hs hP hK
  obtain ⟨n, o, h1, h2, h3, ⟨q1, q2, q3, q4⟩, h5⟩ := h p e ha hc hk s m args below hf hs hP hK
  exact ⟨n, o, h1, h2, h3, ⟨q1, t.1 _ q2, t.2 _ q3, q4⟩, h5⟩
theorem cpy_all {α : Type} {f g : Nat → α} {sp dp n N j : Nat} (h1 : sp = 0) (h2 : dp = 0) (h3 : n = N) (hj : j < N) : va_cpy f g sp dp n j = f j := by
  subst h1 h2 h3
  rw [pk_cpy_in (Nat.zero_le j) (by omega)]
  congr 1
  omega
end
section
set_option maxHeartbeats 4000000 in
set_option maxRecDepth 100000 in
theorem c_X1_putBit (l : Launch) (D : va_G) (cI cR : ClassId) (h : Nat) (a : Nat → Nat) (R : Nat) (B : Nat) (S : Nat) (g : Nat → Nat) (f1 : Nat → Int32) (f2 : Nat → Int32) (f3 : Nat → Int32) (w : Nat) (r : Nat) (b : Nat)  (h1 : w < 41) (h2 : r < 32) (sz : Nat) : Met l yX1_putBit (wsC yX1_putBit cX1_putBit 4 none) (rmK 0 0) (nPreM D (nTy cI cR) [.ref h, .int (nI w), .int (nI r), .int (nI b)] (wRp h a cI R B S (nF g) f1 f2 f3) sz) (QcM D none (wRp h a cI R B S (nF (va_up g w (pbN (g w) r b))) f1 f2 f3) (va_A (wRp h a cI R B S (nF g) f1 f2 f3) sz)) 0 0 (va_A (wRp h a cI R B S (nF g) f1 f2 f3) sz) := by
  refine met_mut (Qc := fun A => QcM D none (wRp h a cI R B S (nF (va_up g w (pbN (g w) r b))) f1 f2 f3) A) rfl (Nat.le_of_ble_eq_true rfl) ?_
  intro p e s m args below meth c ls A H locs hx hb hml hr hlocks hown hts hP hK hD hA hS hl
  have hl : lv_has ls 4 [(0, .ref h), (1, .int (nI w)), (2, .int (nI r)), (3, .int (nI b))] := hl
  refine lv_aload_n hx hb dX1_putBit_0 rfl (lv_at hl 0 rfl) ?_
  refine va_get (D := D) (ci := 1) (v := .ref (a 0)) (C := RX1) (T := TX1) (N := 7) hx hb hts inX1 hown hK hP 0 rfl rfl 3 (by decide) (hts _ fl_RX1_9) (fun _ h9 => h9) rfl dX1_putBit_1 ?_
  refine lv_iload_n hx hb dX1_putBit_4 rfl (lv_at hl 1 rfl) ?_
  refine lv_aload_n hx hb dX1_putBit_5 rfl (lv_at hl 0 rfl) ?_
  refine va_get (D := D) (ci := 1) (v := .ref (a 0)) (C := RX1) (T := TX1) (N := 7) hx hb hts inX1 hown hK hP 0 rfl rfl 3 (by decide) (hts _ fl_RX1_9) (fun _ h9 => h9) rfl dX1_putBit_6 ?_
  refine lv_iload_n hx hb dX1_putBit_9 rfl (lv_at hl 1 rfl) ?_
  refine nv_iald (D := D) (v := nI (g w)) hx hb hK hP 1 0 rfl rfl (k := w) (by omega) (by decide) (rfl) dX1_putBit_10 ?_
  refine lv_iconst (v := nI 1) hx hb dX1_putBit_11 (by decide) ?_
  refine lv_iload_n hx hb dX1_putBit_12 rfl (lv_at hl 2 rfl) ?_
  refine nv_ishl hx hb dX1_putBit_13 (by omega) ?_
  refine lv_iconst (v := -1) hx hb dX1_putBit_14 (by decide) ?_
  refine lv_ixor hx hb dX1_putBit_15 ?_
  refine nv_iandn hx hb dX1_putBit_16 ?_
  refine lv_iload_n hx hb dX1_putBit_17 rfl (lv_at hl 3 rfl) ?_
  refine lv_iload_n hx hb dX1_putBit_18 rfl (lv_at hl 2 rfl) ?_
  refine nv_ishl hx hb dX1_putBit_19 (by omega) ?_
  refine nv_ior hx hb dX1_putBit_20 ?_
  refine nv_iast (D := D) (ws' := (wRp h a cI R B S (upd (nF g) w (nI ((nw_wo (g w) (1 <<< r)) ||| (b <<< r)))) f1 f2 f3)) hx hb hK hP hD hS 1 0 rfl rfl (k := w) (by omega) (by decide) rfl dX1_putBit_21 (fun H locs hP hD hS => ?_)
  have eR : (upd (nF g) w (nI ((nw_wo (g w) (1 <<< r)) ||| (b <<< r)))) = (nF (va_up g w (pbN (g w) r b))) := upd_nF g w _
  rw [eR] at hP hD
  have hP : va_P D vwCl (wRp h a cI R B S (nF (va_up g w (pbN (g w) r b))) f1 f2 f3) H := hP
  have hD : va_D A (wRp h a cI R B S (nF (va_up g w (pbN (g w) r b))) f1 f2 f3) := hD
  exact mu_retv hx hb hr hlocks hP hD hS dX1_putBit_22
set_option maxHeartbeats 4000000 in
set_option maxRecDepth 100000 in
theorem c_X1_putCode (l : Launch) (D : va_G) (cI cR : ClassId) (h : Nat) (a : Nat → Nat) (R : Nat) (B : Nat) (S : Nat) (g : Nat → Nat) (f1 : Nat → Int32) (f2 : Nat → Int32) (f3 : Nat → Int32) (r : Nat) (c0 : Nat)  (h1 : r < 32) (h2 : c0 < 16) (sz : Nat) : Met l yX1_putCode (wsC yX1_putCode cX1_putCode 5 none) (rmK 1 23) (nPreM D (nTy cI cR) [.ref h, .int (nI r), .int (nI c0)] (wRp h a cI R B S (nF g) f1 f2 f3) sz) (QcM D none (wRp h a cI R B S (nF (pcG g r c0 8)) f1 f2 f3) (va_A (wRp h a cI R B S (nF g) f1 f2 f3) sz)) 0 0 (va_A (wRp h a cI R B S (nF g) f1 f2 f3) sz) := by
  refine met_mut (Qc := fun A => QcM D none (wRp h a cI R B S (nF (pcG g r c0 8)) f1 f2 f3) A) rfl (Nat.le_of_ble_eq_true rfl) ?_
  intro p e s m args below meth c ls A H locs hx hb hml hr hlocks hown hts hP hK hD hA hS hl
  have hl : lv_has ls 5 [(0, .ref h), (1, .int (nI r)), (2, .int (nI c0))] := hl
  refine lv_iconst (v := nI 0) hx hb dX1_putCode_0 (by decide) ?_
  refine lv_istore_n (lv' := [(3, .int (nI 0)), (0, .ref h), (1, .int (nI r)), (2, .int (nI c0))]) hx hb dX1_putCode_1 rfl hl (by decide) rfl (fun ls hl => ?_)
  have L2 : ∀ (n2 i : Nat), 4 + 1 ≤ i + n2 → i ≤ 4 → ∀ (H : Heap) (locs : List Loc), va_P D vwCl (wRp h a cI R B S (nF (pcG g r c0 (2 * i))) f1 f2 f3) H → va_D A (wRp h a cI R B S (nF (pcG g r c0 (2 * i))) f1 f2 f3) → va_S A s.heap H locs → ∀ (ls : Array Slot), lv_has ls 5 [(3, .int (nI i)), (0, .ref h), (1, .int (nI r)), (2, .int (nI c0))] → W p l e (rmK 1 23) s m args below meth c H locs 0 0 (MQ below (QcM D none (wRp h a cI R B S (nF (pcG g r c0 8)) f1 f2 f3) A) args s 0 0 A) (F0 m 2 ls []) := by
    intro n2
    induction n2 with
    | zero =>
      intro i h1_2 h2_2
      exact False.elim (by omega)
    | succ n2 ih2 =>
      intro i h1_2 h2_2  H locs hP hD hS ls hl
      refine lv_iload_n hx hb dX1_putCode_2 rfl (lv_at hl 0 rfl) ?_
      refine lv_iconst (v := nI 4) hx hb dX1_putCode_3 (by decide) ?_
      refine nv_icmp_ge (tgt := 44) hx hb dX1_putCode_4 (by decide) (by omega) (by omega) (fun q_4 => ?_) (fun q_4 => ?_)
      · have ei : i = 4 := by omega
        have eR : (nF (pcG g r c0 (2 * i))) = (nF (pcG g r c0 8)) := by rw [ei]
        rw [eR] at hP hD
        have hP : va_P D vwCl (wRp h a cI R B S (nF (pcG g r c0 8)) f1 f2 f3) H := hP
        have hD : va_D A (wRp h a cI R B S (nF (pcG g r c0 8)) f1 f2 f3) := hD
        exact mu_retv hx hb hr hlocks hP hD hS dX1_putCode_44
      · refine lv_iload_n hx hb dX1_putCode_7 rfl (lv_at hl 3 rfl) ?_
        refine lv_iload_n hx hb dX1_putCode_8 rfl (lv_at hl 0 rfl) ?_
        refine nv_ishr hx hb dX1_putCode_9 (by omega) (by omega) ?_
        refine lv_iconst (v := nI 1) hx hb dX1_putCode_10 (by decide) ?_
        refine nv_iand hx hb dX1_putCode_11 ?_
        refine nv_top ((c0.testBit i).toNat) (nw_tb _ _) ?_
        refine lv_istore (lv' := [(4, .int (nI ((c0.testBit i).toNat))), (3, .int (nI i)), (0, .ref h), (1, .int (nI r)), (2, .int (nI c0))]) hx hb dX1_putCode_12 hl (by decide) rfl (fun ls hl => ?_)
        refine lv_aload_n hx hb dX1_putCode_14 rfl (lv_at hl 2 rfl) ?_
        refine lv_iconst (v := nI 2) hx hb dX1_putCode_15 (by decide) ?_
        refine lv_iload_n hx hb dX1_putCode_16 rfl (lv_at hl 1 rfl) ?_
        refine nv_imul hx hb dX1_putCode_17 ?_
        refine lv_iload_n hx hb dX1_putCode_18 rfl (lv_at hl 3 rfl) ?_
        refine lv_iconst (v := nI 1) hx hb dX1_putCode_19 (by decide) ?_
        refine lv_iload hx hb dX1_putCode_20 (lv_at hl 0 rfl) ?_
        refine nv_isub hx hb dX1_putCode_22 (toNat_le _) ?_
        refine mu_call (ws' := (wRp h a cI R B S (nF (va_up ((pcG g r c0 (2 * i))) (2 * i) (pbN (((pcG g r c0 (2 * i))) (2 * i)) r (1 - ((c0.testBit i).toNat))))) f1 f2 f3)) [0, 1, 2, 3, 4] [] [0, 1, 2, 3, 4] [.int (nI (2 * i)), .int (nI r), .int (nI (1 - ((c0.testBit i).toNat)))] [] hx hb hml hown hts k_RX1_82 (fun sz => c_X1_putBit l D cI cR h a R B S ((pcG g r c0 (2 * i))) f1 f2 f3 (2 * i) r (1 - ((c0.testBit i).toNat)) (by omega) (by omega) sz) ⟨rfl, rfl, Nat.le_of_ble_eq_true rfl, Nat.le_of_ble_eq_true rfl⟩ hP hD hS hA hK 1 rfl rfl rfl rfl rfl rfl rfl (by decide) rfl rfl rfl hl rfl (Nat.le_of_ble_eq_true rfl) dX1_putCode_23 ⟨Nat.zero_le _, Nat.zero_le _⟩ (fun H locs hP hD hS => ?_)
        refine W.eq (g2 := F0 m 26 ls []) rfl ?_
        refine lv_aload_n hx hb dX1_putCode_26 rfl (lv_at hl 2 rfl) ?_
        refine lv_iconst (v := nI 2) hx hb dX1_putCode_27 (by decide) ?_
        refine lv_iload_n hx hb dX1_putCode_28 rfl (lv_at hl 1 rfl) ?_
        refine nv_imul hx hb dX1_putCode_29 ?_
        refine lv_iconst (v := nI 1) hx hb dX1_putCode_30 (by decide) ?_
        refine nv_iadd hx hb dX1_putCode_31 ?_
        refine lv_iload_n hx hb dX1_putCode_32 rfl (lv_at hl 3 rfl) ?_
        refine lv_iload hx hb dX1_putCode_33 (lv_at hl 0 rfl) ?_
        refine mu_call (ws' := (wRp h a cI R B S (nF (va_up ((va_up ((pcG g r c0 (2 * i))) (2 * i) (pbN (((pcG g r c0 (2 * i))) (2 * i)) r (1 - ((c0.testBit i).toNat))))) ((2 * i) + 1) (pbN (((va_up ((pcG g r c0 (2 * i))) (2 * i) (pbN (((pcG g r c0 (2 * i))) (2 * i)) r (1 - ((c0.testBit i).toNat))))) ((2 * i) + 1)) r ((c0.testBit i).toNat)))) f1 f2 f3)) [0, 1, 2, 3, 4] [] [0, 1, 2, 3, 4] [.int (nI ((2 * i) + 1)), .int (nI r), .int (nI ((c0.testBit i).toNat))] [] hx hb hml hown hts k_RX1_82 (fun sz => c_X1_putBit l D cI cR h a R B S ((va_up ((pcG g r c0 (2 * i))) (2 * i) (pbN (((pcG g r c0 (2 * i))) (2 * i)) r (1 - ((c0.testBit i).toNat))))) f1 f2 f3 ((2 * i) + 1) r ((c0.testBit i).toNat) (by omega) (by omega) sz) ⟨rfl, rfl, Nat.le_of_ble_eq_true rfl, Nat.le_of_ble_eq_true rfl⟩ hP hD hS hA hK 1 rfl rfl rfl rfl rfl rfl rfl (by decide) rfl rfl rfl hl rfl (Nat.le_of_ble_eq_true rfl) dX1_putCode_35 ⟨Nat.zero_le _, Nat.zero_le _⟩ (fun H locs hP hD hS => ?_)
        refine W.eq (g2 := F0 m 38 ls []) rfl ?_
        have eR : (nF (va_up ((va_up ((pcG g r c0 (2 * i))) (2 * i) (pbN (((pcG g r c0 (2 * i))) (2 * i)) r (1 - ((c0.testBit i).toNat))))) ((2 * i) + 1) (pbN (((va_up ((pcG g r c0 (2 * i))) (2 * i) (pbN (((pcG g r c0 (2 * i))) (2 * i)) r (1 - ((c0.testBit i).toNat))))) ((2 * i) + 1)) r ((c0.testBit i).toNat)))) = (nF (pcG g r c0 (2 * (i + 1)))) := congrArg nF (pc_step g r c0 i)
        rw [eR] at hP hD
        have hP : va_P D vwCl (wRp h a cI R B S (nF (pcG g r c0 (2 * (i + 1)))) f1 f2 f3) H := hP
        have hD : va_D A (wRp h a cI R B S (nF (pcG g r c0 (2 * (i + 1)))) f1 f2 f3) := hD
        refine nv_inc (k := 1) (lv' := [(3, .int (nI (i + 1))), (4, .int (nI ((c0.testBit i).toNat))), (0, .ref h), (1, .int (nI r)), (2, .int (nI c0))]) hx hb dX1_putCode_38 hl rfl (by decide) rfl (fun ls hl => ?_)
        refine lv_goto (tgt := 2) hx hb dX1_putCode_41 (by decide) ?_
        exact ih2 (i + 1) (by omega) (by omega)  _ _ hP hD hS ls (lv_sub hl [0, 2, 3, 4] rfl)
  have eR : (nF g) = (nF (pcG g r c0 (2 * 0))) := pc_0 g r c0
  rw [eR] at hP hD
  have hP : va_P D vwCl (wRp h a cI R B S (nF (pcG g r c0 (2 * 0))) f1 f2 f3) H := hP
  have hD : va_D A (wRp h a cI R B S (nF (pcG g r c0 (2 * 0))) f1 f2 f3) := hD
  exact L2 5 0 (by omega) (by omega)  _ _ hP hD hS ls (lv_sub hl [0, 1, 2, 3] rfl)
set_option maxHeartbeats 4000000 in
set_option maxRecDepth 100000 in
theorem c_X1_putWord (l : Launch) (D : va_G) (cI cR : ClassId) (h : Nat) (a : Nat → Nat) (R : Nat) (B : Nat) (S : Nat) (g : Nat → Nat) (f1 : Nat → Int32) (f2 : Nat → Int32) (f3 : Nat → Int32) (ad : Nat) (wd : Nat)  (hS1 : 0 < S) (hS : S ≤ 3) (hB : B ≤ 10) (h1 : ad < 1000) (h2 : ad / S < 32) (h3 : wd < 65536) (sz : Nat) : Met l yX1_putWord (wsC yX1_putWord cX1_putWord 6 none) (rmK 1 23) (nPreM D (nTy cI cR) [.ref h, .int (nI ad), .int (nI wd)] (wRp h a cI R B S (nF g) f1 f2 f3) sz) (QcM D none (wRp h a cI R B S (nF (pwG S B g ad wd (B + 1))) f1 f2 f3) (va_A (wRp h a cI R B S (nF g) f1 f2 f3) sz)) 0 0 (va_A (wRp h a cI R B S (nF g) f1 f2 f3) sz) := by
  refine met_mut (Qc := fun A => QcM D none (wRp h a cI R B S (nF (pwG S B g ad wd (B + 1))) f1 f2 f3) A) rfl (Nat.le_of_ble_eq_true rfl) ?_
  intro p e s m args below meth c ls A H locs hx hb hml hr hlocks hown hts hP hK hD hA hS hl
  have hl : lv_has ls 6 [(0, .ref h), (1, .int (nI ad)), (2, .int (nI wd))] := hl
  have hm : ad % S < S := Nat.mod_lt _ hS1
  have hbs : ad % S * (B + 1) ≤ 2 * 11 := Nat.mul_le_mul (by omega) (by omega)
  refine lv_aload_n hx hb dX1_putWord_0 rfl (lv_at hl 0 rfl) ?_
  refine lv_iload_n hx hb dX1_putWord_1 rfl (lv_at hl 1 rfl) ?_
  refine nv_callV [.int (nI ad)] [] hx hb hml hown hts k_RX1_91 (c_X1_ringOf l D cI cR h a R B S (nF g) f1 f2 f3 ad (by omega) (by omega) (by omega)) ⟨rfl, rfl, Nat.le_of_ble_eq_true rfl, Nat.le_of_ble_eq_true rfl⟩ hP hK 1 rfl rfl rfl rfl hl rfl (Nat.le_of_ble_eq_true rfl) dX1_putWord_2 ⟨Nat.zero_le _, Nat.zero_le _⟩ ?_
  refine lv_istore_n (lv' := [(3, .int (nI (ad / S))), (0, .ref h), (1, .int (nI ad)), (2, .int (nI wd))]) hx hb dX1_putWord_5 rfl hl (by decide) rfl (fun ls hl => ?_)
  refine lv_aload_n hx hb dX1_putWord_6 rfl (lv_at hl 1 rfl) ?_
  refine lv_iload_n hx hb dX1_putWord_7 rfl (lv_at hl 2 rfl) ?_
  refine nv_callV [.int (nI ad)] [] hx hb hml hown hts k_RX1_88 (c_X1_setOf l D cI cR h a R B S (nF g) f1 f2 f3 ad (by omega) (by omega) (by omega)) ⟨rfl, rfl, Nat.le_of_ble_eq_true rfl, Nat.le_of_ble_eq_true rfl⟩ hP hK 1 rfl rfl rfl rfl hl rfl (Nat.le_of_ble_eq_true rfl) dX1_putWord_8 ⟨Nat.zero_le _, Nat.zero_le _⟩ ?_
  refine lv_istore (lv' := [(4, .int (nI (ad % S))), (3, .int (nI (ad / S))), (0, .ref h), (1, .int (nI ad)), (2, .int (nI wd))]) hx hb dX1_putWord_11 hl (by decide) rfl (fun ls hl => ?_)
  refine lv_iconst (v := nI 0) hx hb dX1_putWord_13 (by decide) ?_
  refine lv_istore (lv' := [(5, .int (nI 0)), (4, .int (nI (ad % S))), (3, .int (nI (ad / S))), (0, .ref h), (1, .int (nI ad)), (2, .int (nI wd))]) hx hb dX1_putWord_14 hl (by decide) rfl (fun ls hl => ?_)
  have L16 : ∀ (n16 i : Nat), B + 1 ≤ i + n16 → i ≤ B → ∀ (H : Heap) (locs : List Loc), va_P D vwCl (wRp h a cI R B S (nF (pwG S B g ad wd i)) f1 f2 f3) H → va_D A (wRp h a cI R B S (nF (pwG S B g ad wd i)) f1 f2 f3) → va_S A s.heap H locs → ∀ (ls : Array Slot), lv_has ls 6 [(5, .int (nI i)), (4, .int (nI (ad % S))), (3, .int (nI (ad / S))), (0, .ref h), (1, .int (nI ad)), (2, .int (nI wd))] → W p l e (rmK 1 23) s m args below meth c H locs 0 0 (MQ below (QcM D none (wRp h a cI R B S (nF (pwG S B g ad wd (B + 1))) f1 f2 f3) A) args s 0 0 A) (F0 m 16 ls []) := by
    intro n16
    induction n16 with
    | zero =>
      intro i h1_16 h2_16
      exact False.elim (by omega)
    | succ n16 ih16 =>
      intro i h1_16 h2_16  H locs hP hD hS ls hl
      refine lv_iload hx hb dX1_putWord_16 (lv_at hl 0 rfl) ?_
      refine lv_aload_n hx hb dX1_putWord_18 rfl (lv_at hl 3 rfl) ?_
      refine va_get (D := D) (ci := 1) (v := .int (nI B)) (C := RX1) (T := TX1) (N := 7) hx hb hts inX1 hown hK hP 0 rfl rfl 1 (by decide) (hts _ fl_RX1_32) (fun _ h9 => h9) rfl dX1_putWord_19 ?_
      refine nv_icmp_ge (tgt := 50) hx hb dX1_putWord_22 (by decide) (by omega) (by omega) (fun q_22 => ?_) (fun q_22 => ?_)
      · have ei : i = B := by omega
        have eR : (nF (pwG S B g ad wd i)) = (nF (pwG S B g ad wd B)) := by rw [ei]
        rw [eR] at hP hD
        have hP : va_P D vwCl (wRp h a cI R B S (nF (pwG S B g ad wd B)) f1 f2 f3) H := hP
        have hD : va_D A (wRp h a cI R B S (nF (pwG S B g ad wd B)) f1 f2 f3) := hD
        refine lv_aload_n hx hb dX1_putWord_50 rfl (lv_at hl 3 rfl) ?_
        refine lv_aload_n hx hb dX1_putWord_51 rfl (lv_at hl 3 rfl) ?_
        refine lv_iload hx hb dX1_putWord_52 (lv_at hl 1 rfl) ?_
        refine lv_aload_n hx hb dX1_putWord_54 rfl (lv_at hl 3 rfl) ?_
        refine va_get (D := D) (ci := 1) (v := .int (nI B)) (C := RX1) (T := TX1) (N := 7) hx hb hts inX1 hown hK hP 0 rfl rfl 1 (by decide) (hts _ fl_RX1_32) (fun _ h9 => h9) rfl dX1_putWord_55 ?_
        refine nv_callV [.int (nI (ad % S)), .int (nI B)] [.ref h] hx hb hml hown hts k_RX1_98 (c_X1_senseWire l D cI cR h a R B S (nF (pwG S B g ad wd B)) f1 f2 f3 (ad % S) B ) ⟨rfl, rfl, Nat.le_of_ble_eq_true rfl, Nat.le_of_ble_eq_true rfl⟩ hP hK 1 rfl rfl rfl rfl hl rfl (Nat.le_of_ble_eq_true rfl) dX1_putWord_58 ⟨Nat.zero_le _, Nat.zero_le _⟩ ?_
        refine lv_iload_n hx hb dX1_putWord_61 rfl (lv_at hl 2 rfl) ?_
        refine lv_iconst (v := nI 1) hx hb dX1_putWord_62 (by decide) ?_
        refine lv_iload_n hx hb dX1_putWord_63 rfl (lv_at hl 5 rfl) ?_
        refine nv_callS [.int (nI wd)] [.int (nI 1), .int (nI (ad / S)), .int (nI (8 + (ad % S) * (B + 1) + B)), .ref h] hx hb hml hown hts k_RX1_73 (c_J6_bitCount_0f7a4 l D cI cR wd (by omega)) ⟨rfl, rfl, Nat.le_of_ble_eq_true rfl, Nat.le_of_ble_eq_true rfl⟩ (va_P_nil) hK rfl hl rfl (Nat.le_of_ble_eq_true rfl) dX1_putWord_64 ⟨Nat.zero_le _, Nat.zero_le _⟩ ?_
        refine lv_iconst (v := nI 1) hx hb dX1_putWord_67 (by decide) ?_
        refine nv_iand hx hb dX1_putWord_68 ?_
        refine nv_isub hx hb dX1_putWord_69 (Nat.and_le_right) ?_
        refine nv_top ((wbt B wd B).toNat) (wbt_hi) ?_
        refine mu_call (ws' := (wRp h a cI R B S (nF (va_up ((pwG S B g ad wd B)) (8 + (ad % S) * (B + 1) + B) (pbN (((pwG S B g ad wd B)) (8 + (ad % S) * (B + 1) + B)) (ad / S) ((wbt B wd B).toNat)))) f1 f2 f3)) [0, 1, 2, 3, 4] [] [0, 1, 2, 3, 4] [.int (nI (8 + (ad % S) * (B + 1) + B)), .int (nI (ad / S)), .int (nI ((wbt B wd B).toNat))] [] hx hb hml hown hts k_RX1_82 (fun sz => c_X1_putBit l D cI cR h a R B S ((pwG S B g ad wd B)) f1 f2 f3 (8 + (ad % S) * (B + 1) + B) (ad / S) ((wbt B wd B).toNat) (by omega) (by omega) sz) ⟨rfl, rfl, Nat.le_of_ble_eq_true rfl, Nat.le_of_ble_eq_true rfl⟩ hP hD hS hA hK 1 rfl rfl rfl rfl rfl rfl rfl (by decide) rfl rfl rfl hl rfl (Nat.le_of_ble_eq_true rfl) dX1_putWord_70 ⟨Nat.zero_le _, Nat.zero_le _⟩ (fun H locs hP hD hS => ?_)
        refine W.eq (g2 := F0 m 73 ls []) rfl ?_
        have eR : (nF (va_up ((pwG S B g ad wd B)) (8 + (ad % S) * (B + 1) + B) (pbN (((pwG S B g ad wd B)) (8 + (ad % S) * (B + 1) + B)) (ad / S) ((wbt B wd B).toNat)))) = (nF (pwG S B g ad wd (B + 1))) := congrArg nF (pw_step S B g ad wd B)
        rw [eR] at hP hD
        have hP : va_P D vwCl (wRp h a cI R B S (nF (pwG S B g ad wd (B + 1))) f1 f2 f3) H := hP
        have hD : va_D A (wRp h a cI R B S (nF (pwG S B g ad wd (B + 1))) f1 f2 f3) := hD
        exact mu_retv hx hb hr hlocks hP hD hS dX1_putWord_73
      · refine lv_aload_n hx hb dX1_putWord_25 rfl (lv_at hl 3 rfl) ?_
        refine lv_aload_n hx hb dX1_putWord_26 rfl (lv_at hl 3 rfl) ?_
        refine lv_iload hx hb dX1_putWord_27 (lv_at hl 1 rfl) ?_
        refine lv_iload hx hb dX1_putWord_29 (lv_at hl 0 rfl) ?_
        refine nv_callV [.int (nI (ad % S)), .int (nI i)] [.ref h] hx hb hml hown hts k_RX1_98 (c_X1_senseWire l D cI cR h a R B S (nF (pwG S B g ad wd i)) f1 f2 f3 (ad % S) i ) ⟨rfl, rfl, Nat.le_of_ble_eq_true rfl, Nat.le_of_ble_eq_true rfl⟩ hP hK 1 rfl rfl rfl rfl hl rfl (Nat.le_of_ble_eq_true rfl) dX1_putWord_31 ⟨Nat.zero_le _, Nat.zero_le _⟩ ?_
        refine lv_iload_n hx hb dX1_putWord_34 rfl (lv_at hl 2 rfl) ?_
        refine lv_iload_n hx hb dX1_putWord_35 rfl (lv_at hl 5 rfl) ?_
        refine lv_iload hx hb dX1_putWord_36 (lv_at hl 0 rfl) ?_
        refine nv_ishr hx hb dX1_putWord_38 (by omega) (by omega) ?_
        refine lv_iconst (v := nI 1) hx hb dX1_putWord_39 (by decide) ?_
        refine nv_iand hx hb dX1_putWord_40 ?_
        refine nv_top ((wd.testBit i).toNat) (nw_tb _ _) ?_
        refine nv_top ((wbt B wd i).toNat) (wbt_lo q_22) ?_
        refine mu_call (ws' := (wRp h a cI R B S (nF (va_up ((pwG S B g ad wd i)) (8 + (ad % S) * (B + 1) + i) (pbN (((pwG S B g ad wd i)) (8 + (ad % S) * (B + 1) + i)) (ad / S) ((wbt B wd i).toNat)))) f1 f2 f3)) [0, 1, 2, 3, 4] [] [0, 1, 2, 3, 4] [.int (nI (8 + (ad % S) * (B + 1) + i)), .int (nI (ad / S)), .int (nI ((wbt B wd i).toNat))] [] hx hb hml hown hts k_RX1_82 (fun sz => c_X1_putBit l D cI cR h a R B S ((pwG S B g ad wd i)) f1 f2 f3 (8 + (ad % S) * (B + 1) + i) (ad / S) ((wbt B wd i).toNat) (by omega) (by omega) sz) ⟨rfl, rfl, Nat.le_of_ble_eq_true rfl, Nat.le_of_ble_eq_true rfl⟩ hP hD hS hA hK 1 rfl rfl rfl rfl rfl rfl rfl (by decide) rfl rfl rfl hl rfl (Nat.le_of_ble_eq_true rfl) dX1_putWord_41 ⟨Nat.zero_le _, Nat.zero_le _⟩ (fun H locs hP hD hS => ?_)
        refine W.eq (g2 := F0 m 44 ls []) rfl ?_
        have eR : (nF (va_up ((pwG S B g ad wd i)) (8 + (ad % S) * (B + 1) + i) (pbN (((pwG S B g ad wd i)) (8 + (ad % S) * (B + 1) + i)) (ad / S) ((wbt B wd i).toNat)))) = (nF (pwG S B g ad wd (i + 1))) := congrArg nF (pw_step S B g ad wd i)
        rw [eR] at hP hD
        have hP : va_P D vwCl (wRp h a cI R B S (nF (pwG S B g ad wd (i + 1))) f1 f2 f3) H := hP
        have hD : va_D A (wRp h a cI R B S (nF (pwG S B g ad wd (i + 1))) f1 f2 f3) := hD
        refine nv_inc (k := 0) (lv' := [(5, .int (nI (i + 1))), (4, .int (nI (ad % S))), (3, .int (nI (ad / S))), (0, .ref h), (1, .int (nI ad)), (2, .int (nI wd))]) hx hb dX1_putWord_44 hl rfl (by decide) rfl (fun ls hl => ?_)
        refine lv_goto (tgt := 16) hx hb dX1_putWord_47 (by decide) ?_
        exact ih16 (i + 1) (by omega) (by omega)  _ _ hP hD hS ls (lv_sub hl [0, 1, 2, 3, 4, 5] rfl)
  have eR : (nF g) = (nF (pwG S B g ad wd 0)) := pw_0 S B g ad wd
  rw [eR] at hP hD
  have hP : va_P D vwCl (wRp h a cI R B S (nF (pwG S B g ad wd 0)) f1 f2 f3) H := hP
  have hD : va_D A (wRp h a cI R B S (nF (pwG S B g ad wd 0)) f1 f2 f3) := hD
  exact L16 (B + 1) 0 (by omega) (by omega)  _ _ hP hD hS ls (lv_sub hl [0, 1, 2, 3, 4, 5] rfl)
set_option maxHeartbeats 4000000 in
set_option maxRecDepth 100000 in
theorem c_X1_turn (l : Launch) (D : va_G) (cI cR : ClassId) (h : Nat) (a : Nat → Nat) (R : Nat) (B : Nat) (S : Nat) (f0 : Nat → Int32) (f1 : Nat → Int32) (g2n : Nat → Nat) (f3 : Nat → Int32) (w : Nat)  (h1 : w < 41) (h2 : g2n w ≤ 1) (sz : Nat) : Met l yX1_turn (wsC yX1_turn cX1_turn 2 (some .int)) (rmK 0 0) (nPreM D (nTy cI cR) [.ref h, .int (nI w)] (wRp h a cI R B S f0 f1 (nF g2n) f3) sz) (QcM D (some (.int (nI (1 - g2n w)))) (wRp h a cI R B S f0 f1 (nF (va_up g2n w (1 - g2n w))) f3) (va_A (wRp h a cI R B S f0 f1 (nF g2n) f3) sz)) 0 0 (va_A (wRp h a cI R B S f0 f1 (nF g2n) f3) sz) := by
  refine met_mut (Qc := fun A => QcM D (some (.int (nI (1 - g2n w)))) (wRp h a cI R B S f0 f1 (nF (va_up g2n w (1 - g2n w))) f3) A) rfl (Nat.le_of_ble_eq_true rfl) ?_
  intro p e s m args below meth c ls A H locs hx hb hml hr hlocks hown hts hP hK hD hA hS hl
  have hl : lv_has ls 2 [(0, .ref h), (1, .int (nI w))] := hl
  refine lv_aload_n hx hb dX1_turn_0 rfl (lv_at hl 0 rfl) ?_
  refine va_get (D := D) (ci := 1) (v := .ref (a 2)) (C := RX1) (T := TX1) (N := 7) hx hb hts inX1 hown hK hP 0 rfl rfl 5 (by decide) (hts _ fl_RX1_18) (fun _ h9 => h9) rfl dX1_turn_1 ?_
  refine lv_iload_n hx hb dX1_turn_4 rfl (lv_at hl 1 rfl) ?_
  refine lv_iconst (v := nI 1) hx hb dX1_turn_5 (by decide) ?_
  refine lv_aload_n hx hb dX1_turn_6 rfl (lv_at hl 0 rfl) ?_
  refine va_get (D := D) (ci := 1) (v := .ref (a 2)) (C := RX1) (T := TX1) (N := 7) hx hb hts inX1 hown hK hP 0 rfl rfl 5 (by decide) (hts _ fl_RX1_18) (fun _ h9 => h9) rfl dX1_turn_7 ?_
  refine lv_iload_n hx hb dX1_turn_10 rfl (lv_at hl 1 rfl) ?_
  refine nv_iald (D := D) (v := nI (g2n w)) hx hb hK hP 3 0 rfl rfl (k := w) (by omega) (by decide) (rfl) dX1_turn_11 ?_
  refine nv_isub hx hb dX1_turn_12 h2 ?_
  refine nv_iast (D := D) (ws' := (wRp h a cI R B S f0 f1 (upd (nF g2n) w (nI (1 - (g2n w)))) f3)) hx hb hK hP hD hS 3 0 rfl rfl (k := w) (by omega) (by decide) rfl dX1_turn_13 (fun H locs hP hD hS => ?_)
  have eR : (upd (nF g2n) w (nI (1 - (g2n w)))) = (nF (va_up g2n w (1 - g2n w))) := upd_nF _ _ _
  rw [eR] at hP hD
  have hP : va_P D vwCl (wRp h a cI R B S f0 f1 (nF (va_up g2n w (1 - g2n w))) f3) H := hP
  have hD : va_D A (wRp h a cI R B S f0 f1 (nF (va_up g2n w (1 - g2n w))) f3) := hD
  refine lv_aload_n hx hb dX1_turn_14 rfl (lv_at hl 0 rfl) ?_
  refine va_get (D := D) (ci := 1) (v := .ref (a 2)) (C := RX1) (T := TX1) (N := 7) hx hb hts inX1 hown hK hP 0 rfl rfl 5 (by decide) (hts _ fl_RX1_18) (fun _ h9 => h9) rfl dX1_turn_15 ?_
  refine lv_iload_n hx hb dX1_turn_18 rfl (lv_at hl 1 rfl) ?_
  refine nv_iald (D := D) (v := nI ((va_up g2n w (1 - g2n w)) w)) hx hb hK hP 3 0 rfl rfl (k := w) (by omega) (by decide) (rfl) dX1_turn_19 ?_
  refine nv_top (1 - g2n w) (up_s _ _ _) ?_
  exact mu_reti hx hb hr hlocks (rfl) hP hD hS dX1_turn_20
set_option maxHeartbeats 4000000 in
set_option maxRecDepth 100000 in
theorem c_X1_spoilOrMend (l : Launch) (D : va_G) (cI cR : ClassId) (h : Nat) (a : Nat → Nat) (R : Nat) (B : Nat) (S : Nat) (f0 : Nat → Int32) (g1n : Nat → Nat) (f2 : Nat → Int32) (f3 : Nat → Int32) (w : Nat) (r : Nat)  (h1 : w < 41) (h2 : r < 16) (h3 : g1n w < 65536) (sz : Nat) : Met l yX1_spoilOrMend (wsC yX1_spoilOrMend cX1_spoilOrMend 3 (some .int)) (rmK 0 0) (nPreM D (nTy cI cR) [.ref h, .int (nI w), .int (nI r)] (wRp h a cI R B S f0 (nF g1n) f2 f3) sz) (QcM D (some (.int (nI (((g1n w ^^^ 1 <<< r).testBit r).toNat)))) (wRp h a cI R B S f0 (nF (va_up g1n w (g1n w ^^^ 1 <<< r))) f2 f3) (va_A (wRp h a cI R B S f0 (nF g1n) f2 f3) sz)) 0 0 (va_A (wRp h a cI R B S f0 (nF g1n) f2 f3) sz) := by
  refine met_mut (Qc := fun A => QcM D (some (.int (nI (((g1n w ^^^ 1 <<< r).testBit r).toNat)))) (wRp h a cI R B S f0 (nF (va_up g1n w (g1n w ^^^ 1 <<< r))) f2 f3) A) rfl (Nat.le_of_ble_eq_true rfl) ?_
  intro p e s m args below meth c ls A H locs hx hb hml hr hlocks hown hts hP hK hD hA hS hl
  have hl : lv_has ls 3 [(0, .ref h), (1, .int (nI w)), (2, .int (nI r))] := hl
  have hx2 : g1n w ^^^ 1 <<< r < 65536 := Nat.xor_lt_two_pow (n := 16) h3 (by rw [sh1]; exact (show 2 ^ r < 2 ^ 16 from Nat.pow_lt_pow_right (by decide) h2))
  refine lv_aload_n hx hb dX1_spoilOrMend_0 rfl (lv_at hl 0 rfl) ?_
  refine va_get (D := D) (ci := 1) (v := .ref (a 1)) (C := RX1) (T := TX1) (N := 7) hx hb hts inX1 hown hK hP 0 rfl rfl 4 (by decide) (hts _ fl_RX1_15) (fun _ h9 => h9) rfl dX1_spoilOrMend_1 ?_
  refine lv_iload_n hx hb dX1_spoilOrMend_4 rfl (lv_at hl 1 rfl) ?_
  refine lv_dup2_11 hx hb dX1_spoilOrMend_5 rfl rfl ?_
  refine nv_iald (D := D) (v := nI (g1n w)) hx hb hK hP 2 0 rfl rfl (k := w) (by omega) (by decide) (rfl) dX1_spoilOrMend_6 ?_
  refine lv_iconst (v := nI 1) hx hb dX1_spoilOrMend_7 (by decide) ?_
  refine lv_iload_n hx hb dX1_spoilOrMend_8 rfl (lv_at hl 2 rfl) ?_
  refine nv_ishl hx hb dX1_spoilOrMend_9 (by omega) ?_
  refine nv_ixor hx hb dX1_spoilOrMend_10 ?_
  refine nv_iast (D := D) (ws' := (wRp h a cI R B S f0 (upd (nF g1n) w (nI ((g1n w) ^^^ (1 <<< r)))) f2 f3)) hx hb hK hP hD hS 2 0 rfl rfl (k := w) (by omega) (by decide) rfl dX1_spoilOrMend_11 (fun H locs hP hD hS => ?_)
  have eR : (upd (nF g1n) w (nI ((g1n w) ^^^ (1 <<< r)))) = (nF (va_up g1n w (g1n w ^^^ 1 <<< r))) := upd_nF _ _ _
  rw [eR] at hP hD
  have hP : va_P D vwCl (wRp h a cI R B S f0 (nF (va_up g1n w (g1n w ^^^ 1 <<< r))) f2 f3) H := hP
  have hD : va_D A (wRp h a cI R B S f0 (nF (va_up g1n w (g1n w ^^^ 1 <<< r))) f2 f3) := hD
  refine lv_aload_n hx hb dX1_spoilOrMend_12 rfl (lv_at hl 0 rfl) ?_
  refine va_get (D := D) (ci := 1) (v := .ref (a 1)) (C := RX1) (T := TX1) (N := 7) hx hb hts inX1 hown hK hP 0 rfl rfl 4 (by decide) (hts _ fl_RX1_15) (fun _ h9 => h9) rfl dX1_spoilOrMend_13 ?_
  refine lv_iload_n hx hb dX1_spoilOrMend_16 rfl (lv_at hl 1 rfl) ?_
  refine nv_iald (D := D) (v := nI ((va_up g1n w (g1n w ^^^ 1 <<< r)) w)) hx hb hK hP 2 0 rfl rfl (k := w) (by omega) (by decide) (rfl) dX1_spoilOrMend_17 ?_
  refine nv_top (g1n w ^^^ 1 <<< r) (up_s _ _ _) ?_
  refine lv_iload_n hx hb dX1_spoilOrMend_18 rfl (lv_at hl 2 rfl) ?_
  refine nv_ishr hx hb dX1_spoilOrMend_19 (by omega) (by omega) ?_
  refine lv_iconst (v := nI 1) hx hb dX1_spoilOrMend_20 (by decide) ?_
  refine nv_iand hx hb dX1_spoilOrMend_21 ?_
  refine nv_top (((g1n w ^^^ 1 <<< r).testBit r).toNat) (nw_tb _ _) ?_
  exact mu_reti hx hb hr hlocks (rfl) hP hD hS dX1_spoilOrMend_22
set_option maxHeartbeats 4000000 in
set_option maxRecDepth 100000 in
theorem c_X1_putPatch (l : Launch) (D : va_G) (cI cR : ClassId) (h : Nat) (a : Nat → Nat) (R : Nat) (B : Nat) (S : Nat) (f0 : Nat → Int32) (f1 : Nat → Int32) (f2 : Nat → Int32) (f3 : Nat → Int32) (ad : Nat) (x : Int32)  (h1 : ad < 48) (sz : Nat) : Met l yX1_putPatch (wsC yX1_putPatch cX1_putPatch 3 none) (rmK 0 0) (nPreM D (nTy cI cR) [.ref h, .int (nI ad), .int x] (wRp h a cI R B S f0 f1 f2 f3) sz) (QcM D none (wRp h a cI R B S f0 f1 f2 (upd f3 ad x)) (va_A (wRp h a cI R B S f0 f1 f2 f3) sz)) 0 0 (va_A (wRp h a cI R B S f0 f1 f2 f3) sz) := by
  refine met_mut (Qc := fun A => QcM D none (wRp h a cI R B S f0 f1 f2 (upd f3 ad x)) A) rfl (Nat.le_of_ble_eq_true rfl) ?_
  intro p e s m args below meth c ls A H locs hx hb hml hr hlocks hown hts hP hK hD hA hS hl
  have hl : lv_has ls 3 [(0, .ref h), (1, .int (nI ad)), (2, .int x)] := hl
  refine lv_aload_n hx hb dX1_putPatch_0 rfl (lv_at hl 0 rfl) ?_
  refine va_get (D := D) (ci := 1) (v := .ref (a 3)) (C := RX1) (T := TX1) (N := 7) hx hb hts inX1 hown hK hP 0 rfl rfl 6 (by decide) (hts _ fl_RX1_21) (fun _ h9 => h9) rfl dX1_putPatch_1 ?_
  refine lv_iload_n hx hb dX1_putPatch_4 rfl (lv_at hl 1 rfl) ?_
  refine lv_iload_n hx hb dX1_putPatch_5 rfl (lv_at hl 2 rfl) ?_
  refine nv_iast (D := D) (ws' := (wRp h a cI R B S f0 f1 f2 (upd f3 ad x))) hx hb hK hP hD hS 4 0 rfl rfl (k := ad) (by omega) (by decide) rfl dX1_putPatch_6 (fun H locs hP hD hS => ?_)
  exact mu_retv hx hb hr hlocks hP hD hS dX1_putPatch_7
set_option maxHeartbeats 4000000 in
set_option maxRecDepth 100000 in
theorem c_X1_start (l : Launch) (D : va_G) (cI cR : ClassId) (h : Nat) (a : Nat → Nat) (R : Nat) (B : Nat) (S : Nat) (f0 : Nat → Int32) (f1 : Nat → Int32) (f2 : Nat → Int32) (f3 : Nat → Int32) (nr : Nat) (nb : Nat) (ns : Nat)  (hr1 : nr ≤ 16) (hs1 : 1 ≤ ns) (hs2 : ns ≤ 3) (hb1 : nb ≤ 10) (sz : Nat) : Met l yX1_start (wsC yX1_start cX1_start 5 none) (rmK 2 48) (nPreM D (nTy cI cR) [.ref h, .int (nI nr), .int (nI nb), .int (nI ns)] (wRp h a cI R B S f0 f1 f2 f3) sz) (QcM D none (wRp h a cI nr nb ns (nF (swG nr nb ns (nr * ns))) (nF (fun _ => 0)) (nF (fun _ => 0)) ((fun _ => -1))) (va_A (wRp h a cI R B S f0 f1 f2 f3) sz)) 0 0 (va_A (wRp h a cI R B S f0 f1 f2 f3) sz) := by
  refine met_mut (Qc := fun A => QcM D none (wRp h a cI nr nb ns (nF (swG nr nb ns (nr * ns))) (nF (fun _ => 0)) (nF (fun _ => 0)) ((fun _ => -1))) A) rfl (Nat.le_of_ble_eq_true rfl) ?_
  intro p e s m args below meth c ls A H locs hx hb hml hr hlocks hown hts hP hK hD hA hS hl
  have hl : lv_has ls 5 [(0, .ref h), (1, .int (nI nr)), (2, .int (nI nb)), (3, .int (nI ns))] := hl
  have hrs : nr * ns ≤ 16 * 3 := Nat.mul_le_mul hr1 hs2
  refine lv_aload_n hx hb dX1_start_0 rfl (lv_at hl 0 rfl) ?_
  refine lv_iload_n hx hb dX1_start_1 rfl (lv_at hl 1 rfl) ?_
  refine va_put (D := D) (ci := 1) (v := .int (nI nr)) (ty := .int) (C := RX1) (T := TX1) (N := 7) hx hb hts inX1 tyX1 tyX1_ok nmX1 hown hK hP hD hS 0 rfl rfl 0 (by decide) (hts _ fl_RX1_28) (fun _ h9 => h9) rfl (by decide +kernel) rfl rfl (Nat.le_of_ble_eq_true rfl) dX1_start_2 (fun H locs hP hD hS => ?_)
  have hP : va_P D vwCl (wRp h a cI nr B S f0 f1 f2 f3) H := hP
  have hD : va_D A (wRp h a cI nr B S f0 f1 f2 f3) := hD
  refine lv_aload_n hx hb dX1_start_5 rfl (lv_at hl 0 rfl) ?_
  refine lv_iload_n hx hb dX1_start_6 rfl (lv_at hl 2 rfl) ?_
  refine va_put (D := D) (ci := 1) (v := .int (nI nb)) (ty := .int) (C := RX1) (T := TX1) (N := 7) hx hb hts inX1 tyX1 tyX1_ok nmX1 hown hK hP hD hS 0 rfl rfl 1 (by decide) (hts _ fl_RX1_32) (fun _ h9 => h9) rfl (by decide +kernel) rfl rfl (Nat.le_of_ble_eq_true rfl) dX1_start_7 (fun H locs hP hD hS => ?_)
  have hP : va_P D vwCl (wRp h a cI nr nb S f0 f1 f2 f3) H := hP
  have hD : va_D A (wRp h a cI nr nb S f0 f1 f2 f3) := hD
  refine lv_aload_n hx hb dX1_start_10 rfl (lv_at hl 0 rfl) ?_
  refine lv_iload_n hx hb dX1_start_11 rfl (lv_at hl 3 rfl) ?_
  refine va_put (D := D) (ci := 1) (v := .int (nI ns)) (ty := .int) (C := RX1) (T := TX1) (N := 7) hx hb hts inX1 tyX1 tyX1_ok nmX1 hown hK hP hD hS 0 rfl rfl 2 (by decide) (hts _ fl_RX1_35) (fun _ h9 => h9) rfl (by decide +kernel) rfl rfl (Nat.le_of_ble_eq_true rfl) dX1_start_12 (fun H locs hP hD hS => ?_)
  have hP : va_P D vwCl (wRp h a cI nr nb ns f0 f1 f2 f3) H := hP
  have hD : va_D A (wRp h a cI nr nb ns f0 f1 f2 f3) := hD
  refine lv_iconst (v := nI 0) hx hb dX1_start_15 (by decide) ?_
  refine lv_istore (lv' := [(4, .int (nI 0)), (0, .ref h), (1, .int (nI nr)), (2, .int (nI nb)), (3, .int (nI ns))]) hx hb dX1_start_16 hl (by decide) rfl (fun ls hl => ?_)
  have L18 : ∀ (n18 i : Nat), 41 + 1 ≤ i + n18 → i ≤ 41 → ∀ (H : Heap) (locs : List Loc), va_P D vwCl (wRp h a cI nr nb ns (zfF f0 (nI 0) i) (zfF f1 (nI 0) i) (zfF f2 (nI 0) i) f3) H → va_D A (wRp h a cI nr nb ns (zfF f0 (nI 0) i) (zfF f1 (nI 0) i) (zfF f2 (nI 0) i) f3) → va_S A s.heap H locs → ∀ (ls : Array Slot), lv_has ls 5 [(4, .int (nI i)), (0, .ref h), (1, .int (nI nr)), (2, .int (nI nb)), (3, .int (nI ns))] → W p l e (rmK 2 48) s m args below meth c H locs 0 0 (MQ below (QcM D none (wRp h a cI nr nb ns (nF (swG nr nb ns (nr * ns))) (nF (fun _ => 0)) (nF (fun _ => 0)) ((fun _ => -1))) A) args s 0 0 A) (F0 m 18 ls []) := by
    intro n18
    induction n18 with
    | zero =>
      intro i h1_18 h2_18
      exact False.elim (by omega)
    | succ n18 ih18 =>
      intro i h1_18 h2_18  H locs hP hD hS ls hl
      refine lv_iload hx hb dX1_start_18 (lv_at hl 0 rfl) ?_
      refine lv_bipush (v := nI 41) hx hb dX1_start_20 (by decide) ?_
      refine nv_icmp_ge (tgt := 55) hx hb dX1_start_22 (by decide) (by omega) (by omega) (fun q_22 => ?_) (fun q_22 => ?_)
      · have ei : i = 41 := by omega
        have eR : (zfF f0 (nI 0) i) = (zfF f0 (nI 0) 41) := by rw [ei]
        rw [eR] at hP hD
        have hP : va_P D vwCl (wRp h a cI nr nb ns (zfF f0 (nI 0) 41) (zfF f1 (nI 0) i) (zfF f2 (nI 0) i) f3) H := hP
        have hD : va_D A (wRp h a cI nr nb ns (zfF f0 (nI 0) 41) (zfF f1 (nI 0) i) (zfF f2 (nI 0) i) f3) := hD
        have eR : (zfF f1 (nI 0) i) = (zfF f1 (nI 0) 41) := by rw [ei]
        rw [eR] at hP hD
        have hP : va_P D vwCl (wRp h a cI nr nb ns (zfF f0 (nI 0) 41) (zfF f1 (nI 0) 41) (zfF f2 (nI 0) i) f3) H := hP
        have hD : va_D A (wRp h a cI nr nb ns (zfF f0 (nI 0) 41) (zfF f1 (nI 0) 41) (zfF f2 (nI 0) i) f3) := hD
        have eR : (zfF f2 (nI 0) i) = (zfF f2 (nI 0) 41) := by rw [ei]
        rw [eR] at hP hD
        have hP : va_P D vwCl (wRp h a cI nr nb ns (zfF f0 (nI 0) 41) (zfF f1 (nI 0) 41) (zfF f2 (nI 0) 41) f3) H := hP
        have hD : va_D A (wRp h a cI nr nb ns (zfF f0 (nI 0) 41) (zfF f1 (nI 0) 41) (zfF f2 (nI 0) 41) f3) := hD
        have hP : va_P D vwCl (wRp h a cI nr nb ns (nF (fun _ => 0)) (zfF f1 (nI 0) 41) (zfF f2 (nI 0) 41) f3) H := va_P_cell 1 rfl rfl (fun j hj => by unfold zfF; rw [if_pos hj]; rfl) hP
        have hD : va_D A (wRp h a cI nr nb ns (nF (fun _ => 0)) (zfF f1 (nI 0) 41) (zfF f2 (nI 0) 41) f3) := va_D_cell 1 (f := zfF f0 (nI 0) 41) rfl rfl hD
        have hP : va_P D vwCl (wRp h a cI nr nb ns (nF (fun _ => 0)) (nF (fun _ => 0)) (zfF f2 (nI 0) 41) f3) H := va_P_cell 2 rfl rfl (fun j hj => by unfold zfF; rw [if_pos hj]; rfl) hP
        have hD : va_D A (wRp h a cI nr nb ns (nF (fun _ => 0)) (nF (fun _ => 0)) (zfF f2 (nI 0) 41) f3) := va_D_cell 2 (f := zfF f1 (nI 0) 41) rfl rfl hD
        have hP : va_P D vwCl (wRp h a cI nr nb ns (nF (fun _ => 0)) (nF (fun _ => 0)) (nF (fun _ => 0)) f3) H := va_P_cell 3 rfl rfl (fun j hj => by unfold zfF; rw [if_pos hj]; rfl) hP
        have hD : va_D A (wRp h a cI nr nb ns (nF (fun _ => 0)) (nF (fun _ => 0)) (nF (fun _ => 0)) f3) := va_D_cell 3 (f := zfF f2 (nI 0) 41) rfl rfl hD
        refine lv_iconst (v := nI 0) hx hb dX1_start_55 (by decide) ?_
        refine lv_istore (lv' := [(4, .int (nI 0)), (0, .ref h), (1, .int (nI nr)), (2, .int (nI nb)), (3, .int (nI ns))]) hx hb dX1_start_56 hl (by decide) rfl (fun ls hl => ?_)
        have L58 : ∀ (n58 i : Nat), 48 + 1 ≤ i + n58 → i ≤ 48 → ∀ (H : Heap) (locs : List Loc), va_P D vwCl (wRp h a cI nr nb ns (nF (fun _ => 0)) (nF (fun _ => 0)) (nF (fun _ => 0)) (zfF f3 (-1) i)) H → va_D A (wRp h a cI nr nb ns (nF (fun _ => 0)) (nF (fun _ => 0)) (nF (fun _ => 0)) (zfF f3 (-1) i)) → va_S A s.heap H locs → ∀ (ls : Array Slot), lv_has ls 5 [(4, .int (nI i)), (0, .ref h), (1, .int (nI nr)), (2, .int (nI nb)), (3, .int (nI ns))] → W p l e (rmK 2 48) s m args below meth c H locs 0 0 (MQ below (QcM D none (wRp h a cI nr nb ns (nF (swG nr nb ns (nr * ns))) (nF (fun _ => 0)) (nF (fun _ => 0)) ((fun _ => -1))) A) args s 0 0 A) (F0 m 58 ls []) := by
          intro n58
          induction n58 with
          | zero =>
            intro i h1_58 h2_58
            exact False.elim (by omega)
          | succ n58 ih58 =>
            intro i h1_58 h2_58  H locs hP hD hS ls hl
            refine lv_iload hx hb dX1_start_58 (lv_at hl 0 rfl) ?_
            refine lv_bipush (v := nI 48) hx hb dX1_start_60 (by decide) ?_
            refine nv_icmp_ge (tgt := 79) hx hb dX1_start_62 (by decide) (by omega) (by omega) (fun q_62 => ?_) (fun q_62 => ?_)
            · have ei : i = 48 := by omega
              have eR : (zfF f3 (-1) i) = (zfF f3 (-1) 48) := by rw [ei]
              rw [eR] at hP hD
              have hP : va_P D vwCl (wRp h a cI nr nb ns (nF (fun _ => 0)) (nF (fun _ => 0)) (nF (fun _ => 0)) (zfF f3 (-1) 48)) H := hP
              have hD : va_D A (wRp h a cI nr nb ns (nF (fun _ => 0)) (nF (fun _ => 0)) (nF (fun _ => 0)) (zfF f3 (-1) 48)) := hD
              have hP : va_P D vwCl (wRp h a cI nr nb ns (nF (fun _ => 0)) (nF (fun _ => 0)) (nF (fun _ => 0)) ((fun _ => -1))) H := va_P_cell 4 rfl rfl (fun j hj => by unfold zfF; rw [if_pos hj]) hP
              have hD : va_D A (wRp h a cI nr nb ns (nF (fun _ => 0)) (nF (fun _ => 0)) (nF (fun _ => 0)) ((fun _ => -1))) := va_D_cell 4 (f := zfF f3 (-1) 48) rfl rfl hD
              refine lv_iconst (v := nI 0) hx hb dX1_start_79 (by decide) ?_
              refine lv_istore (lv' := [(4, .int (nI 0)), (0, .ref h), (1, .int (nI nr)), (2, .int (nI nb)), (3, .int (nI ns))]) hx hb dX1_start_80 hl (by decide) rfl (fun ls hl => ?_)
              have L82 : ∀ (n82 i : Nat), nr + 1 ≤ i + n82 → i ≤ nr → ∀ (H : Heap) (locs : List Loc), va_P D vwCl (wRp h a cI nr nb ns (nF (scG i)) (nF (fun _ => 0)) (nF (fun _ => 0)) ((fun _ => -1))) H → va_D A (wRp h a cI nr nb ns (nF (scG i)) (nF (fun _ => 0)) (nF (fun _ => 0)) ((fun _ => -1))) → va_S A s.heap H locs → ∀ (ls : Array Slot), lv_has ls 5 [(4, .int (nI i)), (0, .ref h), (1, .int (nI nr)), (2, .int (nI nb)), (3, .int (nI ns))] → W p l e (rmK 2 48) s m args below meth c H locs 0 0 (MQ below (QcM D none (wRp h a cI nr nb ns (nF (swG nr nb ns (nr * ns))) (nF (fun _ => 0)) (nF (fun _ => 0)) ((fun _ => -1))) A) args s 0 0 A) (F0 m 82 ls []) := by
                intro n82
                induction n82 with
                | zero =>
                  intro i h1_82 h2_82
                  exact False.elim (by omega)
                | succ n82 ih82 =>
                  intro i h1_82 h2_82  H locs hP hD hS ls hl
                  refine lv_iload hx hb dX1_start_82 (lv_at hl 0 rfl) ?_
                  refine lv_aload_n hx hb dX1_start_84 rfl (lv_at hl 1 rfl) ?_
                  refine va_get (D := D) (ci := 1) (v := .int (nI nr)) (C := RX1) (T := TX1) (N := 7) hx hb hts inX1 hown hK hP 0 rfl rfl 0 (by decide) (hts _ fl_RX1_28) (fun _ h9 => h9) rfl dX1_start_85 ?_
                  refine nv_icmp_ge (tgt := 105) hx hb dX1_start_88 (by decide) (by omega) (by omega) (fun q_88 => ?_) (fun q_88 => ?_)
                  · have ei : i = nr := by omega
                    have eR : (nF (scG i)) = (nF (scG nr)) := by rw [ei]
                    rw [eR] at hP hD
                    have hP : va_P D vwCl (wRp h a cI nr nb ns (nF (scG nr)) (nF (fun _ => 0)) (nF (fun _ => 0)) ((fun _ => -1))) H := hP
                    have hD : va_D A (wRp h a cI nr nb ns (nF (scG nr)) (nF (fun _ => 0)) (nF (fun _ => 0)) ((fun _ => -1))) := hD
                    refine lv_iconst (v := nI 0) hx hb dX1_start_105 (by decide) ?_
                    refine lv_istore (lv' := [(4, .int (nI 0)), (0, .ref h), (1, .int (nI nr)), (2, .int (nI nb)), (3, .int (nI ns))]) hx hb dX1_start_106 hl (by decide) rfl (fun ls hl => ?_)
                    have L108 : ∀ (n108 i : Nat), nr * ns + 1 ≤ i + n108 → i ≤ nr * ns → ∀ (H : Heap) (locs : List Loc), va_P D vwCl (wRp h a cI nr nb ns (nF (swG nr nb ns i)) (nF (fun _ => 0)) (nF (fun _ => 0)) ((fun _ => -1))) H → va_D A (wRp h a cI nr nb ns (nF (swG nr nb ns i)) (nF (fun _ => 0)) (nF (fun _ => 0)) ((fun _ => -1))) → va_S A s.heap H locs → ∀ (ls : Array Slot), lv_has ls 5 [(4, .int (nI i)), (0, .ref h), (1, .int (nI nr)), (2, .int (nI nb)), (3, .int (nI ns))] → W p l e (rmK 2 48) s m args below meth c H locs 0 0 (MQ below (QcM D none (wRp h a cI nr nb ns (nF (swG nr nb ns (nr * ns))) (nF (fun _ => 0)) (nF (fun _ => 0)) ((fun _ => -1))) A) args s 0 0 A) (F0 m 108 ls []) := by
                      intro n108
                      induction n108 with
                      | zero =>
                        intro i h1_108 h2_108
                        exact False.elim (by omega)
                      | succ n108 ih108 =>
                        intro i h1_108 h2_108  H locs hP hD hS ls hl
                        refine lv_iload hx hb dX1_start_108 (lv_at hl 0 rfl) ?_
                        refine lv_aload_n hx hb dX1_start_110 rfl (lv_at hl 1 rfl) ?_
                        refine nv_callV [] [.int (nI i)] hx hb hml hown hts k_RX1_42 (c_X1_addresses l D cI cR h a nr nb ns (nF (swG nr nb ns i)) (nF (fun _ => 0)) (nF (fun _ => 0)) ((fun _ => -1)) ) ⟨rfl, rfl, Nat.le_of_ble_eq_true rfl, Nat.le_of_ble_eq_true rfl⟩ hP hK 1 rfl rfl rfl rfl hl rfl (Nat.le_of_ble_eq_true rfl) dX1_start_111 ⟨Nat.zero_le _, Nat.zero_le _⟩ ?_
                        refine nv_icmp_ge (tgt := 130) hx hb dX1_start_114 (by decide) (by omega) (by omega) (fun q_114 => ?_) (fun q_114 => ?_)
                        · have ei : i = nr * ns := by omega
                          have eR : (nF (swG nr nb ns i)) = (nF (swG nr nb ns (nr * ns))) := by rw [ei]
                          rw [eR] at hP hD
                          have hP : va_P D vwCl (wRp h a cI nr nb ns (nF (swG nr nb ns (nr * ns))) (nF (fun _ => 0)) (nF (fun _ => 0)) ((fun _ => -1))) H := hP
                          have hD : va_D A (wRp h a cI nr nb ns (nF (swG nr nb ns (nr * ns))) (nF (fun _ => 0)) (nF (fun _ => 0)) ((fun _ => -1))) := hD
                          exact mu_retv hx hb hr hlocks hP hD hS dX1_start_130
                        · refine lv_aload_n hx hb dX1_start_117 rfl (lv_at hl 1 rfl) ?_
                          refine lv_iload hx hb dX1_start_118 (lv_at hl 0 rfl) ?_
                          refine lv_iconst (v := nI 0) hx hb dX1_start_120 (by decide) ?_
                          refine mu_call (ws' := (wRp h a cI nr nb ns (nF (pwG ns nb ((swG nr nb ns i)) i 0 (nb + 1))) (nF (fun _ => 0)) (nF (fun _ => 0)) ((fun _ => -1)))) [0, 1, 2, 3, 4] [] [0, 1, 2, 3, 4] [.int (nI i), .int (nI 0)] [] hx hb hml hown hts k_RX1_46 (fun sz => c_X1_putWord l D cI cR h a nr nb ns ((swG nr nb ns i)) (nF (fun _ => 0)) (nF (fun _ => 0)) ((fun _ => -1)) i 0 (by omega) (by omega) (by omega) (by omega) (Nat.lt_of_lt_of_le (Nat.div_lt_of_lt_mul (by rw [Nat.mul_comm]; exact q_114)) (by omega)) (by omega) sz) ⟨rfl, rfl, Nat.le_of_ble_eq_true rfl, Nat.le_of_ble_eq_true rfl⟩ hP hD hS hA hK 1 rfl rfl rfl rfl rfl rfl rfl (by decide) rfl rfl rfl hl rfl (Nat.le_of_ble_eq_true rfl) dX1_start_121 ⟨Nat.zero_le _, Nat.zero_le _⟩ (fun H locs hP hD hS => ?_)
                          refine W.eq (g2 := F0 m 124 ls []) rfl ?_
                          have eR : (nF (pwG ns nb ((swG nr nb ns i)) i 0 (nb + 1))) = (nF (swG nr nb ns (i + 1))) := rfl
                          rw [eR] at hP hD
                          have hP : va_P D vwCl (wRp h a cI nr nb ns (nF (swG nr nb ns (i + 1))) (nF (fun _ => 0)) (nF (fun _ => 0)) ((fun _ => -1))) H := hP
                          have hD : va_D A (wRp h a cI nr nb ns (nF (swG nr nb ns (i + 1))) (nF (fun _ => 0)) (nF (fun _ => 0)) ((fun _ => -1))) := hD
                          refine nv_inc (k := 0) (lv' := [(4, .int (nI (i + 1))), (0, .ref h), (1, .int (nI nr)), (2, .int (nI nb)), (3, .int (nI ns))]) hx hb dX1_start_124 hl rfl (by decide) rfl (fun ls hl => ?_)
                          refine lv_goto (tgt := 108) hx hb dX1_start_127 (by decide) ?_
                          exact ih108 (i + 1) (by omega) (by omega)  _ _ hP hD hS ls (lv_sub hl [0, 1, 2, 3, 4] rfl)
                    have eR : (nF (scG nr)) = (nF (swG nr nb ns 0)) := rfl
                    rw [eR] at hP hD
                    have hP : va_P D vwCl (wRp h a cI nr nb ns (nF (swG nr nb ns 0)) (nF (fun _ => 0)) (nF (fun _ => 0)) ((fun _ => -1))) H := hP
                    have hD : va_D A (wRp h a cI nr nb ns (nF (swG nr nb ns 0)) (nF (fun _ => 0)) (nF (fun _ => 0)) ((fun _ => -1))) := hD
                    exact L108 (nr * ns + 1) 0 (by omega) (by omega)  _ _ hP hD hS ls (lv_sub hl [0, 1, 2, 3, 4] rfl)
                  · refine lv_aload_n hx hb dX1_start_91 rfl (lv_at hl 1 rfl) ?_
                    refine lv_iload hx hb dX1_start_92 (lv_at hl 0 rfl) ?_
                    refine lv_iload hx hb dX1_start_94 (lv_at hl 0 rfl) ?_
                    refine mu_call (ws' := (wRp h a cI nr nb ns (nF (pcG ((scG i)) i i 8)) (nF (fun _ => 0)) (nF (fun _ => 0)) ((fun _ => -1)))) [0, 1, 2, 3, 4] [] [0, 1, 2, 3, 4] [.int (nI i), .int (nI i)] [] hx hb hml hown hts k_RX1_38 (fun sz => c_X1_putCode l D cI cR h a nr nb ns ((scG i)) (nF (fun _ => 0)) (nF (fun _ => 0)) ((fun _ => -1)) i i (by omega) (by omega) sz) ⟨rfl, rfl, Nat.le_of_ble_eq_true rfl, Nat.le_of_ble_eq_true rfl⟩ hP hD hS hA hK 1 rfl rfl rfl rfl rfl rfl rfl (by decide) rfl rfl rfl hl rfl (Nat.le_of_ble_eq_true rfl) dX1_start_96 ⟨Nat.zero_le _, Nat.zero_le _⟩ (fun H locs hP hD hS => ?_)
                    refine W.eq (g2 := F0 m 99 ls []) rfl ?_
                    have eR : (nF (pcG ((scG i)) i i 8)) = (nF (scG (i + 1))) := rfl
                    rw [eR] at hP hD
                    have hP : va_P D vwCl (wRp h a cI nr nb ns (nF (scG (i + 1))) (nF (fun _ => 0)) (nF (fun _ => 0)) ((fun _ => -1))) H := hP
                    have hD : va_D A (wRp h a cI nr nb ns (nF (scG (i + 1))) (nF (fun _ => 0)) (nF (fun _ => 0)) ((fun _ => -1))) := hD
                    refine nv_inc (k := 0) (lv' := [(4, .int (nI (i + 1))), (0, .ref h), (1, .int (nI nr)), (2, .int (nI nb)), (3, .int (nI ns))]) hx hb dX1_start_99 hl rfl (by decide) rfl (fun ls hl => ?_)
                    refine lv_goto (tgt := 82) hx hb dX1_start_102 (by decide) ?_
                    exact ih82 (i + 1) (by omega) (by omega)  _ _ hP hD hS ls (lv_sub hl [0, 1, 2, 3, 4] rfl)
              have eR : (nF (fun _ => 0)) = (nF (scG 0)) := rfl
              rw [eR] at hP hD
              have hP : va_P D vwCl (wRp h a cI nr nb ns (nF (scG 0)) (nF (fun _ => 0)) (nF (fun _ => 0)) ((fun _ => -1))) H := hP
              have hD : va_D A (wRp h a cI nr nb ns (nF (scG 0)) (nF (fun _ => 0)) (nF (fun _ => 0)) ((fun _ => -1))) := hD
              exact L82 (nr + 1) 0 (by omega) (by omega)  _ _ hP hD hS ls (lv_sub hl [0, 1, 2, 3, 4] rfl)
            · refine lv_aload_n hx hb dX1_start_65 rfl (lv_at hl 1 rfl) ?_
              refine va_get (D := D) (ci := 1) (v := .ref (a 3)) (C := RX1) (T := TX1) (N := 7) hx hb hts inX1 hown hK hP 0 rfl rfl 6 (by decide) (hts _ fl_RX1_21) (fun _ h9 => h9) rfl dX1_start_66 ?_
              refine lv_iload hx hb dX1_start_69 (lv_at hl 0 rfl) ?_
              refine lv_iconst (v := -1) hx hb dX1_start_71 (by decide) ?_
              refine nv_iast (D := D) (ws' := (wRp h a cI nr nb ns (nF (fun _ => 0)) (nF (fun _ => 0)) (nF (fun _ => 0)) (upd (zfF f3 (-1) i) i (-1)))) hx hb hK hP hD hS 4 0 rfl rfl (k := i) (by omega) (by decide) rfl dX1_start_72 (fun H locs hP hD hS => ?_)
              have eR : (upd (zfF f3 (-1) i) i (-1)) = (zfF f3 (-1) (i + 1)) := zf_s _ _ _
              rw [eR] at hP hD
              have hP : va_P D vwCl (wRp h a cI nr nb ns (nF (fun _ => 0)) (nF (fun _ => 0)) (nF (fun _ => 0)) (zfF f3 (-1) (i + 1))) H := hP
              have hD : va_D A (wRp h a cI nr nb ns (nF (fun _ => 0)) (nF (fun _ => 0)) (nF (fun _ => 0)) (zfF f3 (-1) (i + 1))) := hD
              refine nv_inc (k := 0) (lv' := [(4, .int (nI (i + 1))), (0, .ref h), (1, .int (nI nr)), (2, .int (nI nb)), (3, .int (nI ns))]) hx hb dX1_start_73 hl rfl (by decide) rfl (fun ls hl => ?_)
              refine lv_goto (tgt := 58) hx hb dX1_start_76 (by decide) ?_
              exact ih58 (i + 1) (by omega) (by omega)  _ _ hP hD hS ls (lv_sub hl [0, 1, 2, 3, 4] rfl)
        have eR : f3 = (zfF f3 (-1) 0) := zf_0 f3 _
        rw [eR] at hP hD
        have hP : va_P D vwCl (wRp h a cI nr nb ns (nF (fun _ => 0)) (nF (fun _ => 0)) (nF (fun _ => 0)) (zfF f3 (-1) 0)) H := hP
        have hD : va_D A (wRp h a cI nr nb ns (nF (fun _ => 0)) (nF (fun _ => 0)) (nF (fun _ => 0)) (zfF f3 (-1) 0)) := hD
        exact L58 49 0 (by omega) (by omega)  _ _ hP hD hS ls (lv_sub hl [0, 1, 2, 3, 4] rfl)
      · refine lv_aload_n hx hb dX1_start_25 rfl (lv_at hl 1 rfl) ?_
        refine va_get (D := D) (ci := 1) (v := .ref (a 0)) (C := RX1) (T := TX1) (N := 7) hx hb hts inX1 hown hK hP 0 rfl rfl 3 (by decide) (hts _ fl_RX1_9) (fun _ h9 => h9) rfl dX1_start_26 ?_
        refine lv_iload hx hb dX1_start_29 (lv_at hl 0 rfl) ?_
        refine lv_iconst (v := nI 0) hx hb dX1_start_31 (by decide) ?_
        refine nv_iast (D := D) (ws' := (wRp h a cI nr nb ns (upd (zfF f0 (nI 0) i) i (nI (0))) (zfF f1 (nI 0) i) (zfF f2 (nI 0) i) f3)) hx hb hK hP hD hS 1 0 rfl rfl (k := i) (by omega) (by decide) rfl dX1_start_32 (fun H locs hP hD hS => ?_)
        refine lv_aload_n hx hb dX1_start_33 rfl (lv_at hl 1 rfl) ?_
        refine va_get (D := D) (ci := 1) (v := .ref (a 1)) (C := RX1) (T := TX1) (N := 7) hx hb hts inX1 hown hK hP 0 rfl rfl 4 (by decide) (hts _ fl_RX1_15) (fun _ h9 => h9) rfl dX1_start_34 ?_
        refine lv_iload hx hb dX1_start_37 (lv_at hl 0 rfl) ?_
        refine lv_iconst (v := nI 0) hx hb dX1_start_39 (by decide) ?_
        refine nv_iast (D := D) (ws' := (wRp h a cI nr nb ns (upd (zfF f0 (nI 0) i) i (nI (0))) (upd (zfF f1 (nI 0) i) i (nI (0))) (zfF f2 (nI 0) i) f3)) hx hb hK hP hD hS 2 0 rfl rfl (k := i) (by omega) (by decide) rfl dX1_start_40 (fun H locs hP hD hS => ?_)
        refine lv_aload_n hx hb dX1_start_41 rfl (lv_at hl 1 rfl) ?_
        refine va_get (D := D) (ci := 1) (v := .ref (a 2)) (C := RX1) (T := TX1) (N := 7) hx hb hts inX1 hown hK hP 0 rfl rfl 5 (by decide) (hts _ fl_RX1_18) (fun _ h9 => h9) rfl dX1_start_42 ?_
        refine lv_iload hx hb dX1_start_45 (lv_at hl 0 rfl) ?_
        refine lv_iconst (v := nI 0) hx hb dX1_start_47 (by decide) ?_
        refine nv_iast (D := D) (ws' := (wRp h a cI nr nb ns (upd (zfF f0 (nI 0) i) i (nI (0))) (upd (zfF f1 (nI 0) i) i (nI (0))) (upd (zfF f2 (nI 0) i) i (nI (0))) f3)) hx hb hK hP hD hS 3 0 rfl rfl (k := i) (by omega) (by decide) rfl dX1_start_48 (fun H locs hP hD hS => ?_)
        have eR : (upd (zfF f0 (nI 0) i) i (nI (0))) = (zfF f0 (nI 0) (i + 1)) := zf_s _ _ _
        rw [eR] at hP hD
        have hP : va_P D vwCl (wRp h a cI nr nb ns (zfF f0 (nI 0) (i + 1)) (upd (zfF f1 (nI 0) i) i (nI (0))) (upd (zfF f2 (nI 0) i) i (nI (0))) f3) H := hP
        have hD : va_D A (wRp h a cI nr nb ns (zfF f0 (nI 0) (i + 1)) (upd (zfF f1 (nI 0) i) i (nI (0))) (upd (zfF f2 (nI 0) i) i (nI (0))) f3) := hD
        have eR : (upd (zfF f1 (nI 0) i) i (nI (0))) = (zfF f1 (nI 0) (i + 1)) := zf_s _ _ _
        rw [eR] at hP hD
        have hP : va_P D vwCl (wRp h a cI nr nb ns (zfF f0 (nI 0) (i + 1)) (zfF f1 (nI 0) (i + 1)) (upd (zfF f2 (nI 0) i) i (nI (0))) f3) H := hP
        have hD : va_D A (wRp h a cI nr nb ns (zfF f0 (nI 0) (i + 1)) (zfF f1 (nI 0) (i + 1)) (upd (zfF f2 (nI 0) i) i (nI (0))) f3) := hD
        have eR : (upd (zfF f2 (nI 0) i) i (nI (0))) = (zfF f2 (nI 0) (i + 1)) := zf_s _ _ _
        rw [eR] at hP hD
        have hP : va_P D vwCl (wRp h a cI nr nb ns (zfF f0 (nI 0) (i + 1)) (zfF f1 (nI 0) (i + 1)) (zfF f2 (nI 0) (i + 1)) f3) H := hP
        have hD : va_D A (wRp h a cI nr nb ns (zfF f0 (nI 0) (i + 1)) (zfF f1 (nI 0) (i + 1)) (zfF f2 (nI 0) (i + 1)) f3) := hD
        refine nv_inc (k := 0) (lv' := [(4, .int (nI (i + 1))), (0, .ref h), (1, .int (nI nr)), (2, .int (nI nb)), (3, .int (nI ns))]) hx hb dX1_start_49 hl rfl (by decide) rfl (fun ls hl => ?_)
        refine lv_goto (tgt := 18) hx hb dX1_start_52 (by decide) ?_
        exact ih18 (i + 1) (by omega) (by omega)  _ _ hP hD hS ls (lv_sub hl [0, 1, 2, 3, 4] rfl)
  have eR : f0 = (zfF f0 (nI 0) 0) := zf_0 f0 _
  rw [eR] at hP hD
  have hP : va_P D vwCl (wRp h a cI nr nb ns (zfF f0 (nI 0) 0) f1 f2 f3) H := hP
  have hD : va_D A (wRp h a cI nr nb ns (zfF f0 (nI 0) 0) f1 f2 f3) := hD
  have eR : f1 = (zfF f1 (nI 0) 0) := zf_0 f1 _
  rw [eR] at hP hD
  have hP : va_P D vwCl (wRp h a cI nr nb ns (zfF f0 (nI 0) 0) (zfF f1 (nI 0) 0) f2 f3) H := hP
  have hD : va_D A (wRp h a cI nr nb ns (zfF f0 (nI 0) 0) (zfF f1 (nI 0) 0) f2 f3) := hD
  have eR : f2 = (zfF f2 (nI 0) 0) := zf_0 f2 _
  rw [eR] at hP hD
  have hP : va_P D vwCl (wRp h a cI nr nb ns (zfF f0 (nI 0) 0) (zfF f1 (nI 0) 0) (zfF f2 (nI 0) 0) f3) H := hP
  have hD : va_D A (wRp h a cI nr nb ns (zfF f0 (nI 0) 0) (zfF f1 (nI 0) 0) (zfF f2 (nI 0) 0) f3) := hD
  exact L18 42 0 (by omega) (by omega)  _ _ hP hD hS ls (lv_sub hl [0, 1, 2, 3, 4] rfl)
set_option maxHeartbeats 4000000 in
set_option maxRecDepth 100000 in
theorem c_X1_become (l : Launch) (D : va_G) (cI cR : ClassId) (h : Nat) (a : Nat → Nat) (R : Nat) (B : Nat) (S : Nat) (f0 : Nat → Int32) (f1 : Nat → Int32) (f2 : Nat → Int32) (f3 : Nat → Int32) (h2 : Nat) (a2 : Nat → Nat) (R2 : Nat) (B2 : Nat) (S2 : Nat) (k0 : Nat → Int32) (k1 : Nat → Int32) (k2 : Nat → Int32) (k3 : Nat → Int32)    (sz : Nat) : Met l yX1_become (wsC yX1_become cX1_become 2 none) (rmK 1 40) (nPreM D (nTy cI cR) [.ref h, .ref h2] ((wRp h a cI R B S f0 f1 f2 f3) ++ (wRp h2 a2 cI R2 B2 S2 k0 k1 k2 k3)) sz) (QcM D none ((wRp h a cI R2 B2 S2 k0 k1 k2 k3) ++ (wRp h2 a2 cI R2 B2 S2 k0 k1 k2 k3)) (va_A ((wRp h a cI R B S f0 f1 f2 f3) ++ (wRp h2 a2 cI R2 B2 S2 k0 k1 k2 k3)) sz)) 0 0 (va_A ((wRp h a cI R B S f0 f1 f2 f3) ++ (wRp h2 a2 cI R2 B2 S2 k0 k1 k2 k3)) sz) := by
  refine met_mut (Qc := fun A => QcM D none ((wRp h a cI R2 B2 S2 k0 k1 k2 k3) ++ (wRp h2 a2 cI R2 B2 S2 k0 k1 k2 k3)) A) rfl (Nat.le_of_ble_eq_true rfl) ?_
  intro p e s m args below meth c ls A H locs hx hb hml hr hlocks hown hts hP hK hD hA hS hl
  have hl : lv_has ls 2 [(0, .ref h), (1, .ref h2)] := hl
  refine lv_aload_n hx hb dX1_become_0 rfl (lv_at hl 0 rfl) ?_
  refine lv_aload_n hx hb dX1_become_1 rfl (lv_at hl 1 rfl) ?_
  refine va_get (D := D) (ci := 1) (v := .int (nI R2)) (C := RX1) (T := TX1) (N := 7) hx hb hts inX1 hown hK hP 5 rfl rfl 0 (by decide) (hts _ fl_RX1_28) (fun _ h9 => h9) rfl dX1_become_2 ?_
  refine va_put (D := D) (ci := 1) (v := .int (nI R2)) (ty := .int) (C := RX1) (T := TX1) (N := 7) hx hb hts inX1 tyX1 tyX1_ok nmX1 hown hK hP hD hS 0 rfl rfl 0 (by decide) (hts _ fl_RX1_28) (fun _ h9 => h9) rfl (by decide +kernel) rfl rfl (Nat.le_of_ble_eq_true rfl) dX1_become_5 (fun H locs hP hD hS => ?_)
  have hP : va_P D vwCl ((wRp h a cI R2 B S f0 f1 f2 f3) ++ (wRp h2 a2 cI R2 B2 S2 k0 k1 k2 k3)) H := hP
  have hD : va_D A ((wRp h a cI R2 B S f0 f1 f2 f3) ++ (wRp h2 a2 cI R2 B2 S2 k0 k1 k2 k3)) := hD
  refine lv_aload_n hx hb dX1_become_8 rfl (lv_at hl 0 rfl) ?_
  refine lv_aload_n hx hb dX1_become_9 rfl (lv_at hl 1 rfl) ?_
  refine va_get (D := D) (ci := 1) (v := .int (nI B2)) (C := RX1) (T := TX1) (N := 7) hx hb hts inX1 hown hK hP 5 rfl rfl 1 (by decide) (hts _ fl_RX1_32) (fun _ h9 => h9) rfl dX1_become_10 ?_
  refine va_put (D := D) (ci := 1) (v := .int (nI B2)) (ty := .int) (C := RX1) (T := TX1) (N := 7) hx hb hts inX1 tyX1 tyX1_ok nmX1 hown hK hP hD hS 0 rfl rfl 1 (by decide) (hts _ fl_RX1_32) (fun _ h9 => h9) rfl (by decide +kernel) rfl rfl (Nat.le_of_ble_eq_true rfl) dX1_become_13 (fun H locs hP hD hS => ?_)
  have hP : va_P D vwCl ((wRp h a cI R2 B2 S f0 f1 f2 f3) ++ (wRp h2 a2 cI R2 B2 S2 k0 k1 k2 k3)) H := hP
  have hD : va_D A ((wRp h a cI R2 B2 S f0 f1 f2 f3) ++ (wRp h2 a2 cI R2 B2 S2 k0 k1 k2 k3)) := hD
  refine lv_aload_n hx hb dX1_become_16 rfl (lv_at hl 0 rfl) ?_
  refine lv_aload_n hx hb dX1_become_17 rfl (lv_at hl 1 rfl) ?_
  refine va_get (D := D) (ci := 1) (v := .int (nI S2)) (C := RX1) (T := TX1) (N := 7) hx hb hts inX1 hown hK hP 5 rfl rfl 2 (by decide) (hts _ fl_RX1_35) (fun _ h9 => h9) rfl dX1_become_18 ?_
  refine va_put (D := D) (ci := 1) (v := .int (nI S2)) (ty := .int) (C := RX1) (T := TX1) (N := 7) hx hb hts inX1 tyX1 tyX1_ok nmX1 hown hK hP hD hS 0 rfl rfl 2 (by decide) (hts _ fl_RX1_35) (fun _ h9 => h9) rfl (by decide +kernel) rfl rfl (Nat.le_of_ble_eq_true rfl) dX1_become_21 (fun H locs hP hD hS => ?_)
  have hP : va_P D vwCl ((wRp h a cI R2 B2 S2 f0 f1 f2 f3) ++ (wRp h2 a2 cI R2 B2 S2 k0 k1 k2 k3)) H := hP
  have hD : va_D A ((wRp h a cI R2 B2 S2 f0 f1 f2 f3) ++ (wRp h2 a2 cI R2 B2 S2 k0 k1 k2 k3)) := hD
  refine lv_aload_n hx hb dX1_become_24 rfl (lv_at hl 1 rfl) ?_
  refine va_get (D := D) (ci := 1) (v := .ref (a2 0)) (C := RX1) (T := TX1) (N := 7) hx hb hts inX1 hown hK hP 5 rfl rfl 3 (by decide) (hts _ fl_RX1_9) (fun _ h9 => h9) rfl dX1_become_25 ?_
  refine lv_iconst (v := nI 0) hx hb dX1_become_28 (by decide) ?_
  refine lv_aload_n hx hb dX1_become_29 rfl (lv_at hl 0 rfl) ?_
  refine va_get (D := D) (ci := 1) (v := .ref (a 0)) (C := RX1) (T := TX1) (N := 7) hx hb hts inX1 hown hK hP 0 rfl rfl 3 (by decide) (hts _ fl_RX1_9) (fun _ h9 => h9) rfl dX1_become_30 ?_
  refine lv_iconst (v := nI 0) hx hb dX1_become_33 (by decide) ?_
  refine lv_bipush (v := nI 41) hx hb dX1_become_34 (by decide) ?_
  refine va_copyi hx hb (hml.trans hl.1.symm) hown (hts _ ml_RX1_49) (hts _ ac_native) (hts _ ac_static) (hts _ iz_RJ10) hK hP hD hS 6 1 0 0 rfl rfl rfl rfl rfl (by decide) (by decide) (by decide) (by decide) (by decide) (fun _ _ => rfl) (Nat.le_of_ble_eq_true rfl) (Nat.le_of_ble_eq_true rfl) dX1_become_36 (fun H locs hP hD hS => ?_)
  have hP : va_P D vwCl ((wRp h a cI R2 B2 S2 (va_cpy k0 f0 (nI (0)).toNatClampNeg (nI (0)).toNatClampNeg (nI (41)).toNatClampNeg) f1 f2 f3) ++ (wRp h2 a2 cI R2 B2 S2 k0 k1 k2 k3)) H := hP
  have hD : va_D A ((wRp h a cI R2 B2 S2 (va_cpy k0 f0 (nI (0)).toNatClampNeg (nI (0)).toNatClampNeg (nI (41)).toNatClampNeg) f1 f2 f3) ++ (wRp h2 a2 cI R2 B2 S2 k0 k1 k2 k3)) := hD
  refine lv_aload_n hx hb dX1_become_39 rfl (lv_at hl 1 rfl) ?_
  refine va_get (D := D) (ci := 1) (v := .ref (a2 1)) (C := RX1) (T := TX1) (N := 7) hx hb hts inX1 hown hK hP 5 rfl rfl 4 (by decide) (hts _ fl_RX1_15) (fun _ h9 => h9) rfl dX1_become_40 ?_
  refine lv_iconst (v := nI 0) hx hb dX1_become_43 (by decide) ?_
  refine lv_aload_n hx hb dX1_become_44 rfl (lv_at hl 0 rfl) ?_
  refine va_get (D := D) (ci := 1) (v := .ref (a 1)) (C := RX1) (T := TX1) (N := 7) hx hb hts inX1 hown hK hP 0 rfl rfl 4 (by decide) (hts _ fl_RX1_15) (fun _ h9 => h9) rfl dX1_become_45 ?_
  refine lv_iconst (v := nI 0) hx hb dX1_become_48 (by decide) ?_
  refine lv_bipush (v := nI 41) hx hb dX1_become_49 (by decide) ?_
  refine va_copyi hx hb (hml.trans hl.1.symm) hown (hts _ ml_RX1_49) (hts _ ac_native) (hts _ ac_static) (hts _ iz_RJ10) hK hP hD hS 7 2 0 0 rfl rfl rfl rfl rfl (by decide) (by decide) (by decide) (by decide) (by decide) (fun _ _ => rfl) (Nat.le_of_ble_eq_true rfl) (Nat.le_of_ble_eq_true rfl) dX1_become_51 (fun H locs hP hD hS => ?_)
  have hP : va_P D vwCl ((wRp h a cI R2 B2 S2 (va_cpy k0 f0 (nI (0)).toNatClampNeg (nI (0)).toNatClampNeg (nI (41)).toNatClampNeg) (va_cpy k1 f1 (nI (0)).toNatClampNeg (nI (0)).toNatClampNeg (nI (41)).toNatClampNeg) f2 f3) ++ (wRp h2 a2 cI R2 B2 S2 k0 k1 k2 k3)) H := hP
  have hD : va_D A ((wRp h a cI R2 B2 S2 (va_cpy k0 f0 (nI (0)).toNatClampNeg (nI (0)).toNatClampNeg (nI (41)).toNatClampNeg) (va_cpy k1 f1 (nI (0)).toNatClampNeg (nI (0)).toNatClampNeg (nI (41)).toNatClampNeg) f2 f3) ++ (wRp h2 a2 cI R2 B2 S2 k0 k1 k2 k3)) := hD
  refine lv_aload_n hx hb dX1_become_54 rfl (lv_at hl 1 rfl) ?_
  refine va_get (D := D) (ci := 1) (v := .ref (a2 2)) (C := RX1) (T := TX1) (N := 7) hx hb hts inX1 hown hK hP 5 rfl rfl 5 (by decide) (hts _ fl_RX1_18) (fun _ h9 => h9) rfl dX1_become_55 ?_
  refine lv_iconst (v := nI 0) hx hb dX1_become_58 (by decide) ?_
  refine lv_aload_n hx hb dX1_become_59 rfl (lv_at hl 0 rfl) ?_
  refine va_get (D := D) (ci := 1) (v := .ref (a 2)) (C := RX1) (T := TX1) (N := 7) hx hb hts inX1 hown hK hP 0 rfl rfl 5 (by decide) (hts _ fl_RX1_18) (fun _ h9 => h9) rfl dX1_become_60 ?_
  refine lv_iconst (v := nI 0) hx hb dX1_become_63 (by decide) ?_
  refine lv_bipush (v := nI 41) hx hb dX1_become_64 (by decide) ?_
  refine va_copyi hx hb (hml.trans hl.1.symm) hown (hts _ ml_RX1_49) (hts _ ac_native) (hts _ ac_static) (hts _ iz_RJ10) hK hP hD hS 8 3 0 0 rfl rfl rfl rfl rfl (by decide) (by decide) (by decide) (by decide) (by decide) (fun _ _ => rfl) (Nat.le_of_ble_eq_true rfl) (Nat.le_of_ble_eq_true rfl) dX1_become_66 (fun H locs hP hD hS => ?_)
  have hP : va_P D vwCl ((wRp h a cI R2 B2 S2 (va_cpy k0 f0 (nI (0)).toNatClampNeg (nI (0)).toNatClampNeg (nI (41)).toNatClampNeg) (va_cpy k1 f1 (nI (0)).toNatClampNeg (nI (0)).toNatClampNeg (nI (41)).toNatClampNeg) (va_cpy k2 f2 (nI (0)).toNatClampNeg (nI (0)).toNatClampNeg (nI (41)).toNatClampNeg) f3) ++ (wRp h2 a2 cI R2 B2 S2 k0 k1 k2 k3)) H := hP
  have hD : va_D A ((wRp h a cI R2 B2 S2 (va_cpy k0 f0 (nI (0)).toNatClampNeg (nI (0)).toNatClampNeg (nI (41)).toNatClampNeg) (va_cpy k1 f1 (nI (0)).toNatClampNeg (nI (0)).toNatClampNeg (nI (41)).toNatClampNeg) (va_cpy k2 f2 (nI (0)).toNatClampNeg (nI (0)).toNatClampNeg (nI (41)).toNatClampNeg) f3) ++ (wRp h2 a2 cI R2 B2 S2 k0 k1 k2 k3)) := hD
  refine lv_aload_n hx hb dX1_become_69 rfl (lv_at hl 1 rfl) ?_
  refine va_get (D := D) (ci := 1) (v := .ref (a2 3)) (C := RX1) (T := TX1) (N := 7) hx hb hts inX1 hown hK hP 5 rfl rfl 6 (by decide) (hts _ fl_RX1_21) (fun _ h9 => h9) rfl dX1_become_70 ?_
  refine lv_iconst (v := nI 0) hx hb dX1_become_73 (by decide) ?_
  refine lv_aload_n hx hb dX1_become_74 rfl (lv_at hl 0 rfl) ?_
  refine va_get (D := D) (ci := 1) (v := .ref (a 3)) (C := RX1) (T := TX1) (N := 7) hx hb hts inX1 hown hK hP 0 rfl rfl 6 (by decide) (hts _ fl_RX1_21) (fun _ h9 => h9) rfl dX1_become_75 ?_
  refine lv_iconst (v := nI 0) hx hb dX1_become_78 (by decide) ?_
  refine lv_bipush (v := nI 48) hx hb dX1_become_79 (by decide) ?_
  refine va_copyi hx hb (hml.trans hl.1.symm) hown (hts _ ml_RX1_49) (hts _ ac_native) (hts _ ac_static) (hts _ iz_RJ10) hK hP hD hS 9 4 0 0 rfl rfl rfl rfl rfl (by decide) (by decide) (by decide) (by decide) (by decide) (fun _ _ => rfl) (Nat.le_of_ble_eq_true rfl) (Nat.le_of_ble_eq_true rfl) dX1_become_81 (fun H locs hP hD hS => ?_)
  have hP : va_P D vwCl ((wRp h a cI R2 B2 S2 (va_cpy k0 f0 (nI (0)).toNatClampNeg (nI (0)).toNatClampNeg (nI (41)).toNatClampNeg) (va_cpy k1 f1 (nI (0)).toNatClampNeg (nI (0)).toNatClampNeg (nI (41)).toNatClampNeg) (va_cpy k2 f2 (nI (0)).toNatClampNeg (nI (0)).toNatClampNeg (nI (41)).toNatClampNeg) (va_cpy k3 f3 (nI (0)).toNatClampNeg (nI (0)).toNatClampNeg (nI (48)).toNatClampNeg)) ++ (wRp h2 a2 cI R2 B2 S2 k0 k1 k2 k3)) H := hP
  have hD : va_D A ((wRp h a cI R2 B2 S2 (va_cpy k0 f0 (nI (0)).toNatClampNeg (nI (0)).toNatClampNeg (nI (41)).toNatClampNeg) (va_cpy k1 f1 (nI (0)).toNatClampNeg (nI (0)).toNatClampNeg (nI (41)).toNatClampNeg) (va_cpy k2 f2 (nI (0)).toNatClampNeg (nI (0)).toNatClampNeg (nI (41)).toNatClampNeg) (va_cpy k3 f3 (nI (0)).toNatClampNeg (nI (0)).toNatClampNeg (nI (48)).toNatClampNeg)) ++ (wRp h2 a2 cI R2 B2 S2 k0 k1 k2 k3)) := hD
  have hP : va_P D vwCl ((wRp h a cI R2 B2 S2 k0 (va_cpy k1 f1 (nI (0)).toNatClampNeg (nI (0)).toNatClampNeg (nI (41)).toNatClampNeg) (va_cpy k2 f2 (nI (0)).toNatClampNeg (nI (0)).toNatClampNeg (nI (41)).toNatClampNeg) (va_cpy k3 f3 (nI (0)).toNatClampNeg (nI (0)).toNatClampNeg (nI (48)).toNatClampNeg)) ++ (wRp h2 a2 cI R2 B2 S2 k0 k1 k2 k3)) H := va_P_cell 1 rfl rfl (fun j hj => cpy_all (by decide) (by decide) (by decide) hj) hP
  have hD : va_D A ((wRp h a cI R2 B2 S2 k0 (va_cpy k1 f1 (nI (0)).toNatClampNeg (nI (0)).toNatClampNeg (nI (41)).toNatClampNeg) (va_cpy k2 f2 (nI (0)).toNatClampNeg (nI (0)).toNatClampNeg (nI (41)).toNatClampNeg) (va_cpy k3 f3 (nI (0)).toNatClampNeg (nI (0)).toNatClampNeg (nI (48)).toNatClampNeg)) ++ (wRp h2 a2 cI R2 B2 S2 k0 k1 k2 k3)) := va_D_cell 1 (f := va_cpy k0 f0 (nI (0)).toNatClampNeg (nI (0)).toNatClampNeg (nI (41)).toNatClampNeg) rfl rfl hD
  have hP : va_P D vwCl ((wRp h a cI R2 B2 S2 k0 k1 (va_cpy k2 f2 (nI (0)).toNatClampNeg (nI (0)).toNatClampNeg (nI (41)).toNatClampNeg) (va_cpy k3 f3 (nI (0)).toNatClampNeg (nI (0)).toNatClampNeg (nI (48)).toNatClampNeg)) ++ (wRp h2 a2 cI R2 B2 S2 k0 k1 k2 k3)) H := va_P_cell 2 rfl rfl (fun j hj => cpy_all (by decide) (by decide) (by decide) hj) hP
  have hD : va_D A ((wRp h a cI R2 B2 S2 k0 k1 (va_cpy k2 f2 (nI (0)).toNatClampNeg (nI (0)).toNatClampNeg (nI (41)).toNatClampNeg) (va_cpy k3 f3 (nI (0)).toNatClampNeg (nI (0)).toNatClampNeg (nI (48)).toNatClampNeg)) ++ (wRp h2 a2 cI R2 B2 S2 k0 k1 k2 k3)) := va_D_cell 2 (f := va_cpy k1 f1 (nI (0)).toNatClampNeg (nI (0)).toNatClampNeg (nI (41)).toNatClampNeg) rfl rfl hD
  have hP : va_P D vwCl ((wRp h a cI R2 B2 S2 k0 k1 k2 (va_cpy k3 f3 (nI (0)).toNatClampNeg (nI (0)).toNatClampNeg (nI (48)).toNatClampNeg)) ++ (wRp h2 a2 cI R2 B2 S2 k0 k1 k2 k3)) H := va_P_cell 3 rfl rfl (fun j hj => cpy_all (by decide) (by decide) (by decide) hj) hP
  have hD : va_D A ((wRp h a cI R2 B2 S2 k0 k1 k2 (va_cpy k3 f3 (nI (0)).toNatClampNeg (nI (0)).toNatClampNeg (nI (48)).toNatClampNeg)) ++ (wRp h2 a2 cI R2 B2 S2 k0 k1 k2 k3)) := va_D_cell 3 (f := va_cpy k2 f2 (nI (0)).toNatClampNeg (nI (0)).toNatClampNeg (nI (41)).toNatClampNeg) rfl rfl hD
  have hP : va_P D vwCl ((wRp h a cI R2 B2 S2 k0 k1 k2 k3) ++ (wRp h2 a2 cI R2 B2 S2 k0 k1 k2 k3)) H := va_P_cell 4 rfl rfl (fun j hj => cpy_all (by decide) (by decide) (by decide) hj) hP
  have hD : va_D A ((wRp h a cI R2 B2 S2 k0 k1 k2 k3) ++ (wRp h2 a2 cI R2 B2 S2 k0 k1 k2 k3)) := va_D_cell 4 (f := va_cpy k3 f3 (nI (0)).toNatClampNeg (nI (0)).toNatClampNeg (nI (48)).toNatClampNeg) rfl rfl hD
  exact mu_retv hx hb hr hlocks hP hD hS dX1_become_84
end
section
/-! ===== what writing does to the state ===== -/
theorem onM_congr {σ τ : Nat → Nat} (h0 : τ 0 = σ 0) (h1 : τ 1 = σ 1) (h2 : τ 2 = σ 2) (hc : ∀ r, r < σ 0 → τ (3 + r) = σ (3 + r)) (hd : ∀ a, a < nA σ → τ (19 + a) = σ (19 + a)) (w : Nat) : onM τ w = onM σ w := by
  unfold onM
  have e : nW τ = nW σ := by unfold nW; rw [h1, h2]
  rw [e, h0]
  split
  · rename_i hw
    refine mk_cong fun r hr => ?_
    unfold onB
    split
    · unfold ihb
      rw [hc r hr]
    · rename_i h8
      unfold tdB sbit
      have ha : σ 2 * r + (w - 8) / (σ 1 + 1) < nA σ := sr_lt hr (Nat.div_lt_of_lt_mul (by unfold nW at hw; rw [Nat.mul_comm]; omega))
      rw [h1, h2, hd _ ha]
  · rfl
theorem up_ne {g : Nat → Nat} {k x j : Nat} (h : ¬ j = k) : va_up g k x j = g j := up_n g x h
/-- the rope's rows of a state that differs from σ above 141 alone -/
theorem rpS {D : va_G} {h : Nat} {a : Nat → Nat} {cI : ClassId} {σ τ : Nat → Nat} (hw : wf σ) (hl : ∀ k, k < 141 → τ k = σ k) (f3 : Nat → Int32) (h3 : ∀ j, j < 48 → f3 j = ptF τ j) : nTo D (wRp h a cI (σ 0) (σ 1) (σ 2) (onF σ) (wwF σ) (crF σ) f3) (wRp h a cI (τ 0) (τ 1) (τ 2) (onF τ) (wwF τ) (crF τ) (ptF τ)) := by
  have hR := hw.2.1
  have hA := hw.a48
  refine rp_to (hl 0 (by omega)).symm (hl 1 (by omega)).symm (hl 2 (by omega)).symm (fun j hj => ?_) (fun j hj => ?_) (fun j hj => ?_) h3
  · exact congrArg nI (onM_congr (hl 0 (by omega)) (hl 1 (by omega)) (hl 2 (by omega)) (fun r hr => hl _ (by omega)) (fun a ha => hl _ (by omega)) j).symm
  · exact congrArg nI (hl _ (by omega)).symm
  · refine congrArg nI ?_
    unfold crN
    split
    · rfl
    · exact (hl _ (by omega)).symm
theorem ptF_up {σ : Nat → Nat} {a x j : Nat} : upd (ptF σ) a (nI x) j = ptF (va_up σ (141 + a) (x + 1)) j := by
  unfold upd ptF
  by_cases h : j = a
  · subst h
    rw [if_pos rfl, up_s]
    exact (pk_sub (a := x + 1) (b := 1) (by omega)).symm
  · rw [if_neg h, up_n _ _ (by omega)]
theorem ptF_up0 {σ : Nat → Nat} {a j : Nat} : upd (ptF σ) a (-1) j = ptF (va_up σ (141 + a) 0) j := by
  unfold upd ptF
  by_cases h : j = a
  · subst h
    rw [if_pos rfl, up_s]
    rfl
  · rw [if_neg h, up_n _ _ (by omega)]
theorem pc_on {σ : Nat → Nat} (hw : wf σ) {r c : Nat} (hr : r < σ 0) (w : Nat) : pcG (onM σ) r c 8 w = onM (va_up σ (3 + r) c) w := by
  have hR := hw.2.1
  unfold pcG
  split
  · rename_i h8
    refine mk_ext fun i => ?_
    rw [pbN_bit]
    unfold onM
    have e1 : nW (va_up σ (3 + r) c) = nW σ := by unfold nW; rw [up_ne (by omega), up_ne (by omega)]
    have e0 : va_up σ (3 + r) c 0 = σ 0 := up_ne (by omega)
    have e8 : w < nW σ := by unfold nW; omega
    rw [e1, e0, if_pos e8, if_pos e8, mk_bit, mk_bit]
    unfold onB ihb
    rw [if_pos h8, if_pos h8]
    by_cases e : i = r
    · subst e
      rw [if_pos rfl, up_s]
      simp [hr]
    · rw [if_neg e, up_ne (show ¬ 3 + i = 3 + r by omega)]
  · rename_i h8
    unfold onM
    have e1 : nW (va_up σ (3 + r) c) = nW σ := by unfold nW; rw [up_ne (by omega), up_ne (by omega)]
    have e0 : va_up σ (3 + r) c 0 = σ 0 := up_ne (by omega)
    rw [e1, e0]
    split
    · refine mk_cong fun i _ => ?_
      unfold onB tdB sbit
      have hg : ∀ X, ¬ 19 + X = 3 + r := fun X => by omega
      rw [if_neg h8, if_neg h8, show va_up σ (3 + r) c 1 = σ 1 from up_ne (by omega), show va_up σ (3 + r) c 2 = σ 2 from up_ne (by omega), up_ne (hg _)]
    · rfl
theorem wbt_sbit {σ : Nat → Nat} {a wd b : Nat} : wbt (σ 1) wd b = sbit (va_up σ (19 + a) wd) a b := by
  unfold wbt sbit
  rw [up_s, up_ne (by omega)]
theorem pw_on {σ : Nat → Nat} (hw : wf σ) {ad wd : Nat} (ha : ad < nA σ) (w : Nat) : pwG (σ 2) (σ 1) (onM σ) ad wd (σ 1 + 1) w = onM (va_up σ (19 + ad) wd) w := by
  obtain ⟨hd1, hd2, hd3⟩ := ad_div hw.2.2.2.2.1 ha
  have hA := hw.a48
  have hR := hw.2.1
  have e1 : nW (va_up σ (19 + ad) wd) = nW σ := by unfold nW; rw [up_ne (by omega), up_ne (by omega)]
  have e0 : va_up σ (19 + ad) wd 0 = σ 0 := up_ne (by omega)
  have x1 : va_up σ (19 + ad) wd 1 = σ 1 := up_ne (by omega)
  have x2 : va_up σ (19 + ad) wd 2 = σ 2 := up_ne (by omega)
  unfold pwG
  split
  · rename_i hb
    obtain ⟨b, hb1, rfl⟩ : ∃ b, b < σ 1 + 1 ∧ w = 8 + ad % σ 2 * (σ 1 + 1) + b := ⟨w - (8 + ad % σ 2 * (σ 1 + 1)), by omega, by omega⟩
    have hlt := sw_lt hd2 hb1
    have e2 : ¬ 8 + ad % σ 2 * (σ 1 + 1) + b < 8 := by omega
    have e3 : 8 + ad % σ 2 * (σ 1 + 1) + b - 8 = b + ad % σ 2 * (σ 1 + 1) := by omega
    have e4 : (b + ad % σ 2 * (σ 1 + 1)) / (σ 1 + 1) = ad % σ 2 := by rw [Nat.add_mul_div_right _ _ (by omega), Nat.div_eq_of_lt hb1, Nat.zero_add]
    have e5 : (b + ad % σ 2 * (σ 1 + 1)) % (σ 1 + 1) = b := by rw [Nat.add_mul_mod_self_right, Nat.mod_eq_of_lt hb1]
    refine mk_ext fun i => ?_
    rw [pbN_bit]
    unfold onM
    rw [e1, e0, if_pos hlt, if_pos hlt, mk_bit, mk_bit]
    unfold onB tdB
    rw [if_neg e2, if_neg e2, e3, x1, x2, e4, e5, show 8 + ad % σ 2 * (σ 1 + 1) + b - (8 + ad % σ 2 * (σ 1 + 1)) = b by omega]
    by_cases e : i = ad / σ 2
    · subst e
      rw [if_pos rfl, hd3, ← wbt_sbit]
      simp [hd1]
    · rw [if_neg e]
      by_cases hi : i < σ 0
      · congr 1
        have hne : ¬ 19 + (σ 2 * i + ad % σ 2) = 19 + ad := by
          intro z
          have z2 : σ 2 * i = σ 2 * (ad / σ 2) := by omega
          exact e (Nat.eq_of_mul_eq_mul_left hw.2.2.2.2.1 z2)
        unfold sbit
        rw [x1, up_ne hne]
      · simp [hi]
  · rename_i hb
    unfold onM
    rw [e1, e0]
    split
    · rename_i hlt
      refine mk_cong fun i hi => ?_
      unfold onB
      split
      · unfold ihb
        rw [up_ne (show ¬ 3 + i = 19 + ad by omega)]
      · rename_i h8
        unfold tdB sbit
        rw [x1, x2]
        have hne : ¬ 19 + (σ 2 * i + (w - 8) / (σ 1 + 1)) = 19 + ad := by
          intro z
          have ht : (w - 8) / (σ 1 + 1) < σ 2 := Nat.div_lt_of_lt_mul (by unfold nW at hlt; rw [Nat.mul_comm]; omega)
          have z1 : ad % σ 2 = (w - 8) / (σ 1 + 1) := by
            have : ad = (w - 8) / (σ 1 + 1) + σ 2 * i := by omega
            rw [this, Nat.add_mul_mod_self_left, Nat.mod_eq_of_lt ht]
          have z3 := Nat.div_add_mod (w - 8) (σ 1 + 1)
          have z4 := Nat.mod_lt (w - 8) (show 0 < σ 1 + 1 by omega)
          rw [z1, Nat.mul_comm] at hb
          omega
        rw [up_ne hne]
    · rfl
def bst (σ : Nat → Nat) (w : Nat) : Nat := if σ 0 - pop (onM σ w) + 1 < pop (onM σ w) then 1 else 0
theorem bst_le (σ : Nat → Nat) (w : Nat) : bst σ w ≤ 1 := by unfold bst; split <;> omega
def mcG (σ : Nat → Nat) (n : Nat) : Nat → Nat := fun w => if 8 ≤ w ∧ w < n then bst σ w else crN σ w
def mcC (σ : Nat → Nat) (n : Nat) : Nat := ct (fun w => decide (8 ≤ w) && crN σ w != bst σ w) n
theorem mc_8 (σ : Nat → Nat) : crF σ = nF (mcG σ 8) := by
  funext j
  unfold crF nF mcG
  rw [if_neg (by omega)]
theorem mcC_8 (σ : Nat → Nat) : 0 = mcC σ 8 := by
  unfold mcC
  have h : ∀ n, n ≤ 8 → ct (fun w => decide (8 ≤ w) && crN σ w != bst σ w) n = 0 := by
    intro n
    induction n with
    | zero => intro _; rfl
    | succ n ih =>
      intro hn
      rw [ct_s, ih (by omega)]
      simp [show ¬ 8 ≤ n by omega]
  exact (h 8 (Nat.le_refl 8)).symm
theorem mcC_s {σ : Nat → Nat} {n : Nat} (h : 8 ≤ n) : mcC σ (n + 1) = mcC σ n + (crN σ n != bst σ n).toNat := by
  unfold mcC
  rw [ct_s]
  simp [h]
theorem mcG_at (σ : Nat → Nat) (n : Nat) : mcG σ n n = crN σ n := by unfold mcG; rw [if_neg (by omega)]
theorem mcG_eq {σ : Nat → Nat} {n : Nat} (h : crN σ n = bst σ n) : mcG σ n = mcG σ (n + 1) := by
  funext j
  unfold mcG
  by_cases e : j = n
  · subst e
    rw [if_neg (by omega)]
    split
    · exact h
    · rfl
  · by_cases h2 : 8 ≤ j ∧ j < n
    · rw [if_pos h2, if_pos (by omega)]
    · rw [if_neg h2, if_neg (by omega)]
theorem mcG_ne {σ : Nat → Nat} {n : Nat} (h8 : 8 ≤ n) (hc : crN σ n ≤ 1) (h : ¬ crN σ n = bst σ n) : va_up (mcG σ n) n (1 - mcG σ n n) = mcG σ (n + 1) := by
  have hb := bst_le σ n
  funext j
  by_cases e : j = n
  · subst e
    rw [up_s, mcG_at]
    unfold mcG
    rw [if_pos (by omega)]
    omega
  · rw [up_ne e]
    unfold mcG
    by_cases h2 : 8 ≤ j ∧ j < n
    · rw [if_pos h2, if_pos (by omega)]
    · rw [if_neg h2, if_neg (by omega)]
theorem pop_on {σ : Nat → Nat} (hw : wf σ) (w : Nat) : pop (onM σ w) ≤ σ 0 := by
  unfold onM
  split
  · rw [pop_mk hw.2.1]
    exact ct_le _ _
  · show ct (0 : Nat).testBit 16 ≤ σ 0
    rw [show (0 : Nat).testBit = fun _ => false by funext i; exact Nat.zero_testBit i]
    have : ct (fun _ => false) 16 = 0 := rfl
    omega
/-- economized -/
def ecS (σ : Nat → Nat) : Nat → Nat := fun k => if 67 ≤ k ∧ k < 67 + σ 2 * (σ 1 + 1) then bst σ (k - 67 + 8) else σ k
theorem ec_cr {σ : Nat → Nat} (w : Nat) (h : w < 41) : mcG σ (nW σ) w = crN (ecS σ) w := by
  unfold mcG crN ecS nW
  by_cases h8 : w < 8
  · rw [if_neg (by omega), if_pos h8, if_pos h8]
  · rw [if_neg h8]
    by_cases h2 : 8 ≤ w ∧ w < 8 + σ 2 * (σ 1 + 1)
    · rw [if_pos h2, if_neg h8, if_pos (by omega), show 67 + (w - 8) - 67 + 8 = w by omega]
    · rw [if_neg h2, if_neg h8, if_neg (by omega)]
/-- patches set anew by the words that are to be there, below n -/
def mdS (σ : Nat → Nat) (n : Nat) : Nat → Nat := fun k => if 141 ≤ k ∧ k < 141 + n ∧ ¬ σ k = 0 then σ (k - 122) + 1 else σ k
theorem md_lo (σ : Nat → Nat) (n : Nat) {k : Nat} (h : k < 141) : mdS σ n k = σ k := by unfold mdS; rw [if_neg (by omega)]
theorem md_at (σ : Nat → Nat) (n : Nat) : mdS σ n (141 + n) = σ (141 + n) := by unfold mdS; rw [if_neg (by omega)]
theorem md_0 (σ : Nat → Nat) : ptF σ = ptF (mdS σ 0) := by
  funext j
  unfold ptF mdS
  rw [if_neg (by omega)]
theorem md_skip {σ : Nat → Nat} {n : Nat} (h : σ (141 + n) = 0) : ptF (mdS σ n) = ptF (mdS σ (n + 1)) := by
  funext j
  unfold ptF mdS
  by_cases e : j = n
  · subst e
    rw [if_neg (by omega), if_neg (by omega)]
  · by_cases h2 : 141 ≤ 141 + j ∧ 141 + j < 141 + n ∧ ¬ σ (141 + j) = 0
    · rw [if_pos h2, if_pos (by omega)]
    · rw [if_neg h2, if_neg (by omega)]
theorem md_put {σ : Nat → Nat} {n : Nat} (h : ¬ σ (141 + n) = 0) : upd (ptF (mdS σ n)) n (nI (σ (19 + n))) = ptF (mdS σ (n + 1)) := by
  funext j
  unfold upd ptF mdS
  by_cases e : j = n
  · subst e
    rw [if_pos rfl, if_pos (by omega), show 141 + j - 122 = 19 + j by omega]
    exact (pk_sub (a := σ (19 + j) + 1) (b := 1) (by omega)).symm
  · rw [if_neg e]
    by_cases h2 : 141 ≤ 141 + j ∧ 141 + j < 141 + n ∧ ¬ σ (141 + j) = 0
    · rw [if_pos h2, if_pos (by omega)]
    · rw [if_neg h2, if_neg (by omega)]
theorem wf_hi {σ τ : Nat → Nat} (hw : wf σ) (hl : ∀ k, k < 141 → τ k = σ k) (hp : ∀ a, a < nA σ → τ (141 + a) ≤ 2 ^ σ 1) : wf τ := by
  have h41 := hw.w41
  have h33 := hw.a33
  have h48 := hw.a48
  obtain ⟨h1, h2, h3, h4, h5, h6, h7, h8, h9, h10, h11, h12⟩ := hw
  have e0 := hl 0 (by omega)
  have e1 := hl 1 (by omega)
  have e2 := hl 2 (by omega)
  have eA : nA τ = nA σ := by unfold nA; rw [e0, e2]
  have eW : nW τ = nW σ := by unfold nW; rw [e1, e2]
  unfold wf
  rw [eA, eW, e0, e1, e2]
  refine ⟨h1, h2, h3, h4, h5, h6, fun r hr => by rw [hl _ (by omega)]; exact h7 r hr, fun r q hr hq e => h8 r q hr hq (by rw [hl _ (by omega), hl _ (by omega)] at e; exact e), fun a ha => by rw [hl _ (by omega)]; exact h9 a ha, fun k hk => by rw [hl _ (by omega)]; exact h10 k hk, fun w hw => by rw [hl _ (by omega)]; exact h11 w hw, hp⟩
theorem wf_md {σ : Nat → Nat} (hw : wf σ) (n : Nat) : wf (mdS σ n) := by
  refine wf_hi hw (fun k hk => md_lo σ n hk) fun a ha => ?_
  unfold mdS
  split
  · rw [show 141 + a - 122 = 19 + a by omega]
    exact hw.2.2.2.2.2.2.2.2.1 a ha
  · exact hw.2.2.2.2.2.2.2.2.2.2.2 a ha
/-- as patchAll goes on: the state and the number of patches, with n addresses seen -/
def adP (σ : Nat → Nat) : Nat → (Nat → Nat) × Nat
  | 0 => (σ, ct (fun a => σ (141 + a) != 0) (nA σ))
  | n + 1 => if (adP σ n).2 < 4 ∧ msB (adP σ n).1 n = true then (va_up (adP σ n).1 (141 + n) (σ (19 + n) + 1), (adP σ n).2 + 1) else adP σ n
theorem ad_lo (σ : Nat → Nat) {k : Nat} (h : k < 141) : ∀ n, (adP σ n).1 k = σ k
  | 0 => rfl
  | n + 1 => by
    rw [adP]
    split
    · show va_up (adP σ n).1 (141 + n) (σ (19 + n) + 1) k = σ k
      rw [up_ne (by omega)]
      exact ad_lo σ h n
    · exact ad_lo σ h n
theorem wf_ad {σ : Nat → Nat} (hw : wf σ) : ∀ n, wf (adP σ n).1
  | 0 => hw
  | n + 1 => by
    have ih := wf_ad hw n
    rw [adP]
    split
    · refine wf_hi ih (fun k hk => up_ne (by omega)) fun a ha => ?_
      by_cases e : a = n
      · subst e
        show va_up (adP σ a).1 (141 + a) (σ (19 + a) + 1) (141 + a) ≤ _
        rw [up_s, ad_lo σ (by omega)]
        have hA : nA (adP σ a).1 = nA σ := by unfold nA; rw [ad_lo σ (by omega), ad_lo σ (by omega)]
        exact hw.2.2.2.2.2.2.2.2.1 a (by omega)
      · show va_up (adP σ n).1 (141 + n) (σ (19 + n) + 1) (141 + a) ≤ _
        rw [up_ne (by omega)]
        exact ih.2.2.2.2.2.2.2.2.2.2.2 a ha
    · exact ih
theorem ad_le {σ : Nat → Nat} (h : (adP σ 0).2 ≤ 4) : ∀ n, (adP σ n).2 ≤ 4
  | 0 => h
  | n + 1 => by
    have ih := ad_le h n
    rw [adP]
    split
    · rename_i q
      show (adP σ n).2 + 1 ≤ 4
      omega
    · exact ih
theorem ad_stop {σ : Nat → Nat} {i : Nat} (h : 4 ≤ (adP σ i).2) : ∀ k, adP σ (i + k) = adP σ i
  | 0 => rfl
  | k + 1 => by
    have ih := ad_stop h k
    rw [show i + (k + 1) = (i + k) + 1 from rfl, adP, ih, if_neg (by omega)]
theorem ad_skip {σ : Nat → Nat} {n : Nat} (h : msB (adP σ n).1 n = false) : adP σ (n + 1) = adP σ n := by
  rw [adP, if_neg (by rw [h]; simp)]
theorem ad_put {σ : Nat → Nat} {n : Nat} (h4 : (adP σ n).2 < 4) (h : msB (adP σ n).1 n = true) : adP σ (n + 1) = (va_up (adP σ n).1 (141 + n) (σ (19 + n) + 1), (adP σ n).2 + 1) := by
  rw [adP, if_pos ⟨h4, h⟩]
end
section
theorem pt_lt {σ : Nat → Nat} (a : Nat) : ∀ j, j < 48 → ptF σ j = ptF σ j := fun _ _ => rfl
theorem code_to {D : va_G} {h : Nat} {a : Nat → Nat} {cI : ClassId} {σ : Nat → Nat} (hw : wf σ) {r c : Nat} (hr : r < σ 0) : nTo D (wRp h a cI (σ 0) (σ 1) (σ 2) (nF (pcG (onM σ) r c 8)) (wwF σ) (crF σ) (ptF σ)) (wRp h a cI (va_up σ (3 + r) c 0) (va_up σ (3 + r) c 1) (va_up σ (3 + r) c 2) (onF (va_up σ (3 + r) c)) (wwF (va_up σ (3 + r) c)) (crF (va_up σ (3 + r) c)) (ptF (va_up σ (3 + r) c))) := by
  have hR := hw.2.1
  refine rp_to (up_ne (by omega)).symm (up_ne (by omega)).symm (up_ne (by omega)).symm (fun j _ => congrArg nI (pc_on hw hr j)) (fun j hj => congrArg nI (up_ne (by omega)).symm) (fun j hj => congrArg nI ?_) (fun j hj => ?_)
  · unfold crN
    split
    · rfl
    · exact (up_ne (by omega)).symm
  · unfold ptF
    rw [up_ne (by omega)]
theorem word_to {D : va_G} {h : Nat} {a : Nat → Nat} {cI : ClassId} {σ : Nat → Nat} (hw : wf σ) {ad wd : Nat} (ha : ad < nA σ) : nTo D (wRp h a cI (σ 0) (σ 1) (σ 2) (nF (pwG (σ 2) (σ 1) (onM σ) ad wd (σ 1 + 1))) (wwF σ) (crF σ) (ptF σ)) (wRp h a cI (va_up σ (19 + ad) wd 0) (va_up σ (19 + ad) wd 1) (va_up σ (19 + ad) wd 2) (onF (va_up σ (19 + ad) wd)) (wwF (va_up σ (19 + ad) wd)) (crF (va_up σ (19 + ad) wd)) (ptF (va_up σ (19 + ad) wd))) := by
  have hA := hw.a48
  refine rp_to (up_ne (by omega)).symm (up_ne (by omega)).symm (up_ne (by omega)).symm (fun j _ => congrArg nI (pw_on hw ha j)) (fun j hj => congrArg nI (up_ne (by omega)).symm) (fun j hj => congrArg nI ?_) (fun j hj => ?_)
  · unfold crN
    split
    · rfl
    · exact (up_ne (by omega)).symm
  · unfold ptF
    rw [up_ne (by omega)]
theorem on_eq67 {σ τ : Nat → Nat} (hw : wf σ) (hl : ∀ k, k < 67 → τ k = σ k) (w : Nat) : onM τ w = onM σ w := by
  have hR := hw.2.1
  have hA := hw.a48
  exact onM_congr (hl _ (by omega)) (hl _ (by omega)) (hl _ (by omega)) (fun r hr => hl _ (by omega)) (fun a ha => hl _ (by omega)) w
theorem turn_to {D : va_G} {h : Nat} {a : Nat → Nat} {cI : ClassId} {σ : Nat → Nat} (hw : wf σ) {w x : Nat} (h8 : 8 ≤ w) (h1 : w < nW σ) : nTo D (wRp h a cI (σ 0) (σ 1) (σ 2) (onF σ) (wwF σ) (nF (va_up (crN σ) w x)) (ptF σ)) (wRp h a cI (va_up σ (67 + (w - 8)) x 0) (va_up σ (67 + (w - 8)) x 1) (va_up σ (67 + (w - 8)) x 2) (onF (va_up σ (67 + (w - 8)) x)) (wwF (va_up σ (67 + (w - 8)) x)) (crF (va_up σ (67 + (w - 8)) x)) (ptF (va_up σ (67 + (w - 8)) x))) := by
  have hA := hw.w41
  refine rp_to (up_ne (by omega)).symm (up_ne (by omega)).symm (up_ne (by omega)).symm (fun j _ => congrArg nI (on_eq67 hw (fun k hk => up_ne (by omega)) j).symm) (fun j hj => congrArg nI (up_ne (by omega)).symm) (fun j hj => congrArg nI ?_) (fun j hj => ?_)
  · by_cases e : j = w
    · subst e
      rw [up_s]
      unfold crN
      rw [if_neg (by omega), up_s]
    · rw [up_ne e]
      unfold crN
      split
      · rfl
      · exact (up_ne (by omega)).symm
  · unfold ptF
    rw [up_ne (by omega)]
theorem spoil_to {D : va_G} {h : Nat} {a : Nat → Nat} {cI : ClassId} {σ : Nat → Nat} (hw : wf σ) {w x : Nat} (h1 : w < nW σ) : nTo D (wRp h a cI (σ 0) (σ 1) (σ 2) (onF σ) (nF (va_up (fun w => σ (100 + w)) w x)) (crF σ) (ptF σ)) (wRp h a cI (va_up σ (100 + w) x 0) (va_up σ (100 + w) x 1) (va_up σ (100 + w) x 2) (onF (va_up σ (100 + w) x)) (wwF (va_up σ (100 + w) x)) (crF (va_up σ (100 + w) x)) (ptF (va_up σ (100 + w) x))) := by
  have hA := hw.w41
  refine rp_to (up_ne (by omega)).symm (up_ne (by omega)).symm (up_ne (by omega)).symm (fun j _ => congrArg nI (on_eq67 hw (fun k hk => up_ne (by omega)) j).symm) (fun j hj => congrArg nI ?_) (fun j hj => congrArg nI ?_) (fun j hj => ?_)
  · by_cases e : j = w
    · subst e
      rw [up_s, up_s]
    · rw [up_ne e, up_ne (by omega)]
  · unfold crN
    split
    · rfl
    · exact (up_ne (by omega)).symm
  · unfold ptF
    rw [up_ne (by omega)]
theorem ec_to {D : va_G} {h : Nat} {a : Nat → Nat} {cI : ClassId} {σ : Nat → Nat} (hw : wf σ) : nTo D (wRp h a cI (σ 0) (σ 1) (σ 2) (onF σ) (wwF σ) (nF (mcG σ (nW σ))) (ptF σ)) (wRp h a cI (ecS σ 0) (ecS σ 1) (ecS σ 2) (onF (ecS σ)) (wwF (ecS σ)) (crF (ecS σ)) (ptF (ecS σ))) := by
  have hA := hw.a33
  have lo : ∀ k, k < 67 → ecS σ k = σ k := fun k hk => by unfold ecS; rw [if_neg (by omega)]
  have hi : ∀ k, 100 ≤ k → ecS σ k = σ k := fun k hk => by unfold ecS; rw [if_neg (by omega)]
  refine rp_to (lo _ (by omega)).symm (lo _ (by omega)).symm (lo _ (by omega)).symm (fun j _ => congrArg nI (on_eq67 hw lo j).symm) (fun j hj => congrArg nI (hi _ (by omega)).symm) (fun j hj => congrArg nI (ec_cr j hj)) (fun j hj => ?_)
  unfold ptF
  rw [hi _ (by omega)]
end
section
set_option maxHeartbeats 4000000 in
set_option maxRecDepth 100000 in
theorem c_X1_makeCheap (l : Launch) (D : va_G) (cI cR : ClassId) (h : Nat) (a : Nat → Nat) (σ : Nat → Nat)   (hw : wf σ) (sz : Nat) : Met l yX1_makeCheap (wsC yX1_makeCheap cX1_makeCheap 6 (some .int)) (rmK 1 21) (nPreM D (nTy cI cR) [.ref h] (wRp h a cI (σ 0) (σ 1) (σ 2) (onF σ) (wwF σ) (crF σ) (ptF σ)) sz) (QcM D (some (.int (nI (mcC σ (nW σ))))) (wRp h a cI (σ 0) (σ 1) (σ 2) (onF σ) (wwF σ) (nF (mcG σ (nW σ))) (ptF σ)) (va_A (wRp h a cI (σ 0) (σ 1) (σ 2) (onF σ) (wwF σ) (crF σ) (ptF σ)) sz)) 0 0 (va_A (wRp h a cI (σ 0) (σ 1) (σ 2) (onF σ) (wwF σ) (crF σ) (ptF σ)) sz) := by
  refine met_mut (Qc := fun A => QcM D (some (.int (nI (mcC σ (nW σ))))) (wRp h a cI (σ 0) (σ 1) (σ 2) (onF σ) (wwF σ) (nF (mcG σ (nW σ))) (ptF σ)) A) rfl (Nat.le_of_ble_eq_true rfl) ?_
  intro p e s m args below meth c ls A H locs hx hb hml hr hlocks hown hts hP hK hD hA hS hl
  have hl : lv_has ls 6 [(0, .ref h)] := hl
  have hA41 := hw.w41
  have hA33 := hw.a33
  have hA48 := hw.a48
  obtain ⟨hR2, hR, hB1, hB, hSa, hSb, -⟩ := id hw
  have h8 : 8 ≤ nW σ := by unfold nW; omega
  refine lv_iconst (v := nI 0) hx hb dX1_makeCheap_0 (by decide) ?_
  refine lv_istore_n (lv' := [(1, .int (nI 0)), (0, .ref h)]) hx hb dX1_makeCheap_1 rfl hl (by decide) rfl (fun ls hl => ?_)
  refine lv_bipush (v := nI 8) hx hb dX1_makeCheap_2 (by decide) ?_
  refine lv_istore_n (lv' := [(2, .int (nI 8)), (1, .int (nI 0)), (0, .ref h)]) hx hb dX1_makeCheap_4 rfl hl (by decide) rfl (fun ls hl => ?_)
  have L5 : ∀ (n5 i : Nat), nW σ + 1 ≤ i + n5 → i ≤ nW σ → (8 ≤ i) → ∀ (H : Heap) (locs : List Loc), va_P D vwCl (wRp h a cI (σ 0) (σ 1) (σ 2) (onF σ) (wwF σ) (nF (mcG σ i)) (ptF σ)) H → va_D A (wRp h a cI (σ 0) (σ 1) (σ 2) (onF σ) (wwF σ) (nF (mcG σ i)) (ptF σ)) → va_S A s.heap H locs → ∀ (ls : Array Slot), lv_has ls 6 [(2, .int (nI i)), (1, .int (nI (mcC σ i))), (0, .ref h)] → W p l e (rmK 1 21) s m args below meth c H locs 0 0 (MQ below (QcM D (some (.int (nI (mcC σ (nW σ))))) (wRp h a cI (σ 0) (σ 1) (σ 2) (onF σ) (wwF σ) (nF (mcG σ (nW σ))) (ptF σ)) A) args s 0 0 A) (F0 m 5 ls []) := by
    intro n5
    induction n5 with
    | zero =>
      intro i h1_5 h2_5
      exact False.elim (by omega)
    | succ n5 ih5 =>
      intro i h1_5 h2_5 hi8 H locs hP hD hS ls hl
      refine lv_iload_n hx hb dX1_makeCheap_5 rfl (lv_at hl 0 rfl) ?_
      refine lv_aload_n hx hb dX1_makeCheap_6 rfl (lv_at hl 2 rfl) ?_
      refine nv_callV [] [.int (nI i)] hx hb hml hown hts k_RX1_55 (c_X1_wires l D cI cR h a (σ 0) (σ 1) (σ 2) (onF σ) (wwF σ) (nF (mcG σ i)) (ptF σ) ) ⟨rfl, rfl, Nat.le_of_ble_eq_true rfl, Nat.le_of_ble_eq_true rfl⟩ hP hK 1 rfl rfl rfl rfl hl rfl (Nat.le_of_ble_eq_true rfl) dX1_makeCheap_7 ⟨Nat.zero_le _, Nat.zero_le _⟩ ?_
      refine nv_top (nW σ) (rfl) ?_
      refine nv_icmp_ge (tgt := 72) hx hb dX1_makeCheap_10 (by decide) (by omega) (by omega) (fun q_10 => ?_) (fun q_10 => ?_)
      · have ei : i = nW σ := by omega
        have eR : (nF (mcG σ i)) = (nF (mcG σ (nW σ))) := by rw [ei]
        rw [eR] at hP hD
        have hP : va_P D vwCl (wRp h a cI (σ 0) (σ 1) (σ 2) (onF σ) (wwF σ) (nF (mcG σ (nW σ))) (ptF σ)) H := hP
        have hD : va_D A (wRp h a cI (σ 0) (σ 1) (σ 2) (onF σ) (wwF σ) (nF (mcG σ (nW σ))) (ptF σ)) := hD
        refine lv_iload_n hx hb dX1_makeCheap_72 rfl (lv_at hl 1 rfl) ?_
        exact mu_reti hx hb hr hlocks (by rw [ei]) hP hD hS dX1_makeCheap_73
      · refine lv_aload_n hx hb dX1_makeCheap_13 rfl (lv_at hl 2 rfl) ?_
        refine va_get (D := D) (ci := 1) (v := .ref (a 0)) (C := RX1) (T := TX1) (N := 7) hx hb hts inX1 hown hK hP 0 rfl rfl 3 (by decide) (hts _ fl_RX1_9) (fun _ h9 => h9) rfl dX1_makeCheap_14 ?_
        refine lv_iload_n hx hb dX1_makeCheap_17 rfl (lv_at hl 0 rfl) ?_
        refine nv_iald (D := D) (v := nI (onM σ i)) hx hb hK hP 1 0 rfl rfl (k := i) (by omega) (by decide) (rfl) dX1_makeCheap_18 ?_
        refine nv_callS [.int (nI (onM σ i))] [] hx hb hml hown hts k_RX1_73 (c_J6_bitCount_0f7a4 l D cI cR (onM σ i) (onM_lt hw _)) ⟨rfl, rfl, Nat.le_of_ble_eq_true rfl, Nat.le_of_ble_eq_true rfl⟩ (va_P_nil) hK rfl hl rfl (Nat.le_of_ble_eq_true rfl) dX1_makeCheap_19 ⟨Nat.zero_le _, Nat.zero_le _⟩ ?_
        have hpo := pop_on hw i
        refine lv_istore_n (lv' := [(3, .int (nI (pop (onM σ i)))), (2, .int (nI i)), (1, .int (nI (mcC σ i))), (0, .ref h)]) hx hb dX1_makeCheap_22 rfl hl (by decide) rfl (fun ls hl => ?_)
        refine lv_aload_n hx hb dX1_makeCheap_23 rfl (lv_at hl 3 rfl) ?_
        refine va_get (D := D) (ci := 1) (v := .int (nI (σ 0))) (C := RX1) (T := TX1) (N := 7) hx hb hts inX1 hown hK hP 0 rfl rfl 0 (by decide) (hts _ fl_RX1_28) (fun _ h9 => h9) rfl dX1_makeCheap_24 ?_
        refine lv_iload_n hx hb dX1_makeCheap_27 rfl (lv_at hl 0 rfl) ?_
        refine nv_isub hx hb dX1_makeCheap_28 (by omega) ?_
        refine lv_iconst (v := nI 1) hx hb dX1_makeCheap_29 (by decide) ?_
        refine nv_iadd hx hb dX1_makeCheap_30 ?_
        refine lv_istore (lv' := [(4, .int (nI (((σ 0) - (pop (onM σ i))) + 1))), (3, .int (nI (pop (onM σ i)))), (2, .int (nI i)), (1, .int (nI (mcC σ i))), (0, .ref h)]) hx hb dX1_makeCheap_31 hl (by decide) rfl (fun ls hl => ?_)
        refine lv_iload hx hb dX1_makeCheap_33 (lv_at hl 0 rfl) ?_
        refine lv_iload_n hx hb dX1_makeCheap_35 rfl (lv_at hl 1 rfl) ?_
        have J36 : ∀ (H : Heap) (locs : List Loc), va_P D vwCl (wRp h a cI (σ 0) (σ 1) (σ 2) (onF σ) (wwF σ) (nF (mcG σ i)) (ptF σ)) H → va_D A (wRp h a cI (σ 0) (σ 1) (σ 2) (onF σ) (wwF σ) (nF (mcG σ i)) (ptF σ)) → va_S A s.heap H locs → ∀ (ls : Array Slot), lv_has ls 6 [(4, .int (nI (((σ 0) - (pop (onM σ i))) + 1))), (3, .int (nI (pop (onM σ i)))), (2, .int (nI i)), (1, .int (nI (mcC σ i))), (0, .ref h)] → W p l e (rmK 1 21) s m args below meth c H locs 0 0 (MQ below (QcM D (some (.int (nI (mcC σ (nW σ))))) (wRp h a cI (σ 0) (σ 1) (σ 2) (onF σ) (wwF σ) (nF (mcG σ (nW σ))) (ptF σ)) A) args s 0 0 A) (F0 m 44 ls [.int (nI (bst σ i))]) := by
          intro H locs hP hD hS ls hl
          refine lv_istore (lv' := [(5, .int (nI (bst σ i))), (4, .int (nI (((σ 0) - (pop (onM σ i))) + 1))), (3, .int (nI (pop (onM σ i)))), (2, .int (nI i)), (1, .int (nI (mcC σ i))), (0, .ref h)]) hx hb dX1_makeCheap_44 hl (by decide) rfl (fun ls hl => ?_)
          refine lv_aload_n hx hb dX1_makeCheap_46 rfl (lv_at hl 5 rfl) ?_
          refine va_get (D := D) (ci := 1) (v := .ref (a 2)) (C := RX1) (T := TX1) (N := 7) hx hb hts inX1 hown hK hP 0 rfl rfl 5 (by decide) (hts _ fl_RX1_18) (fun _ h9 => h9) rfl dX1_makeCheap_47 ?_
          refine lv_iload_n hx hb dX1_makeCheap_50 rfl (lv_at hl 3 rfl) ?_
          refine nv_iald (D := D) (v := nI ((mcG σ i) i)) hx hb hK hP 3 0 rfl rfl (k := i) (by omega) (by decide) (rfl) dX1_makeCheap_51 ?_
          refine nv_top (crN σ i) (mcG_at σ i) ?_
          have hcr := crN_le hw (show i < nW σ by omega)
          have hbs := bst_le σ i
          refine lv_iload hx hb dX1_makeCheap_52 (lv_at hl 0 rfl) ?_
          have J54 : ∀ (H : Heap) (locs : List Loc), va_P D vwCl (wRp h a cI (σ 0) (σ 1) (σ 2) (onF σ) (wwF σ) (nF (mcG σ (i + 1))) (ptF σ)) H → va_D A (wRp h a cI (σ 0) (σ 1) (σ 2) (onF σ) (wwF σ) (nF (mcG σ (i + 1))) (ptF σ)) → va_S A s.heap H locs → ∀ (ls : Array Slot), lv_has ls 6 [(0, .ref h), (1, .int (nI (mcC σ (i + 1)))), (2, .int (nI i))] → W p l e (rmK 1 21) s m args below meth c H locs 0 0 (MQ below (QcM D (some (.int (nI (mcC σ (nW σ))))) (wRp h a cI (σ 0) (σ 1) (σ 2) (onF σ) (wwF σ) (nF (mcG σ (nW σ))) (ptF σ)) A) args s 0 0 A) (F0 m 66 ls []) := by
            intro H locs hP hD hS ls hl
            refine nv_inc (k := 2) (lv' := [(2, .int (nI (i + 1))), (0, .ref h), (1, .int (nI (mcC σ (i + 1))))]) hx hb dX1_makeCheap_66 hl rfl (by decide) rfl (fun ls hl => ?_)
            refine lv_goto (tgt := 5) hx hb dX1_makeCheap_69 (by decide) ?_
            exact ih5 (i + 1) (by omega) (by omega) (by omega) _ _ hP hD hS ls (lv_sub hl [0, 2, 1] rfl)
          refine nv_icmp_eq (tgt := 66) hx hb dX1_makeCheap_54 (by decide) (by omega) (by omega) (fun q_54 => ?_) (fun q_54 => ?_)
          · have eR : (nF (mcG σ i)) = (nF (mcG σ (i + 1))) := congrArg nF (mcG_eq q_54)
            rw [eR] at hP hD
            have hP : va_P D vwCl (wRp h a cI (σ 0) (σ 1) (σ 2) (onF σ) (wwF σ) (nF (mcG σ (i + 1))) (ptF σ)) H := hP
            have hD : va_D A (wRp h a cI (σ 0) (σ 1) (σ 2) (onF σ) (wwF σ) (nF (mcG σ (i + 1))) (ptF σ)) := hD
            have hl := lv_repl [(5, .int (nI (bst σ i))), (4, .int (nI (((σ 0) - (pop (onM σ i))) + 1))), (3, .int (nI (pop (onM σ i)))), (2, .int (nI i)), (1, .int (nI (mcC σ (i + 1)))), (0, .ref h)] 4 rfl (congrArg (fun z : Nat => Value.int (nI z)) (show (mcC σ i) = (mcC σ (i + 1)) from (by rw [mcC_s (by omega)]; first | (rw [q_54]; simp) | (rw [bne_iff_ne.mpr q_54]; rfl)))) rfl hl
            exact J54 _ _ hP hD hS ls (lv_sub hl [5, 4, 3] rfl)
          · refine lv_aload_n hx hb dX1_makeCheap_57 rfl (lv_at hl 5 rfl) ?_
            refine lv_iload_n hx hb dX1_makeCheap_58 rfl (lv_at hl 3 rfl) ?_
            refine mu_call (ws' := (wRp h a cI (σ 0) (σ 1) (σ 2) (onF σ) (wwF σ) (nF (va_up ((mcG σ i)) i (1 - ((mcG σ i)) i))) (ptF σ))) [0, 1, 2, 3, 4] [] [0, 1, 2, 3, 4] [.int (nI i)] [] hx hb hml hown hts k_RX1_104 (fun sz => c_X1_turn l D cI cR h a (σ 0) (σ 1) (σ 2) (onF σ) (wwF σ) ((mcG σ i)) (ptF σ) i (by omega) (by rw [mcG_at]; exact crN_le hw (by omega)) sz) ⟨rfl, rfl, Nat.le_of_ble_eq_true rfl, Nat.le_of_ble_eq_true rfl⟩ hP hD hS hA hK 1 rfl rfl rfl rfl rfl rfl rfl (by decide) rfl rfl rfl hl rfl (Nat.le_of_ble_eq_true rfl) dX1_makeCheap_59 ⟨Nat.zero_le _, Nat.zero_le _⟩ (fun H locs hP hD hS => ?_)
            refine W.eq (g2 := F0 m 62 ls [.int (nI (1 - ((mcG σ i)) i))]) rfl ?_
            refine lv_pop hx hb dX1_makeCheap_62 rfl ?_
            refine nv_inc (k := 4) (lv' := [(1, .int (nI ((mcC σ i) + 1))), (5, .int (nI (bst σ i))), (4, .int (nI (((σ 0) - (pop (onM σ i))) + 1))), (3, .int (nI (pop (onM σ i)))), (2, .int (nI i)), (0, .ref h)]) hx hb dX1_makeCheap_63 hl rfl (by decide) rfl (fun ls hl => ?_)
            have eR : (nF (va_up ((mcG σ i)) i (1 - ((mcG σ i)) i))) = (nF (mcG σ (i + 1))) := congrArg nF (mcG_ne (by omega) (crN_le hw (by omega)) q_54)
            rw [eR] at hP hD
            have hP : va_P D vwCl (wRp h a cI (σ 0) (σ 1) (σ 2) (onF σ) (wwF σ) (nF (mcG σ (i + 1))) (ptF σ)) H := hP
            have hD : va_D A (wRp h a cI (σ 0) (σ 1) (σ 2) (onF σ) (wwF σ) (nF (mcG σ (i + 1))) (ptF σ)) := hD
            have hl := lv_repl [(1, .int (nI (mcC σ (i + 1)))), (5, .int (nI (bst σ i))), (4, .int (nI (((σ 0) - (pop (onM σ i))) + 1))), (3, .int (nI (pop (onM σ i)))), (2, .int (nI i)), (0, .ref h)] 0 rfl (congrArg (fun z : Nat => Value.int (nI z)) (show ((mcC σ i) + 1) = (mcC σ (i + 1)) from (by rw [mcC_s (by omega)]; first | (rw [q_54]; simp) | (rw [bne_iff_ne.mpr q_54]; rfl)))) rfl hl
            exact J54 _ _ hP hD hS ls (lv_sub hl [5, 0, 4] rfl)
        refine nv_icmp_ge (tgt := 43) hx hb dX1_makeCheap_36 (by decide) (by omega) (by omega) (fun q_36 => ?_) (fun q_36 => ?_)
        · refine lv_iconst (v := nI 0) hx hb dX1_makeCheap_43 (by decide) ?_
          refine nv_top (bst σ i) (by unfold bst; first | rw [if_pos q_36] | rw [if_neg (Nat.not_lt.mpr q_36)]) ?_
          exact J36 _ _ hP hD hS ls (lv_sub hl [0, 1, 2, 3, 4] rfl)
        · refine lv_iconst (v := nI 1) hx hb dX1_makeCheap_39 (by decide) ?_
          refine lv_goto (tgt := 44) hx hb dX1_makeCheap_40 (by decide) ?_
          refine nv_top (bst σ i) (by unfold bst; first | rw [if_pos q_36] | rw [if_neg (Nat.not_lt.mpr q_36)]) ?_
          exact J36 _ _ hP hD hS ls (lv_sub hl [0, 1, 2, 3, 4] rfl)
  have eR : (crF σ) = (nF (mcG σ 8)) := mc_8 σ
  rw [eR] at hP hD
  have hP : va_P D vwCl (wRp h a cI (σ 0) (σ 1) (σ 2) (onF σ) (wwF σ) (nF (mcG σ 8)) (ptF σ)) H := hP
  have hD : va_D A (wRp h a cI (σ 0) (σ 1) (σ 2) (onF σ) (wwF σ) (nF (mcG σ 8)) (ptF σ)) := hD
  have hl := lv_repl [(2, .int (nI 8)), (1, .int (nI (mcC σ 8))), (0, .ref h)] 1 rfl (congrArg (fun z : Nat => Value.int (nI z)) (show 0 = (mcC σ 8) from mcC_8 σ)) rfl hl
  exact L5 (nW σ + 1) 8 (by omega) (by omega) (Nat.le_refl 8) _ _ hP hD hS ls (lv_sub hl [0, 1, 2] rfl)
set_option maxHeartbeats 4000000 in
set_option maxRecDepth 100000 in
theorem c_X1_mendPatches (l : Launch) (D : va_G) (cI cR : ClassId) (h : Nat) (a : Nat → Nat) (σ : Nat → Nat)   (hw : wf σ) (sz : Nat) : Met l yX1_mendPatches (wsC yX1_mendPatches cX1_mendPatches 2 none) (rmK 3 70) (nPreM D (nTy cI cR) [.ref h] (wRp h a cI (σ 0) (σ 1) (σ 2) (onF σ) (wwF σ) (crF σ) (ptF σ)) sz) (QcM D none (wRp h a cI (σ 0) (σ 1) (σ 2) (onF σ) (wwF σ) (crF σ) (ptF (mdS σ (nA σ)))) (va_A (wRp h a cI (σ 0) (σ 1) (σ 2) (onF σ) (wwF σ) (crF σ) (ptF σ)) sz)) 0 0 (va_A (wRp h a cI (σ 0) (σ 1) (σ 2) (onF σ) (wwF σ) (crF σ) (ptF σ)) sz) := by
  refine met_mut (Qc := fun A => QcM D none (wRp h a cI (σ 0) (σ 1) (σ 2) (onF σ) (wwF σ) (crF σ) (ptF (mdS σ (nA σ)))) A) rfl (Nat.le_of_ble_eq_true rfl) ?_
  intro p e s m args below meth c ls A H locs hx hb hml hr hlocks hown hts hP hK hD hA hS hl
  have hl : lv_has ls 2 [(0, .ref h)] := hl
  have hA41 := hw.w41
  have hA33 := hw.a33
  have hA48 := hw.a48
  obtain ⟨hR2, hR, hB1, hB, hSa, hSb, -⟩ := id hw
  refine lv_iconst (v := nI 0) hx hb dX1_mendPatches_0 (by decide) ?_
  refine lv_istore_n (lv' := [(1, .int (nI 0)), (0, .ref h)]) hx hb dX1_mendPatches_1 rfl hl (by decide) rfl (fun ls hl => ?_)
  have L2 : ∀ (n2 i : Nat), nA σ + 1 ≤ i + n2 → i ≤ nA σ → ∀ (H : Heap) (locs : List Loc), va_P D vwCl (wRp h a cI (σ 0) (σ 1) (σ 2) (onF σ) (wwF σ) (crF σ) (ptF (mdS σ i))) H → va_D A (wRp h a cI (σ 0) (σ 1) (σ 2) (onF σ) (wwF σ) (crF σ) (ptF (mdS σ i))) → va_S A s.heap H locs → ∀ (ls : Array Slot), lv_has ls 2 [(1, .int (nI i)), (0, .ref h)] → W p l e (rmK 3 70) s m args below meth c H locs 0 0 (MQ below (QcM D none (wRp h a cI (σ 0) (σ 1) (σ 2) (onF σ) (wwF σ) (crF σ) (ptF (mdS σ (nA σ)))) A) args s 0 0 A) (F0 m 2 ls []) := by
    intro n2
    induction n2 with
    | zero =>
      intro i h1_2 h2_2
      exact False.elim (by omega)
    | succ n2 ih2 =>
      intro i h1_2 h2_2  H locs hP hD hS ls hl
      refine lv_iload_n hx hb dX1_mendPatches_2 rfl (lv_at hl 0 rfl) ?_
      refine lv_aload_n hx hb dX1_mendPatches_3 rfl (lv_at hl 1 rfl) ?_
      refine nv_callV [] [.int (nI i)] hx hb hml hown hts k_RX1_42 (c_X1_addresses l D cI cR h a (σ 0) (σ 1) (σ 2) (onF σ) (wwF σ) (crF σ) (ptF (mdS σ i)) ) ⟨rfl, rfl, Nat.le_of_ble_eq_true rfl, Nat.le_of_ble_eq_true rfl⟩ hP hK 1 rfl rfl rfl rfl hl rfl (Nat.le_of_ble_eq_true rfl) dX1_mendPatches_4 ⟨Nat.zero_le _, Nat.zero_le _⟩ ?_
      refine nv_top (nA σ) (rfl) ?_
      refine nv_icmp_ge (tgt := 37) hx hb dX1_mendPatches_7 (by decide) (by omega) (by omega) (fun q_7 => ?_) (fun q_7 => ?_)
      · have ei : i = nA σ := by omega
        have eR : (ptF (mdS σ i)) = (ptF (mdS σ (nA σ))) := by rw [ei]
        rw [eR] at hP hD
        have hP : va_P D vwCl (wRp h a cI (σ 0) (σ 1) (σ 2) (onF σ) (wwF σ) (crF σ) (ptF (mdS σ (nA σ)))) H := hP
        have hD : va_D A (wRp h a cI (σ 0) (σ 1) (σ 2) (onF σ) (wwF σ) (crF σ) (ptF (mdS σ (nA σ)))) := hD
        exact mu_retv hx hb hr hlocks hP hD hS dX1_mendPatches_37
      · refine lv_aload_n hx hb dX1_mendPatches_10 rfl (lv_at hl 1 rfl) ?_
        refine va_get (D := D) (ci := 1) (v := .ref (a 3)) (C := RX1) (T := TX1) (N := 7) hx hb hts inX1 hown hK hP 0 rfl rfl 6 (by decide) (hts _ fl_RX1_21) (fun _ h9 => h9) rfl dX1_mendPatches_11 ?_
        refine lv_iload_n hx hb dX1_mendPatches_14 rfl (lv_at hl 0 rfl) ?_
        refine nv_iald (D := D) (v := (ptF (mdS σ i)) i) hx hb hK hP 4 0 rfl rfl (k := i) (by omega) (by decide) (rfl) dX1_mendPatches_15 ?_
        refine lv_iconst (v := -1) hx hb dX1_mendPatches_16 (by decide) ?_
        have J17 : ∀ (H : Heap) (locs : List Loc), va_P D vwCl (wRp h a cI (σ 0) (σ 1) (σ 2) (onF σ) (wwF σ) (crF σ) (ptF (mdS σ (i + 1)))) H → va_D A (wRp h a cI (σ 0) (σ 1) (σ 2) (onF σ) (wwF σ) (crF σ) (ptF (mdS σ (i + 1)))) → va_S A s.heap H locs → ∀ (ls : Array Slot), lv_has ls 2 [(1, .int (nI i)), (0, .ref h)] → W p l e (rmK 3 70) s m args below meth c H locs 0 0 (MQ below (QcM D none (wRp h a cI (σ 0) (σ 1) (σ 2) (onF σ) (wwF σ) (crF σ) (ptF (mdS σ (nA σ)))) A) args s 0 0 A) (F0 m 31 ls []) := by
          intro H locs hP hD hS ls hl
          refine nv_inc (k := 0) (lv' := [(1, .int (nI (i + 1))), (0, .ref h)]) hx hb dX1_mendPatches_31 hl rfl (by decide) rfl (fun ls hl => ?_)
          refine lv_goto (tgt := 2) hx hb dX1_mendPatches_34 (by decide) ?_
          exact ih2 (i + 1) (by omega) (by omega)  _ _ hP hD hS ls (lv_sub hl [0, 1] rfl)
        refine lv_icmp_eq (tgt := 31) hx hb dX1_mendPatches_17 (by decide) (fun q_17 => ?_) (fun q_17 => ?_)
        · have eR : (ptF (mdS σ i)) = (ptF (mdS σ (i + 1))) := md_skip ((ptF_m1 (by rw [md_at]; exact hw.pt (by omega))).mp q_17 |> fun z => by rw [md_at] at z; exact z)
          rw [eR] at hP hD
          have hP : va_P D vwCl (wRp h a cI (σ 0) (σ 1) (σ 2) (onF σ) (wwF σ) (crF σ) (ptF (mdS σ (i + 1)))) H := hP
          have hD : va_D A (wRp h a cI (σ 0) (σ 1) (σ 2) (onF σ) (wwF σ) (crF σ) (ptF (mdS σ (i + 1)))) := hD
          exact J17 _ _ hP hD hS ls (lv_sub hl [0, 1] rfl)
        · refine lv_aload_n hx hb dX1_mendPatches_20 rfl (lv_at hl 1 rfl) ?_
          refine va_get (D := D) (ci := 1) (v := .ref (a 3)) (C := RX1) (T := TX1) (N := 7) hx hb hts inX1 hown hK hP 0 rfl rfl 6 (by decide) (hts _ fl_RX1_21) (fun _ h9 => h9) rfl dX1_mendPatches_21 ?_
          refine lv_iload_n hx hb dX1_mendPatches_24 rfl (lv_at hl 0 rfl) ?_
          refine lv_aload_n hx hb dX1_mendPatches_25 rfl (lv_at hl 1 rfl) ?_
          refine lv_iload_n hx hb dX1_mendPatches_26 rfl (lv_at hl 0 rfl) ?_
          refine nv_callV [.int (nI i)] [.int (nI i), .ref (a 3)] hx hb hml hown hts k_RX1_131 (c_X1_wordAt l D cI cR h a (mdS σ i) i (wf_md hw i) (show i < nA (mdS σ i) by unfold nA; rw [md_lo σ i (by omega), md_lo σ i (by omega)]; exact q_7)) ⟨rfl, rfl, Nat.le_of_ble_eq_true rfl, Nat.le_of_ble_eq_true rfl⟩ ((rpS hw (fun k hk => md_lo σ i hk) _ (fun _ _ => rfl)).1 _ hP) hK 1 rfl rfl rfl rfl hl rfl (Nat.le_of_ble_eq_true rfl) dX1_mendPatches_27 ⟨Nat.zero_le _, Nat.zero_le _⟩ ?_
          refine nv_top (σ (19 + i)) (md_lo σ i (by omega)) ?_
          refine nv_iast (D := D) (ws' := (wRp h a cI (σ 0) (σ 1) (σ 2) (onF σ) (wwF σ) (crF σ) (upd (ptF (mdS σ i)) i (nI (σ (19 + i)))))) hx hb hK hP hD hS 4 0 rfl rfl (k := i) (by omega) (by decide) rfl dX1_mendPatches_30 (fun H locs hP hD hS => ?_)
          have eR : (upd (ptF (mdS σ i)) i (nI (σ (19 + i)))) = (ptF (mdS σ (i + 1))) := md_put (mt (fun z => (ptF_m1 (by rw [md_at]; exact hw.pt (by omega))).mpr (by rw [md_at]; exact z)) q_17)
          rw [eR] at hP hD
          have hP : va_P D vwCl (wRp h a cI (σ 0) (σ 1) (σ 2) (onF σ) (wwF σ) (crF σ) (ptF (mdS σ (i + 1)))) H := hP
          have hD : va_D A (wRp h a cI (σ 0) (σ 1) (σ 2) (onF σ) (wwF σ) (crF σ) (ptF (mdS σ (i + 1)))) := hD
          exact J17 _ _ hP hD hS ls (lv_sub hl [0, 1] rfl)
  have eR : (ptF σ) = (ptF (mdS σ 0)) := md_0 σ
  rw [eR] at hP hD
  have hP : va_P D vwCl (wRp h a cI (σ 0) (σ 1) (σ 2) (onF σ) (wwF σ) (crF σ) (ptF (mdS σ 0))) H := hP
  have hD : va_D A (wRp h a cI (σ 0) (σ 1) (σ 2) (onF σ) (wwF σ) (crF σ) (ptF (mdS σ 0))) := hD
  exact L2 (nA σ + 1) 0 (by omega) (by omega)  _ _ hP hD hS ls (lv_sub hl [0, 1] rfl)
set_option maxHeartbeats 4000000 in
set_option maxRecDepth 100000 in
theorem c_X1_addPatches (l : Launch) (D : va_G) (cI cR : ClassId) (h : Nat) (a : Nat → Nat) (σ : Nat → Nat)   (hw : wf σ) (h4 : ct (fun a => σ (141 + a) != 0) (nA σ) ≤ 4) (sz : Nat) : Met l yX1_addPatches (wsC yX1_addPatches cX1_addPatches 3 none) (rmK 4 92) (nPreM D (nTy cI cR) [.ref h] (wRp h a cI (σ 0) (σ 1) (σ 2) (onF σ) (wwF σ) (crF σ) (ptF σ)) sz) (QcM D none (wRp h a cI (σ 0) (σ 1) (σ 2) (onF σ) (wwF σ) (crF σ) (ptF (adP σ (nA σ)).1)) (va_A (wRp h a cI (σ 0) (σ 1) (σ 2) (onF σ) (wwF σ) (crF σ) (ptF σ)) sz)) 0 0 (va_A (wRp h a cI (σ 0) (σ 1) (σ 2) (onF σ) (wwF σ) (crF σ) (ptF σ)) sz) := by
  refine met_mut (Qc := fun A => QcM D none (wRp h a cI (σ 0) (σ 1) (σ 2) (onF σ) (wwF σ) (crF σ) (ptF (adP σ (nA σ)).1)) A) rfl (Nat.le_of_ble_eq_true rfl) ?_
  intro p e s m args below meth c ls A H locs hx hb hml hr hlocks hown hts hP hK hD hA hS hl
  have hl : lv_has ls 3 [(0, .ref h)] := hl
  have hA41 := hw.w41
  have hA33 := hw.a33
  have hA48 := hw.a48
  obtain ⟨hR2, hR, hB1, hB, hSa, hSb, -⟩ := id hw
  refine lv_iconst (v := nI 4) hx hb dX1_addPatches_0 (by decide) ?_
  refine lv_aload_n hx hb dX1_addPatches_1 rfl (lv_at hl 0 rfl) ?_
  refine nv_callV [] [.int (nI 4)] hx hb hml hown hts k_RX1_67 (c_X1_patchCount l D cI cR h a σ hw) ⟨rfl, rfl, Nat.le_of_ble_eq_true rfl, Nat.le_of_ble_eq_true rfl⟩ hP hK 1 rfl rfl rfl rfl hl rfl (Nat.le_of_ble_eq_true rfl) dX1_addPatches_2 ⟨Nat.zero_le _, Nat.zero_le _⟩ ?_
  refine nv_isub hx hb dX1_addPatches_5 h4 ?_
  refine lv_istore_n (lv' := [(1, .int (nI (4 - (ct (fun a => σ (141 + a) != 0) (nA σ))))), (0, .ref h)]) hx hb dX1_addPatches_6 rfl hl (by decide) rfl (fun ls hl => ?_)
  refine lv_iconst (v := nI 0) hx hb dX1_addPatches_7 (by decide) ?_
  refine lv_istore_n (lv' := [(2, .int (nI 0)), (1, .int (nI (4 - (ct (fun a => σ (141 + a) != 0) (nA σ))))), (0, .ref h)]) hx hb dX1_addPatches_8 rfl hl (by decide) rfl (fun ls hl => ?_)
  have L9 : ∀ (n9 i : Nat), nA σ + 1 ≤ i + n9 → i ≤ nA σ → ∀ (H : Heap) (locs : List Loc), va_P D vwCl (wRp h a cI (σ 0) (σ 1) (σ 2) (onF σ) (wwF σ) (crF σ) (ptF (adP σ i).1)) H → va_D A (wRp h a cI (σ 0) (σ 1) (σ 2) (onF σ) (wwF σ) (crF σ) (ptF (adP σ i).1)) → va_S A s.heap H locs → ∀ (ls : Array Slot), lv_has ls 3 [(2, .int (nI i)), (1, .int (nI (4 - (adP σ i).2))), (0, .ref h)] → W p l e (rmK 4 92) s m args below meth c H locs 0 0 (MQ below (QcM D none (wRp h a cI (σ 0) (σ 1) (σ 2) (onF σ) (wwF σ) (crF σ) (ptF (adP σ (nA σ)).1)) A) args s 0 0 A) (F0 m 9 ls []) := by
    intro n9
    induction n9 with
    | zero =>
      intro i h1_9 h2_9
      exact False.elim (by omega)
    | succ n9 ih9 =>
      intro i h1_9 h2_9  H locs hP hD hS ls hl
      have hle := ad_le (σ := σ) h4 i
      refine lv_iload_n hx hb dX1_addPatches_9 rfl (lv_at hl 0 rfl) ?_
      refine lv_aload_n hx hb dX1_addPatches_10 rfl (lv_at hl 2 rfl) ?_
      refine nv_callV [] [.int (nI i)] hx hb hml hown hts k_RX1_42 (c_X1_addresses l D cI cR h a (σ 0) (σ 1) (σ 2) (onF σ) (wwF σ) (crF σ) (ptF (adP σ i).1) ) ⟨rfl, rfl, Nat.le_of_ble_eq_true rfl, Nat.le_of_ble_eq_true rfl⟩ hP hK 1 rfl rfl rfl rfl hl rfl (Nat.le_of_ble_eq_true rfl) dX1_addPatches_11 ⟨Nat.zero_le _, Nat.zero_le _⟩ ?_
      refine nv_top (nA σ) (rfl) ?_
      refine nv_icmp_ge (tgt := 49) hx hb dX1_addPatches_14 (by decide) (by omega) (by omega) (fun q_14 => ?_) (fun q_14 => ?_)
      · have eR : (ptF (adP σ i).1) = (ptF (adP σ (nA σ)).1) := by rw [show i = nA σ by omega]
        rw [eR] at hP hD
        have hP : va_P D vwCl (wRp h a cI (σ 0) (σ 1) (σ 2) (onF σ) (wwF σ) (crF σ) (ptF (adP σ (nA σ)).1)) H := hP
        have hD : va_D A (wRp h a cI (σ 0) (σ 1) (σ 2) (onF σ) (wwF σ) (crF σ) (ptF (adP σ (nA σ)).1)) := hD
        exact mu_retv hx hb hr hlocks hP hD hS dX1_addPatches_49
      · refine lv_iload_n hx hb dX1_addPatches_17 rfl (lv_at hl 1 rfl) ?_
        refine nv_if_le (tgt := 49) hx hb dX1_addPatches_18 (by decide) (by omega) (fun q_18 => ?_) (fun q_18 => ?_)
        · have eR : (ptF (adP σ i).1) = (ptF (adP σ (nA σ)).1) := by rw [show nA σ = i + (nA σ - i) by omega, ad_stop (by omega)]
          rw [eR] at hP hD
          have hP : va_P D vwCl (wRp h a cI (σ 0) (σ 1) (σ 2) (onF σ) (wwF σ) (crF σ) (ptF (adP σ (nA σ)).1)) H := hP
          have hD : va_D A (wRp h a cI (σ 0) (σ 1) (σ 2) (onF σ) (wwF σ) (crF σ) (ptF (adP σ (nA σ)).1)) := hD
          exact mu_retv hx hb hr hlocks hP hD hS dX1_addPatches_49
        · refine lv_aload_n hx hb dX1_addPatches_21 rfl (lv_at hl 2 rfl) ?_
          refine lv_iload_n hx hb dX1_addPatches_22 rfl (lv_at hl 0 rfl) ?_
          refine nv_callV [.int (nI i)] [] hx hb hml hown hts k_RX1_121 (c_X1_isMisread l D cI cR h a ((adP σ i).1) i (wf_ad hw i) (show i < nA (adP σ i).1 by unfold nA; rw [ad_lo σ (by omega), ad_lo σ (by omega)]; exact q_14)) ⟨rfl, rfl, Nat.le_of_ble_eq_true rfl, Nat.le_of_ble_eq_true rfl⟩ ((rpS hw (fun k hk => ad_lo σ hk i) _ (fun _ _ => rfl)).1 _ hP) hK 1 rfl rfl rfl rfl hl rfl (Nat.le_of_ble_eq_true rfl) dX1_addPatches_23 ⟨Nat.zero_le _, Nat.zero_le _⟩ ?_
          have J26 : ∀ (H : Heap) (locs : List Loc), va_P D vwCl (wRp h a cI (σ 0) (σ 1) (σ 2) (onF σ) (wwF σ) (crF σ) (ptF (adP σ (i + 1)).1)) H → va_D A (wRp h a cI (σ 0) (σ 1) (σ 2) (onF σ) (wwF σ) (crF σ) (ptF (adP σ (i + 1)).1)) → va_S A s.heap H locs → ∀ (ls : Array Slot), lv_has ls 3 [(0, .ref h), (1, .int (nI (4 - (adP σ (i + 1)).2))), (2, .int (nI i))] → W p l e (rmK 4 92) s m args below meth c H locs 0 0 (MQ below (QcM D none (wRp h a cI (σ 0) (σ 1) (σ 2) (onF σ) (wwF σ) (crF σ) (ptF (adP σ (nA σ)).1)) A) args s 0 0 A) (F0 m 43 ls []) := by
            intro H locs hP hD hS ls hl
            refine nv_inc (k := 2) (lv' := [(2, .int (nI (i + 1))), (0, .ref h), (1, .int (nI (4 - (adP σ (i + 1)).2)))]) hx hb dX1_addPatches_43 hl rfl (by decide) rfl (fun ls hl => ?_)
            refine lv_goto (tgt := 9) hx hb dX1_addPatches_46 (by decide) ?_
            exact ih9 (i + 1) (by omega) (by omega)  _ _ hP hD hS ls (lv_sub hl [0, 2, 1] rfl)
          refine lv_if_eq (tgt := 43) hx hb dX1_addPatches_26 (by decide) (fun q_26 => ?_) (fun q_26 => ?_)
          · have eR : (ptF (adP σ i).1) = (ptF (adP σ (i + 1)).1) := by rw [ad_skip (zB_eq0 q_26)]
            rw [eR] at hP hD
            have hP : va_P D vwCl (wRp h a cI (σ 0) (σ 1) (σ 2) (onF σ) (wwF σ) (crF σ) (ptF (adP σ (i + 1)).1)) H := hP
            have hD : va_D A (wRp h a cI (σ 0) (σ 1) (σ 2) (onF σ) (wwF σ) (crF σ) (ptF (adP σ (i + 1)).1)) := hD
            have hl := lv_repl [(2, .int (nI i)), (1, .int (nI (4 - (adP σ (i + 1)).2))), (0, .ref h)] 1 rfl (congrArg (fun z : Nat => Value.int (nI z)) (show (4 - (adP σ i).2) = (4 - (adP σ (i + 1)).2) from by rw [ad_skip (zB_eq0 q_26)])) rfl hl
            exact J26 _ _ hP hD hS ls (lv_sub hl [2, 1, 0] rfl)
          · refine lv_aload_n hx hb dX1_addPatches_29 rfl (lv_at hl 2 rfl) ?_
            refine va_get (D := D) (ci := 1) (v := .ref (a 3)) (C := RX1) (T := TX1) (N := 7) hx hb hts inX1 hown hK hP 0 rfl rfl 6 (by decide) (hts _ fl_RX1_21) (fun _ h9 => h9) rfl dX1_addPatches_30 ?_
            refine lv_iload_n hx hb dX1_addPatches_33 rfl (lv_at hl 0 rfl) ?_
            refine lv_aload_n hx hb dX1_addPatches_34 rfl (lv_at hl 2 rfl) ?_
            refine lv_iload_n hx hb dX1_addPatches_35 rfl (lv_at hl 0 rfl) ?_
            refine nv_callV [.int (nI i)] [.int (nI i), .ref (a 3)] hx hb hml hown hts k_RX1_131 (c_X1_wordAt l D cI cR h a ((adP σ i).1) i (wf_ad hw i) (show i < nA (adP σ i).1 by unfold nA; rw [ad_lo σ (by omega), ad_lo σ (by omega)]; exact q_14)) ⟨rfl, rfl, Nat.le_of_ble_eq_true rfl, Nat.le_of_ble_eq_true rfl⟩ ((rpS hw (fun k hk => ad_lo σ hk i) _ (fun _ _ => rfl)).1 _ hP) hK 1 rfl rfl rfl rfl hl rfl (Nat.le_of_ble_eq_true rfl) dX1_addPatches_36 ⟨Nat.zero_le _, Nat.zero_le _⟩ ?_
            refine nv_top (σ (19 + i)) (ad_lo σ (by omega) i) ?_
            refine nv_iast (D := D) (ws' := (wRp h a cI (σ 0) (σ 1) (σ 2) (onF σ) (wwF σ) (crF σ) (upd (ptF (adP σ i).1) i (nI (σ (19 + i)))))) hx hb hK hP hD hS 4 0 rfl rfl (k := i) (by omega) (by decide) rfl dX1_addPatches_39 (fun H locs hP hD hS => ?_)
            refine nv_dec (k := 1) (lv' := [(1, .int (nI ((4 - (adP σ i).2) - 1))), (2, .int (nI i)), (0, .ref h)]) hx hb dX1_addPatches_40 hl rfl (by omega) (by decide) rfl (fun ls hl => ?_)
            have eR : (upd (ptF (adP σ i).1) i (nI (σ (19 + i)))) = (ptF (adP σ (i + 1)).1) := by rw [ad_put (by omega) (zB_ne0 q_26)]; funext j; exact ptF_up
            rw [eR] at hP hD
            have hP : va_P D vwCl (wRp h a cI (σ 0) (σ 1) (σ 2) (onF σ) (wwF σ) (crF σ) (ptF (adP σ (i + 1)).1)) H := hP
            have hD : va_D A (wRp h a cI (σ 0) (σ 1) (σ 2) (onF σ) (wwF σ) (crF σ) (ptF (adP σ (i + 1)).1)) := hD
            have hl := lv_repl [(1, .int (nI (4 - (adP σ (i + 1)).2))), (2, .int (nI i)), (0, .ref h)] 0 rfl (congrArg (fun z : Nat => Value.int (nI z)) (show ((4 - (adP σ i).2) - 1) = (4 - (adP σ (i + 1)).2) from by rw [ad_put (by omega) (zB_ne0 q_26)]; omega)) rfl hl
            exact J26 _ _ hP hD hS ls (lv_sub hl [2, 0, 1] rfl)
  have eR : (ptF σ) = (ptF (adP σ 0).1) := rfl
  rw [eR] at hP hD
  have hP : va_P D vwCl (wRp h a cI (σ 0) (σ 1) (σ 2) (onF σ) (wwF σ) (crF σ) (ptF (adP σ 0).1)) H := hP
  have hD : va_D A (wRp h a cI (σ 0) (σ 1) (σ 2) (onF σ) (wwF σ) (crF σ) (ptF (adP σ 0).1)) := hD
  exact L9 (nA σ + 1) 0 (by omega) (by omega)  _ _ hP hD hS ls (lv_sub hl [0, 1, 2] rfl)
theorem c_X1_putCodeS (l : Launch) (D : va_G) (cI cR : ClassId) (h : Nat) (a : Nat → Nat) (σ : Nat → Nat) (r : Nat) (c0 : Nat)  (hw : wf σ) (hr : r < σ 0) (hc : c0 < 16) (sz : Nat) : Met l yX1_putCode (wsC yX1_putCode cX1_putCode 5 none) (rmK 1 23) (nPreM D (nTy cI cR) [.ref h, .int (nI r), .int (nI c0)] (wRp h a cI (σ 0) (σ 1) (σ 2) (onF σ) (wwF σ) (crF σ) (ptF σ)) sz) (QcM D none (wRp h a cI (va_up σ (3 + r) c0 0) (va_up σ (3 + r) c0 1) (va_up σ (3 + r) c0 2) (onF (va_up σ (3 + r) c0)) (wwF (va_up σ (3 + r) c0)) (crF (va_up σ (3 + r) c0)) (ptF (va_up σ (3 + r) c0))) (va_A (wRp h a cI (σ 0) (σ 1) (σ 2) (onF σ) (wwF σ) (crF σ) (ptF σ)) sz)) 0 0 (va_A (wRp h a cI (σ 0) (σ 1) (σ 2) (onF σ) (wwF σ) (crF σ) (ptF σ)) sz) := (c_X1_putCode l D cI cR h a (σ 0) (σ 1) (σ 2) (onM σ) (wwF σ) (crF σ) (ptF σ) r c0 (by have := hw.2.1; omega) hc sz).to (code_to hw hr)
theorem c_X1_putWordS (l : Launch) (D : va_G) (cI cR : ClassId) (h : Nat) (a : Nat → Nat) (σ : Nat → Nat) (ad : Nat) (wd : Nat)  (hw : wf σ) (h1 : ad < nA σ) (h2 : wd < 65536) (sz : Nat) : Met l yX1_putWord (wsC yX1_putWord cX1_putWord 6 none) (rmK 1 23) (nPreM D (nTy cI cR) [.ref h, .int (nI ad), .int (nI wd)] (wRp h a cI (σ 0) (σ 1) (σ 2) (onF σ) (wwF σ) (crF σ) (ptF σ)) sz) (QcM D none (wRp h a cI (va_up σ (19 + ad) wd 0) (va_up σ (19 + ad) wd 1) (va_up σ (19 + ad) wd 2) (onF (va_up σ (19 + ad) wd)) (wwF (va_up σ (19 + ad) wd)) (crF (va_up σ (19 + ad) wd)) (ptF (va_up σ (19 + ad) wd))) (va_A (wRp h a cI (σ 0) (σ 1) (σ 2) (onF σ) (wwF σ) (crF σ) (ptF σ)) sz)) 0 0 (va_A (wRp h a cI (σ 0) (σ 1) (σ 2) (onF σ) (wwF σ) (crF σ) (ptF σ)) sz) := (c_X1_putWord l D cI cR h a (σ 0) (σ 1) (σ 2) (onM σ) (wwF σ) (crF σ) (ptF σ) ad wd hw.2.2.2.2.1 hw.2.2.2.2.2.1 hw.2.2.2.1 (by have := hw.a48; omega) (by have := (ad_div hw.2.2.2.2.1 h1).1; have := hw.2.1; omega) h2 sz).to (word_to hw h1)
theorem c_X1_turnS (l : Launch) (D : va_G) (cI cR : ClassId) (h : Nat) (a : Nat → Nat) (σ : Nat → Nat) (w : Nat)  (hw : wf σ) (h8 : 8 ≤ w) (h1 : w < nW σ) (sz : Nat) : Met l yX1_turn (wsC yX1_turn cX1_turn 2 (some .int)) (rmK 0 0) (nPreM D (nTy cI cR) [.ref h, .int (nI w)] (wRp h a cI (σ 0) (σ 1) (σ 2) (onF σ) (wwF σ) (crF σ) (ptF σ)) sz) (QcM D (some (.int (nI (1 - crN σ w)))) (wRp h a cI (va_up σ (67 + (w - 8)) (1 - crN σ w) 0) (va_up σ (67 + (w - 8)) (1 - crN σ w) 1) (va_up σ (67 + (w - 8)) (1 - crN σ w) 2) (onF (va_up σ (67 + (w - 8)) (1 - crN σ w))) (wwF (va_up σ (67 + (w - 8)) (1 - crN σ w))) (crF (va_up σ (67 + (w - 8)) (1 - crN σ w))) (ptF (va_up σ (67 + (w - 8)) (1 - crN σ w)))) (va_A (wRp h a cI (σ 0) (σ 1) (σ 2) (onF σ) (wwF σ) (crF σ) (ptF σ)) sz)) 0 0 (va_A (wRp h a cI (σ 0) (σ 1) (σ 2) (onF σ) (wwF σ) (crF σ) (ptF σ)) sz) := (c_X1_turn l D cI cR h a (σ 0) (σ 1) (σ 2) (onF σ) (wwF σ) (crN σ) (ptF σ) w (by have := hw.w41; omega) (crN_le hw h1) sz).to (turn_to hw h8 h1)
theorem c_X1_spoilOrMendS (l : Launch) (D : va_G) (cI cR : ClassId) (h : Nat) (a : Nat → Nat) (σ : Nat → Nat) (w : Nat) (r : Nat)  (hw : wf σ) (h1 : w < nW σ) (h2 : r < σ 0) (sz : Nat) : Met l yX1_spoilOrMend (wsC yX1_spoilOrMend cX1_spoilOrMend 3 (some .int)) (rmK 0 0) (nPreM D (nTy cI cR) [.ref h, .int (nI w), .int (nI r)] (wRp h a cI (σ 0) (σ 1) (σ 2) (onF σ) (wwF σ) (crF σ) (ptF σ)) sz) (QcM D (some (.int (nI (((σ (100 + w) ^^^ 1 <<< r).testBit r).toNat)))) (wRp h a cI (va_up σ (100 + w) (σ (100 + w) ^^^ 1 <<< r) 0) (va_up σ (100 + w) (σ (100 + w) ^^^ 1 <<< r) 1) (va_up σ (100 + w) (σ (100 + w) ^^^ 1 <<< r) 2) (onF (va_up σ (100 + w) (σ (100 + w) ^^^ 1 <<< r))) (wwF (va_up σ (100 + w) (σ (100 + w) ^^^ 1 <<< r))) (crF (va_up σ (100 + w) (σ (100 + w) ^^^ 1 <<< r))) (ptF (va_up σ (100 + w) (σ (100 + w) ^^^ 1 <<< r)))) (va_A (wRp h a cI (σ 0) (σ 1) (σ 2) (onF σ) (wwF σ) (crF σ) (ptF σ)) sz)) 0 0 (va_A (wRp h a cI (σ 0) (σ 1) (σ 2) (onF σ) (wwF σ) (crF σ) (ptF σ)) sz) := (c_X1_spoilOrMend l D cI cR h a (σ 0) (σ 1) (σ 2) (onF σ) (fun w => σ (100 + w)) (crF σ) (ptF σ) w r (by have := hw.w41; omega) (by have := hw.2.1; omega) (hw.sp h1) sz).to (spoil_to hw h1)
theorem c_X1_makeCheapS (l : Launch) (D : va_G) (cI cR : ClassId) (h : Nat) (a : Nat → Nat) (σ : Nat → Nat)   (hw : wf σ) (sz : Nat) : Met l yX1_makeCheap (wsC yX1_makeCheap cX1_makeCheap 6 (some .int)) (rmK 1 21) (nPreM D (nTy cI cR) [.ref h] (wRp h a cI (σ 0) (σ 1) (σ 2) (onF σ) (wwF σ) (crF σ) (ptF σ)) sz) (QcM D (some (.int (nI (mcC σ (nW σ))))) (wRp h a cI (ecS σ 0) (ecS σ 1) (ecS σ 2) (onF (ecS σ)) (wwF (ecS σ)) (crF (ecS σ)) (ptF (ecS σ))) (va_A (wRp h a cI (σ 0) (σ 1) (σ 2) (onF σ) (wwF σ) (crF σ) (ptF σ)) sz)) 0 0 (va_A (wRp h a cI (σ 0) (σ 1) (σ 2) (onF σ) (wwF σ) (crF σ) (ptF σ)) sz) := (c_X1_makeCheap l D cI cR h a σ hw sz).to (ec_to hw)
theorem c_X1_mendPatchesS (l : Launch) (D : va_G) (cI cR : ClassId) (h : Nat) (a : Nat → Nat) (σ : Nat → Nat)   (hw : wf σ) (sz : Nat) : Met l yX1_mendPatches (wsC yX1_mendPatches cX1_mendPatches 2 none) (rmK 3 70) (nPreM D (nTy cI cR) [.ref h] (wRp h a cI (σ 0) (σ 1) (σ 2) (onF σ) (wwF σ) (crF σ) (ptF σ)) sz) (QcM D none (wRp h a cI (mdS σ (nA σ) 0) (mdS σ (nA σ) 1) (mdS σ (nA σ) 2) (onF (mdS σ (nA σ))) (wwF (mdS σ (nA σ))) (crF (mdS σ (nA σ))) (ptF (mdS σ (nA σ)))) (va_A (wRp h a cI (σ 0) (σ 1) (σ 2) (onF σ) (wwF σ) (crF σ) (ptF σ)) sz)) 0 0 (va_A (wRp h a cI (σ 0) (σ 1) (σ 2) (onF σ) (wwF σ) (crF σ) (ptF σ)) sz) := (c_X1_mendPatches l D cI cR h a σ hw sz).to (rpS hw (fun k hk => md_lo σ _ hk) _ (fun _ _ => rfl))
theorem c_X1_addPatchesS (l : Launch) (D : va_G) (cI cR : ClassId) (h : Nat) (a : Nat → Nat) (σ : Nat → Nat)   (hw : wf σ) (h4 : ct (fun a => σ (141 + a) != 0) (nA σ) ≤ 4) (sz : Nat) : Met l yX1_addPatches (wsC yX1_addPatches cX1_addPatches 3 none) (rmK 4 92) (nPreM D (nTy cI cR) [.ref h] (wRp h a cI (σ 0) (σ 1) (σ 2) (onF σ) (wwF σ) (crF σ) (ptF σ)) sz) (QcM D none (wRp h a cI ((adP σ (nA σ)).1 0) ((adP σ (nA σ)).1 1) ((adP σ (nA σ)).1 2) (onF ((adP σ (nA σ)).1)) (wwF ((adP σ (nA σ)).1)) (crF ((adP σ (nA σ)).1)) (ptF ((adP σ (nA σ)).1))) (va_A (wRp h a cI (σ 0) (σ 1) (σ 2) (onF σ) (wwF σ) (crF σ) (ptF σ)) sz)) 0 0 (va_A (wRp h a cI (σ 0) (σ 1) (σ 2) (onF σ) (wwF σ) (crF σ) (ptF σ)) sz) := (c_X1_addPatches l D cI cR h a σ hw h4 sz).to (rpS hw (fun k hk => ad_lo σ hk _) _ (fun _ _ => rfl))
end
section
/-! ===== a rope as it begins; history ===== -/
def bgS (R B S : Nat) : Nat → Nat := fun k => if k = 0 then R else if k = 1 then B else if k = 2 then S else if 3 ≤ k ∧ k < 3 + R then k - 3 else 0
theorem bg_0 (R B S : Nat) : bgS R B S 0 = R := rfl
theorem bg_1 (R B S : Nat) : bgS R B S 1 = B := rfl
theorem bg_2 (R B S : Nat) : bgS R B S 2 = S := rfl
theorem bg_c {R B S r : Nat} (h : r < R) : bgS R B S (3 + r) = r := by
  unfold bgS
  rw [if_neg (by omega), if_neg (by omega), if_neg (by omega), if_pos (by omega)]
  omega
theorem bg_hi {R B S k : Nat} (hR : R ≤ 16) (h : 19 ≤ k) : bgS R B S k = 0 := by
  unfold bgS
  rw [if_neg (by omega), if_neg (by omega), if_neg (by omega), if_neg (by omega)]
theorem wf_bg {R B S : Nat} (h1 : 2 ≤ R) (h2 : R ≤ 16) (h3 : 1 ≤ B) (h4 : B ≤ 10) (h5 : 1 ≤ S) (h6 : S ≤ 3) : wf (bgS R B S) := by
  unfold wf
  rw [bg_0, bg_1, bg_2]
  refine ⟨h1, h2, h3, h4, h5, h6, fun r hr => by rw [bg_c hr]; omega, fun r q hr hq e => by rw [bg_c hr, bg_c hq] at e; exact e, fun a _ => by rw [bg_hi h2 (by omega)]; exact Nat.two_pow_pos _, fun k _ => by rw [bg_hi h2 (by omega)]; omega, fun w _ => by rw [bg_hi h2 (by omega)]; exact Nat.two_pow_pos _, fun a _ => by rw [bg_hi h2 (by omega)]; exact Nat.zero_le _⟩
theorem scG_bit (w i : Nat) : ∀ n, (scG n w).testBit i = (decide (w < 8) && (decide (i < n) && (i.testBit (w / 2) == (w % 2 == 1))))
  | 0 => by
    show (0 : Nat).testBit i = _
    simp
  | n + 1 => by
    have ih := scG_bit w i n
    show (pcG (scG n) n n 8 w).testBit i = _
    unfold pcG
    split
    · rename_i h8
      rw [pbN_bit]
      by_cases e : i = n
      · subst e
        rw [if_pos rfl]
        simp [h8]
      · rw [if_neg e, ih]
        by_cases h2 : i < n
        · simp [h8, h2, show i < n + 1 by omega]
        · simp [h8, h2, show ¬ i < n + 1 by omega]
    · rename_i h8
      rw [ih]
      simp [h8]
theorem swG_bit {R B S : Nat} (hS : 1 ≤ S) (w i : Nat) : ∀ n, (swG R B S n w).testBit i = if w < 8 then (decide (i < R) && (i.testBit (w / 2) == (w % 2 == 1))) else if w < 8 + S * (B + 1) then (decide (S * i + (w - 8) / (B + 1) < n) && wbt B 0 ((w - 8) % (B + 1))) else false
  | 0 => by
    show (scG R w).testBit i = _
    rw [scG_bit]
    split
    · rename_i h8
      simp [h8]
    · rename_i h8
      simp [h8]
  | n + 1 => by
    have ih := swG_bit hS w i n (R := R) (B := B)
    show (pwG S B (swG R B S n) n 0 (B + 1) w).testBit i = _
    have hm : n % S < S := Nat.mod_lt _ hS
    have hb : (n % S + 1) * (B + 1) ≤ S * (B + 1) := Nat.mul_le_mul_right _ hm
    rw [Nat.succ_mul] at hb
    have hn := Nat.div_add_mod n S
    unfold pwG
    split
    · rename_i hr
      obtain ⟨b, hb1, rfl⟩ : ∃ b, b < B + 1 ∧ w = 8 + n % S * (B + 1) + b := ⟨w - (8 + n % S * (B + 1)), by omega, by omega⟩
      have e2 : ¬ 8 + n % S * (B + 1) + b < 8 := by omega
      have e3 : 8 + n % S * (B + 1) + b - 8 = b + n % S * (B + 1) := by omega
      have e4 : (b + n % S * (B + 1)) / (B + 1) = n % S := by rw [Nat.add_mul_div_right _ _ (by omega), Nat.div_eq_of_lt hb1, Nat.zero_add]
      have e5 : (b + n % S * (B + 1)) % (B + 1) = b := by rw [Nat.add_mul_mod_self_right, Nat.mod_eq_of_lt hb1]
      have e6 : 8 + n % S * (B + 1) + b < 8 + S * (B + 1) := by omega
      rw [if_neg e2, if_pos e6, e3, e4, e5] at ih ⊢
      rw [pbN_bit, show 8 + n % S * (B + 1) + b - (8 + n % S * (B + 1)) = b by omega]
      by_cases e : i = n / S
      · subst e
        rw [if_pos rfl, hn]
        simp
      · rw [if_neg e, ih]
        congr 1
        have hne : ¬ S * i + n % S = n := by
          intro z
          have z2 : S * i = S * (n / S) := by omega
          exact e (Nat.eq_of_mul_eq_mul_left hS z2)
        by_cases h2 : S * i + n % S < n
        · simp [h2, show S * i + n % S < n + 1 by omega]
        · simp [h2, show ¬ S * i + n % S < n + 1 by omega]
    · rename_i hr
      rw [ih]
      split
      · rfl
      · rename_i h8
        split
        · rename_i hlt
          congr 1
          have ht : (w - 8) / (B + 1) < S := Nat.div_lt_of_lt_mul (by rw [Nat.mul_comm]; omega)
          have hne : ¬ S * i + (w - 8) / (B + 1) = n := by
            intro z
            have z1 : n % S = (w - 8) / (B + 1) := by
              have : n = (w - 8) / (B + 1) + S * i := by omega
              rw [this, Nat.add_mul_mod_self_left, Nat.mod_eq_of_lt ht]
            have z3 := Nat.div_add_mod (w - 8) (B + 1)
            have z4 := Nat.mod_lt (w - 8) (show 0 < B + 1 by omega)
            rw [z1, Nat.mul_comm] at hr
            omega
          by_cases h2 : S * i + (w - 8) / (B + 1) < n
          · simp [h2, show S * i + (w - 8) / (B + 1) < n + 1 by omega]
          · simp [h2, show ¬ S * i + (w - 8) / (B + 1) < n + 1 by omega]
        · rfl
theorem sw_on {R B S : Nat} (hR : R ≤ 16) (hS : 1 ≤ S) (w : Nat) : swG R B S (R * S) w = onM (bgS R B S) w := by
  refine mk_ext fun i => ?_
  rw [swG_bit hS]
  unfold onM
  rw [show nW (bgS R B S) = 8 + S * (B + 1) from rfl, bg_0]
  by_cases h8 : w < 8
  · rw [if_pos h8, if_pos (by omega), mk_bit]
    unfold onB ihb
    rw [if_pos h8]
    by_cases hi : i < R
    · rw [bg_c hi]
    · simp [hi]
  · rw [if_neg h8]
    by_cases hw : w < 8 + S * (B + 1)
    · rw [if_pos hw, if_pos hw, mk_bit]
      have ht : (w - 8) / (B + 1) < S := Nat.div_lt_of_lt_mul (by rw [Nat.mul_comm]; omega)
      unfold onB tdB sbit
      rw [if_neg h8, bg_1, bg_2, bg_hi hR (show 19 ≤ 19 + (S * i + (w - 8) / (B + 1)) from Nat.le_add_right _ _)]
      have e : decide (S * i + (w - 8) / (B + 1) < R * S) = decide (i < R) := by
        by_cases hi : i < R
        · have h1 : S * (i + 1) ≤ S * R := Nat.mul_le_mul_left _ hi
          rw [Nat.mul_succ, Nat.mul_comm S R] at h1
          simp [hi, show S * i + (w - 8) / (B + 1) < R * S by omega]
        · have h1 : S * R ≤ S * i := Nat.mul_le_mul_left _ (by omega)
          rw [Nat.mul_comm S R] at h1
          simp [hi, show ¬ S * i + (w - 8) / (B + 1) < R * S from Nat.not_lt.mpr (Nat.le_trans h1 (Nat.le_add_right _ _))]
      rw [e]
      rfl
    · rw [if_neg hw, if_neg hw, Nat.zero_testBit]
theorem start_to {D : va_G} {h : Nat} {a : Nat → Nat} {cI : ClassId} {R B S : Nat} (hR : R ≤ 16) (hS : 1 ≤ S) : nTo D (wRp h a cI R B S (nF (swG R B S (R * S))) (nF fun _ => 0) (nF fun _ => 0) (fun _ => -1)) (wRp h a cI (bgS R B S 0) (bgS R B S 1) (bgS R B S 2) (onF (bgS R B S)) (wwF (bgS R B S)) (crF (bgS R B S)) (ptF (bgS R B S))) := by
  refine rp_to rfl rfl rfl (fun j _ => congrArg nI (sw_on hR hS j)) (fun j hj => congrArg nI (bg_hi hR (by omega)).symm) (fun j hj => congrArg nI ?_) (fun j hj => ?_)
  · unfold crN
    split
    · rfl
    · exact (bg_hi hR (by omega)).symm
  · unfold ptF
    rw [bg_hi hR (by omega)]
    rfl
def wHs (h ar : Nat) (hr : Nat → Nat) (ha : Nat → Nat → Nat) (cI cR : ClassId) (o n : Nat) (τ : Nat → Nat → Nat) : va_W := [(h, .inr (0, [.ref ar, .int (nI o), .int (nI n)])), (ar, .inl (cR, 5, .inr (.inr (.inr (.inr (fun j => some (hr j)))))))] ++ (wRp (hr 0) (ha 0) cI (τ 0 0) (τ 0 1) (τ 0 2) (onF (τ 0)) (wwF (τ 0)) (crF (τ 0)) (ptF (τ 0)) ++ (wRp (hr 1) (ha 1) cI (τ 1 0) (τ 1 1) (τ 1 2) (onF (τ 1)) (wwF (τ 1)) (crF (τ 1)) (ptF (τ 1)) ++ (wRp (hr 2) (ha 2) cI (τ 2 0) (τ 2 1) (τ 2 2) (onF (τ 2)) (wwF (τ 2)) (crF (τ 2)) (ptF (τ 2)) ++ (wRp (hr 3) (ha 3) cI (τ 3 0) (τ 3 1) (τ 3 2) (onF (τ 3)) (wwF (τ 3)) (crF (τ 3)) (ptF (τ 3)) ++ wRp (hr 4) (ha 4) cI (τ 4 0) (τ 4 1) (τ 4 2) (onF (τ 4)) (wwF (τ 4)) (crF (τ 4)) (ptF (τ 4))))))
def kpO (o n : Nat) : Nat := if n = 5 then (o + 1) % 5 else o
def kpN (n : Nat) : Nat := if n = 5 then 5 else n + 1
def kpS (o n : Nat) : Nat := if n = 5 then o else (o + n) % 5
section NVQ
variable {p : Program} {l : Launch} {e : Env} {R : Room} {s : State} {m : MethodId} {args : Array Value} {below : List Frame} {meth : Method} {c : Code} {H : Heap} {locs : List Loc} {cells slots : Nat} {Q : State → Prop}
variable {cc : ByteArray} {pc : Nat} {ls : Array Slot} {rest : List Value} {D : va_G} {cl : List vw_C} {a : Nat} {tys : List (ClassId × FieldType)} {ws : va_W}
theorem nv_aald (hx : p.tables.exec = Jvm.exec) (hb : c.code = cc) (hK : va_K D cl tys s) (hP : va_P D cl ws H) (q0 t0 : Nat) {cA : ClassId} {C : String} {n : Nat} {f : Nat → Option Nat} (ha : ws[q0]? = some (a, .inl (cA, n, .inr (.inr (.inr (.inr f)))))) (ht : tys[t0]? = some (cA, .object C)) {k : Nat} (hk : k < n) (hn : n < 2 ^ 31) {r : Nat} (hv : f k = some r) (hdg : decode cc pc = .ok (.aaload, 1))
    (kk : W p l e R s m args below meth c H locs cells slots Q (F0 m (pc + 1) ls (.ref r :: rest))) : W p l e R s m args below meth c H locs cells slots Q (F0 m pc ls (.int (nI k) :: .ref a :: rest)) := by
  refine va_aldq hx hb hK hP q0 t0 ha ht (vp_in_nI hk hn) hdg ?_
  rw [nI_clamp (Nat.lt_trans hk hn), hv]
  exact kk
end NVQ
end
section
theorem c_X1_startS (l : Launch) (D : va_G) (cI cR : ClassId) (h : Nat) (a : Nat → Nat) (σ : Nat → Nat) (nr : Nat) (nb : Nat) (ns : Nat)  (hr1 : nr ≤ 16) (hs1 : 1 ≤ ns) (hs2 : ns ≤ 3) (hb1 : nb ≤ 10) (sz : Nat) : Met l yX1_start (wsC yX1_start cX1_start 5 none) (rmK 2 48) (nPreM D (nTy cI cR) [.ref h, .int (nI nr), .int (nI nb), .int (nI ns)] (wRp h a cI (σ 0) (σ 1) (σ 2) (onF σ) (wwF σ) (crF σ) (ptF σ)) sz) (QcM D none (wRp h a cI (bgS nr nb ns 0) (bgS nr nb ns 1) (bgS nr nb ns 2) (onF (bgS nr nb ns)) (wwF (bgS nr nb ns)) (crF (bgS nr nb ns)) (ptF (bgS nr nb ns))) (va_A (wRp h a cI (σ 0) (σ 1) (σ 2) (onF σ) (wwF σ) (crF σ) (ptF σ)) sz)) 0 0 (va_A (wRp h a cI (σ 0) (σ 1) (σ 2) (onF σ) (wwF σ) (crF σ) (ptF σ)) sz) := (c_X1_start l D cI cR h a (σ 0) (σ 1) (σ 2) (onF σ) (wwF σ) (crF σ) (ptF σ) nr nb ns hr1 hs1 hs2 hb1 sz).to (start_to hr1 hs1)
set_option maxHeartbeats 4000000 in
set_option maxRecDepth 100000 in
theorem c_X0_isEmpty (l : Launch) (D : va_G) (cI cR : ClassId) (h : Nat) (ar : Nat) (rr : Nat → Nat) (ra : Nat → Nat → Nat) (o : Nat) (n : Nat) (τ : Nat → Nat → Nat)   (hn : n ≤ 5) : MetR l yX0_isEmpty cX0_isEmpty 1 (some .boolean) (rmK 0 0) (nPre D (nTy cI cR) [.ref h] (wHs h ar rr ra cI cR o n τ)) (zB (n == 0)) := by
  refine met_read rfl (Nat.le_of_ble_eq_true rfl) ?_
  intro p e s m args below meth c ls hx hb hml hr hlocks hown hts hP hK hl
  have hl : lv_has ls 1 [(0, .ref h)] := hl
  refine lv_aload_n hx hb dX0_isEmpty_0 rfl (lv_at hl 0 rfl) ?_
  refine va_get (D := D) (ci := 0) (v := .int (nI n)) (C := RX0) (T := TX0) (N := 3) hx hb hts inX0 hown hK hP 0 rfl rfl 2 (by decide) (hts _ fl_RX0_18) (fun _ h9 => h9) rfl dX0_isEmpty_1 ?_
  refine nv_if_ne (tgt := 11) hx hb dX0_isEmpty_4 (by decide) (by omega) (fun q_4 => ?_) (fun q_4 => ?_)
  · refine lv_iconst (v := nI 0) hx hb dX0_isEmpty_11 (by decide) ?_
    exact nv_retz hx hb hr hlocks (by decide) (by first | exact zB_1 (by simp [q_4]) | exact zB_0 (by simp [q_4])) dX0_isEmpty_12
  · refine lv_iconst (v := nI 1) hx hb dX0_isEmpty_7 (by decide) ?_
    refine lv_goto (tgt := 12) hx hb dX0_isEmpty_8 (by decide) ?_
    exact nv_retz hx hb hr hlocks (by decide) (by first | exact zB_1 (by simp [q_4]) | exact zB_0 (by simp [q_4])) dX0_isEmpty_12
set_option maxHeartbeats 4000000 in
set_option maxRecDepth 100000 in
theorem c_X0_keep (l : Launch) (D : va_G) (cI cR : ClassId) (h : Nat) (ar : Nat) (rr : Nat → Nat) (ra : Nat → Nat → Nat) (o : Nat) (n : Nat) (τ : Nat → Nat → Nat) (h2 : Nat) (a2 : Nat → Nat) (σ : Nat → Nat)   (ho : o < 5) (hn : n ≤ 5) (sz : Nat) : Met l yX0_keep (wsC yX0_keep cX0_keep 2 none) (rmK 2 61) (nPreM D (nTy cI cR) [.ref h, .ref h2] ((wHs h ar rr ra cI cR o n τ) ++ (wRp h2 a2 cI (σ 0) (σ 1) (σ 2) (onF σ) (wwF σ) (crF σ) (ptF σ))) sz) (QcM D none ((wHs h ar rr ra cI cR (kpO o n) (kpN n) ((va_up τ (kpS o n) σ))) ++ (wRp h2 a2 cI (σ 0) (σ 1) (σ 2) (onF σ) (wwF σ) (crF σ) (ptF σ))) (va_A ((wHs h ar rr ra cI cR o n τ) ++ (wRp h2 a2 cI (σ 0) (σ 1) (σ 2) (onF σ) (wwF σ) (crF σ) (ptF σ))) sz)) 0 0 (va_A ((wHs h ar rr ra cI cR o n τ) ++ (wRp h2 a2 cI (σ 0) (σ 1) (σ 2) (onF σ) (wwF σ) (crF σ) (ptF σ))) sz) := by
  refine met_mut (Qc := fun A => QcM D none ((wHs h ar rr ra cI cR (kpO o n) (kpN n) ((va_up τ (kpS o n) σ))) ++ (wRp h2 a2 cI (σ 0) (σ 1) (σ 2) (onF σ) (wwF σ) (crF σ) (ptF σ))) A) rfl (Nat.le_of_ble_eq_true rfl) ?_
  intro p e s m args below meth c ls A H locs hx hb hml hr hlocks hown hts hP hK hD hA hS hl
  have hl : lv_has ls 2 [(0, .ref h), (1, .ref h2)] := hl
  refine lv_aload_n hx hb dX0_keep_0 rfl (lv_at hl 0 rfl) ?_
  refine va_get (D := D) (ci := 0) (v := .int (nI n)) (C := RX0) (T := TX0) (N := 3) hx hb hts inX0 hown hK hP 0 rfl rfl 2 (by decide) (hts _ fl_RX0_18) (fun _ h9 => h9) rfl dX0_keep_1 ?_
  refine lv_iconst (v := nI 5) hx hb dX0_keep_4 (by decide) ?_
  refine nv_icmp_ne (tgt := 30) hx hb dX0_keep_5 (by decide) (by omega) (by omega) (fun q_5 => ?_) (fun q_5 => ?_)
  · refine lv_aload_n hx hb dX0_keep_30 rfl (lv_at hl 0 rfl) ?_
    refine va_get (D := D) (ci := 0) (v := .ref ar) (C := RX0) (T := TX0) (N := 3) hx hb hts inX0 hown hK hP 0 rfl rfl 0 (by decide) (hts _ fl_RX0_11) (fun _ h9 => h9) rfl dX0_keep_31 ?_
    refine lv_aload_n hx hb dX0_keep_34 rfl (lv_at hl 0 rfl) ?_
    refine va_get (D := D) (ci := 0) (v := .int (nI o)) (C := RX0) (T := TX0) (N := 3) hx hb hts inX0 hown hK hP 0 rfl rfl 1 (by decide) (hts _ fl_RX0_22) (fun _ h9 => h9) rfl dX0_keep_35 ?_
    refine lv_aload_n hx hb dX0_keep_38 rfl (lv_at hl 0 rfl) ?_
    refine va_get (D := D) (ci := 0) (v := .int (nI n)) (C := RX0) (T := TX0) (N := 3) hx hb hts inX0 hown hK hP 0 rfl rfl 2 (by decide) (hts _ fl_RX0_18) (fun _ h9 => h9) rfl dX0_keep_39 ?_
    refine nv_iadd hx hb dX0_keep_42 ?_
    refine lv_iconst (v := nI 5) hx hb dX0_keep_43 (by decide) ?_
    refine nv_irem hx hb dX0_keep_44 (by omega) (by omega) (by omega) ?_
    rcases (show (o + n) % 5 = 0 ∨ (o + n) % 5 = 1 ∨ (o + n) % 5 = 2 ∨ (o + n) % 5 = 3 ∨ (o + n) % 5 = 4 by omega) with hk | hk | hk | hk | hk
    · refine nv_top (0) (hk) ?_
      refine nv_aald (D := D) (r := rr 0) hx hb hK hP 1 1 rfl rfl (k := 0) (by decide) (by decide) rfl dX0_keep_45 ?_
      refine lv_aload_n hx hb dX0_keep_46 rfl (lv_at hl 1 rfl) ?_
      refine mu_call (ws' := ((wHs h ar rr ra cI cR o n ((va_up τ 0 σ))) ++ (wRp h2 a2 cI (σ 0) (σ 1) (σ 2) (onF σ) (wwF σ) (crF σ) (ptF σ)))) [2, 3, 4, 5, 6, 27, 28, 29, 30, 31] [0, 1, 7, 8, 9, 10, 11, 12, 13, 14, 15, 16, 17, 18, 19, 20, 21, 22, 23, 24, 25, 26] [0, 1, 22, 23, 24, 25, 26, 2, 3, 4, 5, 6, 7, 8, 9, 10, 11, 12, 13, 14, 15, 16, 17, 18, 19, 20, 21, 27, 28, 29, 30, 31] [.ref h2] [] hx hb hml hown hts k_RX0_25 (fun sz => c_X1_become l D cI cR (rr 0) ((ra 0)) ((((τ 0))) 0) ((((τ 0))) 1) ((((τ 0))) 2) (onF (((τ 0)))) (wwF (((τ 0)))) (crF (((τ 0)))) (ptF (((τ 0)))) h2 a2 (σ 0) (σ 1) (σ 2) (onF σ) (wwF σ) (crF σ) (ptF σ)  sz) ⟨rfl, rfl, Nat.le_of_ble_eq_true rfl, Nat.le_of_ble_eq_true rfl⟩ hP hD hS hA hK 1 rfl rfl rfl rfl rfl rfl rfl (by decide) rfl rfl rfl hl rfl (Nat.le_of_ble_eq_true rfl) dX0_keep_47 ⟨Nat.zero_le _, Nat.zero_le _⟩ (fun H locs hP hD hS => ?_)
      refine W.eq (g2 := F0 m 50 ls []) rfl ?_
      refine lv_aload_n hx hb dX0_keep_50 rfl (lv_at hl 0 rfl) ?_
      refine lv_dup hx hb dX0_keep_51 rfl ?_
      refine va_get (D := D) (ci := 0) (v := .int (nI n)) (C := RX0) (T := TX0) (N := 3) hx hb hts inX0 hown hK hP 0 rfl rfl 2 (by decide) (hts _ fl_RX0_18) (fun _ h9 => h9) rfl dX0_keep_52 ?_
      refine lv_iconst (v := nI 1) hx hb dX0_keep_55 (by decide) ?_
      refine nv_iadd hx hb dX0_keep_56 ?_
      refine va_put (D := D) (ci := 0) (v := .int (nI (n + 1))) (ty := .int) (C := RX0) (T := TX0) (N := 3) hx hb hts inX0 tyX0 tyX0_ok nmX0 hown hK hP hD hS 0 rfl rfl 2 (by decide) (hts _ fl_RX0_18) (fun _ h9 => h9) rfl (by decide +kernel) rfl rfl (Nat.le_of_ble_eq_true rfl) dX0_keep_57 (fun H locs hP hD hS => ?_)
      have hP : va_P D vwCl ((wHs h ar rr ra cI cR o (n + 1) ((va_up τ 0 σ))) ++ (wRp h2 a2 cI (σ 0) (σ 1) (σ 2) (onF σ) (wwF σ) (crF σ) (ptF σ))) H := hP
      have hD : va_D A ((wHs h ar rr ra cI cR o (n + 1) ((va_up τ 0 σ))) ++ (wRp h2 a2 cI (σ 0) (σ 1) (σ 2) (onF σ) (wwF σ) (crF σ) (ptF σ))) := hD
      have e1 : kpO o n = o := by unfold kpO; rw [if_neg q_5]
      have e2 : kpN n = n + 1 := by unfold kpN; rw [if_neg q_5]
      have e3 : kpS o n = 0 := by unfold kpS; rw [if_neg q_5]; exact hk
      have hP : va_P D vwCl ((wHs h ar rr ra cI cR (kpO o n) (kpN n) ((va_up τ (kpS o n) σ))) ++ (wRp h2 a2 cI (σ 0) (σ 1) (σ 2) (onF σ) (wwF σ) (crF σ) (ptF σ))) H := by rw [e1, e2, e3]; exact hP
      have hD : va_D A ((wHs h ar rr ra cI cR (kpO o n) (kpN n) ((va_up τ (kpS o n) σ))) ++ (wRp h2 a2 cI (σ 0) (σ 1) (σ 2) (onF σ) (wwF σ) (crF σ) (ptF σ))) := by rw [e1, e2, e3]; exact hD
      exact mu_retv hx hb hr hlocks hP hD hS dX0_keep_60
    · refine nv_top (1) (hk) ?_
      refine nv_aald (D := D) (r := rr 1) hx hb hK hP 1 1 rfl rfl (k := 1) (by decide) (by decide) rfl dX0_keep_45 ?_
      refine lv_aload_n hx hb dX0_keep_46 rfl (lv_at hl 1 rfl) ?_
      refine mu_call (ws' := ((wHs h ar rr ra cI cR o n ((va_up τ 1 σ))) ++ (wRp h2 a2 cI (σ 0) (σ 1) (σ 2) (onF σ) (wwF σ) (crF σ) (ptF σ)))) [7, 8, 9, 10, 11, 27, 28, 29, 30, 31] [0, 1, 2, 3, 4, 5, 6, 12, 13, 14, 15, 16, 17, 18, 19, 20, 21, 22, 23, 24, 25, 26] [0, 1, 2, 3, 4, 5, 6, 22, 23, 24, 25, 26, 7, 8, 9, 10, 11, 12, 13, 14, 15, 16, 17, 18, 19, 20, 21, 27, 28, 29, 30, 31] [.ref h2] [] hx hb hml hown hts k_RX0_25 (fun sz => c_X1_become l D cI cR (rr 1) ((ra 1)) ((((τ 1))) 0) ((((τ 1))) 1) ((((τ 1))) 2) (onF (((τ 1)))) (wwF (((τ 1)))) (crF (((τ 1)))) (ptF (((τ 1)))) h2 a2 (σ 0) (σ 1) (σ 2) (onF σ) (wwF σ) (crF σ) (ptF σ)  sz) ⟨rfl, rfl, Nat.le_of_ble_eq_true rfl, Nat.le_of_ble_eq_true rfl⟩ hP hD hS hA hK 1 rfl rfl rfl rfl rfl rfl rfl (by decide) rfl rfl rfl hl rfl (Nat.le_of_ble_eq_true rfl) dX0_keep_47 ⟨Nat.zero_le _, Nat.zero_le _⟩ (fun H locs hP hD hS => ?_)
      refine W.eq (g2 := F0 m 50 ls []) rfl ?_
      refine lv_aload_n hx hb dX0_keep_50 rfl (lv_at hl 0 rfl) ?_
      refine lv_dup hx hb dX0_keep_51 rfl ?_
      refine va_get (D := D) (ci := 0) (v := .int (nI n)) (C := RX0) (T := TX0) (N := 3) hx hb hts inX0 hown hK hP 0 rfl rfl 2 (by decide) (hts _ fl_RX0_18) (fun _ h9 => h9) rfl dX0_keep_52 ?_
      refine lv_iconst (v := nI 1) hx hb dX0_keep_55 (by decide) ?_
      refine nv_iadd hx hb dX0_keep_56 ?_
      refine va_put (D := D) (ci := 0) (v := .int (nI (n + 1))) (ty := .int) (C := RX0) (T := TX0) (N := 3) hx hb hts inX0 tyX0 tyX0_ok nmX0 hown hK hP hD hS 0 rfl rfl 2 (by decide) (hts _ fl_RX0_18) (fun _ h9 => h9) rfl (by decide +kernel) rfl rfl (Nat.le_of_ble_eq_true rfl) dX0_keep_57 (fun H locs hP hD hS => ?_)
      have hP : va_P D vwCl ((wHs h ar rr ra cI cR o (n + 1) ((va_up τ 1 σ))) ++ (wRp h2 a2 cI (σ 0) (σ 1) (σ 2) (onF σ) (wwF σ) (crF σ) (ptF σ))) H := hP
      have hD : va_D A ((wHs h ar rr ra cI cR o (n + 1) ((va_up τ 1 σ))) ++ (wRp h2 a2 cI (σ 0) (σ 1) (σ 2) (onF σ) (wwF σ) (crF σ) (ptF σ))) := hD
      have e1 : kpO o n = o := by unfold kpO; rw [if_neg q_5]
      have e2 : kpN n = n + 1 := by unfold kpN; rw [if_neg q_5]
      have e3 : kpS o n = 1 := by unfold kpS; rw [if_neg q_5]; exact hk
      have hP : va_P D vwCl ((wHs h ar rr ra cI cR (kpO o n) (kpN n) ((va_up τ (kpS o n) σ))) ++ (wRp h2 a2 cI (σ 0) (σ 1) (σ 2) (onF σ) (wwF σ) (crF σ) (ptF σ))) H := by rw [e1, e2, e3]; exact hP
      have hD : va_D A ((wHs h ar rr ra cI cR (kpO o n) (kpN n) ((va_up τ (kpS o n) σ))) ++ (wRp h2 a2 cI (σ 0) (σ 1) (σ 2) (onF σ) (wwF σ) (crF σ) (ptF σ))) := by rw [e1, e2, e3]; exact hD
      exact mu_retv hx hb hr hlocks hP hD hS dX0_keep_60
    · refine nv_top (2) (hk) ?_
      refine nv_aald (D := D) (r := rr 2) hx hb hK hP 1 1 rfl rfl (k := 2) (by decide) (by decide) rfl dX0_keep_45 ?_
      refine lv_aload_n hx hb dX0_keep_46 rfl (lv_at hl 1 rfl) ?_
      refine mu_call (ws' := ((wHs h ar rr ra cI cR o n ((va_up τ 2 σ))) ++ (wRp h2 a2 cI (σ 0) (σ 1) (σ 2) (onF σ) (wwF σ) (crF σ) (ptF σ)))) [12, 13, 14, 15, 16, 27, 28, 29, 30, 31] [0, 1, 2, 3, 4, 5, 6, 7, 8, 9, 10, 11, 17, 18, 19, 20, 21, 22, 23, 24, 25, 26] [0, 1, 2, 3, 4, 5, 6, 7, 8, 9, 10, 11, 22, 23, 24, 25, 26, 12, 13, 14, 15, 16, 17, 18, 19, 20, 21, 27, 28, 29, 30, 31] [.ref h2] [] hx hb hml hown hts k_RX0_25 (fun sz => c_X1_become l D cI cR (rr 2) ((ra 2)) ((((τ 2))) 0) ((((τ 2))) 1) ((((τ 2))) 2) (onF (((τ 2)))) (wwF (((τ 2)))) (crF (((τ 2)))) (ptF (((τ 2)))) h2 a2 (σ 0) (σ 1) (σ 2) (onF σ) (wwF σ) (crF σ) (ptF σ)  sz) ⟨rfl, rfl, Nat.le_of_ble_eq_true rfl, Nat.le_of_ble_eq_true rfl⟩ hP hD hS hA hK 1 rfl rfl rfl rfl rfl rfl rfl (by decide) rfl rfl rfl hl rfl (Nat.le_of_ble_eq_true rfl) dX0_keep_47 ⟨Nat.zero_le _, Nat.zero_le _⟩ (fun H locs hP hD hS => ?_)
      refine W.eq (g2 := F0 m 50 ls []) rfl ?_
      refine lv_aload_n hx hb dX0_keep_50 rfl (lv_at hl 0 rfl) ?_
      refine lv_dup hx hb dX0_keep_51 rfl ?_
      refine va_get (D := D) (ci := 0) (v := .int (nI n)) (C := RX0) (T := TX0) (N := 3) hx hb hts inX0 hown hK hP 0 rfl rfl 2 (by decide) (hts _ fl_RX0_18) (fun _ h9 => h9) rfl dX0_keep_52 ?_
      refine lv_iconst (v := nI 1) hx hb dX0_keep_55 (by decide) ?_
      refine nv_iadd hx hb dX0_keep_56 ?_
      refine va_put (D := D) (ci := 0) (v := .int (nI (n + 1))) (ty := .int) (C := RX0) (T := TX0) (N := 3) hx hb hts inX0 tyX0 tyX0_ok nmX0 hown hK hP hD hS 0 rfl rfl 2 (by decide) (hts _ fl_RX0_18) (fun _ h9 => h9) rfl (by decide +kernel) rfl rfl (Nat.le_of_ble_eq_true rfl) dX0_keep_57 (fun H locs hP hD hS => ?_)
      have hP : va_P D vwCl ((wHs h ar rr ra cI cR o (n + 1) ((va_up τ 2 σ))) ++ (wRp h2 a2 cI (σ 0) (σ 1) (σ 2) (onF σ) (wwF σ) (crF σ) (ptF σ))) H := hP
      have hD : va_D A ((wHs h ar rr ra cI cR o (n + 1) ((va_up τ 2 σ))) ++ (wRp h2 a2 cI (σ 0) (σ 1) (σ 2) (onF σ) (wwF σ) (crF σ) (ptF σ))) := hD
      have e1 : kpO o n = o := by unfold kpO; rw [if_neg q_5]
      have e2 : kpN n = n + 1 := by unfold kpN; rw [if_neg q_5]
      have e3 : kpS o n = 2 := by unfold kpS; rw [if_neg q_5]; exact hk
      have hP : va_P D vwCl ((wHs h ar rr ra cI cR (kpO o n) (kpN n) ((va_up τ (kpS o n) σ))) ++ (wRp h2 a2 cI (σ 0) (σ 1) (σ 2) (onF σ) (wwF σ) (crF σ) (ptF σ))) H := by rw [e1, e2, e3]; exact hP
      have hD : va_D A ((wHs h ar rr ra cI cR (kpO o n) (kpN n) ((va_up τ (kpS o n) σ))) ++ (wRp h2 a2 cI (σ 0) (σ 1) (σ 2) (onF σ) (wwF σ) (crF σ) (ptF σ))) := by rw [e1, e2, e3]; exact hD
      exact mu_retv hx hb hr hlocks hP hD hS dX0_keep_60
    · refine nv_top (3) (hk) ?_
      refine nv_aald (D := D) (r := rr 3) hx hb hK hP 1 1 rfl rfl (k := 3) (by decide) (by decide) rfl dX0_keep_45 ?_
      refine lv_aload_n hx hb dX0_keep_46 rfl (lv_at hl 1 rfl) ?_
      refine mu_call (ws' := ((wHs h ar rr ra cI cR o n ((va_up τ 3 σ))) ++ (wRp h2 a2 cI (σ 0) (σ 1) (σ 2) (onF σ) (wwF σ) (crF σ) (ptF σ)))) [17, 18, 19, 20, 21, 27, 28, 29, 30, 31] [0, 1, 2, 3, 4, 5, 6, 7, 8, 9, 10, 11, 12, 13, 14, 15, 16, 22, 23, 24, 25, 26] [0, 1, 2, 3, 4, 5, 6, 7, 8, 9, 10, 11, 12, 13, 14, 15, 16, 22, 23, 24, 25, 26, 17, 18, 19, 20, 21, 27, 28, 29, 30, 31] [.ref h2] [] hx hb hml hown hts k_RX0_25 (fun sz => c_X1_become l D cI cR (rr 3) ((ra 3)) ((((τ 3))) 0) ((((τ 3))) 1) ((((τ 3))) 2) (onF (((τ 3)))) (wwF (((τ 3)))) (crF (((τ 3)))) (ptF (((τ 3)))) h2 a2 (σ 0) (σ 1) (σ 2) (onF σ) (wwF σ) (crF σ) (ptF σ)  sz) ⟨rfl, rfl, Nat.le_of_ble_eq_true rfl, Nat.le_of_ble_eq_true rfl⟩ hP hD hS hA hK 1 rfl rfl rfl rfl rfl rfl rfl (by decide) rfl rfl rfl hl rfl (Nat.le_of_ble_eq_true rfl) dX0_keep_47 ⟨Nat.zero_le _, Nat.zero_le _⟩ (fun H locs hP hD hS => ?_)
      refine W.eq (g2 := F0 m 50 ls []) rfl ?_
      refine lv_aload_n hx hb dX0_keep_50 rfl (lv_at hl 0 rfl) ?_
      refine lv_dup hx hb dX0_keep_51 rfl ?_
      refine va_get (D := D) (ci := 0) (v := .int (nI n)) (C := RX0) (T := TX0) (N := 3) hx hb hts inX0 hown hK hP 0 rfl rfl 2 (by decide) (hts _ fl_RX0_18) (fun _ h9 => h9) rfl dX0_keep_52 ?_
      refine lv_iconst (v := nI 1) hx hb dX0_keep_55 (by decide) ?_
      refine nv_iadd hx hb dX0_keep_56 ?_
      refine va_put (D := D) (ci := 0) (v := .int (nI (n + 1))) (ty := .int) (C := RX0) (T := TX0) (N := 3) hx hb hts inX0 tyX0 tyX0_ok nmX0 hown hK hP hD hS 0 rfl rfl 2 (by decide) (hts _ fl_RX0_18) (fun _ h9 => h9) rfl (by decide +kernel) rfl rfl (Nat.le_of_ble_eq_true rfl) dX0_keep_57 (fun H locs hP hD hS => ?_)
      have hP : va_P D vwCl ((wHs h ar rr ra cI cR o (n + 1) ((va_up τ 3 σ))) ++ (wRp h2 a2 cI (σ 0) (σ 1) (σ 2) (onF σ) (wwF σ) (crF σ) (ptF σ))) H := hP
      have hD : va_D A ((wHs h ar rr ra cI cR o (n + 1) ((va_up τ 3 σ))) ++ (wRp h2 a2 cI (σ 0) (σ 1) (σ 2) (onF σ) (wwF σ) (crF σ) (ptF σ))) := hD
      have e1 : kpO o n = o := by unfold kpO; rw [if_neg q_5]
      have e2 : kpN n = n + 1 := by unfold kpN; rw [if_neg q_5]
      have e3 : kpS o n = 3 := by unfold kpS; rw [if_neg q_5]; exact hk
      have hP : va_P D vwCl ((wHs h ar rr ra cI cR (kpO o n) (kpN n) ((va_up τ (kpS o n) σ))) ++ (wRp h2 a2 cI (σ 0) (σ 1) (σ 2) (onF σ) (wwF σ) (crF σ) (ptF σ))) H := by rw [e1, e2, e3]; exact hP
      have hD : va_D A ((wHs h ar rr ra cI cR (kpO o n) (kpN n) ((va_up τ (kpS o n) σ))) ++ (wRp h2 a2 cI (σ 0) (σ 1) (σ 2) (onF σ) (wwF σ) (crF σ) (ptF σ))) := by rw [e1, e2, e3]; exact hD
      exact mu_retv hx hb hr hlocks hP hD hS dX0_keep_60
    · refine nv_top (4) (hk) ?_
      refine nv_aald (D := D) (r := rr 4) hx hb hK hP 1 1 rfl rfl (k := 4) (by decide) (by decide) rfl dX0_keep_45 ?_
      refine lv_aload_n hx hb dX0_keep_46 rfl (lv_at hl 1 rfl) ?_
      refine mu_call (ws' := ((wHs h ar rr ra cI cR o n ((va_up τ 4 σ))) ++ (wRp h2 a2 cI (σ 0) (σ 1) (σ 2) (onF σ) (wwF σ) (crF σ) (ptF σ)))) [22, 23, 24, 25, 26, 27, 28, 29, 30, 31] [0, 1, 2, 3, 4, 5, 6, 7, 8, 9, 10, 11, 12, 13, 14, 15, 16, 17, 18, 19, 20, 21] [0, 1, 2, 3, 4, 5, 6, 7, 8, 9, 10, 11, 12, 13, 14, 15, 16, 17, 18, 19, 20, 21, 22, 23, 24, 25, 26, 27, 28, 29, 30, 31] [.ref h2] [] hx hb hml hown hts k_RX0_25 (fun sz => c_X1_become l D cI cR (rr 4) ((ra 4)) ((((τ 4))) 0) ((((τ 4))) 1) ((((τ 4))) 2) (onF (((τ 4)))) (wwF (((τ 4)))) (crF (((τ 4)))) (ptF (((τ 4)))) h2 a2 (σ 0) (σ 1) (σ 2) (onF σ) (wwF σ) (crF σ) (ptF σ)  sz) ⟨rfl, rfl, Nat.le_of_ble_eq_true rfl, Nat.le_of_ble_eq_true rfl⟩ hP hD hS hA hK 1 rfl rfl rfl rfl rfl rfl rfl (by decide) rfl rfl rfl hl rfl (Nat.le_of_ble_eq_true rfl) dX0_keep_47 ⟨Nat.zero_le _, Nat.zero_le _⟩ (fun H locs hP hD hS => ?_)
      refine W.eq (g2 := F0 m 50 ls []) rfl ?_
      refine lv_aload_n hx hb dX0_keep_50 rfl (lv_at hl 0 rfl) ?_
      refine lv_dup hx hb dX0_keep_51 rfl ?_
      refine va_get (D := D) (ci := 0) (v := .int (nI n)) (C := RX0) (T := TX0) (N := 3) hx hb hts inX0 hown hK hP 0 rfl rfl 2 (by decide) (hts _ fl_RX0_18) (fun _ h9 => h9) rfl dX0_keep_52 ?_
      refine lv_iconst (v := nI 1) hx hb dX0_keep_55 (by decide) ?_
      refine nv_iadd hx hb dX0_keep_56 ?_
      refine va_put (D := D) (ci := 0) (v := .int (nI (n + 1))) (ty := .int) (C := RX0) (T := TX0) (N := 3) hx hb hts inX0 tyX0 tyX0_ok nmX0 hown hK hP hD hS 0 rfl rfl 2 (by decide) (hts _ fl_RX0_18) (fun _ h9 => h9) rfl (by decide +kernel) rfl rfl (Nat.le_of_ble_eq_true rfl) dX0_keep_57 (fun H locs hP hD hS => ?_)
      have hP : va_P D vwCl ((wHs h ar rr ra cI cR o (n + 1) ((va_up τ 4 σ))) ++ (wRp h2 a2 cI (σ 0) (σ 1) (σ 2) (onF σ) (wwF σ) (crF σ) (ptF σ))) H := hP
      have hD : va_D A ((wHs h ar rr ra cI cR o (n + 1) ((va_up τ 4 σ))) ++ (wRp h2 a2 cI (σ 0) (σ 1) (σ 2) (onF σ) (wwF σ) (crF σ) (ptF σ))) := hD
      have e1 : kpO o n = o := by unfold kpO; rw [if_neg q_5]
      have e2 : kpN n = n + 1 := by unfold kpN; rw [if_neg q_5]
      have e3 : kpS o n = 4 := by unfold kpS; rw [if_neg q_5]; exact hk
      have hP : va_P D vwCl ((wHs h ar rr ra cI cR (kpO o n) (kpN n) ((va_up τ (kpS o n) σ))) ++ (wRp h2 a2 cI (σ 0) (σ 1) (σ 2) (onF σ) (wwF σ) (crF σ) (ptF σ))) H := by rw [e1, e2, e3]; exact hP
      have hD : va_D A ((wHs h ar rr ra cI cR (kpO o n) (kpN n) ((va_up τ (kpS o n) σ))) ++ (wRp h2 a2 cI (σ 0) (σ 1) (σ 2) (onF σ) (wwF σ) (crF σ) (ptF σ))) := by rw [e1, e2, e3]; exact hD
      exact mu_retv hx hb hr hlocks hP hD hS dX0_keep_60
  · refine lv_aload_n hx hb dX0_keep_8 rfl (lv_at hl 0 rfl) ?_
    refine lv_aload_n hx hb dX0_keep_9 rfl (lv_at hl 0 rfl) ?_
    refine va_get (D := D) (ci := 0) (v := .int (nI o)) (C := RX0) (T := TX0) (N := 3) hx hb hts inX0 hown hK hP 0 rfl rfl 1 (by decide) (hts _ fl_RX0_22) (fun _ h9 => h9) rfl dX0_keep_10 ?_
    refine lv_iconst (v := nI 1) hx hb dX0_keep_13 (by decide) ?_
    refine nv_iadd hx hb dX0_keep_14 ?_
    refine lv_iconst (v := nI 5) hx hb dX0_keep_15 (by decide) ?_
    refine nv_irem hx hb dX0_keep_16 (by omega) (by omega) (by omega) ?_
    refine va_put (D := D) (ci := 0) (v := .int (nI ((o + 1) % 5))) (ty := .int) (C := RX0) (T := TX0) (N := 3) hx hb hts inX0 tyX0 tyX0_ok nmX0 hown hK hP hD hS 0 rfl rfl 1 (by decide) (hts _ fl_RX0_22) (fun _ h9 => h9) rfl (by decide +kernel) rfl rfl (Nat.le_of_ble_eq_true rfl) dX0_keep_17 (fun H locs hP hD hS => ?_)
    have hP : va_P D vwCl ((wHs h ar rr ra cI cR ((o + 1) % 5) n τ) ++ (wRp h2 a2 cI (σ 0) (σ 1) (σ 2) (onF σ) (wwF σ) (crF σ) (ptF σ))) H := hP
    have hD : va_D A ((wHs h ar rr ra cI cR ((o + 1) % 5) n τ) ++ (wRp h2 a2 cI (σ 0) (σ 1) (σ 2) (onF σ) (wwF σ) (crF σ) (ptF σ))) := hD
    refine lv_aload_n hx hb dX0_keep_20 rfl (lv_at hl 0 rfl) ?_
    refine lv_dup hx hb dX0_keep_21 rfl ?_
    refine va_get (D := D) (ci := 0) (v := .int (nI n)) (C := RX0) (T := TX0) (N := 3) hx hb hts inX0 hown hK hP 0 rfl rfl 2 (by decide) (hts _ fl_RX0_18) (fun _ h9 => h9) rfl dX0_keep_22 ?_
    refine lv_iconst (v := nI 1) hx hb dX0_keep_25 (by decide) ?_
    refine nv_isub hx hb dX0_keep_26 (by omega) ?_
    refine va_put (D := D) (ci := 0) (v := .int (nI (n - 1))) (ty := .int) (C := RX0) (T := TX0) (N := 3) hx hb hts inX0 tyX0 tyX0_ok nmX0 hown hK hP hD hS 0 rfl rfl 2 (by decide) (hts _ fl_RX0_18) (fun _ h9 => h9) rfl (by decide +kernel) rfl rfl (Nat.le_of_ble_eq_true rfl) dX0_keep_27 (fun H locs hP hD hS => ?_)
    have hP : va_P D vwCl ((wHs h ar rr ra cI cR ((o + 1) % 5) (n - 1) τ) ++ (wRp h2 a2 cI (σ 0) (σ 1) (σ 2) (onF σ) (wwF σ) (crF σ) (ptF σ))) H := hP
    have hD : va_D A ((wHs h ar rr ra cI cR ((o + 1) % 5) (n - 1) τ) ++ (wRp h2 a2 cI (σ 0) (σ 1) (σ 2) (onF σ) (wwF σ) (crF σ) (ptF σ))) := hD
    refine lv_aload_n hx hb dX0_keep_30 rfl (lv_at hl 0 rfl) ?_
    refine va_get (D := D) (ci := 0) (v := .ref ar) (C := RX0) (T := TX0) (N := 3) hx hb hts inX0 hown hK hP 0 rfl rfl 0 (by decide) (hts _ fl_RX0_11) (fun _ h9 => h9) rfl dX0_keep_31 ?_
    refine lv_aload_n hx hb dX0_keep_34 rfl (lv_at hl 0 rfl) ?_
    refine va_get (D := D) (ci := 0) (v := .int (nI ((o + 1) % 5))) (C := RX0) (T := TX0) (N := 3) hx hb hts inX0 hown hK hP 0 rfl rfl 1 (by decide) (hts _ fl_RX0_22) (fun _ h9 => h9) rfl dX0_keep_35 ?_
    refine lv_aload_n hx hb dX0_keep_38 rfl (lv_at hl 0 rfl) ?_
    refine va_get (D := D) (ci := 0) (v := .int (nI (n - 1))) (C := RX0) (T := TX0) (N := 3) hx hb hts inX0 hown hK hP 0 rfl rfl 2 (by decide) (hts _ fl_RX0_18) (fun _ h9 => h9) rfl dX0_keep_39 ?_
    refine nv_iadd hx hb dX0_keep_42 ?_
    refine lv_iconst (v := nI 5) hx hb dX0_keep_43 (by decide) ?_
    refine nv_irem hx hb dX0_keep_44 (by omega) (by omega) (by omega) ?_
    rcases (show (((o + 1) % 5) + (n - 1)) % 5 = 0 ∨ (((o + 1) % 5) + (n - 1)) % 5 = 1 ∨ (((o + 1) % 5) + (n - 1)) % 5 = 2 ∨ (((o + 1) % 5) + (n - 1)) % 5 = 3 ∨ (((o + 1) % 5) + (n - 1)) % 5 = 4 by omega) with hk | hk | hk | hk | hk
    · refine nv_top (0) (hk) ?_
      refine nv_aald (D := D) (r := rr 0) hx hb hK hP 1 1 rfl rfl (k := 0) (by decide) (by decide) rfl dX0_keep_45 ?_
      refine lv_aload_n hx hb dX0_keep_46 rfl (lv_at hl 1 rfl) ?_
      refine mu_call (ws' := ((wHs h ar rr ra cI cR ((o + 1) % 5) (n - 1) ((va_up τ 0 σ))) ++ (wRp h2 a2 cI (σ 0) (σ 1) (σ 2) (onF σ) (wwF σ) (crF σ) (ptF σ)))) [2, 3, 4, 5, 6, 27, 28, 29, 30, 31] [0, 1, 7, 8, 9, 10, 11, 12, 13, 14, 15, 16, 17, 18, 19, 20, 21, 22, 23, 24, 25, 26] [0, 1, 22, 23, 24, 25, 26, 2, 3, 4, 5, 6, 7, 8, 9, 10, 11, 12, 13, 14, 15, 16, 17, 18, 19, 20, 21, 27, 28, 29, 30, 31] [.ref h2] [] hx hb hml hown hts k_RX0_25 (fun sz => c_X1_become l D cI cR (rr 0) ((ra 0)) ((((τ 0))) 0) ((((τ 0))) 1) ((((τ 0))) 2) (onF (((τ 0)))) (wwF (((τ 0)))) (crF (((τ 0)))) (ptF (((τ 0)))) h2 a2 (σ 0) (σ 1) (σ 2) (onF σ) (wwF σ) (crF σ) (ptF σ)  sz) ⟨rfl, rfl, Nat.le_of_ble_eq_true rfl, Nat.le_of_ble_eq_true rfl⟩ hP hD hS hA hK 1 rfl rfl rfl rfl rfl rfl rfl (by decide) rfl rfl rfl hl rfl (Nat.le_of_ble_eq_true rfl) dX0_keep_47 ⟨Nat.zero_le _, Nat.zero_le _⟩ (fun H locs hP hD hS => ?_)
      refine W.eq (g2 := F0 m 50 ls []) rfl ?_
      refine lv_aload_n hx hb dX0_keep_50 rfl (lv_at hl 0 rfl) ?_
      refine lv_dup hx hb dX0_keep_51 rfl ?_
      refine va_get (D := D) (ci := 0) (v := .int (nI (n - 1))) (C := RX0) (T := TX0) (N := 3) hx hb hts inX0 hown hK hP 0 rfl rfl 2 (by decide) (hts _ fl_RX0_18) (fun _ h9 => h9) rfl dX0_keep_52 ?_
      refine lv_iconst (v := nI 1) hx hb dX0_keep_55 (by decide) ?_
      refine nv_iadd hx hb dX0_keep_56 ?_
      refine va_put (D := D) (ci := 0) (v := .int (nI ((n - 1) + 1))) (ty := .int) (C := RX0) (T := TX0) (N := 3) hx hb hts inX0 tyX0 tyX0_ok nmX0 hown hK hP hD hS 0 rfl rfl 2 (by decide) (hts _ fl_RX0_18) (fun _ h9 => h9) rfl (by decide +kernel) rfl rfl (Nat.le_of_ble_eq_true rfl) dX0_keep_57 (fun H locs hP hD hS => ?_)
      have hP : va_P D vwCl ((wHs h ar rr ra cI cR ((o + 1) % 5) ((n - 1) + 1) ((va_up τ 0 σ))) ++ (wRp h2 a2 cI (σ 0) (σ 1) (σ 2) (onF σ) (wwF σ) (crF σ) (ptF σ))) H := hP
      have hD : va_D A ((wHs h ar rr ra cI cR ((o + 1) % 5) ((n - 1) + 1) ((va_up τ 0 σ))) ++ (wRp h2 a2 cI (σ 0) (σ 1) (σ 2) (onF σ) (wwF σ) (crF σ) (ptF σ))) := hD
      have e1 : kpO o n = (o + 1) % 5 := by unfold kpO; rw [if_pos q_5]
      have e2 : kpN n = n - 1 + 1 := by unfold kpN; rw [if_pos q_5]; omega
      have e3 : kpS o n = 0 := by unfold kpS; rw [if_pos q_5]; omega
      have hP : va_P D vwCl ((wHs h ar rr ra cI cR (kpO o n) (kpN n) ((va_up τ (kpS o n) σ))) ++ (wRp h2 a2 cI (σ 0) (σ 1) (σ 2) (onF σ) (wwF σ) (crF σ) (ptF σ))) H := by rw [e1, e2, e3]; exact hP
      have hD : va_D A ((wHs h ar rr ra cI cR (kpO o n) (kpN n) ((va_up τ (kpS o n) σ))) ++ (wRp h2 a2 cI (σ 0) (σ 1) (σ 2) (onF σ) (wwF σ) (crF σ) (ptF σ))) := by rw [e1, e2, e3]; exact hD
      exact mu_retv hx hb hr hlocks hP hD hS dX0_keep_60
    · refine nv_top (1) (hk) ?_
      refine nv_aald (D := D) (r := rr 1) hx hb hK hP 1 1 rfl rfl (k := 1) (by decide) (by decide) rfl dX0_keep_45 ?_
      refine lv_aload_n hx hb dX0_keep_46 rfl (lv_at hl 1 rfl) ?_
      refine mu_call (ws' := ((wHs h ar rr ra cI cR ((o + 1) % 5) (n - 1) ((va_up τ 1 σ))) ++ (wRp h2 a2 cI (σ 0) (σ 1) (σ 2) (onF σ) (wwF σ) (crF σ) (ptF σ)))) [7, 8, 9, 10, 11, 27, 28, 29, 30, 31] [0, 1, 2, 3, 4, 5, 6, 12, 13, 14, 15, 16, 17, 18, 19, 20, 21, 22, 23, 24, 25, 26] [0, 1, 2, 3, 4, 5, 6, 22, 23, 24, 25, 26, 7, 8, 9, 10, 11, 12, 13, 14, 15, 16, 17, 18, 19, 20, 21, 27, 28, 29, 30, 31] [.ref h2] [] hx hb hml hown hts k_RX0_25 (fun sz => c_X1_become l D cI cR (rr 1) ((ra 1)) ((((τ 1))) 0) ((((τ 1))) 1) ((((τ 1))) 2) (onF (((τ 1)))) (wwF (((τ 1)))) (crF (((τ 1)))) (ptF (((τ 1)))) h2 a2 (σ 0) (σ 1) (σ 2) (onF σ) (wwF σ) (crF σ) (ptF σ)  sz) ⟨rfl, rfl, Nat.le_of_ble_eq_true rfl, Nat.le_of_ble_eq_true rfl⟩ hP hD hS hA hK 1 rfl rfl rfl rfl rfl rfl rfl (by decide) rfl rfl rfl hl rfl (Nat.le_of_ble_eq_true rfl) dX0_keep_47 ⟨Nat.zero_le _, Nat.zero_le _⟩ (fun H locs hP hD hS => ?_)
      refine W.eq (g2 := F0 m 50 ls []) rfl ?_
      refine lv_aload_n hx hb dX0_keep_50 rfl (lv_at hl 0 rfl) ?_
      refine lv_dup hx hb dX0_keep_51 rfl ?_
      refine va_get (D := D) (ci := 0) (v := .int (nI (n - 1))) (C := RX0) (T := TX0) (N := 3) hx hb hts inX0 hown hK hP 0 rfl rfl 2 (by decide) (hts _ fl_RX0_18) (fun _ h9 => h9) rfl dX0_keep_52 ?_
      refine lv_iconst (v := nI 1) hx hb dX0_keep_55 (by decide) ?_
      refine nv_iadd hx hb dX0_keep_56 ?_
      refine va_put (D := D) (ci := 0) (v := .int (nI ((n - 1) + 1))) (ty := .int) (C := RX0) (T := TX0) (N := 3) hx hb hts inX0 tyX0 tyX0_ok nmX0 hown hK hP hD hS 0 rfl rfl 2 (by decide) (hts _ fl_RX0_18) (fun _ h9 => h9) rfl (by decide +kernel) rfl rfl (Nat.le_of_ble_eq_true rfl) dX0_keep_57 (fun H locs hP hD hS => ?_)
      have hP : va_P D vwCl ((wHs h ar rr ra cI cR ((o + 1) % 5) ((n - 1) + 1) ((va_up τ 1 σ))) ++ (wRp h2 a2 cI (σ 0) (σ 1) (σ 2) (onF σ) (wwF σ) (crF σ) (ptF σ))) H := hP
      have hD : va_D A ((wHs h ar rr ra cI cR ((o + 1) % 5) ((n - 1) + 1) ((va_up τ 1 σ))) ++ (wRp h2 a2 cI (σ 0) (σ 1) (σ 2) (onF σ) (wwF σ) (crF σ) (ptF σ))) := hD
      have e1 : kpO o n = (o + 1) % 5 := by unfold kpO; rw [if_pos q_5]
      have e2 : kpN n = n - 1 + 1 := by unfold kpN; rw [if_pos q_5]; omega
      have e3 : kpS o n = 1 := by unfold kpS; rw [if_pos q_5]; omega
      have hP : va_P D vwCl ((wHs h ar rr ra cI cR (kpO o n) (kpN n) ((va_up τ (kpS o n) σ))) ++ (wRp h2 a2 cI (σ 0) (σ 1) (σ 2) (onF σ) (wwF σ) (crF σ) (ptF σ))) H := by rw [e1, e2, e3]; exact hP
      have hD : va_D A ((wHs h ar rr ra cI cR (kpO o n) (kpN n) ((va_up τ (kpS o n) σ))) ++ (wRp h2 a2 cI (σ 0) (σ 1) (σ 2) (onF σ) (wwF σ) (crF σ) (ptF σ))) := by rw [e1, e2, e3]; exact hD
      exact mu_retv hx hb hr hlocks hP hD hS dX0_keep_60
    · refine nv_top (2) (hk) ?_
      refine nv_aald (D := D) (r := rr 2) hx hb hK hP 1 1 rfl rfl (k := 2) (by decide) (by decide) rfl dX0_keep_45 ?_
      refine lv_aload_n hx hb dX0_keep_46 rfl (lv_at hl 1 rfl) ?_
      refine mu_call (ws' := ((wHs h ar rr ra cI cR ((o + 1) % 5) (n - 1) ((va_up τ 2 σ))) ++ (wRp h2 a2 cI (σ 0) (σ 1) (σ 2) (onF σ) (wwF σ) (crF σ) (ptF σ)))) [12, 13, 14, 15, 16, 27, 28, 29, 30, 31] [0, 1, 2, 3, 4, 5, 6, 7, 8, 9, 10, 11, 17, 18, 19, 20, 21, 22, 23, 24, 25, 26] [0, 1, 2, 3, 4, 5, 6, 7, 8, 9, 10, 11, 22, 23, 24, 25, 26, 12, 13, 14, 15, 16, 17, 18, 19, 20, 21, 27, 28, 29, 30, 31] [.ref h2] [] hx hb hml hown hts k_RX0_25 (fun sz => c_X1_become l D cI cR (rr 2) ((ra 2)) ((((τ 2))) 0) ((((τ 2))) 1) ((((τ 2))) 2) (onF (((τ 2)))) (wwF (((τ 2)))) (crF (((τ 2)))) (ptF (((τ 2)))) h2 a2 (σ 0) (σ 1) (σ 2) (onF σ) (wwF σ) (crF σ) (ptF σ)  sz) ⟨rfl, rfl, Nat.le_of_ble_eq_true rfl, Nat.le_of_ble_eq_true rfl⟩ hP hD hS hA hK 1 rfl rfl rfl rfl rfl rfl rfl (by decide) rfl rfl rfl hl rfl (Nat.le_of_ble_eq_true rfl) dX0_keep_47 ⟨Nat.zero_le _, Nat.zero_le _⟩ (fun H locs hP hD hS => ?_)
      refine W.eq (g2 := F0 m 50 ls []) rfl ?_
      refine lv_aload_n hx hb dX0_keep_50 rfl (lv_at hl 0 rfl) ?_
      refine lv_dup hx hb dX0_keep_51 rfl ?_
      refine va_get (D := D) (ci := 0) (v := .int (nI (n - 1))) (C := RX0) (T := TX0) (N := 3) hx hb hts inX0 hown hK hP 0 rfl rfl 2 (by decide) (hts _ fl_RX0_18) (fun _ h9 => h9) rfl dX0_keep_52 ?_
      refine lv_iconst (v := nI 1) hx hb dX0_keep_55 (by decide) ?_
      refine nv_iadd hx hb dX0_keep_56 ?_
      refine va_put (D := D) (ci := 0) (v := .int (nI ((n - 1) + 1))) (ty := .int) (C := RX0) (T := TX0) (N := 3) hx hb hts inX0 tyX0 tyX0_ok nmX0 hown hK hP hD hS 0 rfl rfl 2 (by decide) (hts _ fl_RX0_18) (fun _ h9 => h9) rfl (by decide +kernel) rfl rfl (Nat.le_of_ble_eq_true rfl) dX0_keep_57 (fun H locs hP hD hS => ?_)
      have hP : va_P D vwCl ((wHs h ar rr ra cI cR ((o + 1) % 5) ((n - 1) + 1) ((va_up τ 2 σ))) ++ (wRp h2 a2 cI (σ 0) (σ 1) (σ 2) (onF σ) (wwF σ) (crF σ) (ptF σ))) H := hP
      have hD : va_D A ((wHs h ar rr ra cI cR ((o + 1) % 5) ((n - 1) + 1) ((va_up τ 2 σ))) ++ (wRp h2 a2 cI (σ 0) (σ 1) (σ 2) (onF σ) (wwF σ) (crF σ) (ptF σ))) := hD
      have e1 : kpO o n = (o + 1) % 5 := by unfold kpO; rw [if_pos q_5]
      have e2 : kpN n = n - 1 + 1 := by unfold kpN; rw [if_pos q_5]; omega
      have e3 : kpS o n = 2 := by unfold kpS; rw [if_pos q_5]; omega
      have hP : va_P D vwCl ((wHs h ar rr ra cI cR (kpO o n) (kpN n) ((va_up τ (kpS o n) σ))) ++ (wRp h2 a2 cI (σ 0) (σ 1) (σ 2) (onF σ) (wwF σ) (crF σ) (ptF σ))) H := by rw [e1, e2, e3]; exact hP
      have hD : va_D A ((wHs h ar rr ra cI cR (kpO o n) (kpN n) ((va_up τ (kpS o n) σ))) ++ (wRp h2 a2 cI (σ 0) (σ 1) (σ 2) (onF σ) (wwF σ) (crF σ) (ptF σ))) := by rw [e1, e2, e3]; exact hD
      exact mu_retv hx hb hr hlocks hP hD hS dX0_keep_60
    · refine nv_top (3) (hk) ?_
      refine nv_aald (D := D) (r := rr 3) hx hb hK hP 1 1 rfl rfl (k := 3) (by decide) (by decide) rfl dX0_keep_45 ?_
      refine lv_aload_n hx hb dX0_keep_46 rfl (lv_at hl 1 rfl) ?_
      refine mu_call (ws' := ((wHs h ar rr ra cI cR ((o + 1) % 5) (n - 1) ((va_up τ 3 σ))) ++ (wRp h2 a2 cI (σ 0) (σ 1) (σ 2) (onF σ) (wwF σ) (crF σ) (ptF σ)))) [17, 18, 19, 20, 21, 27, 28, 29, 30, 31] [0, 1, 2, 3, 4, 5, 6, 7, 8, 9, 10, 11, 12, 13, 14, 15, 16, 22, 23, 24, 25, 26] [0, 1, 2, 3, 4, 5, 6, 7, 8, 9, 10, 11, 12, 13, 14, 15, 16, 22, 23, 24, 25, 26, 17, 18, 19, 20, 21, 27, 28, 29, 30, 31] [.ref h2] [] hx hb hml hown hts k_RX0_25 (fun sz => c_X1_become l D cI cR (rr 3) ((ra 3)) ((((τ 3))) 0) ((((τ 3))) 1) ((((τ 3))) 2) (onF (((τ 3)))) (wwF (((τ 3)))) (crF (((τ 3)))) (ptF (((τ 3)))) h2 a2 (σ 0) (σ 1) (σ 2) (onF σ) (wwF σ) (crF σ) (ptF σ)  sz) ⟨rfl, rfl, Nat.le_of_ble_eq_true rfl, Nat.le_of_ble_eq_true rfl⟩ hP hD hS hA hK 1 rfl rfl rfl rfl rfl rfl rfl (by decide) rfl rfl rfl hl rfl (Nat.le_of_ble_eq_true rfl) dX0_keep_47 ⟨Nat.zero_le _, Nat.zero_le _⟩ (fun H locs hP hD hS => ?_)
      refine W.eq (g2 := F0 m 50 ls []) rfl ?_
      refine lv_aload_n hx hb dX0_keep_50 rfl (lv_at hl 0 rfl) ?_
      refine lv_dup hx hb dX0_keep_51 rfl ?_
      refine va_get (D := D) (ci := 0) (v := .int (nI (n - 1))) (C := RX0) (T := TX0) (N := 3) hx hb hts inX0 hown hK hP 0 rfl rfl 2 (by decide) (hts _ fl_RX0_18) (fun _ h9 => h9) rfl dX0_keep_52 ?_
      refine lv_iconst (v := nI 1) hx hb dX0_keep_55 (by decide) ?_
      refine nv_iadd hx hb dX0_keep_56 ?_
      refine va_put (D := D) (ci := 0) (v := .int (nI ((n - 1) + 1))) (ty := .int) (C := RX0) (T := TX0) (N := 3) hx hb hts inX0 tyX0 tyX0_ok nmX0 hown hK hP hD hS 0 rfl rfl 2 (by decide) (hts _ fl_RX0_18) (fun _ h9 => h9) rfl (by decide +kernel) rfl rfl (Nat.le_of_ble_eq_true rfl) dX0_keep_57 (fun H locs hP hD hS => ?_)
      have hP : va_P D vwCl ((wHs h ar rr ra cI cR ((o + 1) % 5) ((n - 1) + 1) ((va_up τ 3 σ))) ++ (wRp h2 a2 cI (σ 0) (σ 1) (σ 2) (onF σ) (wwF σ) (crF σ) (ptF σ))) H := hP
      have hD : va_D A ((wHs h ar rr ra cI cR ((o + 1) % 5) ((n - 1) + 1) ((va_up τ 3 σ))) ++ (wRp h2 a2 cI (σ 0) (σ 1) (σ 2) (onF σ) (wwF σ) (crF σ) (ptF σ))) := hD
      have e1 : kpO o n = (o + 1) % 5 := by unfold kpO; rw [if_pos q_5]
      have e2 : kpN n = n - 1 + 1 := by unfold kpN; rw [if_pos q_5]; omega
      have e3 : kpS o n = 3 := by unfold kpS; rw [if_pos q_5]; omega
      have hP : va_P D vwCl ((wHs h ar rr ra cI cR (kpO o n) (kpN n) ((va_up τ (kpS o n) σ))) ++ (wRp h2 a2 cI (σ 0) (σ 1) (σ 2) (onF σ) (wwF σ) (crF σ) (ptF σ))) H := by rw [e1, e2, e3]; exact hP
      have hD : va_D A ((wHs h ar rr ra cI cR (kpO o n) (kpN n) ((va_up τ (kpS o n) σ))) ++ (wRp h2 a2 cI (σ 0) (σ 1) (σ 2) (onF σ) (wwF σ) (crF σ) (ptF σ))) := by rw [e1, e2, e3]; exact hD
      exact mu_retv hx hb hr hlocks hP hD hS dX0_keep_60
    · refine nv_top (4) (hk) ?_
      refine nv_aald (D := D) (r := rr 4) hx hb hK hP 1 1 rfl rfl (k := 4) (by decide) (by decide) rfl dX0_keep_45 ?_
      refine lv_aload_n hx hb dX0_keep_46 rfl (lv_at hl 1 rfl) ?_
      refine mu_call (ws' := ((wHs h ar rr ra cI cR ((o + 1) % 5) (n - 1) ((va_up τ 4 σ))) ++ (wRp h2 a2 cI (σ 0) (σ 1) (σ 2) (onF σ) (wwF σ) (crF σ) (ptF σ)))) [22, 23, 24, 25, 26, 27, 28, 29, 30, 31] [0, 1, 2, 3, 4, 5, 6, 7, 8, 9, 10, 11, 12, 13, 14, 15, 16, 17, 18, 19, 20, 21] [0, 1, 2, 3, 4, 5, 6, 7, 8, 9, 10, 11, 12, 13, 14, 15, 16, 17, 18, 19, 20, 21, 22, 23, 24, 25, 26, 27, 28, 29, 30, 31] [.ref h2] [] hx hb hml hown hts k_RX0_25 (fun sz => c_X1_become l D cI cR (rr 4) ((ra 4)) ((((τ 4))) 0) ((((τ 4))) 1) ((((τ 4))) 2) (onF (((τ 4)))) (wwF (((τ 4)))) (crF (((τ 4)))) (ptF (((τ 4)))) h2 a2 (σ 0) (σ 1) (σ 2) (onF σ) (wwF σ) (crF σ) (ptF σ)  sz) ⟨rfl, rfl, Nat.le_of_ble_eq_true rfl, Nat.le_of_ble_eq_true rfl⟩ hP hD hS hA hK 1 rfl rfl rfl rfl rfl rfl rfl (by decide) rfl rfl rfl hl rfl (Nat.le_of_ble_eq_true rfl) dX0_keep_47 ⟨Nat.zero_le _, Nat.zero_le _⟩ (fun H locs hP hD hS => ?_)
      refine W.eq (g2 := F0 m 50 ls []) rfl ?_
      refine lv_aload_n hx hb dX0_keep_50 rfl (lv_at hl 0 rfl) ?_
      refine lv_dup hx hb dX0_keep_51 rfl ?_
      refine va_get (D := D) (ci := 0) (v := .int (nI (n - 1))) (C := RX0) (T := TX0) (N := 3) hx hb hts inX0 hown hK hP 0 rfl rfl 2 (by decide) (hts _ fl_RX0_18) (fun _ h9 => h9) rfl dX0_keep_52 ?_
      refine lv_iconst (v := nI 1) hx hb dX0_keep_55 (by decide) ?_
      refine nv_iadd hx hb dX0_keep_56 ?_
      refine va_put (D := D) (ci := 0) (v := .int (nI ((n - 1) + 1))) (ty := .int) (C := RX0) (T := TX0) (N := 3) hx hb hts inX0 tyX0 tyX0_ok nmX0 hown hK hP hD hS 0 rfl rfl 2 (by decide) (hts _ fl_RX0_18) (fun _ h9 => h9) rfl (by decide +kernel) rfl rfl (Nat.le_of_ble_eq_true rfl) dX0_keep_57 (fun H locs hP hD hS => ?_)
      have hP : va_P D vwCl ((wHs h ar rr ra cI cR ((o + 1) % 5) ((n - 1) + 1) ((va_up τ 4 σ))) ++ (wRp h2 a2 cI (σ 0) (σ 1) (σ 2) (onF σ) (wwF σ) (crF σ) (ptF σ))) H := hP
      have hD : va_D A ((wHs h ar rr ra cI cR ((o + 1) % 5) ((n - 1) + 1) ((va_up τ 4 σ))) ++ (wRp h2 a2 cI (σ 0) (σ 1) (σ 2) (onF σ) (wwF σ) (crF σ) (ptF σ))) := hD
      have e1 : kpO o n = (o + 1) % 5 := by unfold kpO; rw [if_pos q_5]
      have e2 : kpN n = n - 1 + 1 := by unfold kpN; rw [if_pos q_5]; omega
      have e3 : kpS o n = 4 := by unfold kpS; rw [if_pos q_5]; omega
      have hP : va_P D vwCl ((wHs h ar rr ra cI cR (kpO o n) (kpN n) ((va_up τ (kpS o n) σ))) ++ (wRp h2 a2 cI (σ 0) (σ 1) (σ 2) (onF σ) (wwF σ) (crF σ) (ptF σ))) H := by rw [e1, e2, e3]; exact hP
      have hD : va_D A ((wHs h ar rr ra cI cR (kpO o n) (kpN n) ((va_up τ (kpS o n) σ))) ++ (wRp h2 a2 cI (σ 0) (σ 1) (σ 2) (onF σ) (wwF σ) (crF σ) (ptF σ))) := by rw [e1, e2, e3]; exact hD
      exact mu_retv hx hb hr hlocks hP hD hS dX0_keep_60
set_option maxHeartbeats 4000000 in
set_option maxRecDepth 100000 in
theorem c_X0_restore (l : Launch) (D : va_G) (cI cR : ClassId) (h : Nat) (ar : Nat) (rr : Nat → Nat) (ra : Nat → Nat → Nat) (o : Nat) (n : Nat) (τ : Nat → Nat → Nat) (h2 : Nat) (a2 : Nat → Nat) (σ : Nat → Nat)   (ho : o < 5) (hn1 : 1 ≤ n) (hn : n ≤ 5) (sz : Nat) : Met l yX0_restore (wsC yX0_restore cX0_restore 2 (some .int)) (rmK 2 61) (nPreM D (nTy cI cR) [.ref h, .ref h2] ((wHs h ar rr ra cI cR o n τ) ++ (wRp h2 a2 cI (σ 0) (σ 1) (σ 2) (onF σ) (wwF σ) (crF σ) (ptF σ))) sz) (QcM D (some (.int (nI (n - 1)))) ((wHs h ar rr ra cI cR o (n - 1) τ) ++ (wRp h2 a2 cI ((τ ((o + (n - 1)) % 5)) 0) ((τ ((o + (n - 1)) % 5)) 1) ((τ ((o + (n - 1)) % 5)) 2) (onF ((τ ((o + (n - 1)) % 5)))) (wwF ((τ ((o + (n - 1)) % 5)))) (crF ((τ ((o + (n - 1)) % 5)))) (ptF ((τ ((o + (n - 1)) % 5)))))) (va_A ((wHs h ar rr ra cI cR o n τ) ++ (wRp h2 a2 cI (σ 0) (σ 1) (σ 2) (onF σ) (wwF σ) (crF σ) (ptF σ))) sz)) 0 0 (va_A ((wHs h ar rr ra cI cR o n τ) ++ (wRp h2 a2 cI (σ 0) (σ 1) (σ 2) (onF σ) (wwF σ) (crF σ) (ptF σ))) sz) := by
  refine met_mut (Qc := fun A => QcM D (some (.int (nI (n - 1)))) ((wHs h ar rr ra cI cR o (n - 1) τ) ++ (wRp h2 a2 cI ((τ ((o + (n - 1)) % 5)) 0) ((τ ((o + (n - 1)) % 5)) 1) ((τ ((o + (n - 1)) % 5)) 2) (onF ((τ ((o + (n - 1)) % 5)))) (wwF ((τ ((o + (n - 1)) % 5)))) (crF ((τ ((o + (n - 1)) % 5)))) (ptF ((τ ((o + (n - 1)) % 5)))))) A) rfl (Nat.le_of_ble_eq_true rfl) ?_
  intro p e s m args below meth c ls A H locs hx hb hml hr hlocks hown hts hP hK hD hA hS hl
  have hl : lv_has ls 2 [(0, .ref h), (1, .ref h2)] := hl
  refine lv_aload_n hx hb dX0_restore_0 rfl (lv_at hl 0 rfl) ?_
  refine lv_dup hx hb dX0_restore_1 rfl ?_
  refine va_get (D := D) (ci := 0) (v := .int (nI n)) (C := RX0) (T := TX0) (N := 3) hx hb hts inX0 hown hK hP 0 rfl rfl 2 (by decide) (hts _ fl_RX0_18) (fun _ h9 => h9) rfl dX0_restore_2 ?_
  refine lv_iconst (v := nI 1) hx hb dX0_restore_5 (by decide) ?_
  refine nv_isub hx hb dX0_restore_6 hn1 ?_
  refine va_put (D := D) (ci := 0) (v := .int (nI (n - 1))) (ty := .int) (C := RX0) (T := TX0) (N := 3) hx hb hts inX0 tyX0 tyX0_ok nmX0 hown hK hP hD hS 0 rfl rfl 2 (by decide) (hts _ fl_RX0_18) (fun _ h9 => h9) rfl (by decide +kernel) rfl rfl (Nat.le_of_ble_eq_true rfl) dX0_restore_7 (fun H locs hP hD hS => ?_)
  have hP : va_P D vwCl ((wHs h ar rr ra cI cR o (n - 1) τ) ++ (wRp h2 a2 cI (σ 0) (σ 1) (σ 2) (onF σ) (wwF σ) (crF σ) (ptF σ))) H := hP
  have hD : va_D A ((wHs h ar rr ra cI cR o (n - 1) τ) ++ (wRp h2 a2 cI (σ 0) (σ 1) (σ 2) (onF σ) (wwF σ) (crF σ) (ptF σ))) := hD
  refine lv_aload_n hx hb dX0_restore_10 rfl (lv_at hl 1 rfl) ?_
  refine lv_aload_n hx hb dX0_restore_11 rfl (lv_at hl 0 rfl) ?_
  refine va_get (D := D) (ci := 0) (v := .ref ar) (C := RX0) (T := TX0) (N := 3) hx hb hts inX0 hown hK hP 0 rfl rfl 0 (by decide) (hts _ fl_RX0_11) (fun _ h9 => h9) rfl dX0_restore_12 ?_
  refine lv_aload_n hx hb dX0_restore_15 rfl (lv_at hl 0 rfl) ?_
  refine va_get (D := D) (ci := 0) (v := .int (nI o)) (C := RX0) (T := TX0) (N := 3) hx hb hts inX0 hown hK hP 0 rfl rfl 1 (by decide) (hts _ fl_RX0_22) (fun _ h9 => h9) rfl dX0_restore_16 ?_
  refine lv_aload_n hx hb dX0_restore_19 rfl (lv_at hl 0 rfl) ?_
  refine va_get (D := D) (ci := 0) (v := .int (nI (n - 1))) (C := RX0) (T := TX0) (N := 3) hx hb hts inX0 hown hK hP 0 rfl rfl 2 (by decide) (hts _ fl_RX0_18) (fun _ h9 => h9) rfl dX0_restore_20 ?_
  refine nv_iadd hx hb dX0_restore_23 ?_
  refine lv_iconst (v := nI 5) hx hb dX0_restore_24 (by decide) ?_
  refine nv_irem hx hb dX0_restore_25 (by omega) (by omega) (by omega) ?_
  rcases (show (o + (n - 1)) % 5 = 0 ∨ (o + (n - 1)) % 5 = 1 ∨ (o + (n - 1)) % 5 = 2 ∨ (o + (n - 1)) % 5 = 3 ∨ (o + (n - 1)) % 5 = 4 by omega) with hk | hk | hk | hk | hk
  · refine nv_top (0) (hk) ?_
    refine nv_aald (D := D) (r := rr 0) hx hb hK hP 1 1 rfl rfl (k := 0) (by decide) (by decide) rfl dX0_restore_26 ?_
    refine mu_call (ws' := ((wHs h ar rr ra cI cR o (n - 1) τ) ++ (wRp h2 a2 cI ((((τ 0))) 0) ((((τ 0))) 1) ((((τ 0))) 2) (onF (((τ 0)))) (wwF (((τ 0)))) (crF (((τ 0)))) (ptF (((τ 0))))))) [27, 28, 29, 30, 31, 2, 3, 4, 5, 6] [0, 1, 7, 8, 9, 10, 11, 12, 13, 14, 15, 16, 17, 18, 19, 20, 21, 22, 23, 24, 25, 26] [0, 1, 27, 28, 29, 30, 31, 2, 3, 4, 5, 6, 7, 8, 9, 10, 11, 12, 13, 14, 15, 16, 17, 18, 19, 20, 21, 22, 23, 24, 25, 26] [.ref (rr 0)] [] hx hb hml hown hts k_RX0_25 (fun sz => c_X1_become l D cI cR h2 a2 (σ 0) (σ 1) (σ 2) (onF σ) (wwF σ) (crF σ) (ptF σ) (rr 0) ((ra 0)) ((((τ 0))) 0) ((((τ 0))) 1) ((((τ 0))) 2) (onF (((τ 0)))) (wwF (((τ 0)))) (crF (((τ 0)))) (ptF (((τ 0))))  sz) ⟨rfl, rfl, Nat.le_of_ble_eq_true rfl, Nat.le_of_ble_eq_true rfl⟩ hP hD hS hA hK 1 rfl rfl rfl rfl rfl rfl rfl (by decide) rfl rfl rfl hl rfl (Nat.le_of_ble_eq_true rfl) dX0_restore_27 ⟨Nat.zero_le _, Nat.zero_le _⟩ (fun H locs hP hD hS => ?_)
    refine W.eq (g2 := F0 m 30 ls []) rfl ?_
    refine lv_aload_n hx hb dX0_restore_30 rfl (lv_at hl 0 rfl) ?_
    refine va_get (D := D) (ci := 0) (v := .int (nI (n - 1))) (C := RX0) (T := TX0) (N := 3) hx hb hts inX0 hown hK hP 0 rfl rfl 2 (by decide) (hts _ fl_RX0_18) (fun _ h9 => h9) rfl dX0_restore_31 ?_
    have hP : va_P D vwCl ((wHs h ar rr ra cI cR o (n - 1) τ) ++ (wRp h2 a2 cI ((τ ((o + (n - 1)) % 5)) 0) ((τ ((o + (n - 1)) % 5)) 1) ((τ ((o + (n - 1)) % 5)) 2) (onF ((τ ((o + (n - 1)) % 5)))) (wwF ((τ ((o + (n - 1)) % 5)))) (crF ((τ ((o + (n - 1)) % 5)))) (ptF ((τ ((o + (n - 1)) % 5)))))) H := by rw [hk]; exact hP
    have hD : va_D A ((wHs h ar rr ra cI cR o (n - 1) τ) ++ (wRp h2 a2 cI ((τ ((o + (n - 1)) % 5)) 0) ((τ ((o + (n - 1)) % 5)) 1) ((τ ((o + (n - 1)) % 5)) 2) (onF ((τ ((o + (n - 1)) % 5)))) (wwF ((τ ((o + (n - 1)) % 5)))) (crF ((τ ((o + (n - 1)) % 5)))) (ptF ((τ ((o + (n - 1)) % 5)))))) := by rw [hk]; exact hD
    exact mu_reti hx hb hr hlocks (rfl) hP hD hS dX0_restore_34
  · refine nv_top (1) (hk) ?_
    refine nv_aald (D := D) (r := rr 1) hx hb hK hP 1 1 rfl rfl (k := 1) (by decide) (by decide) rfl dX0_restore_26 ?_
    refine mu_call (ws' := ((wHs h ar rr ra cI cR o (n - 1) τ) ++ (wRp h2 a2 cI ((((τ 1))) 0) ((((τ 1))) 1) ((((τ 1))) 2) (onF (((τ 1)))) (wwF (((τ 1)))) (crF (((τ 1)))) (ptF (((τ 1))))))) [27, 28, 29, 30, 31, 7, 8, 9, 10, 11] [0, 1, 2, 3, 4, 5, 6, 12, 13, 14, 15, 16, 17, 18, 19, 20, 21, 22, 23, 24, 25, 26] [0, 1, 2, 3, 4, 5, 6, 27, 28, 29, 30, 31, 7, 8, 9, 10, 11, 12, 13, 14, 15, 16, 17, 18, 19, 20, 21, 22, 23, 24, 25, 26] [.ref (rr 1)] [] hx hb hml hown hts k_RX0_25 (fun sz => c_X1_become l D cI cR h2 a2 (σ 0) (σ 1) (σ 2) (onF σ) (wwF σ) (crF σ) (ptF σ) (rr 1) ((ra 1)) ((((τ 1))) 0) ((((τ 1))) 1) ((((τ 1))) 2) (onF (((τ 1)))) (wwF (((τ 1)))) (crF (((τ 1)))) (ptF (((τ 1))))  sz) ⟨rfl, rfl, Nat.le_of_ble_eq_true rfl, Nat.le_of_ble_eq_true rfl⟩ hP hD hS hA hK 1 rfl rfl rfl rfl rfl rfl rfl (by decide) rfl rfl rfl hl rfl (Nat.le_of_ble_eq_true rfl) dX0_restore_27 ⟨Nat.zero_le _, Nat.zero_le _⟩ (fun H locs hP hD hS => ?_)
    refine W.eq (g2 := F0 m 30 ls []) rfl ?_
    refine lv_aload_n hx hb dX0_restore_30 rfl (lv_at hl 0 rfl) ?_
    refine va_get (D := D) (ci := 0) (v := .int (nI (n - 1))) (C := RX0) (T := TX0) (N := 3) hx hb hts inX0 hown hK hP 0 rfl rfl 2 (by decide) (hts _ fl_RX0_18) (fun _ h9 => h9) rfl dX0_restore_31 ?_
    have hP : va_P D vwCl ((wHs h ar rr ra cI cR o (n - 1) τ) ++ (wRp h2 a2 cI ((τ ((o + (n - 1)) % 5)) 0) ((τ ((o + (n - 1)) % 5)) 1) ((τ ((o + (n - 1)) % 5)) 2) (onF ((τ ((o + (n - 1)) % 5)))) (wwF ((τ ((o + (n - 1)) % 5)))) (crF ((τ ((o + (n - 1)) % 5)))) (ptF ((τ ((o + (n - 1)) % 5)))))) H := by rw [hk]; exact hP
    have hD : va_D A ((wHs h ar rr ra cI cR o (n - 1) τ) ++ (wRp h2 a2 cI ((τ ((o + (n - 1)) % 5)) 0) ((τ ((o + (n - 1)) % 5)) 1) ((τ ((o + (n - 1)) % 5)) 2) (onF ((τ ((o + (n - 1)) % 5)))) (wwF ((τ ((o + (n - 1)) % 5)))) (crF ((τ ((o + (n - 1)) % 5)))) (ptF ((τ ((o + (n - 1)) % 5)))))) := by rw [hk]; exact hD
    exact mu_reti hx hb hr hlocks (rfl) hP hD hS dX0_restore_34
  · refine nv_top (2) (hk) ?_
    refine nv_aald (D := D) (r := rr 2) hx hb hK hP 1 1 rfl rfl (k := 2) (by decide) (by decide) rfl dX0_restore_26 ?_
    refine mu_call (ws' := ((wHs h ar rr ra cI cR o (n - 1) τ) ++ (wRp h2 a2 cI ((((τ 2))) 0) ((((τ 2))) 1) ((((τ 2))) 2) (onF (((τ 2)))) (wwF (((τ 2)))) (crF (((τ 2)))) (ptF (((τ 2))))))) [27, 28, 29, 30, 31, 12, 13, 14, 15, 16] [0, 1, 2, 3, 4, 5, 6, 7, 8, 9, 10, 11, 17, 18, 19, 20, 21, 22, 23, 24, 25, 26] [0, 1, 2, 3, 4, 5, 6, 7, 8, 9, 10, 11, 27, 28, 29, 30, 31, 12, 13, 14, 15, 16, 17, 18, 19, 20, 21, 22, 23, 24, 25, 26] [.ref (rr 2)] [] hx hb hml hown hts k_RX0_25 (fun sz => c_X1_become l D cI cR h2 a2 (σ 0) (σ 1) (σ 2) (onF σ) (wwF σ) (crF σ) (ptF σ) (rr 2) ((ra 2)) ((((τ 2))) 0) ((((τ 2))) 1) ((((τ 2))) 2) (onF (((τ 2)))) (wwF (((τ 2)))) (crF (((τ 2)))) (ptF (((τ 2))))  sz) ⟨rfl, rfl, Nat.le_of_ble_eq_true rfl, Nat.le_of_ble_eq_true rfl⟩ hP hD hS hA hK 1 rfl rfl rfl rfl rfl rfl rfl (by decide) rfl rfl rfl hl rfl (Nat.le_of_ble_eq_true rfl) dX0_restore_27 ⟨Nat.zero_le _, Nat.zero_le _⟩ (fun H locs hP hD hS => ?_)
    refine W.eq (g2 := F0 m 30 ls []) rfl ?_
    refine lv_aload_n hx hb dX0_restore_30 rfl (lv_at hl 0 rfl) ?_
    refine va_get (D := D) (ci := 0) (v := .int (nI (n - 1))) (C := RX0) (T := TX0) (N := 3) hx hb hts inX0 hown hK hP 0 rfl rfl 2 (by decide) (hts _ fl_RX0_18) (fun _ h9 => h9) rfl dX0_restore_31 ?_
    have hP : va_P D vwCl ((wHs h ar rr ra cI cR o (n - 1) τ) ++ (wRp h2 a2 cI ((τ ((o + (n - 1)) % 5)) 0) ((τ ((o + (n - 1)) % 5)) 1) ((τ ((o + (n - 1)) % 5)) 2) (onF ((τ ((o + (n - 1)) % 5)))) (wwF ((τ ((o + (n - 1)) % 5)))) (crF ((τ ((o + (n - 1)) % 5)))) (ptF ((τ ((o + (n - 1)) % 5)))))) H := by rw [hk]; exact hP
    have hD : va_D A ((wHs h ar rr ra cI cR o (n - 1) τ) ++ (wRp h2 a2 cI ((τ ((o + (n - 1)) % 5)) 0) ((τ ((o + (n - 1)) % 5)) 1) ((τ ((o + (n - 1)) % 5)) 2) (onF ((τ ((o + (n - 1)) % 5)))) (wwF ((τ ((o + (n - 1)) % 5)))) (crF ((τ ((o + (n - 1)) % 5)))) (ptF ((τ ((o + (n - 1)) % 5)))))) := by rw [hk]; exact hD
    exact mu_reti hx hb hr hlocks (rfl) hP hD hS dX0_restore_34
  · refine nv_top (3) (hk) ?_
    refine nv_aald (D := D) (r := rr 3) hx hb hK hP 1 1 rfl rfl (k := 3) (by decide) (by decide) rfl dX0_restore_26 ?_
    refine mu_call (ws' := ((wHs h ar rr ra cI cR o (n - 1) τ) ++ (wRp h2 a2 cI ((((τ 3))) 0) ((((τ 3))) 1) ((((τ 3))) 2) (onF (((τ 3)))) (wwF (((τ 3)))) (crF (((τ 3)))) (ptF (((τ 3))))))) [27, 28, 29, 30, 31, 17, 18, 19, 20, 21] [0, 1, 2, 3, 4, 5, 6, 7, 8, 9, 10, 11, 12, 13, 14, 15, 16, 22, 23, 24, 25, 26] [0, 1, 2, 3, 4, 5, 6, 7, 8, 9, 10, 11, 12, 13, 14, 15, 16, 27, 28, 29, 30, 31, 17, 18, 19, 20, 21, 22, 23, 24, 25, 26] [.ref (rr 3)] [] hx hb hml hown hts k_RX0_25 (fun sz => c_X1_become l D cI cR h2 a2 (σ 0) (σ 1) (σ 2) (onF σ) (wwF σ) (crF σ) (ptF σ) (rr 3) ((ra 3)) ((((τ 3))) 0) ((((τ 3))) 1) ((((τ 3))) 2) (onF (((τ 3)))) (wwF (((τ 3)))) (crF (((τ 3)))) (ptF (((τ 3))))  sz) ⟨rfl, rfl, Nat.le_of_ble_eq_true rfl, Nat.le_of_ble_eq_true rfl⟩ hP hD hS hA hK 1 rfl rfl rfl rfl rfl rfl rfl (by decide) rfl rfl rfl hl rfl (Nat.le_of_ble_eq_true rfl) dX0_restore_27 ⟨Nat.zero_le _, Nat.zero_le _⟩ (fun H locs hP hD hS => ?_)
    refine W.eq (g2 := F0 m 30 ls []) rfl ?_
    refine lv_aload_n hx hb dX0_restore_30 rfl (lv_at hl 0 rfl) ?_
    refine va_get (D := D) (ci := 0) (v := .int (nI (n - 1))) (C := RX0) (T := TX0) (N := 3) hx hb hts inX0 hown hK hP 0 rfl rfl 2 (by decide) (hts _ fl_RX0_18) (fun _ h9 => h9) rfl dX0_restore_31 ?_
    have hP : va_P D vwCl ((wHs h ar rr ra cI cR o (n - 1) τ) ++ (wRp h2 a2 cI ((τ ((o + (n - 1)) % 5)) 0) ((τ ((o + (n - 1)) % 5)) 1) ((τ ((o + (n - 1)) % 5)) 2) (onF ((τ ((o + (n - 1)) % 5)))) (wwF ((τ ((o + (n - 1)) % 5)))) (crF ((τ ((o + (n - 1)) % 5)))) (ptF ((τ ((o + (n - 1)) % 5)))))) H := by rw [hk]; exact hP
    have hD : va_D A ((wHs h ar rr ra cI cR o (n - 1) τ) ++ (wRp h2 a2 cI ((τ ((o + (n - 1)) % 5)) 0) ((τ ((o + (n - 1)) % 5)) 1) ((τ ((o + (n - 1)) % 5)) 2) (onF ((τ ((o + (n - 1)) % 5)))) (wwF ((τ ((o + (n - 1)) % 5)))) (crF ((τ ((o + (n - 1)) % 5)))) (ptF ((τ ((o + (n - 1)) % 5)))))) := by rw [hk]; exact hD
    exact mu_reti hx hb hr hlocks (rfl) hP hD hS dX0_restore_34
  · refine nv_top (4) (hk) ?_
    refine nv_aald (D := D) (r := rr 4) hx hb hK hP 1 1 rfl rfl (k := 4) (by decide) (by decide) rfl dX0_restore_26 ?_
    refine mu_call (ws' := ((wHs h ar rr ra cI cR o (n - 1) τ) ++ (wRp h2 a2 cI ((((τ 4))) 0) ((((τ 4))) 1) ((((τ 4))) 2) (onF (((τ 4)))) (wwF (((τ 4)))) (crF (((τ 4)))) (ptF (((τ 4))))))) [27, 28, 29, 30, 31, 22, 23, 24, 25, 26] [0, 1, 2, 3, 4, 5, 6, 7, 8, 9, 10, 11, 12, 13, 14, 15, 16, 17, 18, 19, 20, 21] [0, 1, 2, 3, 4, 5, 6, 7, 8, 9, 10, 11, 12, 13, 14, 15, 16, 17, 18, 19, 20, 21, 27, 28, 29, 30, 31, 22, 23, 24, 25, 26] [.ref (rr 4)] [] hx hb hml hown hts k_RX0_25 (fun sz => c_X1_become l D cI cR h2 a2 (σ 0) (σ 1) (σ 2) (onF σ) (wwF σ) (crF σ) (ptF σ) (rr 4) ((ra 4)) ((((τ 4))) 0) ((((τ 4))) 1) ((((τ 4))) 2) (onF (((τ 4)))) (wwF (((τ 4)))) (crF (((τ 4)))) (ptF (((τ 4))))  sz) ⟨rfl, rfl, Nat.le_of_ble_eq_true rfl, Nat.le_of_ble_eq_true rfl⟩ hP hD hS hA hK 1 rfl rfl rfl rfl rfl rfl rfl (by decide) rfl rfl rfl hl rfl (Nat.le_of_ble_eq_true rfl) dX0_restore_27 ⟨Nat.zero_le _, Nat.zero_le _⟩ (fun H locs hP hD hS => ?_)
    refine W.eq (g2 := F0 m 30 ls []) rfl ?_
    refine lv_aload_n hx hb dX0_restore_30 rfl (lv_at hl 0 rfl) ?_
    refine va_get (D := D) (ci := 0) (v := .int (nI (n - 1))) (C := RX0) (T := TX0) (N := 3) hx hb hts inX0 hown hK hP 0 rfl rfl 2 (by decide) (hts _ fl_RX0_18) (fun _ h9 => h9) rfl dX0_restore_31 ?_
    have hP : va_P D vwCl ((wHs h ar rr ra cI cR o (n - 1) τ) ++ (wRp h2 a2 cI ((τ ((o + (n - 1)) % 5)) 0) ((τ ((o + (n - 1)) % 5)) 1) ((τ ((o + (n - 1)) % 5)) 2) (onF ((τ ((o + (n - 1)) % 5)))) (wwF ((τ ((o + (n - 1)) % 5)))) (crF ((τ ((o + (n - 1)) % 5)))) (ptF ((τ ((o + (n - 1)) % 5)))))) H := by rw [hk]; exact hP
    have hD : va_D A ((wHs h ar rr ra cI cR o (n - 1) τ) ++ (wRp h2 a2 cI ((τ ((o + (n - 1)) % 5)) 0) ((τ ((o + (n - 1)) % 5)) 1) ((τ ((o + (n - 1)) % 5)) 2) (onF ((τ ((o + (n - 1)) % 5)))) (wwF ((τ ((o + (n - 1)) % 5)))) (crF ((τ ((o + (n - 1)) % 5)))) (ptF ((τ ((o + (n - 1)) % 5)))))) := by rw [hk]; exact hD
    exact mu_reti hx hb hr hlocks (rfl) hP hD hS dX0_restore_34
set_option maxHeartbeats 4000000 in
set_option maxRecDepth 100000 in
theorem c_X2_isFull (l : Launch) (D : va_G) (cI cR : ClassId) (h : Nat) (a : Nat → Nat) (tx : Nat → Int32) (ln : Nat) (wf0 : Nat → Int32) (fo : Nat)   (hl0 : ln ≤ 100) : MetR l yX2_isFull cX2_isFull 1 (some .boolean) (rmK 0 0) (nPre D (nTy cI cR) [.ref h] (wTx h a cI tx ln wf0 fo)) (zB (ln == 100)) := by
  refine met_read rfl (Nat.le_of_ble_eq_true rfl) ?_
  intro p e s m args below meth c ls hx hb hml hr hlocks hown hts hP hK hl
  have hl : lv_has ls 1 [(0, .ref h)] := hl
  refine lv_aload_n hx hb dX2_isFull_0 rfl (lv_at hl 0 rfl) ?_
  refine va_get (D := D) (ci := 2) (v := .int (nI ln)) (C := RX2) (T := TX2) (N := 4) hx hb hts inX2 hown hK hP 0 rfl rfl 1 (by decide) (hts _ fl_RX2_18) (fun _ h9 => h9) rfl dX2_isFull_1 ?_
  refine lv_bipush (v := nI 100) hx hb dX2_isFull_4 (by decide) ?_
  refine nv_icmp_ne (tgt := 13) hx hb dX2_isFull_6 (by decide) (by omega) (by omega) (fun q_6 => ?_) (fun q_6 => ?_)
  · refine lv_iconst (v := nI 0) hx hb dX2_isFull_13 (by decide) ?_
    exact nv_retz hx hb hr hlocks (by decide) (by first | exact zB_1 (by simp [q_6]) | exact zB_0 (by simp [q_6])) dX2_isFull_14
  · refine lv_iconst (v := nI 1) hx hb dX2_isFull_9 (by decide) ?_
    refine lv_goto (tgt := 14) hx hb dX2_isFull_10 (by decide) ?_
    exact nv_retz hx hb hr hlocks (by decide) (by first | exact zB_1 (by simp [q_6]) | exact zB_0 (by simp [q_6])) dX2_isFull_14
set_option maxHeartbeats 4000000 in
set_option maxRecDepth 100000 in
theorem c_X2_append (l : Launch) (D : va_G) (cI cR : ClassId) (h : Nat) (a : Nat → Nat) (tx : Nat → Int32) (ln : Nat) (wf0 : Nat → Int32) (fo : Nat) (x : Int32)  (hl0 : ln < 100) (sz : Nat) : Met l yX2_append (wsC yX2_append cX2_append 2 (some .int)) (rmK 0 0) (nPreM D (nTy cI cR) [.ref h, .int x] (wTx h a cI tx ln wf0 fo) sz) (QcM D (some (.int (nI (ln + 1)))) (wTx h a cI (upd tx ln x) (ln + 1) wf0 fo) (va_A (wTx h a cI tx ln wf0 fo) sz)) 0 0 (va_A (wTx h a cI tx ln wf0 fo) sz) := by
  refine met_mut (Qc := fun A => QcM D (some (.int (nI (ln + 1)))) (wTx h a cI (upd tx ln x) (ln + 1) wf0 fo) A) rfl (Nat.le_of_ble_eq_true rfl) ?_
  intro p e s m args below meth c ls A H locs hx hb hml hr hlocks hown hts hP hK hD hA hS hl
  have hl : lv_has ls 2 [(0, .ref h), (1, .int x)] := hl
  refine lv_aload_n hx hb dX2_append_0 rfl (lv_at hl 0 rfl) ?_
  refine va_get (D := D) (ci := 2) (v := .ref (a 0)) (C := RX2) (T := TX2) (N := 4) hx hb hts inX2 hown hK hP 0 rfl rfl 0 (by decide) (hts _ fl_RX2_9) (fun _ h9 => h9) rfl dX2_append_1 ?_
  refine lv_aload_n hx hb dX2_append_4 rfl (lv_at hl 0 rfl) ?_
  refine va_get (D := D) (ci := 2) (v := .int (nI ln)) (C := RX2) (T := TX2) (N := 4) hx hb hts inX2 hown hK hP 0 rfl rfl 1 (by decide) (hts _ fl_RX2_18) (fun _ h9 => h9) rfl dX2_append_5 ?_
  refine lv_iload_n hx hb dX2_append_8 rfl (lv_at hl 1 rfl) ?_
  refine nv_iast (D := D) (ws' := (wTx h a cI (upd tx ln x) ln wf0 fo)) hx hb hK hP hD hS 1 0 rfl rfl (k := ln) (by omega) (by decide) rfl dX2_append_9 (fun H locs hP hD hS => ?_)
  refine lv_aload_n hx hb dX2_append_10 rfl (lv_at hl 0 rfl) ?_
  refine lv_dup hx hb dX2_append_11 rfl ?_
  refine va_get (D := D) (ci := 2) (v := .int (nI ln)) (C := RX2) (T := TX2) (N := 4) hx hb hts inX2 hown hK hP 0 rfl rfl 1 (by decide) (hts _ fl_RX2_18) (fun _ h9 => h9) rfl dX2_append_12 ?_
  refine lv_iconst (v := nI 1) hx hb dX2_append_15 (by decide) ?_
  refine nv_iadd hx hb dX2_append_16 ?_
  refine va_put (D := D) (ci := 2) (v := .int (nI (ln + 1))) (ty := .int) (C := RX2) (T := TX2) (N := 4) hx hb hts inX2 tyX2 tyX2_ok nmX2 hown hK hP hD hS 0 rfl rfl 1 (by decide) (hts _ fl_RX2_18) (fun _ h9 => h9) rfl (by decide +kernel) rfl rfl (Nat.le_of_ble_eq_true rfl) dX2_append_17 (fun H locs hP hD hS => ?_)
  have hP : va_P D vwCl (wTx h a cI (upd tx ln x) (ln + 1) wf0 fo) H := hP
  have hD : va_D A (wTx h a cI (upd tx ln x) (ln + 1) wf0 fo) := hD
  refine lv_aload_n hx hb dX2_append_20 rfl (lv_at hl 0 rfl) ?_
  refine va_get (D := D) (ci := 2) (v := .int (nI (ln + 1))) (C := RX2) (T := TX2) (N := 4) hx hb hts inX2 hown hK hP 0 rfl rfl 1 (by decide) (hts _ fl_RX2_18) (fun _ h9 => h9) rfl dX2_append_21 ?_
  exact mu_reti hx hb hr hlocks (rfl) hP hD hS dX2_append_24
set_option maxHeartbeats 4000000 in
set_option maxRecDepth 100000 in
theorem c_X2_empty (l : Launch) (D : va_G) (cI cR : ClassId) (h : Nat) (a : Nat → Nat) (tx : Nat → Int32) (ln : Nat) (wf0 : Nat → Int32) (fo : Nat)    (sz : Nat) : Met l yX2_empty (wsC yX2_empty cX2_empty 2 (some .int)) (rmK 0 0) (nPreM D (nTy cI cR) [.ref h] (wTx h a cI tx ln wf0 fo) sz) (QcM D (some (.int (nI (ln)))) (wTx h a cI tx 0 wf0 fo) (va_A (wTx h a cI tx ln wf0 fo) sz)) 0 0 (va_A (wTx h a cI tx ln wf0 fo) sz) := by
  refine met_mut (Qc := fun A => QcM D (some (.int (nI (ln)))) (wTx h a cI tx 0 wf0 fo) A) rfl (Nat.le_of_ble_eq_true rfl) ?_
  intro p e s m args below meth c ls A H locs hx hb hml hr hlocks hown hts hP hK hD hA hS hl
  have hl : lv_has ls 2 [(0, .ref h)] := hl
  refine lv_aload_n hx hb dX2_empty_0 rfl (lv_at hl 0 rfl) ?_
  refine va_get (D := D) (ci := 2) (v := .int (nI ln)) (C := RX2) (T := TX2) (N := 4) hx hb hts inX2 hown hK hP 0 rfl rfl 1 (by decide) (hts _ fl_RX2_18) (fun _ h9 => h9) rfl dX2_empty_1 ?_
  refine lv_istore_n (lv' := [(1, .int (nI ln)), (0, .ref h)]) hx hb dX2_empty_4 rfl hl (by decide) rfl (fun ls hl => ?_)
  refine lv_aload_n hx hb dX2_empty_5 rfl (lv_at hl 1 rfl) ?_
  refine lv_iconst (v := nI 0) hx hb dX2_empty_6 (by decide) ?_
  refine va_put (D := D) (ci := 2) (v := .int (nI 0)) (ty := .int) (C := RX2) (T := TX2) (N := 4) hx hb hts inX2 tyX2 tyX2_ok nmX2 hown hK hP hD hS 0 rfl rfl 1 (by decide) (hts _ fl_RX2_18) (fun _ h9 => h9) rfl (by decide +kernel) rfl rfl (Nat.le_of_ble_eq_true rfl) dX2_empty_7 (fun H locs hP hD hS => ?_)
  have hP : va_P D vwCl (wTx h a cI tx 0 wf0 fo) H := hP
  have hD : va_D A (wTx h a cI tx 0 wf0 fo) := hD
  refine lv_iload_n hx hb dX2_empty_10 rfl (lv_at hl 0 rfl) ?_
  exact mu_reti hx hb hr hlocks (rfl) hP hD hS dX2_empty_11
set_option maxHeartbeats 4000000 in
set_option maxRecDepth 100000 in
theorem c_X2_wordsFound (l : Launch) (D : va_G) (cI cR : ClassId) (h : Nat) (a : Nat → Nat) (tx : Nat → Int32) (ln : Nat) (wf0 : Nat → Int32) (fo : Nat)    : MetR l yX2_wordsFound cX2_wordsFound 1 (some .int) (rmK 0 0) (nPre D (nTy cI cR) [.ref h] (wTx h a cI tx ln wf0 fo)) (nI (fo)) := by
  refine met_read rfl (Nat.le_of_ble_eq_true rfl) ?_
  intro p e s m args below meth c ls hx hb hml hr hlocks hown hts hP hK hl
  have hl : lv_has ls 1 [(0, .ref h)] := hl
  refine lv_aload_n hx hb dX2_wordsFound_0 rfl (lv_at hl 0 rfl) ?_
  refine va_get (D := D) (ci := 2) (v := .int (nI fo)) (C := RX2) (T := TX2) (N := 4) hx hb hts inX2 hown hK hP 0 rfl rfl 3 (by decide) (hts _ fl_RX2_22) (fun _ h9 => h9) rfl dX2_wordsFound_1 ?_
  exact nv_ret hx hb hr hlocks (rfl) dX2_wordsFound_4
set_option maxHeartbeats 4000000 in
set_option maxRecDepth 100000 in
theorem c_X2_wordFound (l : Launch) (D : va_G) (cI cR : ClassId) (h : Nat) (a : Nat → Nat) (tx : Nat → Int32) (ln : Nat) (wf0 : Nat → Int32) (fo : Nat) (k : Nat)  (h1 : k < 48) : MetR l yX2_wordFound cX2_wordFound 2 (some .int) (rmK 0 0) (nPre D (nTy cI cR) [.ref h, .int (nI k)] (wTx h a cI tx ln wf0 fo)) (wf0 k) := by
  refine met_read rfl (Nat.le_of_ble_eq_true rfl) ?_
  intro p e s m args below meth c ls hx hb hml hr hlocks hown hts hP hK hl
  have hl : lv_has ls 2 [(0, .ref h), (1, .int (nI k))] := hl
  refine lv_aload_n hx hb dX2_wordFound_0 rfl (lv_at hl 0 rfl) ?_
  refine va_get (D := D) (ci := 2) (v := .ref (a 1)) (C := RX2) (T := TX2) (N := 4) hx hb hts inX2 hown hK hP 0 rfl rfl 2 (by decide) (hts _ fl_RX2_15) (fun _ h9 => h9) rfl dX2_wordFound_1 ?_
  refine lv_iload_n hx hb dX2_wordFound_4 rfl (lv_at hl 1 rfl) ?_
  refine nv_iald (D := D) (v := wf0 k) hx hb hK hP 2 0 rfl rfl (k := k) (by omega) (by decide) (rfl) dX2_wordFound_5 ?_
  exact nv_ret hx hb hr hlocks (rfl) dX2_wordFound_6
end
section
/-! ===== the text: what a scan finds ===== -/
def scStep (b : Nat → Nat) (A hw i pl st wd fo : Nat) (g : Nat → Nat) : Option Nat × Nat × Nat × Nat × Nat × (Nat → Nat) :=
  if 48 ≤ b i ∧ b i < 56 then
    if pl = 2 ∨ (pl = 0 ∧ fo = A) then (some i, pl, st, wd, fo, g)
    else if pl = 0 then
      if 4 ≤ i - i ∨ hw < 8 * 0 + b i - 48 then (some i, 1, i, 8 * 0 + b i - 48, fo + 1, g) else (none, 1, i, 8 * 0 + b i - 48, fo + 1, va_up g (fo + 1 - 1) (8 * 0 + b i - 48))
    else if 4 ≤ i - st ∨ hw < 8 * wd + b i - 48 then (some st, pl, st, 8 * wd + b i - 48, fo, g) else (none, pl, st, 8 * wd + b i - 48, fo, va_up g (fo - 1) (8 * wd + b i - 48))
  else if b i = 44 ∧ ¬ pl = 0 then (none, 0, st, wd, fo, g)
  else if b i = 32 then (if pl = 1 then (none, 2, st, wd, fo, g) else (none, pl, st, wd, fo, g))
  else (some i, pl, st, wd, fo, g)
def scNext (b : Nat → Nat) (A hw i : Nat) (s : Option Nat × Nat × Nat × Nat × Nat × (Nat → Nat)) : Option Nat × Nat × Nat × Nat × Nat × (Nat → Nat) := match s.1 with
  | some _ => s
  | none => scStep b A hw i s.2.1 s.2.2.1 s.2.2.2.1 s.2.2.2.2.1 s.2.2.2.2.2
def scRun (b : Nat → Nat) (A hw : Nat) (g : Nat → Nat) : Nat → Option Nat × Nat × Nat × Nat × Nat × (Nat → Nat)
  | 0 => (none, 0, 0, 0, 0, g)
  | n + 1 => scNext b A hw n (scRun b A hw g n)
def scRes (b : Nat → Nat) (A hw : Nat) (g : Nat → Nat) (ln : Nat) : Int32 := match (scRun b A hw g ln).1 with
  | some r => nI r
  | none => if (scRun b A hw g ln).2.1 = 0 then nI ln else -1
theorem sc_one {b : Nat → Nat} {A hw : Nat} {g : Nat → Nat} {i pl st wd fo : Nat} {gg : Nat → Nat} {t : Option Nat × Nat × Nat × Nat × Nat × (Nat → Nat)} (h : scRun b A hw g i = (none, pl, st, wd, fo, gg)) (h2 : scStep b A hw i pl st wd fo gg = t) : scRun b A hw g (i + 1) = t := by
  rw [scRun, h]
  exact h2
theorem sc_stop {b : Nat → Nat} {A hw : Nat} {g : Nat → Nat} {i r : Nat} {t : Nat × Nat × Nat × Nat × (Nat → Nat)} (h : scRun b A hw g i = (some r, t)) : ∀ {m : Nat}, i ≤ m → scRun b A hw g m = (some r, t)
  | 0, hm => by rw [show i = 0 by omega] at h; exact h
  | m + 1, hm => by
    by_cases e : i = m + 1
    · subst e
      exact h
    · rw [scRun, sc_stop h (m := m) (by omega)]
      rfl
theorem scRes_some {b : Nat → Nat} {A hw : Nat} {g : Nat → Nat} {ln r : Nat} {t : Nat × Nat × Nat × Nat × (Nat → Nat)} (h : scRun b A hw g ln = (some r, t)) : nI r = scRes b A hw g ln := by
  unfold scRes
  rw [h]
theorem scRes_0 {b : Nat → Nat} {A hw : Nat} {g : Nat → Nat} {ln st wd fo pl : Nat} {gg : Nat → Nat} (h : scRun b A hw g ln = (none, pl, st, wd, fo, gg)) (h0 : pl = 0) : nI ln = scRes b A hw g ln := by
  unfold scRes
  rw [h]
  exact (if_pos h0).symm
theorem scRes_n {b : Nat → Nat} {A hw : Nat} {g : Nat → Nat} {ln st wd fo pl : Nat} {gg : Nat → Nat} (h : scRun b A hw g ln = (none, pl, st, wd, fo, gg)) (h0 : ¬ pl = 0) : -1 = scRes b A hw g ln := by
  unfold scRes
  rw [h]
  exact (if_neg h0).symm
end
section
set_option maxHeartbeats 4000000 in
set_option maxRecDepth 100000 in
theorem c_X2_scan (l : Launch) (D : va_G) (cI cR : ClassId) (h : Nat) (a : Nat → Nat) (b : Nat → Nat) (ln : Nat) (g : Nat → Nat) (fo0 : Nat) (na : Nat) (hw : Nat)  (hb0 : ∀ i, i < ln → b i < 256) (hln : ln ≤ 100) (hA1 : na ≤ 48) (hh1 : hw ≤ 1023) (sz : Nat) : Met l yX2_scan (wsC yX2_scan cX2_scan 8 (some .int)) (rmK 0 0) (nPreM D (nTy cI cR) [.ref h, .int (nI na), .int (nI hw)] (wTx h a cI (nF b) ln (nF g) fo0) sz) (QcM D (some (.int (scRes b na hw g ln))) (wTx h a cI (nF b) ln (nF (scRun b na hw g ln).2.2.2.2.2) ((scRun b na hw g ln).2.2.2.2.1)) (va_A (wTx h a cI (nF b) ln (nF g) fo0) sz)) 0 0 (va_A (wTx h a cI (nF b) ln (nF g) fo0) sz) := by
  refine met_mut (Qc := fun A => QcM D (some (.int (scRes b na hw g ln))) (wTx h a cI (nF b) ln (nF (scRun b na hw g ln).2.2.2.2.2) ((scRun b na hw g ln).2.2.2.2.1)) A) rfl (Nat.le_of_ble_eq_true rfl) ?_
  intro p e s m args below meth c ls A H locs hx hb hml hr hlocks hown hts hP hK hD hA hS hl
  have hl : lv_has ls 8 [(0, .ref h), (1, .int (nI na)), (2, .int (nI hw))] := hl
  refine lv_iconst (v := nI 0) hx hb dX2_scan_0 (by decide) ?_
  refine lv_istore_n (lv' := [(3, .int (nI 0)), (0, .ref h), (1, .int (nI na)), (2, .int (nI hw))]) hx hb dX2_scan_1 rfl hl (by decide) rfl (fun ls hl => ?_)
  refine lv_iconst (v := nI 0) hx hb dX2_scan_2 (by decide) ?_
  refine lv_istore (lv' := [(4, .int (nI 0)), (3, .int (nI 0)), (0, .ref h), (1, .int (nI na)), (2, .int (nI hw))]) hx hb dX2_scan_3 hl (by decide) rfl (fun ls hl => ?_)
  refine lv_iconst (v := nI 0) hx hb dX2_scan_5 (by decide) ?_
  refine lv_istore (lv' := [(5, .int (nI 0)), (4, .int (nI 0)), (3, .int (nI 0)), (0, .ref h), (1, .int (nI na)), (2, .int (nI hw))]) hx hb dX2_scan_6 hl (by decide) rfl (fun ls hl => ?_)
  refine lv_aload_n hx hb dX2_scan_8 rfl (lv_at hl 3 rfl) ?_
  refine lv_iconst (v := nI 0) hx hb dX2_scan_9 (by decide) ?_
  refine va_put (D := D) (ci := 2) (v := .int (nI 0)) (ty := .int) (C := RX2) (T := TX2) (N := 4) hx hb hts inX2 tyX2 tyX2_ok nmX2 hown hK hP hD hS 0 rfl rfl 3 (by decide) (hts _ fl_RX2_22) (fun _ h9 => h9) rfl (by decide +kernel) rfl rfl (Nat.le_of_ble_eq_true rfl) dX2_scan_10 (fun H locs hP hD hS => ?_)
  have hP : va_P D vwCl (wTx h a cI (nF b) ln (nF g) 0) H := hP
  have hD : va_D A (wTx h a cI (nF b) ln (nF g) 0) := hD
  refine lv_iconst (v := nI 0) hx hb dX2_scan_13 (by decide) ?_
  refine lv_istore (lv' := [(6, .int (nI 0)), (5, .int (nI 0)), (4, .int (nI 0)), (3, .int (nI 0)), (0, .ref h), (1, .int (nI na)), (2, .int (nI hw))]) hx hb dX2_scan_14 hl (by decide) rfl (fun ls hl => ?_)
  have L16 : ∀ (n16 i : Nat) (pl : Nat) (st : Nat) (wd : Nat) (fo : Nat) (gg : Nat → Nat), ln + 1 ≤ i + n16 → i ≤ ln → (scRun b na hw g i = (none, pl, st, wd, fo, gg)) → (pl ≤ 2) → (st ≤ i) → (fo ≤ na) → (¬ pl = 0 → 1 ≤ fo) → (wd ≤ hw) → ∀ (H : Heap) (locs : List Loc), va_P D vwCl (wTx h a cI (nF b) ln (nF gg) fo) H → va_D A (wTx h a cI (nF b) ln (nF gg) fo) → va_S A s.heap H locs → ∀ (ls : Array Slot), lv_has ls 8 [(0, .ref h), (1, .int (nI na)), (2, .int (nI hw)), (3, .int (nI pl)), (4, .int (nI st)), (5, .int (nI wd)), (6, .int (nI i))] → W p l e (rmK 0 0) s m args below meth c H locs 0 0 (MQ below (QcM D (some (.int (scRes b na hw g ln))) (wTx h a cI (nF b) ln (nF (scRun b na hw g ln).2.2.2.2.2) ((scRun b na hw g ln).2.2.2.2.1)) A) args s 0 0 A) (F0 m 16 ls []) := by
    intro n16
    induction n16 with
    | zero =>
      intro i pl st wd fo gg h1_16 h2_16
      exact False.elim (by omega)
    | succ n16 ih16 =>
      intro i pl st wd fo gg h1_16 h2_16 hrun hpl hst hfo hf1 hwd H locs hP hD hS ls hl
      refine lv_iload hx hb dX2_scan_16 (lv_at hl 6 rfl) ?_
      refine lv_aload_n hx hb dX2_scan_18 rfl (lv_at hl 0 rfl) ?_
      refine va_get (D := D) (ci := 2) (v := .int (nI ln)) (C := RX2) (T := TX2) (N := 4) hx hb hts inX2 hown hK hP 0 rfl rfl 1 (by decide) (hts _ fl_RX2_18) (fun _ h9 => h9) rfl dX2_scan_19 ?_
      refine nv_icmp_ge (tgt := 184) hx hb dX2_scan_22 (by decide) (by omega) (by omega) (fun q_22 => ?_) (fun q_22 => ?_)
      · refine lv_iload_n hx hb dX2_scan_184 rfl (lv_at hl 3 rfl) ?_
        refine nv_if_ne (tgt := 195) hx hb dX2_scan_185 (by decide) (by omega) (fun q_185 => ?_) (fun q_185 => ?_)
        · refine lv_iconst (v := -1) hx hb dX2_scan_195 (by decide) ?_
          have hr2 : scRun b na hw g ln = (none, pl, st, wd, fo, gg) := by rw [← show i = ln by omega]; exact hrun
          have hP : va_P D vwCl (wTx h a cI (nF b) ln (nF (scRun b na hw g ln).2.2.2.2.2) ((scRun b na hw g ln).2.2.2.2.1)) H := by rw [hr2]; exact hP
          have hD : va_D A (wTx h a cI (nF b) ln (nF (scRun b na hw g ln).2.2.2.2.2) ((scRun b na hw g ln).2.2.2.2.1)) := by rw [hr2]; exact hD
          exact mu_reti hx hb hr hlocks (scRes_n hr2 q_185) hP hD hS dX2_scan_196
        · refine lv_aload_n hx hb dX2_scan_188 rfl (lv_at hl 0 rfl) ?_
          refine va_get (D := D) (ci := 2) (v := .int (nI ln)) (C := RX2) (T := TX2) (N := 4) hx hb hts inX2 hown hK hP 0 rfl rfl 1 (by decide) (hts _ fl_RX2_18) (fun _ h9 => h9) rfl dX2_scan_189 ?_
          refine lv_goto (tgt := 196) hx hb dX2_scan_192 (by decide) ?_
          have hr2 : scRun b na hw g ln = (none, pl, st, wd, fo, gg) := by rw [← show i = ln by omega]; exact hrun
          have hP : va_P D vwCl (wTx h a cI (nF b) ln (nF (scRun b na hw g ln).2.2.2.2.2) ((scRun b na hw g ln).2.2.2.2.1)) H := by rw [hr2]; exact hP
          have hD : va_D A (wTx h a cI (nF b) ln (nF (scRun b na hw g ln).2.2.2.2.2) ((scRun b na hw g ln).2.2.2.2.1)) := by rw [hr2]; exact hD
          exact mu_reti hx hb hr hlocks (scRes_0 hr2 q_185) hP hD hS dX2_scan_196
      · refine lv_aload_n hx hb dX2_scan_25 rfl (lv_at hl 0 rfl) ?_
        refine va_get (D := D) (ci := 2) (v := .ref (a 0)) (C := RX2) (T := TX2) (N := 4) hx hb hts inX2 hown hK hP 0 rfl rfl 0 (by decide) (hts _ fl_RX2_9) (fun _ h9 => h9) rfl dX2_scan_26 ?_
        refine lv_iload hx hb dX2_scan_29 (lv_at hl 6 rfl) ?_
        refine nv_iald (D := D) (v := nI (b i)) hx hb hK hP 1 0 rfl rfl (k := i) (by omega) (by decide) (rfl) dX2_scan_31 ?_
        refine lv_istore (lv' := [(7, .int (nI (b i))), (0, .ref h), (1, .int (nI na)), (2, .int (nI hw)), (3, .int (nI pl)), (4, .int (nI st)), (5, .int (nI wd)), (6, .int (nI i))]) hx hb dX2_scan_32 hl (by decide) rfl (fun ls hl => ?_)
        have hbi := hb0 i (by omega)
        refine lv_iload hx hb dX2_scan_34 (lv_at hl 0 rfl) ?_
        refine lv_bipush (v := nI 48) hx hb dX2_scan_36 (by decide) ?_
        refine nv_icmp_lt (tgt := 138) hx hb dX2_scan_38 (by decide) (by omega) (by omega) (fun q_38 => ?_) (fun q_38 => ?_)
        · refine lv_iload hx hb dX2_scan_138 (lv_at hl 0 rfl) ?_
          refine lv_bipush (v := nI 44) hx hb dX2_scan_140 (by decide) ?_
          refine nv_icmp_ne (tgt := 154) hx hb dX2_scan_142 (by decide) (by omega) (by omega) (fun q_142 => ?_) (fun q_142 => ?_)
          · refine lv_iload hx hb dX2_scan_154 (lv_at hl 0 rfl) ?_
            refine lv_bipush (v := nI 32) hx hb dX2_scan_156 (by decide) ?_
            refine nv_icmp_ne (tgt := 175) hx hb dX2_scan_158 (by decide) (by omega) (by omega) (fun q_158 => ?_) (fun q_158 => ?_)
            · refine lv_iload hx hb dX2_scan_175 (lv_at hl 7 rfl) ?_
              have hr1 : scRun b na hw g (i + 1) = (some (i), pl, st, wd, fo, gg) := sc_one hrun (by unfold scStep; rw [if_neg (by omega), if_neg (by omega), if_neg (by omega)])
              have hr2 : scRun b na hw g ln = (some (i), pl, st, wd, fo, gg) := sc_stop hr1 (by omega)
              have hP : va_P D vwCl (wTx h a cI (nF b) ln (nF (scRun b na hw g ln).2.2.2.2.2) ((scRun b na hw g ln).2.2.2.2.1)) H := by rw [hr2]; exact hP
              have hD : va_D A (wTx h a cI (nF b) ln (nF (scRun b na hw g ln).2.2.2.2.2) ((scRun b na hw g ln).2.2.2.2.1)) := by rw [hr2]; exact hD
              exact mu_reti hx hb hr hlocks (scRes_some hr2) hP hD hS dX2_scan_177
            · refine lv_iload_n hx hb dX2_scan_161 rfl (lv_at hl 4 rfl) ?_
              refine lv_iconst (v := nI 1) hx hb dX2_scan_162 (by decide) ?_
              refine nv_icmp_ne (tgt := 170) hx hb dX2_scan_163 (by decide) (by omega) (by omega) (fun q_163 => ?_) (fun q_163 => ?_)
              · refine lv_iload_n hx hb dX2_scan_170 rfl (lv_at hl 4 rfl) ?_
                refine lv_istore_n (lv' := [(3, .int (nI pl)), (7, .int (nI (b i))), (0, .ref h), (1, .int (nI na)), (2, .int (nI hw)), (4, .int (nI st)), (5, .int (nI wd)), (6, .int (nI i))]) hx hb dX2_scan_171 rfl hl (by decide) rfl (fun ls hl => ?_)
                refine lv_goto (tgt := 178) hx hb dX2_scan_172 (by decide) ?_
                refine nv_inc (k := 7) (lv' := [(6, .int (nI (i + 1))), (3, .int (nI pl)), (7, .int (nI (b i))), (0, .ref h), (1, .int (nI na)), (2, .int (nI hw)), (4, .int (nI st)), (5, .int (nI wd))]) hx hb dX2_scan_178 hl rfl (by decide) rfl (fun ls hl => ?_)
                refine lv_goto (tgt := 16) hx hb dX2_scan_181 (by decide) ?_
                exact ih16 (i + 1) pl st wd fo gg (by omega) (by omega) (sc_one hrun (by unfold scStep; rw [if_neg (by omega), if_neg (by omega), if_pos (by omega), if_neg (by omega)])) (by omega) (by omega) (by omega) (by omega) (by omega) _ _ hP hD hS ls (lv_sub hl [3, 4, 5, 1, 6, 7, 0] rfl)
              · refine lv_iconst (v := nI 2) hx hb dX2_scan_166 (by decide) ?_
                refine lv_goto (tgt := 171) hx hb dX2_scan_167 (by decide) ?_
                refine lv_istore_n (lv' := [(3, .int (nI 2)), (7, .int (nI (b i))), (0, .ref h), (1, .int (nI na)), (2, .int (nI hw)), (4, .int (nI st)), (5, .int (nI wd)), (6, .int (nI i))]) hx hb dX2_scan_171 rfl hl (by decide) rfl (fun ls hl => ?_)
                refine lv_goto (tgt := 178) hx hb dX2_scan_172 (by decide) ?_
                refine nv_inc (k := 7) (lv' := [(6, .int (nI (i + 1))), (3, .int (nI 2)), (7, .int (nI (b i))), (0, .ref h), (1, .int (nI na)), (2, .int (nI hw)), (4, .int (nI st)), (5, .int (nI wd))]) hx hb dX2_scan_178 hl rfl (by decide) rfl (fun ls hl => ?_)
                refine lv_goto (tgt := 16) hx hb dX2_scan_181 (by decide) ?_
                exact ih16 (i + 1) 2 st wd fo gg (by omega) (by omega) (sc_one hrun (by unfold scStep; rw [if_neg (by omega), if_neg (by omega), if_pos (by omega), if_pos (by omega)])) (by omega) (by omega) (by omega) (by omega) (by omega) _ _ hP hD hS ls (lv_sub hl [3, 4, 5, 1, 6, 7, 0] rfl)
          · refine lv_iload_n hx hb dX2_scan_145 rfl (lv_at hl 4 rfl) ?_
            refine nv_if_eq (tgt := 154) hx hb dX2_scan_146 (by decide) (by omega) (fun q_146 => ?_) (fun q_146 => ?_)
            · refine lv_iload hx hb dX2_scan_154 (lv_at hl 0 rfl) ?_
              refine lv_bipush (v := nI 32) hx hb dX2_scan_156 (by decide) ?_
              refine nv_icmp_ne (tgt := 175) hx hb dX2_scan_158 (by decide) (by omega) (by omega) (fun q_158 => ?_) (fun q_158 => ?_)
              · refine lv_iload hx hb dX2_scan_175 (lv_at hl 7 rfl) ?_
                have hr1 : scRun b na hw g (i + 1) = (some (i), pl, st, wd, fo, gg) := sc_one hrun (by unfold scStep; rw [if_neg (by omega), if_neg (by omega), if_neg (by omega)])
                have hr2 : scRun b na hw g ln = (some (i), pl, st, wd, fo, gg) := sc_stop hr1 (by omega)
                have hP : va_P D vwCl (wTx h a cI (nF b) ln (nF (scRun b na hw g ln).2.2.2.2.2) ((scRun b na hw g ln).2.2.2.2.1)) H := by rw [hr2]; exact hP
                have hD : va_D A (wTx h a cI (nF b) ln (nF (scRun b na hw g ln).2.2.2.2.2) ((scRun b na hw g ln).2.2.2.2.1)) := by rw [hr2]; exact hD
                exact mu_reti hx hb hr hlocks (scRes_some hr2) hP hD hS dX2_scan_177
              · refine lv_iload_n hx hb dX2_scan_161 rfl (lv_at hl 4 rfl) ?_
                refine lv_iconst (v := nI 1) hx hb dX2_scan_162 (by decide) ?_
                refine nv_icmp_ne (tgt := 170) hx hb dX2_scan_163 (by decide) (by omega) (by omega) (fun q_163 => ?_) (fun q_163 => ?_)
                · refine lv_iload_n hx hb dX2_scan_170 rfl (lv_at hl 4 rfl) ?_
                  refine lv_istore_n (lv' := [(3, .int (nI pl)), (7, .int (nI (b i))), (0, .ref h), (1, .int (nI na)), (2, .int (nI hw)), (4, .int (nI st)), (5, .int (nI wd)), (6, .int (nI i))]) hx hb dX2_scan_171 rfl hl (by decide) rfl (fun ls hl => ?_)
                  refine lv_goto (tgt := 178) hx hb dX2_scan_172 (by decide) ?_
                  refine nv_inc (k := 7) (lv' := [(6, .int (nI (i + 1))), (3, .int (nI pl)), (7, .int (nI (b i))), (0, .ref h), (1, .int (nI na)), (2, .int (nI hw)), (4, .int (nI st)), (5, .int (nI wd))]) hx hb dX2_scan_178 hl rfl (by decide) rfl (fun ls hl => ?_)
                  refine lv_goto (tgt := 16) hx hb dX2_scan_181 (by decide) ?_
                  exact ih16 (i + 1) pl st wd fo gg (by omega) (by omega) (sc_one hrun (by unfold scStep; rw [if_neg (by omega), if_neg (by omega), if_pos (by omega), if_neg (by omega)])) (by omega) (by omega) (by omega) (by omega) (by omega) _ _ hP hD hS ls (lv_sub hl [3, 4, 5, 1, 6, 7, 0] rfl)
                · refine lv_iconst (v := nI 2) hx hb dX2_scan_166 (by decide) ?_
                  refine lv_goto (tgt := 171) hx hb dX2_scan_167 (by decide) ?_
                  refine lv_istore_n (lv' := [(3, .int (nI 2)), (7, .int (nI (b i))), (0, .ref h), (1, .int (nI na)), (2, .int (nI hw)), (4, .int (nI st)), (5, .int (nI wd)), (6, .int (nI i))]) hx hb dX2_scan_171 rfl hl (by decide) rfl (fun ls hl => ?_)
                  refine lv_goto (tgt := 178) hx hb dX2_scan_172 (by decide) ?_
                  refine nv_inc (k := 7) (lv' := [(6, .int (nI (i + 1))), (3, .int (nI 2)), (7, .int (nI (b i))), (0, .ref h), (1, .int (nI na)), (2, .int (nI hw)), (4, .int (nI st)), (5, .int (nI wd))]) hx hb dX2_scan_178 hl rfl (by decide) rfl (fun ls hl => ?_)
                  refine lv_goto (tgt := 16) hx hb dX2_scan_181 (by decide) ?_
                  exact ih16 (i + 1) 2 st wd fo gg (by omega) (by omega) (sc_one hrun (by unfold scStep; rw [if_neg (by omega), if_neg (by omega), if_pos (by omega), if_pos (by omega)])) (by omega) (by omega) (by omega) (by omega) (by omega) _ _ hP hD hS ls (lv_sub hl [3, 4, 5, 1, 6, 7, 0] rfl)
            · refine lv_iconst (v := nI 0) hx hb dX2_scan_149 (by decide) ?_
              refine lv_istore_n (lv' := [(3, .int (nI 0)), (7, .int (nI (b i))), (0, .ref h), (1, .int (nI na)), (2, .int (nI hw)), (4, .int (nI st)), (5, .int (nI wd)), (6, .int (nI i))]) hx hb dX2_scan_150 rfl hl (by decide) rfl (fun ls hl => ?_)
              refine lv_goto (tgt := 178) hx hb dX2_scan_151 (by decide) ?_
              refine nv_inc (k := 7) (lv' := [(6, .int (nI (i + 1))), (3, .int (nI 0)), (7, .int (nI (b i))), (0, .ref h), (1, .int (nI na)), (2, .int (nI hw)), (4, .int (nI st)), (5, .int (nI wd))]) hx hb dX2_scan_178 hl rfl (by decide) rfl (fun ls hl => ?_)
              refine lv_goto (tgt := 16) hx hb dX2_scan_181 (by decide) ?_
              exact ih16 (i + 1) 0 st wd fo gg (by omega) (by omega) (sc_one hrun (by unfold scStep; rw [if_neg (by omega), if_pos (by omega)])) (by omega) (by omega) (by omega) (by omega) (by omega) _ _ hP hD hS ls (lv_sub hl [3, 4, 5, 1, 6, 7, 0] rfl)
        · refine lv_iload hx hb dX2_scan_41 (lv_at hl 0 rfl) ?_
          refine lv_bipush (v := nI 56) hx hb dX2_scan_43 (by decide) ?_
          refine nv_icmp_ge (tgt := 138) hx hb dX2_scan_45 (by decide) (by omega) (by omega) (fun q_45 => ?_) (fun q_45 => ?_)
          · refine lv_iload hx hb dX2_scan_138 (lv_at hl 0 rfl) ?_
            refine lv_bipush (v := nI 44) hx hb dX2_scan_140 (by decide) ?_
            refine nv_icmp_ne (tgt := 154) hx hb dX2_scan_142 (by decide) (by omega) (by omega) (fun q_142 => ?_) (fun q_142 => ?_)
            · refine lv_iload hx hb dX2_scan_154 (lv_at hl 0 rfl) ?_
              refine lv_bipush (v := nI 32) hx hb dX2_scan_156 (by decide) ?_
              refine nv_icmp_ne (tgt := 175) hx hb dX2_scan_158 (by decide) (by omega) (by omega) (fun q_158 => ?_) (fun q_158 => ?_)
              · refine lv_iload hx hb dX2_scan_175 (lv_at hl 7 rfl) ?_
                have hr1 : scRun b na hw g (i + 1) = (some (i), pl, st, wd, fo, gg) := sc_one hrun (by unfold scStep; rw [if_neg (by omega), if_neg (by omega), if_neg (by omega)])
                have hr2 : scRun b na hw g ln = (some (i), pl, st, wd, fo, gg) := sc_stop hr1 (by omega)
                have hP : va_P D vwCl (wTx h a cI (nF b) ln (nF (scRun b na hw g ln).2.2.2.2.2) ((scRun b na hw g ln).2.2.2.2.1)) H := by rw [hr2]; exact hP
                have hD : va_D A (wTx h a cI (nF b) ln (nF (scRun b na hw g ln).2.2.2.2.2) ((scRun b na hw g ln).2.2.2.2.1)) := by rw [hr2]; exact hD
                exact mu_reti hx hb hr hlocks (scRes_some hr2) hP hD hS dX2_scan_177
              · refine lv_iload_n hx hb dX2_scan_161 rfl (lv_at hl 4 rfl) ?_
                refine lv_iconst (v := nI 1) hx hb dX2_scan_162 (by decide) ?_
                refine nv_icmp_ne (tgt := 170) hx hb dX2_scan_163 (by decide) (by omega) (by omega) (fun q_163 => ?_) (fun q_163 => ?_)
                · refine lv_iload_n hx hb dX2_scan_170 rfl (lv_at hl 4 rfl) ?_
                  refine lv_istore_n (lv' := [(3, .int (nI pl)), (7, .int (nI (b i))), (0, .ref h), (1, .int (nI na)), (2, .int (nI hw)), (4, .int (nI st)), (5, .int (nI wd)), (6, .int (nI i))]) hx hb dX2_scan_171 rfl hl (by decide) rfl (fun ls hl => ?_)
                  refine lv_goto (tgt := 178) hx hb dX2_scan_172 (by decide) ?_
                  refine nv_inc (k := 7) (lv' := [(6, .int (nI (i + 1))), (3, .int (nI pl)), (7, .int (nI (b i))), (0, .ref h), (1, .int (nI na)), (2, .int (nI hw)), (4, .int (nI st)), (5, .int (nI wd))]) hx hb dX2_scan_178 hl rfl (by decide) rfl (fun ls hl => ?_)
                  refine lv_goto (tgt := 16) hx hb dX2_scan_181 (by decide) ?_
                  exact ih16 (i + 1) pl st wd fo gg (by omega) (by omega) (sc_one hrun (by unfold scStep; rw [if_neg (by omega), if_neg (by omega), if_pos (by omega), if_neg (by omega)])) (by omega) (by omega) (by omega) (by omega) (by omega) _ _ hP hD hS ls (lv_sub hl [3, 4, 5, 1, 6, 7, 0] rfl)
                · refine lv_iconst (v := nI 2) hx hb dX2_scan_166 (by decide) ?_
                  refine lv_goto (tgt := 171) hx hb dX2_scan_167 (by decide) ?_
                  refine lv_istore_n (lv' := [(3, .int (nI 2)), (7, .int (nI (b i))), (0, .ref h), (1, .int (nI na)), (2, .int (nI hw)), (4, .int (nI st)), (5, .int (nI wd)), (6, .int (nI i))]) hx hb dX2_scan_171 rfl hl (by decide) rfl (fun ls hl => ?_)
                  refine lv_goto (tgt := 178) hx hb dX2_scan_172 (by decide) ?_
                  refine nv_inc (k := 7) (lv' := [(6, .int (nI (i + 1))), (3, .int (nI 2)), (7, .int (nI (b i))), (0, .ref h), (1, .int (nI na)), (2, .int (nI hw)), (4, .int (nI st)), (5, .int (nI wd))]) hx hb dX2_scan_178 hl rfl (by decide) rfl (fun ls hl => ?_)
                  refine lv_goto (tgt := 16) hx hb dX2_scan_181 (by decide) ?_
                  exact ih16 (i + 1) 2 st wd fo gg (by omega) (by omega) (sc_one hrun (by unfold scStep; rw [if_neg (by omega), if_neg (by omega), if_pos (by omega), if_pos (by omega)])) (by omega) (by omega) (by omega) (by omega) (by omega) _ _ hP hD hS ls (lv_sub hl [3, 4, 5, 1, 6, 7, 0] rfl)
            · refine lv_iload_n hx hb dX2_scan_145 rfl (lv_at hl 4 rfl) ?_
              refine nv_if_eq (tgt := 154) hx hb dX2_scan_146 (by decide) (by omega) (fun q_146 => ?_) (fun q_146 => ?_)
              · refine lv_iload hx hb dX2_scan_154 (lv_at hl 0 rfl) ?_
                refine lv_bipush (v := nI 32) hx hb dX2_scan_156 (by decide) ?_
                refine nv_icmp_ne (tgt := 175) hx hb dX2_scan_158 (by decide) (by omega) (by omega) (fun q_158 => ?_) (fun q_158 => ?_)
                · refine lv_iload hx hb dX2_scan_175 (lv_at hl 7 rfl) ?_
                  have hr1 : scRun b na hw g (i + 1) = (some (i), pl, st, wd, fo, gg) := sc_one hrun (by unfold scStep; rw [if_neg (by omega), if_neg (by omega), if_neg (by omega)])
                  have hr2 : scRun b na hw g ln = (some (i), pl, st, wd, fo, gg) := sc_stop hr1 (by omega)
                  have hP : va_P D vwCl (wTx h a cI (nF b) ln (nF (scRun b na hw g ln).2.2.2.2.2) ((scRun b na hw g ln).2.2.2.2.1)) H := by rw [hr2]; exact hP
                  have hD : va_D A (wTx h a cI (nF b) ln (nF (scRun b na hw g ln).2.2.2.2.2) ((scRun b na hw g ln).2.2.2.2.1)) := by rw [hr2]; exact hD
                  exact mu_reti hx hb hr hlocks (scRes_some hr2) hP hD hS dX2_scan_177
                · refine lv_iload_n hx hb dX2_scan_161 rfl (lv_at hl 4 rfl) ?_
                  refine lv_iconst (v := nI 1) hx hb dX2_scan_162 (by decide) ?_
                  refine nv_icmp_ne (tgt := 170) hx hb dX2_scan_163 (by decide) (by omega) (by omega) (fun q_163 => ?_) (fun q_163 => ?_)
                  · refine lv_iload_n hx hb dX2_scan_170 rfl (lv_at hl 4 rfl) ?_
                    refine lv_istore_n (lv' := [(3, .int (nI pl)), (7, .int (nI (b i))), (0, .ref h), (1, .int (nI na)), (2, .int (nI hw)), (4, .int (nI st)), (5, .int (nI wd)), (6, .int (nI i))]) hx hb dX2_scan_171 rfl hl (by decide) rfl (fun ls hl => ?_)
                    refine lv_goto (tgt := 178) hx hb dX2_scan_172 (by decide) ?_
                    refine nv_inc (k := 7) (lv' := [(6, .int (nI (i + 1))), (3, .int (nI pl)), (7, .int (nI (b i))), (0, .ref h), (1, .int (nI na)), (2, .int (nI hw)), (4, .int (nI st)), (5, .int (nI wd))]) hx hb dX2_scan_178 hl rfl (by decide) rfl (fun ls hl => ?_)
                    refine lv_goto (tgt := 16) hx hb dX2_scan_181 (by decide) ?_
                    exact ih16 (i + 1) pl st wd fo gg (by omega) (by omega) (sc_one hrun (by unfold scStep; rw [if_neg (by omega), if_neg (by omega), if_pos (by omega), if_neg (by omega)])) (by omega) (by omega) (by omega) (by omega) (by omega) _ _ hP hD hS ls (lv_sub hl [3, 4, 5, 1, 6, 7, 0] rfl)
                  · refine lv_iconst (v := nI 2) hx hb dX2_scan_166 (by decide) ?_
                    refine lv_goto (tgt := 171) hx hb dX2_scan_167 (by decide) ?_
                    refine lv_istore_n (lv' := [(3, .int (nI 2)), (7, .int (nI (b i))), (0, .ref h), (1, .int (nI na)), (2, .int (nI hw)), (4, .int (nI st)), (5, .int (nI wd)), (6, .int (nI i))]) hx hb dX2_scan_171 rfl hl (by decide) rfl (fun ls hl => ?_)
                    refine lv_goto (tgt := 178) hx hb dX2_scan_172 (by decide) ?_
                    refine nv_inc (k := 7) (lv' := [(6, .int (nI (i + 1))), (3, .int (nI 2)), (7, .int (nI (b i))), (0, .ref h), (1, .int (nI na)), (2, .int (nI hw)), (4, .int (nI st)), (5, .int (nI wd))]) hx hb dX2_scan_178 hl rfl (by decide) rfl (fun ls hl => ?_)
                    refine lv_goto (tgt := 16) hx hb dX2_scan_181 (by decide) ?_
                    exact ih16 (i + 1) 2 st wd fo gg (by omega) (by omega) (sc_one hrun (by unfold scStep; rw [if_neg (by omega), if_neg (by omega), if_pos (by omega), if_pos (by omega)])) (by omega) (by omega) (by omega) (by omega) (by omega) _ _ hP hD hS ls (lv_sub hl [3, 4, 5, 1, 6, 7, 0] rfl)
              · refine lv_iconst (v := nI 0) hx hb dX2_scan_149 (by decide) ?_
                refine lv_istore_n (lv' := [(3, .int (nI 0)), (7, .int (nI (b i))), (0, .ref h), (1, .int (nI na)), (2, .int (nI hw)), (4, .int (nI st)), (5, .int (nI wd)), (6, .int (nI i))]) hx hb dX2_scan_150 rfl hl (by decide) rfl (fun ls hl => ?_)
                refine lv_goto (tgt := 178) hx hb dX2_scan_151 (by decide) ?_
                refine nv_inc (k := 7) (lv' := [(6, .int (nI (i + 1))), (3, .int (nI 0)), (7, .int (nI (b i))), (0, .ref h), (1, .int (nI na)), (2, .int (nI hw)), (4, .int (nI st)), (5, .int (nI wd))]) hx hb dX2_scan_178 hl rfl (by decide) rfl (fun ls hl => ?_)
                refine lv_goto (tgt := 16) hx hb dX2_scan_181 (by decide) ?_
                exact ih16 (i + 1) 0 st wd fo gg (by omega) (by omega) (sc_one hrun (by unfold scStep; rw [if_neg (by omega), if_pos (by omega)])) (by omega) (by omega) (by omega) (by omega) (by omega) _ _ hP hD hS ls (lv_sub hl [3, 4, 5, 1, 6, 7, 0] rfl)
          · refine lv_iload_n hx hb dX2_scan_48 rfl (lv_at hl 4 rfl) ?_
            refine lv_iconst (v := nI 2) hx hb dX2_scan_49 (by decide) ?_
            refine nv_icmp_eq (tgt := 65) hx hb dX2_scan_50 (by decide) (by omega) (by omega) (fun q_50 => ?_) (fun q_50 => ?_)
            · refine lv_iload hx hb dX2_scan_65 (lv_at hl 7 rfl) ?_
              have hr1 : scRun b na hw g (i + 1) = (some (i), pl, st, wd, fo, gg) := sc_one hrun (by unfold scStep; rw [if_pos (by omega), if_pos (by omega)])
              have hr2 : scRun b na hw g ln = (some (i), pl, st, wd, fo, gg) := sc_stop hr1 (by omega)
              have hP : va_P D vwCl (wTx h a cI (nF b) ln (nF (scRun b na hw g ln).2.2.2.2.2) ((scRun b na hw g ln).2.2.2.2.1)) H := by rw [hr2]; exact hP
              have hD : va_D A (wTx h a cI (nF b) ln (nF (scRun b na hw g ln).2.2.2.2.2) ((scRun b na hw g ln).2.2.2.2.1)) := by rw [hr2]; exact hD
              exact mu_reti hx hb hr hlocks (scRes_some hr2) hP hD hS dX2_scan_67
            · refine lv_iload_n hx hb dX2_scan_53 rfl (lv_at hl 4 rfl) ?_
              refine nv_if_ne (tgt := 68) hx hb dX2_scan_54 (by decide) (by omega) (fun q_54 => ?_) (fun q_54 => ?_)
              · refine lv_iload_n hx hb dX2_scan_68 rfl (lv_at hl 4 rfl) ?_
                refine nv_if_ne (tgt := 91) hx hb dX2_scan_69 (by decide) (by omega) (fun q_69 => ?_) (fun q_69 => ?_)
                · refine lv_bipush (v := nI 8) hx hb dX2_scan_91 (by decide) ?_
                  refine lv_iload hx hb dX2_scan_93 (lv_at hl 6 rfl) ?_
                  refine nv_imul hx hb dX2_scan_95 ?_
                  refine lv_iload hx hb dX2_scan_96 (lv_at hl 0 rfl) ?_
                  refine nv_iadd hx hb dX2_scan_98 ?_
                  refine lv_bipush (v := nI 48) hx hb dX2_scan_99 (by decide) ?_
                  refine nv_isub hx hb dX2_scan_101 (by omega) ?_
                  refine lv_istore (lv' := [(5, .int (nI (((8 * wd) + (b i)) - 48))), (7, .int (nI (b i))), (0, .ref h), (1, .int (nI na)), (2, .int (nI hw)), (3, .int (nI pl)), (4, .int (nI st)), (6, .int (nI i))]) hx hb dX2_scan_102 hl (by decide) rfl (fun ls hl => ?_)
                  refine lv_iload hx hb dX2_scan_104 (lv_at hl 7 rfl) ?_
                  refine lv_iload hx hb dX2_scan_106 (lv_at hl 6 rfl) ?_
                  refine nv_isub hx hb dX2_scan_108 (by omega) ?_
                  refine lv_iconst (v := nI 4) hx hb dX2_scan_109 (by decide) ?_
                  refine nv_icmp_ge (tgt := 119) hx hb dX2_scan_110 (by decide) (by omega) (by omega) (fun q_110 => ?_) (fun q_110 => ?_)
                  · refine lv_iload hx hb dX2_scan_119 (lv_at hl 6 rfl) ?_
                    have hr1 : scRun b na hw g (i + 1) = (some (st), pl, st, ((8 * wd) + (b i)) - 48, fo, gg) := sc_one hrun (by unfold scStep; rw [if_pos (by omega), if_neg (by omega), if_neg (by omega), if_pos (by omega)])
                    have hr2 : scRun b na hw g ln = (some (st), pl, st, ((8 * wd) + (b i)) - 48, fo, gg) := sc_stop hr1 (by omega)
                    have hP : va_P D vwCl (wTx h a cI (nF b) ln (nF (scRun b na hw g ln).2.2.2.2.2) ((scRun b na hw g ln).2.2.2.2.1)) H := by rw [hr2]; exact hP
                    have hD : va_D A (wTx h a cI (nF b) ln (nF (scRun b na hw g ln).2.2.2.2.2) ((scRun b na hw g ln).2.2.2.2.1)) := by rw [hr2]; exact hD
                    exact mu_reti hx hb hr hlocks (scRes_some hr2) hP hD hS dX2_scan_121
                  · refine lv_iload hx hb dX2_scan_113 (lv_at hl 0 rfl) ?_
                    refine lv_iload_n hx hb dX2_scan_115 rfl (lv_at hl 4 rfl) ?_
                    refine nv_icmp_le (tgt := 122) hx hb dX2_scan_116 (by decide) (by omega) (by omega) (fun q_116 => ?_) (fun q_116 => ?_)
                    · refine lv_aload_n hx hb dX2_scan_122 rfl (lv_at hl 2 rfl) ?_
                      refine va_get (D := D) (ci := 2) (v := .ref (a 1)) (C := RX2) (T := TX2) (N := 4) hx hb hts inX2 hown hK hP 0 rfl rfl 2 (by decide) (hts _ fl_RX2_15) (fun _ h9 => h9) rfl dX2_scan_123 ?_
                      refine lv_aload_n hx hb dX2_scan_126 rfl (lv_at hl 2 rfl) ?_
                      refine va_get (D := D) (ci := 2) (v := .int (nI fo)) (C := RX2) (T := TX2) (N := 4) hx hb hts inX2 hown hK hP 0 rfl rfl 3 (by decide) (hts _ fl_RX2_22) (fun _ h9 => h9) rfl dX2_scan_127 ?_
                      refine lv_iconst (v := nI 1) hx hb dX2_scan_130 (by decide) ?_
                      refine nv_isub hx hb dX2_scan_131 (by omega) ?_
                      refine lv_iload hx hb dX2_scan_132 (lv_at hl 0 rfl) ?_
                      refine nv_iast (D := D) (ws' := (wTx h a cI (nF b) ln (upd (nF gg) (fo - 1) (nI (((8 * wd) + (b i)) - 48))) fo)) hx hb hK hP hD hS 2 0 rfl rfl (k := fo - 1) (by omega) (by decide) rfl dX2_scan_134 (fun H locs hP hD hS => ?_)
                      have eR : (upd (nF gg) (fo - 1) (nI (((8 * wd) + (b i)) - 48))) = (nF (va_up gg (fo - 1) (((8 * wd) + (b i)) - 48))) := upd_nF _ _ _
                      rw [eR] at hP hD
                      have hP : va_P D vwCl (wTx h a cI (nF b) ln (nF (va_up gg (fo - 1) (((8 * wd) + (b i)) - 48))) fo) H := hP
                      have hD : va_D A (wTx h a cI (nF b) ln (nF (va_up gg (fo - 1) (((8 * wd) + (b i)) - 48))) fo) := hD
                      refine lv_goto (tgt := 178) hx hb dX2_scan_135 (by decide) ?_
                      refine nv_inc (k := 7) (lv' := [(6, .int (nI (i + 1))), (5, .int (nI (((8 * wd) + (b i)) - 48))), (7, .int (nI (b i))), (0, .ref h), (1, .int (nI na)), (2, .int (nI hw)), (3, .int (nI pl)), (4, .int (nI st))]) hx hb dX2_scan_178 hl rfl (by decide) rfl (fun ls hl => ?_)
                      refine lv_goto (tgt := 16) hx hb dX2_scan_181 (by decide) ?_
                      exact ih16 (i + 1) pl st (((8 * wd) + (b i)) - 48) fo ((va_up gg (fo - 1) (((8 * wd) + (b i)) - 48))) (by omega) (by omega) (sc_one hrun (by unfold scStep; rw [if_pos (by omega), if_neg (by omega), if_neg (by omega), if_neg (by omega)])) (by omega) (by omega) (by omega) (by omega) (by omega) _ _ hP hD hS ls (lv_sub hl [3, 4, 5, 6, 7, 1, 0] rfl)
                    · refine lv_iload hx hb dX2_scan_119 (lv_at hl 6 rfl) ?_
                      have hr1 : scRun b na hw g (i + 1) = (some (st), pl, st, ((8 * wd) + (b i)) - 48, fo, gg) := sc_one hrun (by unfold scStep; rw [if_pos (by omega), if_neg (by omega), if_neg (by omega), if_pos (by omega)])
                      have hr2 : scRun b na hw g ln = (some (st), pl, st, ((8 * wd) + (b i)) - 48, fo, gg) := sc_stop hr1 (by omega)
                      have hP : va_P D vwCl (wTx h a cI (nF b) ln (nF (scRun b na hw g ln).2.2.2.2.2) ((scRun b na hw g ln).2.2.2.2.1)) H := by rw [hr2]; exact hP
                      have hD : va_D A (wTx h a cI (nF b) ln (nF (scRun b na hw g ln).2.2.2.2.2) ((scRun b na hw g ln).2.2.2.2.1)) := by rw [hr2]; exact hD
                      exact mu_reti hx hb hr hlocks (scRes_some hr2) hP hD hS dX2_scan_121
                · refine lv_iconst (v := nI 1) hx hb dX2_scan_72 (by decide) ?_
                  refine lv_istore_n (lv' := [(3, .int (nI 1)), (7, .int (nI (b i))), (0, .ref h), (1, .int (nI na)), (2, .int (nI hw)), (4, .int (nI st)), (5, .int (nI wd)), (6, .int (nI i))]) hx hb dX2_scan_73 rfl hl (by decide) rfl (fun ls hl => ?_)
                  refine lv_iload hx hb dX2_scan_74 (lv_at hl 7 rfl) ?_
                  refine lv_istore (lv' := [(4, .int (nI i)), (3, .int (nI 1)), (7, .int (nI (b i))), (0, .ref h), (1, .int (nI na)), (2, .int (nI hw)), (5, .int (nI wd)), (6, .int (nI i))]) hx hb dX2_scan_76 hl (by decide) rfl (fun ls hl => ?_)
                  refine lv_iconst (v := nI 0) hx hb dX2_scan_78 (by decide) ?_
                  refine lv_istore (lv' := [(5, .int (nI 0)), (4, .int (nI i)), (3, .int (nI 1)), (7, .int (nI (b i))), (0, .ref h), (1, .int (nI na)), (2, .int (nI hw)), (6, .int (nI i))]) hx hb dX2_scan_79 hl (by decide) rfl (fun ls hl => ?_)
                  refine lv_aload_n hx hb dX2_scan_81 rfl (lv_at hl 4 rfl) ?_
                  refine lv_dup hx hb dX2_scan_82 rfl ?_
                  refine va_get (D := D) (ci := 2) (v := .int (nI fo)) (C := RX2) (T := TX2) (N := 4) hx hb hts inX2 hown hK hP 0 rfl rfl 3 (by decide) (hts _ fl_RX2_22) (fun _ h9 => h9) rfl dX2_scan_83 ?_
                  refine lv_iconst (v := nI 1) hx hb dX2_scan_86 (by decide) ?_
                  refine nv_iadd hx hb dX2_scan_87 ?_
                  refine va_put (D := D) (ci := 2) (v := .int (nI (fo + 1))) (ty := .int) (C := RX2) (T := TX2) (N := 4) hx hb hts inX2 tyX2 tyX2_ok nmX2 hown hK hP hD hS 0 rfl rfl 3 (by decide) (hts _ fl_RX2_22) (fun _ h9 => h9) rfl (by decide +kernel) rfl rfl (Nat.le_of_ble_eq_true rfl) dX2_scan_88 (fun H locs hP hD hS => ?_)
                  have hP : va_P D vwCl (wTx h a cI (nF b) ln (nF gg) (fo + 1)) H := hP
                  have hD : va_D A (wTx h a cI (nF b) ln (nF gg) (fo + 1)) := hD
                  refine lv_bipush (v := nI 8) hx hb dX2_scan_91 (by decide) ?_
                  refine lv_iload hx hb dX2_scan_93 (lv_at hl 0 rfl) ?_
                  refine nv_imul hx hb dX2_scan_95 ?_
                  refine lv_iload hx hb dX2_scan_96 (lv_at hl 3 rfl) ?_
                  refine nv_iadd hx hb dX2_scan_98 ?_
                  refine lv_bipush (v := nI 48) hx hb dX2_scan_99 (by decide) ?_
                  refine nv_isub hx hb dX2_scan_101 (by omega) ?_
                  refine lv_istore (lv' := [(5, .int (nI (((8 * 0) + (b i)) - 48))), (4, .int (nI i)), (3, .int (nI 1)), (7, .int (nI (b i))), (0, .ref h), (1, .int (nI na)), (2, .int (nI hw)), (6, .int (nI i))]) hx hb dX2_scan_102 hl (by decide) rfl (fun ls hl => ?_)
                  refine lv_iload hx hb dX2_scan_104 (lv_at hl 7 rfl) ?_
                  refine lv_iload hx hb dX2_scan_106 (lv_at hl 1 rfl) ?_
                  refine nv_isub hx hb dX2_scan_108 (by omega) ?_
                  refine lv_iconst (v := nI 4) hx hb dX2_scan_109 (by decide) ?_
                  refine nv_icmp_ge (tgt := 119) hx hb dX2_scan_110 (by decide) (by omega) (by omega) (fun q_110 => ?_) (fun q_110 => ?_)
                  · refine lv_iload hx hb dX2_scan_119 (lv_at hl 1 rfl) ?_
                    have hr1 : scRun b na hw g (i + 1) = (some (i), 1, i, ((8 * 0) + (b i)) - 48, fo + 1, gg) := sc_one hrun (by unfold scStep; rw [if_pos (by omega), if_neg (by omega), if_pos (by omega), if_pos (by omega)])
                    have hr2 : scRun b na hw g ln = (some (i), 1, i, ((8 * 0) + (b i)) - 48, fo + 1, gg) := sc_stop hr1 (by omega)
                    have hP : va_P D vwCl (wTx h a cI (nF b) ln (nF (scRun b na hw g ln).2.2.2.2.2) ((scRun b na hw g ln).2.2.2.2.1)) H := by rw [hr2]; exact hP
                    have hD : va_D A (wTx h a cI (nF b) ln (nF (scRun b na hw g ln).2.2.2.2.2) ((scRun b na hw g ln).2.2.2.2.1)) := by rw [hr2]; exact hD
                    exact mu_reti hx hb hr hlocks (scRes_some hr2) hP hD hS dX2_scan_121
                  · refine lv_iload hx hb dX2_scan_113 (lv_at hl 0 rfl) ?_
                    refine lv_iload_n hx hb dX2_scan_115 rfl (lv_at hl 6 rfl) ?_
                    refine nv_icmp_le (tgt := 122) hx hb dX2_scan_116 (by decide) (by omega) (by omega) (fun q_116 => ?_) (fun q_116 => ?_)
                    · refine lv_aload_n hx hb dX2_scan_122 rfl (lv_at hl 4 rfl) ?_
                      refine va_get (D := D) (ci := 2) (v := .ref (a 1)) (C := RX2) (T := TX2) (N := 4) hx hb hts inX2 hown hK hP 0 rfl rfl 2 (by decide) (hts _ fl_RX2_15) (fun _ h9 => h9) rfl dX2_scan_123 ?_
                      refine lv_aload_n hx hb dX2_scan_126 rfl (lv_at hl 4 rfl) ?_
                      refine va_get (D := D) (ci := 2) (v := .int (nI (fo + 1))) (C := RX2) (T := TX2) (N := 4) hx hb hts inX2 hown hK hP 0 rfl rfl 3 (by decide) (hts _ fl_RX2_22) (fun _ h9 => h9) rfl dX2_scan_127 ?_
                      refine lv_iconst (v := nI 1) hx hb dX2_scan_130 (by decide) ?_
                      refine nv_isub hx hb dX2_scan_131 (by omega) ?_
                      refine lv_iload hx hb dX2_scan_132 (lv_at hl 0 rfl) ?_
                      refine nv_iast (D := D) (ws' := (wTx h a cI (nF b) ln (upd (nF gg) ((fo + 1) - 1) (nI (((8 * 0) + (b i)) - 48))) (fo + 1))) hx hb hK hP hD hS 2 0 rfl rfl (k := (fo + 1) - 1) (by omega) (by decide) rfl dX2_scan_134 (fun H locs hP hD hS => ?_)
                      have eR : (upd (nF gg) ((fo + 1) - 1) (nI (((8 * 0) + (b i)) - 48))) = (nF (va_up gg ((fo + 1) - 1) (((8 * 0) + (b i)) - 48))) := upd_nF _ _ _
                      rw [eR] at hP hD
                      have hP : va_P D vwCl (wTx h a cI (nF b) ln (nF (va_up gg ((fo + 1) - 1) (((8 * 0) + (b i)) - 48))) (fo + 1)) H := hP
                      have hD : va_D A (wTx h a cI (nF b) ln (nF (va_up gg ((fo + 1) - 1) (((8 * 0) + (b i)) - 48))) (fo + 1)) := hD
                      refine lv_goto (tgt := 178) hx hb dX2_scan_135 (by decide) ?_
                      refine nv_inc (k := 7) (lv' := [(6, .int (nI (i + 1))), (5, .int (nI (((8 * 0) + (b i)) - 48))), (4, .int (nI i)), (3, .int (nI 1)), (7, .int (nI (b i))), (0, .ref h), (1, .int (nI na)), (2, .int (nI hw))]) hx hb dX2_scan_178 hl rfl (by decide) rfl (fun ls hl => ?_)
                      refine lv_goto (tgt := 16) hx hb dX2_scan_181 (by decide) ?_
                      exact ih16 (i + 1) 1 i (((8 * 0) + (b i)) - 48) (fo + 1) ((va_up gg ((fo + 1) - 1) (((8 * 0) + (b i)) - 48))) (by omega) (by omega) (sc_one hrun (by unfold scStep; rw [if_pos (by omega), if_neg (by omega), if_pos (by omega), if_neg (by omega)])) (by omega) (by omega) (by omega) (by omega) (by omega) _ _ hP hD hS ls (lv_sub hl [5, 6, 7, 3, 2, 1, 0] rfl)
                    · refine lv_iload hx hb dX2_scan_119 (lv_at hl 1 rfl) ?_
                      have hr1 : scRun b na hw g (i + 1) = (some (i), 1, i, ((8 * 0) + (b i)) - 48, fo + 1, gg) := sc_one hrun (by unfold scStep; rw [if_pos (by omega), if_neg (by omega), if_pos (by omega), if_pos (by omega)])
                      have hr2 : scRun b na hw g ln = (some (i), 1, i, ((8 * 0) + (b i)) - 48, fo + 1, gg) := sc_stop hr1 (by omega)
                      have hP : va_P D vwCl (wTx h a cI (nF b) ln (nF (scRun b na hw g ln).2.2.2.2.2) ((scRun b na hw g ln).2.2.2.2.1)) H := by rw [hr2]; exact hP
                      have hD : va_D A (wTx h a cI (nF b) ln (nF (scRun b na hw g ln).2.2.2.2.2) ((scRun b na hw g ln).2.2.2.2.1)) := by rw [hr2]; exact hD
                      exact mu_reti hx hb hr hlocks (scRes_some hr2) hP hD hS dX2_scan_121
              · refine lv_aload_n hx hb dX2_scan_57 rfl (lv_at hl 1 rfl) ?_
                refine va_get (D := D) (ci := 2) (v := .int (nI fo)) (C := RX2) (T := TX2) (N := 4) hx hb hts inX2 hown hK hP 0 rfl rfl 3 (by decide) (hts _ fl_RX2_22) (fun _ h9 => h9) rfl dX2_scan_58 ?_
                refine lv_iload_n hx hb dX2_scan_61 rfl (lv_at hl 2 rfl) ?_
                refine nv_icmp_ne (tgt := 68) hx hb dX2_scan_62 (by decide) (by omega) (by omega) (fun q_62 => ?_) (fun q_62 => ?_)
                · refine lv_iload_n hx hb dX2_scan_68 rfl (lv_at hl 4 rfl) ?_
                  refine nv_if_ne (tgt := 91) hx hb dX2_scan_69 (by decide) (by omega) (fun q_69 => ?_) (fun q_69 => ?_)
                  · refine lv_bipush (v := nI 8) hx hb dX2_scan_91 (by decide) ?_
                    refine lv_iload hx hb dX2_scan_93 (lv_at hl 6 rfl) ?_
                    refine nv_imul hx hb dX2_scan_95 ?_
                    refine lv_iload hx hb dX2_scan_96 (lv_at hl 0 rfl) ?_
                    refine nv_iadd hx hb dX2_scan_98 ?_
                    refine lv_bipush (v := nI 48) hx hb dX2_scan_99 (by decide) ?_
                    refine nv_isub hx hb dX2_scan_101 (by omega) ?_
                    refine lv_istore (lv' := [(5, .int (nI (((8 * wd) + (b i)) - 48))), (7, .int (nI (b i))), (0, .ref h), (1, .int (nI na)), (2, .int (nI hw)), (3, .int (nI pl)), (4, .int (nI st)), (6, .int (nI i))]) hx hb dX2_scan_102 hl (by decide) rfl (fun ls hl => ?_)
                    refine lv_iload hx hb dX2_scan_104 (lv_at hl 7 rfl) ?_
                    refine lv_iload hx hb dX2_scan_106 (lv_at hl 6 rfl) ?_
                    refine nv_isub hx hb dX2_scan_108 (by omega) ?_
                    refine lv_iconst (v := nI 4) hx hb dX2_scan_109 (by decide) ?_
                    refine nv_icmp_ge (tgt := 119) hx hb dX2_scan_110 (by decide) (by omega) (by omega) (fun q_110 => ?_) (fun q_110 => ?_)
                    · refine lv_iload hx hb dX2_scan_119 (lv_at hl 6 rfl) ?_
                      have hr1 : scRun b na hw g (i + 1) = (some (st), pl, st, ((8 * wd) + (b i)) - 48, fo, gg) := sc_one hrun (by unfold scStep; rw [if_pos (by omega), if_neg (by omega), if_neg (by omega), if_pos (by omega)])
                      have hr2 : scRun b na hw g ln = (some (st), pl, st, ((8 * wd) + (b i)) - 48, fo, gg) := sc_stop hr1 (by omega)
                      have hP : va_P D vwCl (wTx h a cI (nF b) ln (nF (scRun b na hw g ln).2.2.2.2.2) ((scRun b na hw g ln).2.2.2.2.1)) H := by rw [hr2]; exact hP
                      have hD : va_D A (wTx h a cI (nF b) ln (nF (scRun b na hw g ln).2.2.2.2.2) ((scRun b na hw g ln).2.2.2.2.1)) := by rw [hr2]; exact hD
                      exact mu_reti hx hb hr hlocks (scRes_some hr2) hP hD hS dX2_scan_121
                    · refine lv_iload hx hb dX2_scan_113 (lv_at hl 0 rfl) ?_
                      refine lv_iload_n hx hb dX2_scan_115 rfl (lv_at hl 4 rfl) ?_
                      refine nv_icmp_le (tgt := 122) hx hb dX2_scan_116 (by decide) (by omega) (by omega) (fun q_116 => ?_) (fun q_116 => ?_)
                      · refine lv_aload_n hx hb dX2_scan_122 rfl (lv_at hl 2 rfl) ?_
                        refine va_get (D := D) (ci := 2) (v := .ref (a 1)) (C := RX2) (T := TX2) (N := 4) hx hb hts inX2 hown hK hP 0 rfl rfl 2 (by decide) (hts _ fl_RX2_15) (fun _ h9 => h9) rfl dX2_scan_123 ?_
                        refine lv_aload_n hx hb dX2_scan_126 rfl (lv_at hl 2 rfl) ?_
                        refine va_get (D := D) (ci := 2) (v := .int (nI fo)) (C := RX2) (T := TX2) (N := 4) hx hb hts inX2 hown hK hP 0 rfl rfl 3 (by decide) (hts _ fl_RX2_22) (fun _ h9 => h9) rfl dX2_scan_127 ?_
                        refine lv_iconst (v := nI 1) hx hb dX2_scan_130 (by decide) ?_
                        refine nv_isub hx hb dX2_scan_131 (by omega) ?_
                        refine lv_iload hx hb dX2_scan_132 (lv_at hl 0 rfl) ?_
                        refine nv_iast (D := D) (ws' := (wTx h a cI (nF b) ln (upd (nF gg) (fo - 1) (nI (((8 * wd) + (b i)) - 48))) fo)) hx hb hK hP hD hS 2 0 rfl rfl (k := fo - 1) (by omega) (by decide) rfl dX2_scan_134 (fun H locs hP hD hS => ?_)
                        have eR : (upd (nF gg) (fo - 1) (nI (((8 * wd) + (b i)) - 48))) = (nF (va_up gg (fo - 1) (((8 * wd) + (b i)) - 48))) := upd_nF _ _ _
                        rw [eR] at hP hD
                        have hP : va_P D vwCl (wTx h a cI (nF b) ln (nF (va_up gg (fo - 1) (((8 * wd) + (b i)) - 48))) fo) H := hP
                        have hD : va_D A (wTx h a cI (nF b) ln (nF (va_up gg (fo - 1) (((8 * wd) + (b i)) - 48))) fo) := hD
                        refine lv_goto (tgt := 178) hx hb dX2_scan_135 (by decide) ?_
                        refine nv_inc (k := 7) (lv' := [(6, .int (nI (i + 1))), (5, .int (nI (((8 * wd) + (b i)) - 48))), (7, .int (nI (b i))), (0, .ref h), (1, .int (nI na)), (2, .int (nI hw)), (3, .int (nI pl)), (4, .int (nI st))]) hx hb dX2_scan_178 hl rfl (by decide) rfl (fun ls hl => ?_)
                        refine lv_goto (tgt := 16) hx hb dX2_scan_181 (by decide) ?_
                        exact ih16 (i + 1) pl st (((8 * wd) + (b i)) - 48) fo ((va_up gg (fo - 1) (((8 * wd) + (b i)) - 48))) (by omega) (by omega) (sc_one hrun (by unfold scStep; rw [if_pos (by omega), if_neg (by omega), if_neg (by omega), if_neg (by omega)])) (by omega) (by omega) (by omega) (by omega) (by omega) _ _ hP hD hS ls (lv_sub hl [3, 4, 5, 6, 7, 1, 0] rfl)
                      · refine lv_iload hx hb dX2_scan_119 (lv_at hl 6 rfl) ?_
                        have hr1 : scRun b na hw g (i + 1) = (some (st), pl, st, ((8 * wd) + (b i)) - 48, fo, gg) := sc_one hrun (by unfold scStep; rw [if_pos (by omega), if_neg (by omega), if_neg (by omega), if_pos (by omega)])
                        have hr2 : scRun b na hw g ln = (some (st), pl, st, ((8 * wd) + (b i)) - 48, fo, gg) := sc_stop hr1 (by omega)
                        have hP : va_P D vwCl (wTx h a cI (nF b) ln (nF (scRun b na hw g ln).2.2.2.2.2) ((scRun b na hw g ln).2.2.2.2.1)) H := by rw [hr2]; exact hP
                        have hD : va_D A (wTx h a cI (nF b) ln (nF (scRun b na hw g ln).2.2.2.2.2) ((scRun b na hw g ln).2.2.2.2.1)) := by rw [hr2]; exact hD
                        exact mu_reti hx hb hr hlocks (scRes_some hr2) hP hD hS dX2_scan_121
                  · refine lv_iconst (v := nI 1) hx hb dX2_scan_72 (by decide) ?_
                    refine lv_istore_n (lv' := [(3, .int (nI 1)), (7, .int (nI (b i))), (0, .ref h), (1, .int (nI na)), (2, .int (nI hw)), (4, .int (nI st)), (5, .int (nI wd)), (6, .int (nI i))]) hx hb dX2_scan_73 rfl hl (by decide) rfl (fun ls hl => ?_)
                    refine lv_iload hx hb dX2_scan_74 (lv_at hl 7 rfl) ?_
                    refine lv_istore (lv' := [(4, .int (nI i)), (3, .int (nI 1)), (7, .int (nI (b i))), (0, .ref h), (1, .int (nI na)), (2, .int (nI hw)), (5, .int (nI wd)), (6, .int (nI i))]) hx hb dX2_scan_76 hl (by decide) rfl (fun ls hl => ?_)
                    refine lv_iconst (v := nI 0) hx hb dX2_scan_78 (by decide) ?_
                    refine lv_istore (lv' := [(5, .int (nI 0)), (4, .int (nI i)), (3, .int (nI 1)), (7, .int (nI (b i))), (0, .ref h), (1, .int (nI na)), (2, .int (nI hw)), (6, .int (nI i))]) hx hb dX2_scan_79 hl (by decide) rfl (fun ls hl => ?_)
                    refine lv_aload_n hx hb dX2_scan_81 rfl (lv_at hl 4 rfl) ?_
                    refine lv_dup hx hb dX2_scan_82 rfl ?_
                    refine va_get (D := D) (ci := 2) (v := .int (nI fo)) (C := RX2) (T := TX2) (N := 4) hx hb hts inX2 hown hK hP 0 rfl rfl 3 (by decide) (hts _ fl_RX2_22) (fun _ h9 => h9) rfl dX2_scan_83 ?_
                    refine lv_iconst (v := nI 1) hx hb dX2_scan_86 (by decide) ?_
                    refine nv_iadd hx hb dX2_scan_87 ?_
                    refine va_put (D := D) (ci := 2) (v := .int (nI (fo + 1))) (ty := .int) (C := RX2) (T := TX2) (N := 4) hx hb hts inX2 tyX2 tyX2_ok nmX2 hown hK hP hD hS 0 rfl rfl 3 (by decide) (hts _ fl_RX2_22) (fun _ h9 => h9) rfl (by decide +kernel) rfl rfl (Nat.le_of_ble_eq_true rfl) dX2_scan_88 (fun H locs hP hD hS => ?_)
                    have hP : va_P D vwCl (wTx h a cI (nF b) ln (nF gg) (fo + 1)) H := hP
                    have hD : va_D A (wTx h a cI (nF b) ln (nF gg) (fo + 1)) := hD
                    refine lv_bipush (v := nI 8) hx hb dX2_scan_91 (by decide) ?_
                    refine lv_iload hx hb dX2_scan_93 (lv_at hl 0 rfl) ?_
                    refine nv_imul hx hb dX2_scan_95 ?_
                    refine lv_iload hx hb dX2_scan_96 (lv_at hl 3 rfl) ?_
                    refine nv_iadd hx hb dX2_scan_98 ?_
                    refine lv_bipush (v := nI 48) hx hb dX2_scan_99 (by decide) ?_
                    refine nv_isub hx hb dX2_scan_101 (by omega) ?_
                    refine lv_istore (lv' := [(5, .int (nI (((8 * 0) + (b i)) - 48))), (4, .int (nI i)), (3, .int (nI 1)), (7, .int (nI (b i))), (0, .ref h), (1, .int (nI na)), (2, .int (nI hw)), (6, .int (nI i))]) hx hb dX2_scan_102 hl (by decide) rfl (fun ls hl => ?_)
                    refine lv_iload hx hb dX2_scan_104 (lv_at hl 7 rfl) ?_
                    refine lv_iload hx hb dX2_scan_106 (lv_at hl 1 rfl) ?_
                    refine nv_isub hx hb dX2_scan_108 (by omega) ?_
                    refine lv_iconst (v := nI 4) hx hb dX2_scan_109 (by decide) ?_
                    refine nv_icmp_ge (tgt := 119) hx hb dX2_scan_110 (by decide) (by omega) (by omega) (fun q_110 => ?_) (fun q_110 => ?_)
                    · refine lv_iload hx hb dX2_scan_119 (lv_at hl 1 rfl) ?_
                      have hr1 : scRun b na hw g (i + 1) = (some (i), 1, i, ((8 * 0) + (b i)) - 48, fo + 1, gg) := sc_one hrun (by unfold scStep; rw [if_pos (by omega), if_neg (by omega), if_pos (by omega), if_pos (by omega)])
                      have hr2 : scRun b na hw g ln = (some (i), 1, i, ((8 * 0) + (b i)) - 48, fo + 1, gg) := sc_stop hr1 (by omega)
                      have hP : va_P D vwCl (wTx h a cI (nF b) ln (nF (scRun b na hw g ln).2.2.2.2.2) ((scRun b na hw g ln).2.2.2.2.1)) H := by rw [hr2]; exact hP
                      have hD : va_D A (wTx h a cI (nF b) ln (nF (scRun b na hw g ln).2.2.2.2.2) ((scRun b na hw g ln).2.2.2.2.1)) := by rw [hr2]; exact hD
                      exact mu_reti hx hb hr hlocks (scRes_some hr2) hP hD hS dX2_scan_121
                    · refine lv_iload hx hb dX2_scan_113 (lv_at hl 0 rfl) ?_
                      refine lv_iload_n hx hb dX2_scan_115 rfl (lv_at hl 6 rfl) ?_
                      refine nv_icmp_le (tgt := 122) hx hb dX2_scan_116 (by decide) (by omega) (by omega) (fun q_116 => ?_) (fun q_116 => ?_)
                      · refine lv_aload_n hx hb dX2_scan_122 rfl (lv_at hl 4 rfl) ?_
                        refine va_get (D := D) (ci := 2) (v := .ref (a 1)) (C := RX2) (T := TX2) (N := 4) hx hb hts inX2 hown hK hP 0 rfl rfl 2 (by decide) (hts _ fl_RX2_15) (fun _ h9 => h9) rfl dX2_scan_123 ?_
                        refine lv_aload_n hx hb dX2_scan_126 rfl (lv_at hl 4 rfl) ?_
                        refine va_get (D := D) (ci := 2) (v := .int (nI (fo + 1))) (C := RX2) (T := TX2) (N := 4) hx hb hts inX2 hown hK hP 0 rfl rfl 3 (by decide) (hts _ fl_RX2_22) (fun _ h9 => h9) rfl dX2_scan_127 ?_
                        refine lv_iconst (v := nI 1) hx hb dX2_scan_130 (by decide) ?_
                        refine nv_isub hx hb dX2_scan_131 (by omega) ?_
                        refine lv_iload hx hb dX2_scan_132 (lv_at hl 0 rfl) ?_
                        refine nv_iast (D := D) (ws' := (wTx h a cI (nF b) ln (upd (nF gg) ((fo + 1) - 1) (nI (((8 * 0) + (b i)) - 48))) (fo + 1))) hx hb hK hP hD hS 2 0 rfl rfl (k := (fo + 1) - 1) (by omega) (by decide) rfl dX2_scan_134 (fun H locs hP hD hS => ?_)
                        have eR : (upd (nF gg) ((fo + 1) - 1) (nI (((8 * 0) + (b i)) - 48))) = (nF (va_up gg ((fo + 1) - 1) (((8 * 0) + (b i)) - 48))) := upd_nF _ _ _
                        rw [eR] at hP hD
                        have hP : va_P D vwCl (wTx h a cI (nF b) ln (nF (va_up gg ((fo + 1) - 1) (((8 * 0) + (b i)) - 48))) (fo + 1)) H := hP
                        have hD : va_D A (wTx h a cI (nF b) ln (nF (va_up gg ((fo + 1) - 1) (((8 * 0) + (b i)) - 48))) (fo + 1)) := hD
                        refine lv_goto (tgt := 178) hx hb dX2_scan_135 (by decide) ?_
                        refine nv_inc (k := 7) (lv' := [(6, .int (nI (i + 1))), (5, .int (nI (((8 * 0) + (b i)) - 48))), (4, .int (nI i)), (3, .int (nI 1)), (7, .int (nI (b i))), (0, .ref h), (1, .int (nI na)), (2, .int (nI hw))]) hx hb dX2_scan_178 hl rfl (by decide) rfl (fun ls hl => ?_)
                        refine lv_goto (tgt := 16) hx hb dX2_scan_181 (by decide) ?_
                        exact ih16 (i + 1) 1 i (((8 * 0) + (b i)) - 48) (fo + 1) ((va_up gg ((fo + 1) - 1) (((8 * 0) + (b i)) - 48))) (by omega) (by omega) (sc_one hrun (by unfold scStep; rw [if_pos (by omega), if_neg (by omega), if_pos (by omega), if_neg (by omega)])) (by omega) (by omega) (by omega) (by omega) (by omega) _ _ hP hD hS ls (lv_sub hl [5, 6, 7, 3, 2, 1, 0] rfl)
                      · refine lv_iload hx hb dX2_scan_119 (lv_at hl 1 rfl) ?_
                        have hr1 : scRun b na hw g (i + 1) = (some (i), 1, i, ((8 * 0) + (b i)) - 48, fo + 1, gg) := sc_one hrun (by unfold scStep; rw [if_pos (by omega), if_neg (by omega), if_pos (by omega), if_pos (by omega)])
                        have hr2 : scRun b na hw g ln = (some (i), 1, i, ((8 * 0) + (b i)) - 48, fo + 1, gg) := sc_stop hr1 (by omega)
                        have hP : va_P D vwCl (wTx h a cI (nF b) ln (nF (scRun b na hw g ln).2.2.2.2.2) ((scRun b na hw g ln).2.2.2.2.1)) H := by rw [hr2]; exact hP
                        have hD : va_D A (wTx h a cI (nF b) ln (nF (scRun b na hw g ln).2.2.2.2.2) ((scRun b na hw g ln).2.2.2.2.1)) := by rw [hr2]; exact hD
                        exact mu_reti hx hb hr hlocks (scRes_some hr2) hP hD hS dX2_scan_121
                · refine lv_iload hx hb dX2_scan_65 (lv_at hl 7 rfl) ?_
                  have hr1 : scRun b na hw g (i + 1) = (some (i), pl, st, wd, fo, gg) := sc_one hrun (by unfold scStep; rw [if_pos (by omega), if_pos (by omega)])
                  have hr2 : scRun b na hw g ln = (some (i), pl, st, wd, fo, gg) := sc_stop hr1 (by omega)
                  have hP : va_P D vwCl (wTx h a cI (nF b) ln (nF (scRun b na hw g ln).2.2.2.2.2) ((scRun b na hw g ln).2.2.2.2.1)) H := by rw [hr2]; exact hP
                  have hD : va_D A (wTx h a cI (nF b) ln (nF (scRun b na hw g ln).2.2.2.2.2) ((scRun b na hw g ln).2.2.2.2.1)) := by rw [hr2]; exact hD
                  exact mu_reti hx hb hr hlocks (scRes_some hr2) hP hD hS dX2_scan_67
  exact L16 (ln + 1) 0 0 0 0 0 g (by omega) (by omega) (rfl) (by omega) (by omega) (by omega) (by omega) (by omega) _ _ hP hD hS ls (lv_sub hl [4, 5, 6, 3, 2, 1, 0] rfl)
end
section
/-! ===== the answers, as functions of the state ===== -/
def cl (x : Int32) : Nat := x.toNatClampNeg
theorem cl_nI {k : Nat} (h : k < 2 ^ 31) : cl (nI k) = k := nI_clamp h
theorem inB_cl {x : Int32} {n : Nat} (hn : n < 2 ^ 31) (h : inB x n = true) : cl x < n ∧ x = nI (cl x) := by
  obtain ⟨k, hk, e⟩ := inB_of hn h
  have h1 : cl x = k := by rw [e]; exact nI_clamp (by omega)
  exact ⟨by omega, by rw [h1]; exact e⟩
theorem inB_lt {x : Int32} {n : Nat} (hn : n < 2 ^ 31) (h0 : ¬ x < 0) (h1 : x < nI n) : inB x n = true := by
  refine inB_in hn h0 fun q => ?_
  have h2 := Int32.lt_iff_toInt_lt.mp h1
  have h3 := Int32.le_iff_toInt_le.mp q
  omega
theorem inB_nlt {x : Int32} {n : Nat} (hn : n < 2 ^ 31) (h1 : ¬ x < nI n) : inB x n = false := by
  refine inB_ge hn (Int32.not_lt.mp h1)
def btw (lo hi : Nat) (x : Int32) : Bool := decide ((lo : Int) ≤ x.toInt ∧ x.toInt ≤ (hi : Int))
theorem btw_lo {lo hi : Nat} {x : Int32} (hl : lo < 2 ^ 31) (h : x < nI lo) : btw lo hi x = false := by
  have h1 := Int32.lt_iff_toInt_lt.mp h
  rw [nI_toInt hl] at h1
  unfold btw
  simp; omega
theorem btw_hi {lo hi : Nat} {x : Int32} (hl : hi < 2 ^ 31) (h : nI hi < x) : btw lo hi x = false := by
  have h1 := Int32.lt_iff_toInt_lt.mp h
  rw [nI_toInt hl] at h1
  unfold btw
  simp; omega
theorem btw_t {lo hi : Nat} {x : Int32} (hl : lo < 2 ^ 31) (hh : hi < 2 ^ 31) (h : ¬ x < nI lo) (h2 : ¬ nI hi < x) : btw lo hi x = true := by
  have h1 : ¬ x.toInt < (lo : Int) := fun q => h (Int32.lt_iff_toInt_lt.mpr (by rw [nI_toInt hl]; exact q))
  have h3 : ¬ (hi : Int) < x.toInt := fun q => h2 (Int32.lt_iff_toInt_lt.mpr (by rw [nI_toInt hh]; exact q))
  unfold btw
  simp; omega
theorem btw_cl {lo hi : Nat} {x : Int32} (hh : hi < 2 ^ 31) (h : btw lo hi x = true) : lo ≤ cl x ∧ cl x ≤ hi ∧ x = nI (cl x) := by
  have h1 := of_decide_eq_true h
  have h2 : inB x (hi + 1) = true := by unfold inB; simp; omega
  by_cases e : hi + 1 < 2 ^ 31
  · obtain ⟨q1, q2⟩ := inB_cl e h2
    have q3 : x.toInt = (cl x : Int) := by
      have := nI_toInt (n := cl x) (by omega)
      rw [← q2] at this
      exact this
    exact ⟨by omega, by omega, q2⟩
  · have q4 : ¬ x < 0 := fun q => by have := i_neg.mp q; omega
    obtain ⟨j, hj, e2⟩ := nI_of q4
    have q5 : cl x = j := by rw [e2]; exact nI_clamp hj
    have q6 : x.toInt = (j : Int) := by rw [e2]; exact nI_toInt hj
    exact ⟨by omega, by omega, by rw [q5]; exact e2⟩
def ok3 (x y z : Int32) : Bool := btw 2 16 x && btw 1 10 y && btw 1 3 z
def pcN (σ : Nat → Nat) : Nat := ct (fun a => σ (141 + a) != 0) (nA σ)
def aCount (σ : Nat → Nat) (x : Int32) : Int32 := cond (inB x 9) (nI (nuN σ (cl x))) (-3)
def aCode (σ : Nat → Nat) (x : Int32) : Int32 := cond (inB x (σ 0)) (nI (σ (3 + cl x))) (-2)
def aWord (σ : Nat → Nat) (x : Int32) : Int32 := cond (inB x (nA σ)) (nI (σ (19 + cl x))) (-2)
def aThrough (σ : Nat → Nat) (x y : Int32) : Int32 := cond (inB x (nW σ) && inB y (σ 0)) (nI ((wvM σ (cl x)).testBit (cl y)).toNat) (-2)
def aCost (σ : Nat → Nat) (x : Int32) : Int32 := cond (inB x (nW σ)) (nI (csN σ (cl x))) (-2)
def aPicked (σ : Nat → Nat) (x : Int32) : Int32 := cond (inB x 16) (nI (pkM (wvM σ) σ (cl x))) (-3)
def aRead (σ : Nat → Nat) (x : Int32) : Int32 := cond (inB x (nA σ)) (nI (rdN σ (cl x))) (-2)
def aRaw (σ : Nat → Nat) (x : Int32) : Int32 := cond (inB x (nA σ)) (nI (rrN σ (cl x))) (-2)
def aParity (σ : Nat → Nat) (x : Int32) : Int32 := cond (inB x (nA σ)) (zB (paB σ (cl x))) (-2)
def aWrong (σ : Nat → Nat) (x : Int32) : Int32 := cond (inB x 4) (nI (ct (iwB σ (cl x)) (nA σ))) (-3)
def aExplains (σ : Nat → Nat) (x : Int32) : Int32 := cond (decide (0 ≤ x.toInt)) (exF σ (cl x)) (-3)
def aPatchOf (σ : Nat → Nat) (x : Int32) : Int32 := cond (inB x (nA σ)) (ptF σ (cl x)) (-2)
def okC (σ : Nat → Nat) (x y : Int32) : Bool := rcF σ (cl y) == -1 || rcF σ (cl y) == x
def aSetCode (σ : Nat → Nat) (x y : Int32) : Int32 := cond (inB x (σ 0)) (cond (inB y 16) (cond (okC σ x y) (nI (σ (3 + cl x))) (-4)) (-3)) (-2)
def aWeave (σ : Nat → Nat) (x y : Int32) : Int32 := cond (inB x (nA σ)) (cond (inB y (2 ^ σ 1)) (nI (σ (19 + cl x))) (-3)) (-2)
def aCross (σ : Nat → Nat) (x : Int32) : Int32 := cond (inB x (nW σ)) (cond (inB x 8) (-4) (nI (1 - crN σ (cl x)))) (-2)
def aSpoil (σ : Nat → Nat) (x y : Int32) : Int32 := cond (inB x (nW σ) && inB y (σ 0)) (nI ((σ (100 + cl x) ^^^ 1 <<< cl y).testBit (cl y)).toNat) (-2)
def okP (σ : Nat → Nat) (x : Int32) : Bool := σ (141 + cl x) != 0 || decide (pcN σ < 4)
def ptS (σ : Nat → Nat) (x : Int32) (v : Nat) : Nat → Nat := va_up σ (141 + cl x) v
def aPatch (σ : Nat → Nat) (x y : Int32) : Int32 := cond (inB x (nA σ)) (cond (inB y (2 ^ σ 1)) (cond (okP σ x) (nI (pcN (ptS σ x (cl y + 1)))) (-5)) (-3)) (-2)
def aUnpatch (σ : Nat → Nat) (x : Int32) : Int32 := cond (inB x (nA σ)) (cond (σ (141 + cl x) != 0) (nI (pcN (ptS σ x 0))) (-4)) (-2)
def paS (σ : Nat → Nat) : Nat → Nat := (adP (mdS σ (nA σ)) (nA (mdS σ (nA σ)))).1
def aPatchAll (σ : Nat → Nat) : Int32 := nI (ct (iwB (paS σ) 0) (nA (paS σ)))
def ldS (σ : Nat → Nat) (g : Nat → Nat) : Nat → Nat → Nat
  | 0 => σ
  | n + 1 => va_up (ldS σ g n) (19 + n) (g n)
theorem wf_code {σ : Nat → Nat} (hw : wf σ) {r c : Nat} (hr : r < σ 0) (hc : c < 16) (hn : ∀ q, q < σ 0 → ¬ q = r → ¬ σ (3 + q) = c) : wf (va_up σ (3 + r) c) := by
  have hR := hw.2.1
  obtain ⟨h1, h2, h3, h4, h5, h6, h7, h8, h9, h10, h11, h12⟩ := hw
  have e0 : va_up σ (3 + r) c 0 = σ 0 := up_ne (by omega)
  have e1 : va_up σ (3 + r) c 1 = σ 1 := up_ne (by omega)
  have e2 : va_up σ (3 + r) c 2 = σ 2 := up_ne (by omega)
  have eA : nA (va_up σ (3 + r) c) = nA σ := by unfold nA; rw [e0, e2]
  have eW : nW (va_up σ (3 + r) c) = nW σ := by unfold nW; rw [e1, e2]
  unfold wf
  rw [eA, eW, e0, e1, e2]
  refine ⟨h1, h2, h3, h4, h5, h6, fun q hq => ?_, fun q z hq hz e => ?_, fun a ha => by rw [up_ne (by omega)]; exact h9 a ha, fun k hk => by rw [up_ne (by omega)]; exact h10 k hk, fun w hw => by rw [up_ne (by omega)]; exact h11 w hw, fun a ha => by rw [up_ne (by omega)]; exact h12 a ha⟩
  · by_cases e : q = r
    · subst e; rw [up_s]; exact hc
    · rw [up_ne (by omega)]; exact h7 q hq
  · by_cases e3 : q = r
    · subst e3
      by_cases e4 : z = q
      · exact e4.symm
      · rw [up_s, up_ne (by omega)] at e
        exact absurd e.symm (hn z hz e4)
    · by_cases e4 : z = r
      · subst e4
        rw [up_s, up_ne (by omega)] at e
        exact absurd e (hn q hq e3)
      · rw [up_ne (by omega), up_ne (by omega)] at e
        exact h8 q z hq hz e
theorem wf_word {σ : Nat → Nat} (hw : wf σ) {ad wd : Nat} (ha : ad < nA σ) (hd : wd < 2 ^ σ 1) : wf (va_up σ (19 + ad) wd) := by
  have hR := hw.2.1
  have hA := hw.a48
  obtain ⟨h1, h2, h3, h4, h5, h6, h7, h8, h9, h10, h11, h12⟩ := hw
  have e0 : va_up σ (19 + ad) wd 0 = σ 0 := up_ne (by omega)
  have e1 : va_up σ (19 + ad) wd 1 = σ 1 := up_ne (by omega)
  have e2 : va_up σ (19 + ad) wd 2 = σ 2 := up_ne (by omega)
  have eA : nA (va_up σ (19 + ad) wd) = nA σ := by unfold nA; rw [e0, e2]
  have eW : nW (va_up σ (19 + ad) wd) = nW σ := by unfold nW; rw [e1, e2]
  unfold wf
  rw [eA, eW, e0, e1, e2]
  refine ⟨h1, h2, h3, h4, h5, h6, fun q hq => by rw [up_ne (by omega)]; exact h7 q hq, fun q z hq hz e => h8 q z hq hz (by rw [up_ne (by omega), up_ne (by omega)] at e; exact e), fun a ha => ?_, fun k hk => by rw [up_ne (by omega)]; exact h10 k hk, fun w hw => by rw [up_ne (by omega)]; exact h11 w hw, fun a ha => by rw [up_ne (by omega)]; exact h12 a ha⟩
  by_cases e : a = ad
  · subst e; rw [up_s]; exact hd
  · rw [up_ne (by omega)]; exact h9 a ha
theorem wf_cr {σ : Nat → Nat} (hw : wf σ) {k x : Nat} (hk : k < σ 2 * (σ 1 + 1)) (hx : x ≤ 1) : wf (va_up σ (67 + k) x) := by
  have hR := hw.2.1
  have hA := hw.a48
  have h33 := hw.a33
  obtain ⟨h1, h2, h3, h4, h5, h6, h7, h8, h9, h10, h11, h12⟩ := hw
  have e0 : va_up σ (67 + k) x 0 = σ 0 := up_ne (by omega)
  have e1 : va_up σ (67 + k) x 1 = σ 1 := up_ne (by omega)
  have e2 : va_up σ (67 + k) x 2 = σ 2 := up_ne (by omega)
  have eA : nA (va_up σ (67 + k) x) = nA σ := by unfold nA; rw [e0, e2]
  have eW : nW (va_up σ (67 + k) x) = nW σ := by unfold nW; rw [e1, e2]
  unfold wf
  rw [eA, eW, e0, e1, e2]
  refine ⟨h1, h2, h3, h4, h5, h6, fun q hq => by rw [up_ne (by omega)]; exact h7 q hq, fun q z hq hz e => h8 q z hq hz (by rw [up_ne (by omega), up_ne (by omega)] at e; exact e), fun a ha => by rw [up_ne (by omega)]; exact h9 a ha, fun j hj => ?_, fun w hw => by rw [up_ne (by omega)]; exact h11 w hw, fun a ha => by rw [up_ne (by omega)]; exact h12 a ha⟩
  by_cases e : j = k
  · subst e; rw [up_s]; exact hx
  · rw [up_ne (by omega)]; exact h10 j hj
theorem wf_sp {σ : Nat → Nat} (hw : wf σ) {w x : Nat} (hk : w < nW σ) (hx : x < 2 ^ σ 0) : wf (va_up σ (100 + w) x) := by
  have hR := hw.2.1
  have hA := hw.a48
  have h41 := hw.w41
  have h33 := hw.a33
  obtain ⟨h1, h2, h3, h4, h5, h6, h7, h8, h9, h10, h11, h12⟩ := hw
  have e0 : va_up σ (100 + w) x 0 = σ 0 := up_ne (by omega)
  have e1 : va_up σ (100 + w) x 1 = σ 1 := up_ne (by omega)
  have e2 : va_up σ (100 + w) x 2 = σ 2 := up_ne (by omega)
  have eA : nA (va_up σ (100 + w) x) = nA σ := by unfold nA; rw [e0, e2]
  have eW : nW (va_up σ (100 + w) x) = nW σ := by unfold nW; rw [e1, e2]
  unfold wf
  rw [eA, eW, e0, e1, e2]
  refine ⟨h1, h2, h3, h4, h5, h6, fun q hq => by rw [up_ne (by omega)]; exact h7 q hq, fun q z hq hz e => h8 q z hq hz (by rw [up_ne (by omega), up_ne (by omega)] at e; exact e), fun a ha => by rw [up_ne (by omega)]; exact h9 a ha, fun j hj => by rw [up_ne (by omega)]; exact h10 j hj, fun j hj => ?_, fun a ha => by rw [up_ne (by omega)]; exact h12 a ha⟩
  by_cases e : j = w
  · subst e; rw [up_s]; exact hx
  · rw [up_ne (by omega)]; exact h11 j hj
theorem wf_pt {σ : Nat → Nat} (hw : wf σ) {a x : Nat} (hx : x ≤ 2 ^ σ 1) : wf (va_up σ (141 + a) x) := by
  refine wf_hi hw (fun k hk => up_ne (by omega)) fun j hj => ?_
  by_cases e : j = a
  · subst e; rw [up_s]; exact hx
  · rw [up_ne (by omega)]; exact hw.2.2.2.2.2.2.2.2.2.2.2 j hj
theorem wf_ec {σ : Nat → Nat} (hw : wf σ) : wf (ecS σ) := by
  have hR := hw.2.1
  have hA := hw.a48
  have h33 := hw.a33
  have lo : ∀ k, k < 67 → ecS σ k = σ k := fun k hk => by unfold ecS; rw [if_neg (by omega)]
  have hi : ∀ k, 100 ≤ k → ecS σ k = σ k := fun k hk => by unfold ecS; rw [if_neg (by omega)]
  obtain ⟨h1, h2, h3, h4, h5, h6, h7, h8, h9, h10, h11, h12⟩ := hw
  have e0 := lo 0 (by omega)
  have e1 := lo 1 (by omega)
  have e2 := lo 2 (by omega)
  have eA : nA (ecS σ) = nA σ := by unfold nA; rw [e0, e2]
  have eW : nW (ecS σ) = nW σ := by unfold nW; rw [e1, e2]
  unfold wf
  rw [eA, eW, e0, e1, e2]
  refine ⟨h1, h2, h3, h4, h5, h6, fun q hq => by rw [lo _ (by omega)]; exact h7 q hq, fun q z hq hz e => h8 q z hq hz (by rw [lo _ (by omega), lo _ (by omega)] at e; exact e), fun a ha => by rw [lo _ (by omega)]; exact h9 a ha, fun j hj => ?_, fun j hj => by rw [hi _ (by omega)]; exact h11 j hj, fun a ha => by rw [hi _ (by omega)]; exact h12 a ha⟩
  unfold ecS
  rw [if_pos (by omega)]
  exact bst_le _ _
theorem pcN_md (σ : Nat → Nat) (n : Nat) : pcN (mdS σ n) = pcN σ := by
  unfold pcN
  have e : nA (mdS σ n) = nA σ := by unfold nA; rw [md_lo σ n (by omega), md_lo σ n (by omega)]
  rw [e]
  refine ct_cong fun a _ => ?_
  unfold mdS
  split
  · rename_i h
    have h1 : σ (141 + a) ≠ 0 := h.2.2
    simp [h1]
  · rfl
end
