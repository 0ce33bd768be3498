section
-- ===== PART A: goes FIRST, ahead of the names: the tables' words, and 'selects' of the private methods out of them =====
/-- a private method of a class that the tables say can be made, by its rows of tables_1 -/
def lw_okq (q : MethodName × Nat) : Prop := (q.1.cls ≠ "java/lang/invoke/MethodHandle" ∧ q.1.cls ≠ "java/lang/invoke/VarHandle") ∧ Cond.instantiable q.1.cls q.2 ∈ tables_1 ∧ Cond.privateMethod q.1 ∈ tables_1 ∧ Cond.instanceMethod q.1 ∈ tables_1
theorem lw_p0 : lw_okq (⟨"java/lang/Throwable", "fillInStackTrace", "(I)Ljava/lang/Throwable;"⟩, 6) := ⟨⟨by decide +kernel, by decide +kernel⟩, List.mem_of_getElem? (i := 275) (by decide +kernel), List.mem_of_getElem? (i := 273) (by decide +kernel), List.mem_of_getElem? (i := 274) (by decide +kernel)⟩
theorem lw_p1 : lw_okq (⟨"HeaderSqueeze$Sender", "enter", "(I)V"⟩, 8) := ⟨⟨by decide +kernel, by decide +kernel⟩, List.mem_of_getElem? (i := 123) (by decide +kernel), List.mem_of_getElem? (i := 391) (by decide +kernel), List.mem_of_getElem? (i := 392) (by decide +kernel)⟩
theorem lw_p2 : lw_okq (⟨"HeaderSqueeze$Sender", "smallestKind", "(LHeaderSqueeze$Head;)I"⟩, 8) := ⟨⟨by decide +kernel, by decide +kernel⟩, List.mem_of_getElem? (i := 123) (by decide +kernel), List.mem_of_getElem? (i := 411) (by decide +kernel), List.mem_of_getElem? (i := 412) (by decide +kernel)⟩
theorem lw_p3 : lw_okq (⟨"HeaderSqueeze$Sender", "isEnough", "(II)Z"⟩, 8) := ⟨⟨by decide +kernel, by decide +kernel⟩, List.mem_of_getElem? (i := 123) (by decide +kernel), List.mem_of_getElem? (i := 415) (by decide +kernel), List.mem_of_getElem? (i := 416) (by decide +kernel)⟩
theorem lw_p4 : lw_okq (⟨"HeaderSqueeze$Packet", "put", "(I)V"⟩, 5) := ⟨⟨by decide +kernel, by decide +kernel⟩, List.mem_of_getElem? (i := 83) (by decide +kernel), List.mem_of_getElem? (i := 455) (by decide +kernel), List.mem_of_getElem? (i := 456) (by decide +kernel)⟩
theorem lw_p5 : lw_okq (⟨"HeaderSqueeze$Packet", "putMoving", "(LHeaderSqueeze$Head;I)V"⟩, 5) := ⟨⟨by decide +kernel, by decide +kernel⟩, List.mem_of_getElem? (i := 83) (by decide +kernel), List.mem_of_getElem? (i := 460) (by decide +kernel), List.mem_of_getElem? (i := 461) (by decide +kernel)⟩
theorem lw_p6 : lw_okq (⟨"HeaderSqueeze$Packet", "putTwo", "(I)V"⟩, 5) := ⟨⟨by decide +kernel, by decide +kernel⟩, List.mem_of_getElem? (i := 83) (by decide +kernel), List.mem_of_getElem? (i := 465) (by decide +kernel), List.mem_of_getElem? (i := 466) (by decide +kernel)⟩
theorem lw_p7 : lw_okq (⟨"HeaderSqueeze", "isNoPacket", "(I)Z"⟩, 7) := ⟨⟨by decide +kernel, by decide +kernel⟩, List.mem_of_getElem? (i := 20) (by decide +kernel), List.mem_of_getElem? (i := 484) (by decide +kernel), List.mem_of_getElem? (i := 485) (by decide +kernel)⟩
theorem lw_p8 : lw_okq (⟨"HeaderSqueeze", "isNoByte", "(II)Z"⟩, 7) := ⟨⟨by decide +kernel, by decide +kernel⟩, List.mem_of_getElem? (i := 20) (by decide +kernel), List.mem_of_getElem? (i := 495) (by decide +kernel), List.mem_of_getElem? (i := 496) (by decide +kernel)⟩
theorem lw_p9 : lw_okq (⟨"HeaderSqueeze$Packet", "isMisshapen", "()Z"⟩, 5) := ⟨⟨by decide +kernel, by decide +kernel⟩, List.mem_of_getElem? (i := 83) (by decide +kernel), List.mem_of_getElem? (i := 546) (by decide +kernel), List.mem_of_getElem? (i := 547) (by decide +kernel)⟩
theorem lw_p10 : lw_okq (⟨"HeaderSqueeze$Packet", "own", "(I)I"⟩, 5) := ⟨⟨by decide +kernel, by decide +kernel⟩, List.mem_of_getElem? (i := 83) (by decide +kernel), List.mem_of_getElem? (i := 552) (by decide +kernel), List.mem_of_getElem? (i := 553) (by decide +kernel)⟩
theorem lw_p11 : lw_okq (⟨"HeaderSqueeze$Receiver", "makeSmall", "(LHeaderSqueeze$Packet;LHeaderSqueeze$Head;)I"⟩, 5) := ⟨⟨by decide +kernel, by decide +kernel⟩, List.mem_of_getElem? (i := 186) (by decide +kernel), List.mem_of_getElem? (i := 582) (by decide +kernel), List.mem_of_getElem? (i := 583) (by decide +kernel)⟩
theorem lw_p12 : lw_okq (⟨"HeaderSqueeze$Receiver", "fits", "(LHeaderSqueeze$Packet;LHeaderSqueeze$Head;I)Z"⟩, 5) := ⟨⟨by decide +kernel, by decide +kernel⟩, List.mem_of_getElem? (i := 186) (by decide +kernel), List.mem_of_getElem? (i := 596) (by decide +kernel), List.mem_of_getElem? (i := 597) (by decide +kernel)⟩
theorem lw_p13 : lw_okq (⟨"HeaderSqueeze$Receiver", "makeMoving", "(LHeaderSqueeze$Packet;LHeaderSqueeze$Head;)I"⟩, 5) := ⟨⟨by decide +kernel, by decide +kernel⟩, List.mem_of_getElem? (i := 186) (by decide +kernel), List.mem_of_getElem? (i := 614) (by decide +kernel), List.mem_of_getElem? (i := 615) (by decide +kernel)⟩
theorem lw_p14 : lw_okq (⟨"HeaderSqueeze$Packet", "ownTwo", "(I)I"⟩, 5) := ⟨⟨by decide +kernel, by decide +kernel⟩, List.mem_of_getElem? (i := 83) (by decide +kernel), List.mem_of_getElem? (i := 622) (by decide +kernel), List.mem_of_getElem? (i := 623) (by decide +kernel)⟩
theorem lw_p15 : lw_okq (⟨"HeaderSqueeze$Receiver", "noteFailure", "()V"⟩, 5) := ⟨⟨by decide +kernel, by decide +kernel⟩, List.mem_of_getElem? (i := 186) (by decide +kernel), List.mem_of_getElem? (i := 636) (by decide +kernel), List.mem_of_getElem? (i := 637) (by decide +kernel)⟩
def lw_privs_1 : List (MethodName × Nat) := [(⟨"java/lang/Throwable", "fillInStackTrace", "(I)Ljava/lang/Throwable;"⟩, 6), (⟨"HeaderSqueeze$Sender", "enter", "(I)V"⟩, 8), (⟨"HeaderSqueeze$Sender", "smallestKind", "(LHeaderSqueeze$Head;)I"⟩, 8), (⟨"HeaderSqueeze$Sender", "isEnough", "(II)Z"⟩, 8), (⟨"HeaderSqueeze$Packet", "put", "(I)V"⟩, 5), (⟨"HeaderSqueeze$Packet", "putMoving", "(LHeaderSqueeze$Head;I)V"⟩, 5), (⟨"HeaderSqueeze$Packet", "putTwo", "(I)V"⟩, 5), (⟨"HeaderSqueeze", "isNoPacket", "(I)Z"⟩, 7), (⟨"HeaderSqueeze", "isNoByte", "(II)Z"⟩, 7), (⟨"HeaderSqueeze$Packet", "isMisshapen", "()Z"⟩, 5), (⟨"HeaderSqueeze$Packet", "own", "(I)I"⟩, 5), (⟨"HeaderSqueeze$Receiver", "makeSmall", "(LHeaderSqueeze$Packet;LHeaderSqueeze$Head;)I"⟩, 5), (⟨"HeaderSqueeze$Receiver", "fits", "(LHeaderSqueeze$Packet;LHeaderSqueeze$Head;I)Z"⟩, 5), (⟨"HeaderSqueeze$Receiver", "makeMoving", "(LHeaderSqueeze$Packet;LHeaderSqueeze$Head;)I"⟩, 5), (⟨"HeaderSqueeze$Packet", "ownTwo", "(I)I"⟩, 5), (⟨"HeaderSqueeze$Receiver", "noteFailure", "()V"⟩, 5)]
theorem lw_r1 : ∀ q ∈ lw_privs_1, lw_okq q := List.forall_mem_cons.mpr ⟨lw_p0, List.forall_mem_cons.mpr ⟨lw_p1, List.forall_mem_cons.mpr ⟨lw_p2, List.forall_mem_cons.mpr ⟨lw_p3, List.forall_mem_cons.mpr ⟨lw_p4, List.forall_mem_cons.mpr ⟨lw_p5, List.forall_mem_cons.mpr ⟨lw_p6, List.forall_mem_cons.mpr ⟨lw_p7, List.forall_mem_cons.mpr ⟨lw_p8, List.forall_mem_cons.mpr ⟨lw_p9, List.forall_mem_cons.mpr ⟨lw_p10, List.forall_mem_cons.mpr ⟨lw_p11, List.forall_mem_cons.mpr ⟨lw_p12, List.forall_mem_cons.mpr ⟨lw_p13, List.forall_mem_cons.mpr ⟨lw_p14, List.forall_mem_cons.mpr ⟨lw_p15, fun _ h => absurd h List.not_mem_nil⟩⟩⟩⟩⟩⟩⟩⟩⟩⟩⟩⟩⟩⟩⟩⟩
theorem lw_p16 : lw_okq (⟨"HeaderSqueeze$Receiver", "noteMade", "(I)V"⟩, 5) := ⟨⟨by decide +kernel, by decide +kernel⟩, List.mem_of_getElem? (i := 186) (by decide +kernel), List.mem_of_getElem? (i := 643) (by decide +kernel), List.mem_of_getElem? (i := 644) (by decide +kernel)⟩
theorem lw_p17 : lw_okq (⟨"HeaderSqueeze", "keepTrial", "()V"⟩, 7) := ⟨⟨by decide +kernel, by decide +kernel⟩, List.mem_of_getElem? (i := 20) (by decide +kernel), List.mem_of_getElem? (i := 652) (by decide +kernel), List.mem_of_getElem? (i := 653) (by decide +kernel)⟩
theorem lw_p18 : lw_okq (⟨"HeaderSqueezeModel", "noFlow", "(I)Z"⟩, 33) := ⟨⟨by decide +kernel, by decide +kernel⟩, List.mem_of_getElem? (i := 685) (by decide +kernel), List.mem_of_getElem? (i := 800) (by decide +kernel), List.mem_of_getElem? (i := 801) (by decide +kernel)⟩
theorem lw_p19 : lw_okq (⟨"HeaderSqueezeModel", "outside", "(I)Z"⟩, 33) := ⟨⟨by decide +kernel, by decide +kernel⟩, List.mem_of_getElem? (i := 685) (by decide +kernel), List.mem_of_getElem? (i := 804) (by decide +kernel), List.mem_of_getElem? (i := 805) (by decide +kernel)⟩
theorem lw_p20 : lw_okq (⟨"HeaderSqueezeModel", "choose", "(II)I"⟩, 33) := ⟨⟨by decide +kernel, by decide +kernel⟩, List.mem_of_getElem? (i := 685) (by decide +kernel), List.mem_of_getElem? (i := 817) (by decide +kernel), List.mem_of_getElem? (i := 818) (by decide +kernel)⟩
theorem lw_p21 : lw_okq (⟨"HeaderSqueezeModel", "enough", "(III)Z"⟩, 33) := ⟨⟨by decide +kernel, by decide +kernel⟩, List.mem_of_getElem? (i := 685) (by decide +kernel), List.mem_of_getElem? (i := 821) (by decide +kernel), List.mem_of_getElem? (i := 822) (by decide +kernel)⟩
theorem lw_p22 : lw_okq (⟨"HeaderSqueezeModel", "backOf", "(I)I"⟩, 33) := ⟨⟨by decide +kernel, by decide +kernel⟩, List.mem_of_getElem? (i := 685) (by decide +kernel), List.mem_of_getElem? (i := 825) (by decide +kernel), List.mem_of_getElem? (i := 826) (by decide +kernel)⟩
theorem lw_p23 : lw_okq (⟨"HeaderSqueezeModel", "bitsOf", "(I)I"⟩, 33) := ⟨⟨by decide +kernel, by decide +kernel⟩, List.mem_of_getElem? (i := 685) (by decide +kernel), List.mem_of_getElem? (i := 829) (by decide +kernel), List.mem_of_getElem? (i := 830) (by decide +kernel)⟩
theorem lw_p24 : lw_okq (⟨"HeaderSqueezeModel", "fill", "(IIZIII)V"⟩, 33) := ⟨⟨by decide +kernel, by decide +kernel⟩, List.mem_of_getElem? (i := 685) (by decide +kernel), List.mem_of_getElem? (i := 833) (by decide +kernel), List.mem_of_getElem? (i := 834) (by decide +kernel)⟩
theorem lw_p25 : lw_okq (⟨"HeaderSqueezeModel", "write", "(III)V"⟩, 33) := ⟨⟨by decide +kernel, by decide +kernel⟩, List.mem_of_getElem? (i := 685) (by decide +kernel), List.mem_of_getElem? (i := 837) (by decide +kernel), List.mem_of_getElem? (i := 838) (by decide +kernel)⟩
theorem lw_p26 : lw_okq (⟨"HeaderSqueezeModel", "put", "(I)V"⟩, 33) := ⟨⟨by decide +kernel, by decide +kernel⟩, List.mem_of_getElem? (i := 685) (by decide +kernel), List.mem_of_getElem? (i := 841) (by decide +kernel), List.mem_of_getElem? (i := 842) (by decide +kernel)⟩
theorem lw_p27 : lw_okq (⟨"HeaderSqueezeModel", "sum", "(II)I"⟩, 33) := ⟨⟨by decide +kernel, by decide +kernel⟩, List.mem_of_getElem? (i := 685) (by decide +kernel), List.mem_of_getElem? (i := 845) (by decide +kernel), List.mem_of_getElem? (i := 846) (by decide +kernel)⟩
theorem lw_p28 : lw_okq (⟨"HeaderSqueezeModel", "putRest", "(I)V"⟩, 33) := ⟨⟨by decide +kernel, by decide +kernel⟩, List.mem_of_getElem? (i := 685) (by decide +kernel), List.mem_of_getElem? (i := 849) (by decide +kernel), List.mem_of_getElem? (i := 850) (by decide +kernel)⟩
theorem lw_p29 : lw_okq (⟨"HeaderSqueezeModel", "note", "(II)V"⟩, 33) := ⟨⟨by decide +kernel, by decide +kernel⟩, List.mem_of_getElem? (i := 685) (by decide +kernel), List.mem_of_getElem? (i := 853) (by decide +kernel), List.mem_of_getElem? (i := 854) (by decide +kernel)⟩
theorem lw_p30 : lw_okq (⟨"HeaderSqueezeModel", "noPacket", "(I)Z"⟩, 33) := ⟨⟨by decide +kernel, by decide +kernel⟩, List.mem_of_getElem? (i := 685) (by decide +kernel), List.mem_of_getElem? (i := 865) (by decide +kernel), List.mem_of_getElem? (i := 866) (by decide +kernel)⟩
theorem lw_p31 : lw_okq (⟨"HeaderSqueezeModel", "noByte", "(II)Z"⟩, 33) := ⟨⟨by decide +kernel, by decide +kernel⟩, List.mem_of_getElem? (i := 685) (by decide +kernel), List.mem_of_getElem? (i := 873) (by decide +kernel), List.mem_of_getElem? (i := 874) (by decide +kernel)⟩
def lw_privs_2 : List (MethodName × Nat) := [(⟨"HeaderSqueeze$Receiver", "noteMade", "(I)V"⟩, 5), (⟨"HeaderSqueeze", "keepTrial", "()V"⟩, 7), (⟨"HeaderSqueezeModel", "noFlow", "(I)Z"⟩, 33), (⟨"HeaderSqueezeModel", "outside", "(I)Z"⟩, 33), (⟨"HeaderSqueezeModel", "choose", "(II)I"⟩, 33), (⟨"HeaderSqueezeModel", "enough", "(III)Z"⟩, 33), (⟨"HeaderSqueezeModel", "backOf", "(I)I"⟩, 33), (⟨"HeaderSqueezeModel", "bitsOf", "(I)I"⟩, 33), (⟨"HeaderSqueezeModel", "fill", "(IIZIII)V"⟩, 33), (⟨"HeaderSqueezeModel", "write", "(III)V"⟩, 33), (⟨"HeaderSqueezeModel", "put", "(I)V"⟩, 33), (⟨"HeaderSqueezeModel", "sum", "(II)I"⟩, 33), (⟨"HeaderSqueezeModel", "putRest", "(I)V"⟩, 33), (⟨"HeaderSqueezeModel", "note", "(II)V"⟩, 33), (⟨"HeaderSqueezeModel", "noPacket", "(I)Z"⟩, 33), (⟨"HeaderSqueezeModel", "noByte", "(II)Z"⟩, 33)]
theorem lw_r2 : ∀ q ∈ lw_privs_2, lw_okq q := List.forall_mem_cons.mpr ⟨lw_p16, List.forall_mem_cons.mpr ⟨lw_p17, List.forall_mem_cons.mpr ⟨lw_p18, List.forall_mem_cons.mpr ⟨lw_p19, List.forall_mem_cons.mpr ⟨lw_p20, List.forall_mem_cons.mpr ⟨lw_p21, List.forall_mem_cons.mpr ⟨lw_p22, List.forall_mem_cons.mpr ⟨lw_p23, List.forall_mem_cons.mpr ⟨lw_p24, List.forall_mem_cons.mpr ⟨lw_p25, List.forall_mem_cons.mpr ⟨lw_p26, List.forall_mem_cons.mpr ⟨lw_p27, List.forall_mem_cons.mpr ⟨lw_p28, List.forall_mem_cons.mpr ⟨lw_p29, List.forall_mem_cons.mpr ⟨lw_p30, List.forall_mem_cons.mpr ⟨lw_p31, fun _ h => absurd h List.not_mem_nil⟩⟩⟩⟩⟩⟩⟩⟩⟩⟩⟩⟩⟩⟩⟩⟩
theorem lw_p32 : lw_okq (⟨"HeaderSqueezeModel", "off", "(I)V"⟩, 33) := ⟨⟨by decide +kernel, by decide +kernel⟩, List.mem_of_getElem? (i := 685) (by decide +kernel), List.mem_of_getElem? (i := 885) (by decide +kernel), List.mem_of_getElem? (i := 886) (by decide +kernel)⟩
theorem lw_p33 : lw_okq (⟨"HeaderSqueezeModel", "kindOf", "(I)I"⟩, 33) := ⟨⟨by decide +kernel, by decide +kernel⟩, List.mem_of_getElem? (i := 685) (by decide +kernel), List.mem_of_getElem? (i := 893) (by decide +kernel), List.mem_of_getElem? (i := 894) (by decide +kernel)⟩
theorem lw_p34 : lw_okq (⟨"HeaderSqueezeModel", "broken", "(II)Z"⟩, 33) := ⟨⟨by decide +kernel, by decide +kernel⟩, List.mem_of_getElem? (i := 685) (by decide +kernel), List.mem_of_getElem? (i := 897) (by decide +kernel), List.mem_of_getElem? (i := 898) (by decide +kernel)⟩
theorem lw_p35 : lw_okq (⟨"HeaderSqueezeModel", "sizeOf", "(I)I"⟩, 33) := ⟨⟨by decide +kernel, by decide +kernel⟩, List.mem_of_getElem? (i := 685) (by decide +kernel), List.mem_of_getElem? (i := 901) (by decide +kernel), List.mem_of_getElem? (i := 902) (by decide +kernel)⟩
theorem lw_p36 : lw_okq (⟨"HeaderSqueezeModel", "comeSmall", "(III)I"⟩, 33) := ⟨⟨by decide +kernel, by decide +kernel⟩, List.mem_of_getElem? (i := 685) (by decide +kernel), List.mem_of_getElem? (i := 905) (by decide +kernel), List.mem_of_getElem? (i := 906) (by decide +kernel)⟩
theorem lw_p37 : lw_okq (⟨"HeaderSqueezeModel", "near", "(III)I"⟩, 33) := ⟨⟨by decide +kernel, by decide +kernel⟩, List.mem_of_getElem? (i := 685) (by decide +kernel), List.mem_of_getElem? (i := 909) (by decide +kernel), List.mem_of_getElem? (i := 910) (by decide +kernel)⟩
theorem lw_p38 : lw_okq (⟨"HeaderSqueezeModel", "fits", "(IIIZI)Z"⟩, 33) := ⟨⟨by decide +kernel, by decide +kernel⟩, List.mem_of_getElem? (i := 685) (by decide +kernel), List.mem_of_getElem? (i := 913) (by decide +kernel), List.mem_of_getElem? (i := 914) (by decide +kernel)⟩
theorem lw_p39 : lw_okq (⟨"HeaderSqueezeModel", "keep", "(II)V"⟩, 33) := ⟨⟨by decide +kernel, by decide +kernel⟩, List.mem_of_getElem? (i := 685) (by decide +kernel), List.mem_of_getElem? (i := 917) (by decide +kernel), List.mem_of_getElem? (i := 918) (by decide +kernel)⟩
theorem lw_p40 : lw_okq (⟨"HeaderSqueezeModel", "comeWhole", "(III)Z"⟩, 33) := ⟨⟨by decide +kernel, by decide +kernel⟩, List.mem_of_getElem? (i := 685) (by decide +kernel), List.mem_of_getElem? (i := 921) (by decide +kernel), List.mem_of_getElem? (i := 922) (by decide +kernel)⟩
theorem lw_p41 : lw_okq (⟨"HeaderSqueezeModel", "two", "(I)I"⟩, 33) := ⟨⟨by decide +kernel, by decide +kernel⟩, List.mem_of_getElem? (i := 685) (by decide +kernel), List.mem_of_getElem? (i := 925) (by decide +kernel), List.mem_of_getElem? (i := 926) (by decide +kernel)⟩
theorem lw_p42 : lw_okq (⟨"HeaderSqueezeModel", "fail", "(I)V"⟩, 33) := ⟨⟨by decide +kernel, by decide +kernel⟩, List.mem_of_getElem? (i := 685) (by decide +kernel), List.mem_of_getElem? (i := 929) (by decide +kernel), List.mem_of_getElem? (i := 930) (by decide +kernel)⟩
def lw_privs_3 : List (MethodName × Nat) := [(⟨"HeaderSqueezeModel", "off", "(I)V"⟩, 33), (⟨"HeaderSqueezeModel", "kindOf", "(I)I"⟩, 33), (⟨"HeaderSqueezeModel", "broken", "(II)Z"⟩, 33), (⟨"HeaderSqueezeModel", "sizeOf", "(I)I"⟩, 33), (⟨"HeaderSqueezeModel", "comeSmall", "(III)I"⟩, 33), (⟨"HeaderSqueezeModel", "near", "(III)I"⟩, 33), (⟨"HeaderSqueezeModel", "fits", "(IIIZI)Z"⟩, 33), (⟨"HeaderSqueezeModel", "keep", "(II)V"⟩, 33), (⟨"HeaderSqueezeModel", "comeWhole", "(III)Z"⟩, 33), (⟨"HeaderSqueezeModel", "two", "(I)I"⟩, 33), (⟨"HeaderSqueezeModel", "fail", "(I)V"⟩, 33)]
theorem lw_r3 : ∀ q ∈ lw_privs_3, lw_okq q := List.forall_mem_cons.mpr ⟨lw_p32, List.forall_mem_cons.mpr ⟨lw_p33, List.forall_mem_cons.mpr ⟨lw_p34, List.forall_mem_cons.mpr ⟨lw_p35, List.forall_mem_cons.mpr ⟨lw_p36, List.forall_mem_cons.mpr ⟨lw_p37, List.forall_mem_cons.mpr ⟨lw_p38, List.forall_mem_cons.mpr ⟨lw_p39, List.forall_mem_cons.mpr ⟨lw_p40, List.forall_mem_cons.mpr ⟨lw_p41, List.forall_mem_cons.mpr ⟨lw_p42, fun _ h => absurd h List.not_mem_nil⟩⟩⟩⟩⟩⟩⟩⟩⟩⟩⟩
def lw_privs : List (MethodName × Nat) := lw_privs_1 ++ (lw_privs_2 ++ (lw_privs_3))
def lw_tbl : List Cond := k2_sels lw_privs ++ tables_1
theorem lw_privs_ok : ∀ q ∈ lw_privs, lw_okq q := by
  show ∀ q ∈ lw_privs_1 ++ (lw_privs_2 ++ (lw_privs_3)), lw_okq q
  exact List.forall_mem_append.mpr ⟨lw_r1, List.forall_mem_append.mpr ⟨lw_r2, lw_r3⟩⟩
-- ===== end of PART A
end
section
/-! ===== BEGIN words of one list among another's, by their places ===== -/
theorem goodIn_r {big : List Cond} (ws : List Cond) (ps : List Nat) (hp : ws = ps.filterMap (fun i => big[i]?)) (h : ws.all goodWord = true) : GoodIn big ws := by
  intro w hw
  have h1 := List.all_eq_true.mp h w hw
  rw [hp] at hw
  obtain ⟨i, -, hi⟩ := List.mem_filterMap.mp hw
  have hm : w ∈ big := by first | exact List.mem_of_getElem? hi | exact List.getElem?_mem hi
  exact ⟨hm, good_of_word h1⟩
theorem goodIn_app {big a b : List Cond} (ha : GoodIn big a) (hb : GoodIn big b) : GoodIn big (a ++ b) := fun w h => (List.mem_append.mp h).elim (ha w) (hb w)
theorem goodIn_ca {big a b : List Cond} {c : Cond} (ha : GoodIn big (c :: a)) (hb : GoodIn big b) : GoodIn big (c :: (a ++ b)) := fun w h => (List.mem_cons.mp h).elim (fun e => ha w (List.mem_cons.mpr (Or.inl e))) (fun h => (List.mem_append.mp h).elim (fun h => ha w (List.mem_cons.mpr (Or.inr h))) (hb w))
theorem goodIn_sub {big ws : List Cond} (hm : ∀ w ∈ ws, w ∈ big) (h : ws.all goodWord = true) : GoodIn big ws := fun w hw => ⟨hm w hw, good_of_word (List.all_eq_true.mp h w hw)⟩
/-! ===== END ===== -/

/-! ===== BEGIN exceptions that leave a method, and their catching by the caller (launches without stack traces) ===== -/
section VXA
/-! The laws vx_back, vx_callV, vx_callS, vx_callSW, vx_throw0, vx_throwS follow proofs of the library, with one case more: JvmDerived/Free/Laws.lean (Back.of_free), Shelf42/LK1.lean (callV, callS), Shelf/KitTraced.lean (throwNew0V, throwNewS). -/
/-- where a method has thrown q: the class by its name, the cell, what was written, the world -/
def vx_T (XC : String → State → State → Prop) (st : State) (q : Addr) (t : State) (mc ms : Nat) (free : Addr → Prop) : Prop :=
  ∃ (E : String) (ce : Cell) (L : List Loc), XC E st t ∧ t.heap[q]? = some ce ∧ ce.vm = .none ∧ st.vm.findClass E = some ce.cls ∧ st.WarmedH t.vm ∧ st.sameButNew ({ t with vm := st.vm } : State) L mc ms ∧ ∀ z ∈ L, free z.base
def vx_Q (Qc : Array Value → State → Outcome → State → Prop) (XC : String → State → State → Prop) (mc ms : Nat) (free : Addr → Prop) : Array Value → State → Outcome → State → Prop := fun a st o t =>
  (Qc a st o t ∧ ∃ L, FrameEnd st o t L mc ms ∧ ∀ q ∈ L, free q.base) ∨ ∃ q, o = .threw q ∧ vx_T XC st q t mc ms free
/-- a callee that returns or throws -/
def vx_Met (l : Launch) (y : MethodName) (ws : List Cond) (rm : Room) (Pc : Array Value → State → Prop) (Qc : Array Value → State → Outcome → State → Prop) (XC : String → State → State → Prop) (mc ms : Nat) (free : Addr → Prop) : Prop :=
  MetFree l y (headSpec ws rm) Pc (fun _ _ _ _ _ => True) (vx_Q Qc XC mc ms free)
def vx_Post (XC : String → State → State → Prop) (mc ms : Nat) (free : Addr → Prop) : Pt → Array Value → Addr → Pt → Prop := fun A a q B =>
  ∃ (g : JFrame) (mk : MethodId) (t : State) (L : List Loc) (E : String) (ce : Cell), B.U.heap = t.heap ∧ B.U.vm = t.vm ∧ XC E (A.U.calling g mk a) t ∧ t.heap[q]? = some ce ∧ ce.vm = .none ∧ A.U.vm.findClass E = some ce.cls ∧ B.locs = A.locs ++ L ∧ (∀ z ∈ L, free z.base) ∧ B.cells = A.cells + mc ∧ B.slots = A.slots + ms
def vx_Back (l : Launch) (R : Room) (p : Program) (e : Env) (below : List Frame) (s : State) (sargs : Array Value) (y : MethodName) (len W9 : Nat)
    (Pre : Pt → Array Value → Prop) (Post : Pt → Array Value → Option Value → Pt → Prop) (PostX : Pt → Array Value → Addr → Pt → Prop) : Prop :=
  ∀ (m : MethodId) (meth : Method) (c : Code) (A : Pt) (g : JFrame) (ig : Instr) (mk : MethodId) (a : Array Value),
    Stand p l e R s m sargs below meth c A.U A.locs A.cells A.slots → g.method = m → g.locals.size = c.maxLocals → decode c.code g.pc = .ok (ig, len) →
    2 * g.monitorRoom + (g.stack.map fun v => v.category).sum ≤ W9 → A.U.methodNamed? y = some mk → Pre A a →
    (∃ (v : Option Value) (B : Pt), Stand p l e R s m sargs below meth c B.U B.locs B.cells B.slots ∧ Post A a v B ∧
      Steps p.tables e below (doInvoke e (A.U.setTop g) [] mk a).1 (B.U.setTop { g with pc := g.pc + len, stack := v.toList ++ g.stack })) ∨
    (∃ (q : Addr) (B : Pt), Stand p l e R s m sargs below meth c B.U B.locs B.cells B.slots ∧ PostX A a q B ∧
      Steps p.tables e below (doInvoke e (A.U.setTop g) [] mk a).1 ((B.U.setTop g).pushFrame (.throwing q)))
section Payer
variable {l : Launch} {R : Room} {p : Program} {e : Env} {below : List Frame} {s : State} {sargs : Array Value} {y : MethodName} {len W9 : Nat}
theorem vx_back {ws : List Cond} {rm : Room} {Pc : Array Value → State → Prop} {Qc : Array Value → State → Outcome → State → Prop} {XC : String → State → State → Prop} {mc ms : Nat} {free : Addr → Prop} {bytes : ByteArray} {maxL : Nat} {ret : Option FieldType}
    (hM : vx_Met l y ws rm Pc Qc XC mc ms free) (hblind : FrameBlind Pc) (hrc : rm.cells = mc) (hrs : rm.slots = ms)
    (hframes : rm.frames + 1 ≤ R.frames) (hlocals : W9 + (maxL + 11) + rm.locals ≤ R.locals)
    (hws : ∀ w ∈ ws, ∀ a' U, s.WarmedH U.vm → w.before a' U = true) (hcode : Cond.code y bytes maxL ret ∈ ws) (hinit : ∀ a' U, s.WarmedH U.vm → (Cond.initialized y.cls).before a' U = true) :
    vx_Back l R p e below s sargs y len W9 (PreOf R mc ms Pc) (PostOf Qc mc ms free) (vx_Post XC mc ms free) := by
  intro m meth c A g ig mk a X hg hsize hdg hW hn hp
  have h1 : (headSpec ws rm).pre.before a A.U = true := atoms_intro fun w hw => hws w hw _ _ X.warmed
  have h2 : (Cond.code y bytes maxL ret).before a A.U = true := hws _ hcode _ _ X.warmed
  have h3 : (Cond.initialized y.cls).before a A.U = true := hinit _ _ X.warmed
  have h4 : A.cells + (headSpec ws rm).room.cells ≤ R.cells := by rw [show (headSpec ws rm).room.cells = mc from hrc]; exact hp.1
  have h5 : A.slots + (headSpec ws rm).room.slots ≤ R.slots := by rw [show (headSpec ws rm).room.slots = ms from hrs]; exact hp.2.1
  have hPc : Pc a (A.U.calling g mk a) := hblind _ _ _ _ hp.2.2
  obtain ⟨U, Ls, c0, s0⟩ := A
  dsimp only [Pt.U, Pt.locs, Pt.cells, Pt.slots] at h1 h2 h3 h4 h5 X hn hPc ⊢
  obtain ⟨methY, cY, hmY, hcY, -, hlY, -, -, -, -⟩ := Cond.code_spec hn h2
  obtain ⟨kY, hkY, -⟩ := className_of_methodNamed hn
  have hinitY : kY.init = .initialized := Cond.initialized_spec (findClass_of_methodNamed hn) hkY h3
  have h : At U g.method c below := by rw [hg]; exact X.here
  have hlocals9 : W9 + (maxL + 11) + (headSpec ws rm).room.locals ≤ R.locals := hlocals
  have happ : (headSpec ws rm).appliesLoose y e.platform (U.calling g mk a) = true :=
    Spec.appliesLoose_calling (g := g) h hdg hn hkY hinitY
      (X.room_calling (g := g) (R' := (headSpec ws rm).room) hsize hmY hcY hframes (by rw [hlY]; omega) h4 h5) h1
  obtain ⟨mid, hmid⟩ := h.above
  have hfr : (U.setTop g).frames = (.java g :: mid) ++ below := by rw [State.frames_setTop' g h.top, hmid]; rfl
  obtain ⟨o, s₂, hsteps, -, hend, hq⟩ := Steps.callFree hM p X.admits X.cas X.clock (acts := []) hfr happ hPc trivial
  have hq' : vx_Q Qc XC mc ms free a (U.calling g mk a) o s₂ := hq
  rw [State.frames_setTop' g h.top] at hend
  obtain ⟨g₀, hg0⟩ := Option.isSome_iff_exists.mp h.top
  obtain ⟨r, hr⟩ := State.topJava?_eq_some.mp hg0
  have hr' : (({ U with heap := s₂.heap, slotsUsed := s₂.slotsUsed } : State).setVm s₂.vm).frames = .java g₀ :: r := hr
  rcases hq' with ⟨hqc, L, hfe, hL⟩ | ⟨q, rfl, E, ce, L, hx, hce, hcv, hcl, hW₂, hsm, hL⟩
  · obtain ⟨⟨v, rfl⟩, hW₂, e2, q2, q3, q4, q5, q6⟩ := id hfe
    have e3 : s₂ = ({ (U.calling g mk a).setFrames s₂.frames with heap := s₂.heap, slotsUsed := s₂.slotsUsed } : State).setVm s₂.vm := by
      have : s₂ = ({ s₂ with vm := (U.calling g mk a).vm } : State).setVm s₂.vm := rfl
      rw [e2] at this
      exact this
    obtain ⟨c₂, i₂, len₂, hc₂, hd₂, hf₂⟩ := hend
    have hW' : U.WarmedH s₂.vm := hW₂
    have hcc : c₂ = c := by
      have h1 : s₂.code? g.method = U.code? g.method := by
        rw [State.code?_eq, State.code?_eq, hW'.alike.method?]
      exact Option.some.inj (hc₂.symm.trans (h1.trans h.code))
    subst hcc
    have hlen : len₂ = len := by rw [hdg] at hd₂; cases hd₂; rfl
    subst hlen
    have hs₂ : s₂ = (({ U with heap := s₂.heap, slotsUsed := s₂.slotsUsed } : State).setVm s₂.vm).setTop { g with pc := g.pc + len₂, stack := v.toList ++ g.stack } := by
      refine e3.trans ?_
      rw [hf₂, State.calling_eq h.top, State.setFrames_setFrames, State.setTop_of_frames _ hr', hr]
      rfl
    have hsame : U.sameButNew ({ U with heap := s₂.heap, slotsUsed := s₂.slotsUsed } : State) L mc ms := by
      refine ⟨?_, q2, q3, q4, q5, q6⟩
      obtain ⟨t, ht, -⟩ := State.frames_cons hr
      show ({ U with heap := s₂.heap, slotsUsed := s₂.slotsUsed } : State) = { U.setFrames U.frames with heap := s₂.heap, slotsUsed := s₂.slotsUsed }
      rw [State.setFrames_self ht]
    subst hg
    refine Or.inl ⟨v, ⟨(({ U with heap := s₂.heap, slotsUsed := s₂.slotsUsed } : State).setVm s₂.vm), Ls ++ L, c0 + mc, s0 + ms⟩,
      ⟨X.admits, X.cas, X.clock, X.frames, X.room, X.hears, X.method, X.code, (X.here.setHeapUsed s₂.heap s₂.slotsUsed).setVm hW'.alike, X.tail, State.WarmedH.trans X.warmed hW', X.limits, X.bytes, X.same.trans (hsame.setVm s.vm)⟩,
      ⟨g, mk, s₂, L, rfl, rfl, hqc, rfl, hL, rfl, rfl⟩, ?_⟩
    show Steps p.tables e below _ ((({ U with heap := s₂.heap, slotsUsed := s₂.slotsUsed } : State).setVm s₂.vm).setTop { g with pc := g.pc + len₂, stack := v.toList ++ g.stack })
    rw [← hs₂]
    exact hsteps
  · obtain ⟨e2, q2, q3, q4, q5, q6⟩ := id hsm
    have e3 : s₂ = ({ (U.calling g mk a).setFrames s₂.frames with heap := s₂.heap, slotsUsed := s₂.slotsUsed } : State).setVm s₂.vm := by
      have : s₂ = ({ s₂ with vm := (U.calling g mk a).vm } : State).setVm s₂.vm := rfl
      rw [e2] at this
      exact this
    have hf₂ : s₂.frames = .throwing q :: .java g :: U.frames.tail := hend
    have hW' : U.WarmedH s₂.vm := hW₂
    have hs₂ : s₂ = ((({ U with heap := s₂.heap, slotsUsed := s₂.slotsUsed } : State).setVm s₂.vm).setTop g).pushFrame (.throwing q) := by
      refine e3.trans ?_
      rw [hf₂, State.calling_eq h.top, State.setFrames_setFrames, State.pushFrame, State.frames_setTop _ hr', State.setTop_of_frames _ hr', State.setFrames_setFrames, hr]
      rfl
    have hsame : U.sameButNew ({ U with heap := s₂.heap, slotsUsed := s₂.slotsUsed } : State) L mc ms := by
      refine ⟨?_, q2, q3, q4, q5, q6⟩
      obtain ⟨t, ht, -⟩ := State.frames_cons hr
      show ({ U with heap := s₂.heap, slotsUsed := s₂.slotsUsed } : State) = { U.setFrames U.frames with heap := s₂.heap, slotsUsed := s₂.slotsUsed }
      rw [State.setFrames_self ht]
    subst hg
    refine Or.inr ⟨q, ⟨(({ U with heap := s₂.heap, slotsUsed := s₂.slotsUsed } : State).setVm s₂.vm), Ls ++ L, c0 + mc, s0 + ms⟩,
      ⟨X.admits, X.cas, X.clock, X.frames, X.room, X.hears, X.method, X.code, (X.here.setHeapUsed s₂.heap s₂.slotsUsed).setVm hW'.alike, X.tail, State.WarmedH.trans X.warmed hW', X.limits, X.bytes, X.same.trans (hsame.setVm s.vm)⟩,
      ⟨g, mk, s₂, L, E, ce, rfl, rfl, hx, hce, hcv, hcl, rfl, hL, rfl, rfl⟩, ?_⟩
    show Steps p.tables e below _ (((({ U with heap := s₂.heap, slotsUsed := s₂.slotsUsed } : State).setVm s₂.vm).setTop g).pushFrame (.throwing q))
    rw [← hs₂]
    exact hsteps
end Payer
section Calls
variable {p : Program} {l : Launch} {e : Env} {R : Room} {s : State} {m : MethodId} {args : Array Value} {below : List Frame} {meth : Method} {c : Code} {T : State} {locs : List Loc} {cells slots : Nat}
theorem vx_callV (X : Stand p l e R s m args below meth c T locs cells slots) (hexec : p.tables.exec = Jvm.exec) {own C : String} {index : Nat} {y : MethodName} {bytes : ByteArray} {maxL : Nat} {ret : Option FieldType}
    (hown : s.vm.findClass own = some m.cls) (hlink : (Cond.methodLink own index y).before args s = true) (hinst : (Cond.instanceMethod y).before args s = true) (hsel : (Cond.selects C y y).before args s = true)
    (hcode : (Cond.code y bytes maxL ret).before args s = true) (hy : y.cls ≠ "java/lang/invoke/MethodHandle" ∧ y.cls ≠ "java/lang/invoke/VarHandle")
    {W9 : Nat} {Pre : Pt → Array Value → Prop} {Post : Pt → Array Value → Option Value → Pt → Prop} {PostX : Pt → Array Value → Addr → Pt → Prop} (hK : vx_Back l R p e below s args y 3 W9 Pre Post PostX)
    {b : Addr} {cellB : Cell} (hcell : T.heap[b]? = some cellB) (hobj : cellB.vm.isStatics = false) (hcls : s.vm.findClass C = some cellB.cls)
    {g : JFrame} (hg : g.method = m) (hsize : g.locals.size = c.maxLocals) {argsL rest : List Value} (hlen : ∀ sig, parseMethodDescriptor y.desc = some sig → argsL.length = sig.parameters.length)
    (hstack : g.stack = argsL.reverse ++ .ref b :: rest) (hW : 2 * g.monitorRoom + (rest.map fun v => v.category).sum ≤ W9) (hdg : decode c.code g.pc = .ok (.invokevirtual index, 3))
    (hpre : ∀ vm₁, s.WarmedH vm₁ → Pre ⟨T.setVm vm₁, locs, cells, slots⟩ (Value.ref b :: argsL).toArray) :
    (∃ (v : Option Value) (vm₁ : Vm) (B : Pt), s.WarmedH vm₁ ∧ Stand p l e R s m args below meth c B.U B.locs B.cells B.slots ∧ Post ⟨T.setVm vm₁, locs, cells, slots⟩ (Value.ref b :: argsL).toArray v B ∧
      ∀ target, Steps p.tables e below (B.U.setTop { g with pc := g.pc + 3, stack := v.toList ++ rest }) target → Steps p.tables e below (T.setTop g) target) ∨
    (∃ (q : Addr) (vm₁ : Vm) (B : Pt), s.WarmedH vm₁ ∧ Stand p l e R s m args below meth c B.U B.locs B.cells B.slots ∧ PostX ⟨T.setVm vm₁, locs, cells, slots⟩ (Value.ref b :: argsL).toArray q B ∧
      Steps p.tables e below (T.setTop g) ((B.U.setTop { g with stack := rest }).pushFrame (.throwing q))) := by
  obtain ⟨mk, methM, hnamed, hmethM, hstM, habM⟩ := Cond.instanceMethod_spec hinst
  obtain ⟨methM', cM, hmethM', -, -, -, -, -, -, hsigM⟩ := Cond.code_spec hnamed hcode
  cases hmethM.symm.trans hmethM'
  obtain ⟨c2, r2, m2, q1, q2, q3, q4, kP, hkP, hkPi⟩ := Cond.selects_spec hsel
  cases hcls.symm.trans q1
  cases (State.methodFound?_of_named hnamed hy).symm.trans q2
  cases hnamed.symm.trans q3
  have hselP : selectMethod e.platform s.vm cellB.cls mk = .method mk := by rw [Launch.admits_selectMethod X.admits]; exact q4
  obtain ⟨vm₁, X₁, hstep₁⟩ := X.invokevirtual hexec hown hlink hnamed hmethM hstM hkP hkPi hy (a := b) (cell := cellB) hcell
    (fun z h => by rw [h] at hobj; cases hobj) hselP hmethM habM hkP hkPi (g := g) hg (argsL := argsL) (rest := rest) (hlen _ hsigM) hstack hdg
  rcases hK m meth c ⟨T.setVm vm₁, locs, cells, slots⟩ { g with stack := rest } (.invokevirtual index) mk (Value.ref b :: argsL).toArray X₁ hg hsize hdg hW (X₁.named hnamed) (hpre vm₁ X₁.warmed) with ⟨v, B, X', hpost, hsteps⟩ | ⟨q, B, X', hpost, hsteps⟩
  · exact Or.inl ⟨v, vm₁, B, X₁.warmed, X', hpost, fun target h => hstep₁ _ fun acts => by rw [doInvoke_state]; exact hsteps.trans h⟩
  · exact Or.inr ⟨q, vm₁, B, X₁.warmed, X', hpost, hstep₁ _ fun acts => by rw [doInvoke_state]; exact hsteps⟩
theorem vx_callS (X : Stand p l e R s m args below meth c T locs cells slots) (hexec : p.tables.exec = Jvm.exec) {own : String} {index : Nat} {y : MethodName} {bytes : ByteArray} {maxL : Nat} {ret : Option FieldType}
    (hown : s.vm.findClass own = some m.cls) (hlink : (Cond.methodLink own index y).before args s = true) (hstat : (Cond.static y).before args s = true) (hinit : (Cond.initialized y.cls).before args s = true)
    (hcode : (Cond.code y bytes maxL ret).before args s = true) (hy : y.cls ≠ "java/lang/invoke/MethodHandle" ∧ y.cls ≠ "java/lang/invoke/VarHandle")
    {W9 : Nat} {Pre : Pt → Array Value → Prop} {Post : Pt → Array Value → Option Value → Pt → Prop} {PostX : Pt → Array Value → Addr → Pt → Prop} (hK : vx_Back l R p e below s args y 3 W9 Pre Post PostX)
    {g : JFrame} (hg : g.method = m) (hsize : g.locals.size = c.maxLocals) {argsL rest : List Value} (hlen : ∀ sig, parseMethodDescriptor y.desc = some sig → argsL.length = sig.parameters.length)
    (hstack : g.stack = argsL.reverse ++ rest) (hW : 2 * g.monitorRoom + (rest.map fun v => v.category).sum ≤ W9) (hdg : decode c.code g.pc = .ok (.invokestatic index, 3))
    (hpre : ∀ vm₁, s.WarmedH vm₁ → Pre ⟨T.setVm vm₁, locs, cells, slots⟩ argsL.toArray) :
    (∃ (v : Option Value) (vm₁ : Vm) (B : Pt), s.WarmedH vm₁ ∧ Stand p l e R s m args below meth c B.U B.locs B.cells B.slots ∧ Post ⟨T.setVm vm₁, locs, cells, slots⟩ argsL.toArray v B ∧
      ∀ target, Steps p.tables e below (B.U.setTop { g with pc := g.pc + 3, stack := v.toList ++ rest }) target → Steps p.tables e below (T.setTop g) target) ∨
    (∃ (q : Addr) (vm₁ : Vm) (B : Pt), s.WarmedH vm₁ ∧ Stand p l e R s m args below meth c B.U B.locs B.cells B.slots ∧ PostX ⟨T.setVm vm₁, locs, cells, slots⟩ argsL.toArray q B ∧
      Steps p.tables e below (T.setTop g) ((B.U.setTop { g with stack := rest }).pushFrame (.throwing q))) := by
  obtain ⟨mk, hnamed⟩ := Cond.code_named hcode
  obtain ⟨methM, cM, hmethM, -, -, -, -, -, -, hsigM⟩ := Cond.code_spec hnamed hcode
  have hstatic : methM.isStatic = true := Cond.static_spec hnamed hmethM hstat
  obtain ⟨kP, hkP, -⟩ := className_of_methodNamed hnamed
  have hinitP : kP.init = .initialized := Cond.initialized_spec (findClass_of_methodNamed hnamed) hkP hinit
  obtain ⟨vm₁, X₁, hstep₁⟩ := X.invokestatic hexec hown hlink hnamed hmethM hstatic hkP hinitP hy (g := g) hg (argsL := argsL) (rest := rest) (hlen _ hsigM) hstack hdg
  rcases hK m meth c ⟨T.setVm vm₁, locs, cells, slots⟩ { g with stack := rest } (.invokestatic index) mk argsL.toArray X₁ hg hsize hdg hW (X₁.named hnamed) (hpre vm₁ X₁.warmed) with ⟨v, B, X', hpost, hsteps⟩ | ⟨q, B, X', hpost, hsteps⟩
  · exact Or.inl ⟨v, vm₁, B, X₁.warmed, X', hpost, fun target h => hstep₁ _ fun acts => by rw [doInvoke_state]; exact hsteps.trans h⟩
  · exact Or.inr ⟨q, vm₁, B, X₁.warmed, X', hpost, hstep₁ _ fun acts => by rw [doInvoke_state]; exact hsteps⟩
end Calls
theorem vx_cls {s : State} {T : State} {vm₁ : Vm} {E : String} {k : ClassId} (hW : s.WarmedH vm₁) (h : (T.setVm vm₁).vm.findClass E = some k) : s.vm.findClass E = some k := by
  have h1 : vm₁.findClass E = some k := h
  rw [hW.alike.findClass] at h1
  exact h1
/-- the method's frame g, with q thrown over it -/
def vx_W (p : Program) (l : Launch) (e : Env) (R : Room) (s : State) (m : MethodId) (args : Array Value) (below : List Frame) (meth : Method) (c : Code) (H : Heap) (locs : List Loc) (cells slots : Nat) (Q : State → Prop) (g : JFrame) (q : Addr) : Prop :=
  ∀ T : State, T.heap = H → Stand p l e R s m args below meth c T locs cells slots → ∃ t, Steps p.tables e below ((T.setTop g).pushFrame (.throwing q)) t ∧ Q t
def vx_Run (p : Program) (l : Launch) (e : Env) (R : Room) (s : State) (m : MethodId) (args : Array Value) (below : List Frame) (meth : Method) (c : Code) (H : Heap) (locs : List Loc) (cells slots mc ms : Nat) (g : JFrame) (rest : List Value) (Qa : State → Outcome → State → Prop) (XC : String → State → State → Prop) (free : Addr → Prop) : Prop :=
  ∀ T : State, T.heap = H → Stand p l e R s m args below meth c T locs cells slots →
    (∃ (v : Option Value) (st₀ t T' : State) (L : List Loc), st₀.heap = H ∧ Stand p l e R s m args below meth c T' (locs ++ L) (cells + mc) (slots + ms) ∧ (∀ q ∈ L, free q.base) ∧ T'.heap = t.heap ∧ T'.vm = t.vm ∧ Qa st₀ (.returned v) t ∧
      Goes p e below T g T' { g with pc := g.pc + 3, stack := v.toList ++ rest }) ∨
    (∃ (q : Addr) (st₀ t T' : State) (L : List Loc) (E : String) (ce : Cell), st₀.heap = H ∧ Stand p l e R s m args below meth c T' (locs ++ L) (cells + mc) (slots + ms) ∧ (∀ z ∈ L, free z.base) ∧ T'.heap = t.heap ∧ T'.vm = t.vm ∧ XC E st₀ t ∧ t.heap[q]? = some ce ∧ ce.vm = .none ∧ s.vm.findClass E = some ce.cls ∧
      Steps p.tables e below (T.setTop g) ((T'.setTop { g with stack := rest }).pushFrame (.throwing q)))
def vx_X {S : Type} (px : S → Prop) (B : String → S → State → Prop) (A : Nat → Prop) : String → State → State → Prop := fun E st t => ∃ u : S, px u ∧ B E u t ∧ va_F A st t
section Runs
variable {p : Program} {l : Launch} {e : Env} {R : Room} {s : State} {m : MethodId} {args : Array Value} {below : List Frame} {meth : Method} {c : Code} {H : Heap} {locs : List Loc} {cells slots : Nat}
variable {y : MethodName} {bytes cc : ByteArray} {maxL nL mc ms n index : Nat} {ret : Option FieldType} {ws : List Cond} {rm : Room} {Pc : Array Value → State → Prop} {Qc : Array Value → State → Outcome → State → Prop} {XC : String → State → State → Prop} {free : Addr → Prop} {Ts : List Cond} {own C : String} {b : Addr} {As rest : List Value} {g : JFrame}
theorem vx_callBack (cb : CallB R s args own index y bytes maxL ret ws rm mc ms n) (hM : vx_Met l y ws rm Pc Qc XC mc ms free) (hbl : FrameBlind Pc) : vx_Back l R p e below s args y 3 8 (PreOf R mc ms Pc) (PostOf Qc mc ms free) (vx_Post XC mc ms free) := by
  obtain ⟨hrc, hrs, hfr, hlo, hws, hcw, -, hini, -⟩ := cb
  exact vx_back (bytes := bytes) (maxL := maxL) (ret := ret) hM hbl hrc hrs hfr hlo hws hcw (fun a' U hW => word_at hW (Or.inl (by first | rfl | simp [Cond.onTables, Cond.keeps, Cond.steady])) hini)
theorem vx_runV (S : CallFix p m c cc nL s args Ts own) (hM : vx_Met l y ws rm Pc Qc XC mc ms free) (cw : CallW R s args own C index y bytes maxL ret ws rm mc ms n) (hp : PreV s H C b Pc As)
    (hg : g.method = m) (hn : As.length = n) (hsize : g.locals.size = nL) (hstack : g.stack = As.reverse ++ .ref b :: rest) (hW : 2 * g.monitorRoom + (rest.map fun v => v.category).sum ≤ 8) (hdg : decode cc g.pc = .ok (.invokevirtual index, 3)) (hf : cells + mc ≤ R.cells ∧ slots + ms ≤ R.slots) :
    vx_Run p l e R s m args below meth c H locs cells slots mc ms g rest (Qc (Value.ref b :: As).toArray) XC free := by
  have hK : vx_Back l R p e below s args y 3 8 (PreOf R mc ms Pc) (PostOf Qc mc ms free) (vx_Post XC mc ms free) := vx_callBack cw.1 hM hp.1
  obtain ⟨⟨-, -, -, -, -, -, hcode, -, hy, hlen, hl⟩, hin, hse⟩ := cw
  obtain ⟨hx, hb, hml, ho, -⟩ := S
  obtain ⟨-, ⟨cellB, hcB, hoB, hclB⟩, hPc⟩ := hp
  intro T hT X
  rcases vx_callV X hx (C := C) (bytes := bytes) (maxL := maxL) (ret := ret) ho hl hin hse hcode hy hK (by rw [hT]; exact hcB) hoB hclB hg (hsize.trans hml.symm) (argsL := As) (rest := rest) (fun sig h => hn.trans (hlen sig h)) hstack hW (by rw [hb]; exact hdg)
    (fun vm₁ hW₁ => ⟨hf.1, hf.2, hPc (T.setVm vm₁) hT hW₁⟩) with ⟨v, vm₁, ⟨U', l2, c2, s2⟩, hW₁, X', ⟨g', mk, t, L, e1, e2, hq, h1, hL, h2, h3⟩, st⟩ | ⟨q, vm₁, ⟨U', l2, c2, s2⟩, hW₁, X', ⟨g', mk, t, L, E, ce, e1, e2, hq, hce, hcv, hcl, h1, hL, h2, h3⟩, st⟩
  · dsimp only [Pt.U, Pt.locs, Pt.cells, Pt.slots] at X' e1 e2 h1 h2 h3 st
    subst h1; subst h2; subst h3
    exact Or.inl ⟨v, (T.setVm vm₁).calling g' mk (Value.ref b :: As).toArray, t, U', L, hT, X', hL, e1, e2, hq, st⟩
  · dsimp only [Pt.U, Pt.locs, Pt.cells, Pt.slots] at X' e1 e2 h1 h2 h3 st hcl
    subst h1; subst h2; subst h3
    exact Or.inr ⟨q, (T.setVm vm₁).calling g' mk (Value.ref b :: As).toArray, t, U', L, E, ce, hT, X', hL, e1, e2, hq, hce, hcv, vx_cls hW₁ hcl, st⟩
theorem vx_runS (S : CallFix p m c cc nL s args Ts own) (hM : vx_Met l y ws rm Pc Qc XC mc ms free) (cw : CallB R s args own index y bytes maxL ret ws rm mc ms n ∧ (Cond.static y).before args s = true) (hp : PreS s H Pc As)
    (hg : g.method = m) (hn : As.length = n) (hsize : g.locals.size = nL) (hstack : g.stack = As.reverse ++ rest) (hW : 2 * g.monitorRoom + (rest.map fun v => v.category).sum ≤ 8) (hdg : decode cc g.pc = .ok (.invokestatic index, 3)) (hf : cells + mc ≤ R.cells ∧ slots + ms ≤ R.slots) :
    vx_Run p l e R s m args below meth c H locs cells slots mc ms g rest (Qc As.toArray) XC free := by
  have hK : vx_Back l R p e below s args y 3 8 (PreOf R mc ms Pc) (PostOf Qc mc ms free) (vx_Post XC mc ms free) := vx_callBack cw.1 hM hp.1
  obtain ⟨⟨-, -, -, -, -, -, hcode, hini, hy, hlen, hl⟩, hstt⟩ := cw
  obtain ⟨hx, hb, hml, ho, -⟩ := S
  intro T hT X
  rcases vx_callS X hx (bytes := bytes) (maxL := maxL) (ret := ret) ho hl hstt hini hcode hy hK hg (hsize.trans hml.symm) (argsL := As) (rest := rest) (fun sig h => hn.trans (hlen sig h)) hstack hW (by rw [hb]; exact hdg)
    (fun vm₁ hW₁ => ⟨hf.1, hf.2, hp.2 (T.setVm vm₁) hT hW₁⟩) with ⟨v, vm₁, ⟨U', l2, c2, s2⟩, hW₁, X', ⟨g', mk, t, L, e1, e2, hq, h1, hL, h2, h3⟩, st⟩ | ⟨q, vm₁, ⟨U', l2, c2, s2⟩, hW₁, X', ⟨g', mk, t, L, E, ce, e1, e2, hq, hce, hcv, hcl, h1, hL, h2, h3⟩, st⟩
  · dsimp only [Pt.U, Pt.locs, Pt.cells, Pt.slots] at X' e1 e2 h1 h2 h3 st
    subst h1; subst h2; subst h3
    exact Or.inl ⟨v, (T.setVm vm₁).calling g' mk As.toArray, t, U', L, hT, X', hL, e1, e2, hq, st⟩
  · dsimp only [Pt.U, Pt.locs, Pt.cells, Pt.slots] at X' e1 e2 h1 h2 h3 st hcl
    subst h1; subst h2; subst h3
    exact Or.inr ⟨q, (T.setVm vm₁).calling g' mk As.toArray, t, U', L, E, ce, hT, X', hL, e1, e2, hq, hce, hcv, vx_cls hW₁ hcl, st⟩
end Runs
section Rows
variable {p : Program} {l : Launch} {e : Env} {R : Room} {s : State} {m : MethodId} {args : Array Value} {below : List Frame} {meth : Method} {c : Code} {H : Heap} {locs : List Loc} {cells slots : Nat} {Q : State → Prop}
variable {mc ms : Nat} {free : Addr → Prop} {A0 A1 : Nat → Prop} {H0 : Heap} {a : Array Value} {pc : Nat} {ls : Array Slot} {st0 rest : List Value}
theorem vx_keep {st₀ t T' : State} {L : List Loc} (h0 : st₀.heap = H) (e1 : T'.heap = t.heap) (hS : va_S A0 H0 H locs) (hA : ∀ q, q < H.size → A1 q → A0 q) (hf : ∀ q, free q → A0 q) (hL : ∀ q ∈ L, free q.base) (hF : va_F A1 st₀ t) :
    H.size ≤ T'.heap.size ∧ (∀ q : Nat, q < H.size → ¬ A1 q → T'.heap[q]? = H[q]?) ∧ va_S A0 H0 T'.heap (locs ++ L) := by
  obtain ⟨hz, hk⟩ := hF
  rw [h0] at hz hk
  exact ⟨by rw [e1]; exact hz, fun q h1 h2 => by rw [e1]; exact hk q h1 h2,
    ⟨Nat.le_trans hS.1 (by rw [e1]; exact hz), fun q h1 h2 => by rw [e1, hk q (Nat.lt_of_lt_of_le h1 hS.1) (fun z => h2 (hA q (Nat.lt_of_lt_of_le h1 hS.1) z))]; exact hS.2.1 q h1 h2, fun q hq => by
      rcases List.mem_append.mp hq with h | h
      · exact hS.2.2 q h
      · exact hf _ (hL q h)⟩⟩
theorem vx_calli {S SX : Type} {post : Int32 → S → Prop} {px : SX → Prop} {B : S → State → Prop} {BX : String → SX → State → Prop} {AX : Nat → Prop} (hr : vx_Run p l e R s m args below meth c H locs cells slots mc ms (F0 m pc ls st0) rest (va_Qi post B A1 a) (vx_X px BX AX) free) (hS : va_S A0 H0 H locs) (hA : ∀ q, q < H.size → A1 q → A0 q) (hf : ∀ q, free q → A0 q) (hAX : ∀ q, q < H.size → AX q → A0 q)
    (kx : ∀ (E : String) (ce : Cell) (q9 : Addr) (u : SX) (t : State) (H1 : Heap) (locs1 : List Loc), t.heap = H1 → s.vm.Alike t.vm → px u → BX E u t → H.size ≤ H1.size → (∀ q : Nat, q < H.size → ¬ AX q → H1[q]? = H[q]?) → va_S A0 H0 H1 locs1 → H1[q9]? = some ce → ce.vm = .none → s.vm.findClass E = some ce.cls → vx_W p l e R s m args below meth c H1 locs1 (cells + mc) (slots + ms) Q (F0 m pc ls rest) q9)
    (kk : ∀ (r : Int32) (u : S) (t : State) (H1 : Heap) (locs1 : List Loc), t.heap = H1 → s.vm.Alike t.vm → post r u → B u t → H.size ≤ H1.size → (∀ q : Nat, q < H.size → ¬ A1 q → H1[q]? = H[q]?) → va_S A0 H0 H1 locs1 → W p l e R s m args below meth c H1 locs1 (cells + mc) (slots + ms) Q (F0 m (pc + 3) ls (.int r :: rest))) : W p l e R s m args below meth c H locs cells slots Q (F0 m pc ls st0) := by
  intro T hT X
  rcases hr T hT X with ⟨v, st₀, t, T', L, h0, X', hL, e1, e2, ⟨⟨r, u, hv, hp, hb⟩, hF⟩, st⟩ | ⟨q, st₀, t, T', L, E, ce, h0, X', hL, e1, e2, ⟨u, hp, hb, hF⟩, hce, hcv, hcl, st⟩
  · cases hv
    obtain ⟨k1, k2, k3⟩ := vx_keep h0 e1 hS hA hf hL hF
    obtain ⟨t2, a1, b1⟩ := kk r u t T'.heap (locs ++ L) e1.symm (by rw [← e2]; exact X'.warmed.alike) hp hb k1 k2 k3 T' rfl X'
    exact ⟨t2, st t2 a1, b1⟩
  · obtain ⟨k1, k2, k3⟩ := vx_keep h0 e1 hS hAX hf hL hF
    obtain ⟨t2, a1, b1⟩ := kx E ce q u t T'.heap (locs ++ L) e1.symm (by rw [← e2]; exact X'.warmed.alike) hp hb k1 k2 k3 (by rw [e1]; exact hce) hcv hcl T' rfl X'
    exact ⟨t2, st.trans a1, b1⟩
theorem vx_calll {S SX : Type} {post : Int64 → S → Prop} {px : SX → Prop} {B : S → State → Prop} {BX : String → SX → State → Prop} {AX : Nat → Prop} (hr : vx_Run p l e R s m args below meth c H locs cells slots mc ms (F0 m pc ls st0) rest (va_Ql post B A1 a) (vx_X px BX AX) free) (hS : va_S A0 H0 H locs) (hA : ∀ q, q < H.size → A1 q → A0 q) (hf : ∀ q, free q → A0 q) (hAX : ∀ q, q < H.size → AX q → A0 q)
    (kx : ∀ (E : String) (ce : Cell) (q9 : Addr) (u : SX) (t : State) (H1 : Heap) (locs1 : List Loc), t.heap = H1 → s.vm.Alike t.vm → px u → BX E u t → H.size ≤ H1.size → (∀ q : Nat, q < H.size → ¬ AX q → H1[q]? = H[q]?) → va_S A0 H0 H1 locs1 → H1[q9]? = some ce → ce.vm = .none → s.vm.findClass E = some ce.cls → vx_W p l e R s m args below meth c H1 locs1 (cells + mc) (slots + ms) Q (F0 m pc ls rest) q9)
    (kk : ∀ (r : Int64) (u : S) (t : State) (H1 : Heap) (locs1 : List Loc), t.heap = H1 → s.vm.Alike t.vm → post r u → B u t → H.size ≤ H1.size → (∀ q : Nat, q < H.size → ¬ A1 q → H1[q]? = H[q]?) → va_S A0 H0 H1 locs1 → W p l e R s m args below meth c H1 locs1 (cells + mc) (slots + ms) Q (F0 m (pc + 3) ls (.long r :: rest))) : W p l e R s m args below meth c H locs cells slots Q (F0 m pc ls st0) := by
  intro T hT X
  rcases hr T hT X with ⟨v, st₀, t, T', L, h0, X', hL, e1, e2, ⟨⟨r, u, hv, hp, hb⟩, hF⟩, st⟩ | ⟨q, st₀, t, T', L, E, ce, h0, X', hL, e1, e2, ⟨u, hp, hb, hF⟩, hce, hcv, hcl, st⟩
  · cases hv
    obtain ⟨k1, k2, k3⟩ := vx_keep h0 e1 hS hA hf hL hF
    obtain ⟨t2, a1, b1⟩ := kk r u t T'.heap (locs ++ L) e1.symm (by rw [← e2]; exact X'.warmed.alike) hp hb k1 k2 k3 T' rfl X'
    exact ⟨t2, st t2 a1, b1⟩
  · obtain ⟨k1, k2, k3⟩ := vx_keep h0 e1 hS hAX hf hL hF
    obtain ⟨t2, a1, b1⟩ := kx E ce q u t T'.heap (locs ++ L) e1.symm (by rw [← e2]; exact X'.warmed.alike) hp hb k1 k2 k3 (by rw [e1]; exact hce) hcv hcl T' rfl X'
    exact ⟨t2, st.trans a1, b1⟩
theorem vx_callf {S SX : Type} {post : UInt32 → S → Prop} {px : SX → Prop} {B : S → State → Prop} {BX : String → SX → State → Prop} {AX : Nat → Prop} (hr : vx_Run p l e R s m args below meth c H locs cells slots mc ms (F0 m pc ls st0) rest (va_Qf post B A1 a) (vx_X px BX AX) free) (hS : va_S A0 H0 H locs) (hA : ∀ q, q < H.size → A1 q → A0 q) (hf : ∀ q, free q → A0 q) (hAX : ∀ q, q < H.size → AX q → A0 q)
    (kx : ∀ (E : String) (ce : Cell) (q9 : Addr) (u : SX) (t : State) (H1 : Heap) (locs1 : List Loc), t.heap = H1 → s.vm.Alike t.vm → px u → BX E u t → H.size ≤ H1.size → (∀ q : Nat, q < H.size → ¬ AX q → H1[q]? = H[q]?) → va_S A0 H0 H1 locs1 → H1[q9]? = some ce → ce.vm = .none → s.vm.findClass E = some ce.cls → vx_W p l e R s m args below meth c H1 locs1 (cells + mc) (slots + ms) Q (F0 m pc ls rest) q9)
    (kk : ∀ (r : UInt32) (u : S) (t : State) (H1 : Heap) (locs1 : List Loc), t.heap = H1 → s.vm.Alike t.vm → post r u → B u t → H.size ≤ H1.size → (∀ q : Nat, q < H.size → ¬ A1 q → H1[q]? = H[q]?) → va_S A0 H0 H1 locs1 → W p l e R s m args below meth c H1 locs1 (cells + mc) (slots + ms) Q (F0 m (pc + 3) ls (.float r :: rest))) : W p l e R s m args below meth c H locs cells slots Q (F0 m pc ls st0) := by
  intro T hT X
  rcases hr T hT X with ⟨v, st₀, t, T', L, h0, X', hL, e1, e2, ⟨⟨r, u, hv, hp, hb⟩, hF⟩, st⟩ | ⟨q, st₀, t, T', L, E, ce, h0, X', hL, e1, e2, ⟨u, hp, hb, hF⟩, hce, hcv, hcl, st⟩
  · cases hv
    obtain ⟨k1, k2, k3⟩ := vx_keep h0 e1 hS hA hf hL hF
    obtain ⟨t2, a1, b1⟩ := kk r u t T'.heap (locs ++ L) e1.symm (by rw [← e2]; exact X'.warmed.alike) hp hb k1 k2 k3 T' rfl X'
    exact ⟨t2, st t2 a1, b1⟩
  · obtain ⟨k1, k2, k3⟩ := vx_keep h0 e1 hS hAX hf hL hF
    obtain ⟨t2, a1, b1⟩ := kx E ce q u t T'.heap (locs ++ L) e1.symm (by rw [← e2]; exact X'.warmed.alike) hp hb k1 k2 k3 (by rw [e1]; exact hce) hcv hcl T' rfl X'
    exact ⟨t2, st.trans a1, b1⟩
theorem vx_calld {S SX : Type} {post : UInt64 → S → Prop} {px : SX → Prop} {B : S → State → Prop} {BX : String → SX → State → Prop} {AX : Nat → Prop} (hr : vx_Run p l e R s m args below meth c H locs cells slots mc ms (F0 m pc ls st0) rest (va_Qd post B A1 a) (vx_X px BX AX) free) (hS : va_S A0 H0 H locs) (hA : ∀ q, q < H.size → A1 q → A0 q) (hf : ∀ q, free q → A0 q) (hAX : ∀ q, q < H.size → AX q → A0 q)
    (kx : ∀ (E : String) (ce : Cell) (q9 : Addr) (u : SX) (t : State) (H1 : Heap) (locs1 : List Loc), t.heap = H1 → s.vm.Alike t.vm → px u → BX E u t → H.size ≤ H1.size → (∀ q : Nat, q < H.size → ¬ AX q → H1[q]? = H[q]?) → va_S A0 H0 H1 locs1 → H1[q9]? = some ce → ce.vm = .none → s.vm.findClass E = some ce.cls → vx_W p l e R s m args below meth c H1 locs1 (cells + mc) (slots + ms) Q (F0 m pc ls rest) q9)
    (kk : ∀ (r : UInt64) (u : S) (t : State) (H1 : Heap) (locs1 : List Loc), t.heap = H1 → s.vm.Alike t.vm → post r u → B u t → H.size ≤ H1.size → (∀ q : Nat, q < H.size → ¬ A1 q → H1[q]? = H[q]?) → va_S A0 H0 H1 locs1 → W p l e R s m args below meth c H1 locs1 (cells + mc) (slots + ms) Q (F0 m (pc + 3) ls (.double r :: rest))) : W p l e R s m args below meth c H locs cells slots Q (F0 m pc ls st0) := by
  intro T hT X
  rcases hr T hT X with ⟨v, st₀, t, T', L, h0, X', hL, e1, e2, ⟨⟨r, u, hv, hp, hb⟩, hF⟩, st⟩ | ⟨q, st₀, t, T', L, E, ce, h0, X', hL, e1, e2, ⟨u, hp, hb, hF⟩, hce, hcv, hcl, st⟩
  · cases hv
    obtain ⟨k1, k2, k3⟩ := vx_keep h0 e1 hS hA hf hL hF
    obtain ⟨t2, a1, b1⟩ := kk r u t T'.heap (locs ++ L) e1.symm (by rw [← e2]; exact X'.warmed.alike) hp hb k1 k2 k3 T' rfl X'
    exact ⟨t2, st t2 a1, b1⟩
  · obtain ⟨k1, k2, k3⟩ := vx_keep h0 e1 hS hAX hf hL hF
    obtain ⟨t2, a1, b1⟩ := kx E ce q u t T'.heap (locs ++ L) e1.symm (by rw [← e2]; exact X'.warmed.alike) hp hb k1 k2 k3 (by rw [e1]; exact hce) hcv hcl T' rfl X'
    exact ⟨t2, st.trans a1, b1⟩
theorem vx_callv {S SX : Type} {post : S → Prop} {px : SX → Prop} {B : S → State → Prop} {BX : String → SX → State → Prop} {AX : Nat → Prop} (hr : vx_Run p l e R s m args below meth c H locs cells slots mc ms (F0 m pc ls st0) rest (va_Qv post B A1 a) (vx_X px BX AX) free) (hS : va_S A0 H0 H locs) (hA : ∀ q, q < H.size → A1 q → A0 q) (hf : ∀ q, free q → A0 q) (hAX : ∀ q, q < H.size → AX q → A0 q)
    (kx : ∀ (E : String) (ce : Cell) (q9 : Addr) (u : SX) (t : State) (H1 : Heap) (locs1 : List Loc), t.heap = H1 → s.vm.Alike t.vm → px u → BX E u t → H.size ≤ H1.size → (∀ q : Nat, q < H.size → ¬ AX q → H1[q]? = H[q]?) → va_S A0 H0 H1 locs1 → H1[q9]? = some ce → ce.vm = .none → s.vm.findClass E = some ce.cls → vx_W p l e R s m args below meth c H1 locs1 (cells + mc) (slots + ms) Q (F0 m pc ls rest) q9)
    (kk : ∀ (u : S) (t : State) (H1 : Heap) (locs1 : List Loc), t.heap = H1 → s.vm.Alike t.vm → post u → B u t → H.size ≤ H1.size → (∀ q : Nat, q < H.size → ¬ A1 q → H1[q]? = H[q]?) → va_S A0 H0 H1 locs1 → W p l e R s m args below meth c H1 locs1 (cells + mc) (slots + ms) Q (F0 m (pc + 3) ls (rest))) : W p l e R s m args below meth c H locs cells slots Q (F0 m pc ls st0) := by
  intro T hT X
  rcases hr T hT X with ⟨v, st₀, t, T', L, h0, X', hL, e1, e2, ⟨⟨u, hv, hp, hb⟩, hF⟩, st⟩ | ⟨q, st₀, t, T', L, E, ce, h0, X', hL, e1, e2, ⟨u, hp, hb, hF⟩, hce, hcv, hcl, st⟩
  · cases hv
    obtain ⟨k1, k2, k3⟩ := vx_keep h0 e1 hS hA hf hL hF
    obtain ⟨t2, a1, b1⟩ := kk u t T'.heap (locs ++ L) e1.symm (by rw [← e2]; exact X'.warmed.alike) hp hb k1 k2 k3 T' rfl X'
    exact ⟨t2, st t2 a1, b1⟩
  · obtain ⟨k1, k2, k3⟩ := vx_keep h0 e1 hS hAX hf hL hF
    obtain ⟨t2, a1, b1⟩ := kx E ce q u t T'.heap (locs ++ L) e1.symm (by rw [← e2]; exact X'.warmed.alike) hp hb k1 k2 k3 (by rw [e1]; exact hce) hcv hcl T' rfl X'
    exact ⟨t2, st.trans a1, b1⟩
/-- caught by the row x of this method's table; the rows ahead don't take it -/
theorem vx_catch {own name : String} {E : String} {ce : Cell} {q : Addr} (hown : s.vm.findClass own = some m.cls) (pre : List ExceptionTableEntry) (x : ExceptionTableEntry) (suf : List ExceptionTableEntry) (hsplit : c.exceptionTable.toList = pre ++ x :: suf)
    (hpass : ∀ z ∈ pre, covers z pc = false ∨ (z.catchType ≠ 0 ∧ ∃ nm : String, (Cond.classLink own z.catchType nm).before args s = true ∧ va_Nc E nm s)) (hx : covers x pc = true) (h0 : x.catchType ≠ 0)
    (hlink : (Cond.classLink own x.catchType name).before args s = true) (hcast : (Cond.castable E name).before args s = true) (hcell : H[q]? = some ce) (hv : ce.vm = .none) (hcl : s.vm.findClass E = some ce.cls)
    (kk : W p l e R s m args below meth c H locs cells slots Q (F0 m x.handlerPc ls [.ref q])) : vx_W p l e R s m args below meth c H locs cells slots Q (F0 m pc ls rest) q := by
  intro T hT X
  have hpl : e.platform.magicAccessors = ({} : Platform).magicAccessors := by rw [X.admits.platform]
  obtain ⟨c3, c4, hc3, hc4, hasg⟩ := Cond.castable_spec hcast
  cases Option.some.inj (hc3.symm.trans hcl)
  obtain ⟨c5, hc5, hcl5⟩ := Cond.classLink_spec hown hlink e.platform hpl
  cases Option.some.inj (hc4.symm.trans hc5)
  obtain ⟨vm', X', st⟩ := X.thenCaughtThrough q (g := F0 m pc ls rest) rfl (Steps.refl _) (by rw [hT]; exact hcell) (by rw [hv]; rfl) (by obtain ⟨k9, h9, -⟩ := Vm.findClass_spec hcl; exact ⟨k9, h9⟩) pre x suf hsplit
    (fun z hz => by
      rcases hpass z hz with h | ⟨hz0, nm, hl1, hn1⟩
      · exact Or.inl h
      · obtain ⟨c6, hc6, hcl6⟩ := Cond.classLink_spec hown hl1 e.platform hpl
        obtain ⟨a8, b8, h1, h2, h3⟩ := hn1
        cases Option.some.inj (h1.symm.trans hcl)
        cases Option.some.inj (h2.symm.trans hc6)
        exact Or.inr ⟨hz0, _, hcl6, h3⟩) hx (Or.inr ⟨h0, c4, hcl5, hasg⟩)
  obtain ⟨t, a1, b1⟩ := kk (T.setVm vm') hT X'
  exact ⟨t, st.trans a1, b1⟩
end Rows
section Ends
variable {p : Program} {l : Launch} {e : Env} {R : Room} {s : State} {m : MethodId} {args : Array Value} {below : List Frame} {meth : Method} {c : Code} {H : Heap} {locs : List Loc} {cells slots : Nat} {Q : State → Prop}
variable {mc ms : Nat} {free : Addr → Prop} {A0 A1 : Nat → Prop} {H0 : Heap} {a : Array Value} {ls : Array Slot} {st0 rest : List Value}
variable {Qc : Array Value → State → Outcome → State → Prop} {XC : String → State → State → Prop}
/-- what a body that may throw owes at its end -/
def vx_MQ (below : List Frame) (Qc : Array Value → State → Outcome → State → Prop) (XC : String → State → State → Prop) (a : Array Value) (s : State) (mc ms : Nat) (free : Addr → Prop) : State → Prop := fun t =>
  ∃ o, t.status = .running ∧ Ended t below o ∧ vx_Q Qc XC mc ms free a s o t
theorem vx_ret {g : JFrame} {mc ms : Nat} (k : W p l e R s m args below meth c H locs cells slots (MQ below Qc args s mc ms free) g) : W p l e R s m args below meth c H locs cells slots (vx_MQ below Qc XC args s mc ms free) g := by
  intro T hT X
  obtain ⟨t, a1, o, b1, b2, b3, b4⟩ := k T hT X
  exact ⟨t, a1, o, b1, b2, Or.inl ⟨b3, b4⟩⟩
/-- not caught here: it goes on to the caller -/
theorem vx_widen {g : JFrame} {q : Addr} {k n : Nat} (h1 : cells ≤ k) (h2 : slots ≤ n) (kk : vx_W p l e R s m args below meth c H locs k n Q g q) : vx_W p l e R s m args below meth c H locs cells slots Q g q := fun T hT X => kk T hT (stand_widen X h1 h2)
theorem vx_out {pc : Nat} {E : String} {ce : Cell} {q : Addr} {mc ms : Nat} (hout : ∀ x ∈ c.exceptionTable.toList, covers x pc = false) (hlocks : meth.locks = false) (hcell : H[q]? = some ce) (hv : ce.vm = .none) (hcl : s.vm.findClass E = some ce.cls)
    (hx : ∀ t : State, t.heap = H → s.vm.Alike t.vm → XC E s t) (hf : ∀ z ∈ locs, free z.base) (hc : cells ≤ mc) (hs : slots ≤ ms) :
    vx_W p l e R s m args below meth c H locs cells slots (vx_MQ below Qc XC args s mc ms free) (F0 m pc ls rest) q := by
  intro T hT X
  obtain ⟨st1, hrun, hend, hW, hsm⟩ := X.leaveThrown q (g := F0 m pc ls rest) rfl rfl rfl hout hlocks
  have hcell9 : (T.setFrames (.throwing q :: below)).heap[q]? = some ce := by
    show T.heap[q]? = some ce
    rw [hT]; exact hcell
  exact ⟨_, st1, .threw q, hrun, hend, Or.inr ⟨q, rfl, E, ce, locs, hx _ hT hW.alike, hcell9, hv, hcl, hW, hsm.mono hc hs, hf⟩⟩
theorem vx_frame {U : State} {k n : Nat} (h : s.sameButNew ({ U with vm := s.vm } : State) locs k n) : s.heap.size ≤ U.heap.size ∧ ∀ q : Nat, q < s.heap.size → (∀ z ∈ locs, z.base ≠ q) → U.heap[q]? = s.heap[q]? := by
  obtain ⟨-, h2, -, -, -, h6⟩ := h
  refine ⟨h2, fun q hq hz => ?_⟩
  obtain ⟨c9, e1, e2, e3, e4⟩ := h6 q _ (Array.getElem?_eq_getElem hq)
  have hs : c9.slots = (s.heap[q]).slots := Array.ext_getElem? fun i => e4 i fun hm => hz _ hm rfl
  have h9 : c9 = s.heap[q] := by
    rw [hs] at e2
    exact e2
  have e5 : U.heap[q]? = some c9 := e1
  rw [e5, h9, Array.getElem?_eq_getElem hq]
/-- the words of a throw but the four that speak of the heap -/
def vx_no (w : Cond) : Bool := decide (w ≠ .isRef (.static Bundle.tN "UNASSIGNED_STACK" Bundle.steD)) && decide (w ≠ .isRef (.static Bundle.tN "SUPPRESSED_SENTINEL" Bundle.listD)) && decide (w ≠ .laysStatic Bundle.tN "UNASSIGNED_STACK" Bundle.steD) && decide (w ≠ .laysStatic Bundle.tN "SUPPRESSED_SENTINEL" Bundle.listD)
def vx_at0 (own : String) (ic : Nat) (X : String) (names : List String) : List Cond := (Bundle.ownAtoms0 own ic X names).filter vx_no
def vx_atS (own : String) (ic : Nat) (X : String) (names : List String) : List Cond := (Bundle.ownAtoms own ic X names).filter vx_no
/-- a word that the tables alone decide, or a good one -/
def vx_ot (w : Cond) : Bool := w.onTables || goodWord w
theorem vx_ot_at {args a' : Array Value} {s U : State} {w : Cond} (hW : s.WarmedH U.vm) (hvm : s.vm = U.vm) (hg : vx_ot w = true) (h : w.before args s = true) : w.before a' U = true := by
  simp only [vx_ot, Bool.or_eq_true] at hg
  rcases hg with hg | hg
  · exact va_tabs hg hvm h
  · exact word_at hW (good_of_word hg) h
/-- a list's words: the good ones out of the method's own list, the others by premises of their own -/
theorem vx_hat {args : Array Value} {s : State} {L B : List Cond} (h1 : ∀ w ∈ L.filter goodWord, w.before args s = true) (h2 : ∀ w ∈ L.filter (fun w => !goodWord w), w ∈ B) (h3 : ∀ w ∈ B, w.before args s = true) : ∀ w ∈ L, w.before args s = true := by
  intro w hw
  by_cases g : goodWord w = true
  · exact h1 w (List.mem_filter.mpr ⟨hw, g⟩)
  · refine h3 w (h2 w (List.mem_filter.mpr ⟨hw, ?_⟩))
    show (!goodWord w) = true
    cases hgw : goodWord w
    · rfl
    · exact absurd hgw g
theorem vx_c {args : Array Value} {s : State} {w : Cond} {B : List Cond} (h : w.before args s = true) (t : ∀ w ∈ B, w.before args s = true) : ∀ w' ∈ w :: B, w'.before args s = true := fun w' h' => (List.mem_cons.mp h').elim (fun e => by rw [e]; exact h) (t w')
theorem vx_n {args : Array Value} {s : State} : ∀ w ∈ ([] : List Cond), w.before args s = true := fun _ h => nomatch h
theorem vx_own {args : Array Value} {s : State} {L : List Cond} (h1 : ∀ w ∈ L.filter vx_no, w.before args s = true)
    (hU : (Cond.isRef (.static Bundle.tN "UNASSIGNED_STACK" Bundle.steD)).before args s = true) (hN : (Cond.isRef (.static Bundle.tN "SUPPRESSED_SENTINEL" Bundle.listD)).before args s = true)
    (lU : (Cond.laysStatic Bundle.tN "UNASSIGNED_STACK" Bundle.steD).before args s = true) (lN : (Cond.laysStatic Bundle.tN "SUPPRESSED_SENTINEL" Bundle.listD).before args s = true) : ∀ w ∈ L, w.before args s = true := by
  intro w hw
  by_cases e1 : w = .isRef (.static Bundle.tN "UNASSIGNED_STACK" Bundle.steD)
  · rw [e1]; exact hU
  · by_cases e2 : w = .isRef (.static Bundle.tN "SUPPRESSED_SENTINEL" Bundle.listD)
    · rw [e2]; exact hN
    · by_cases e3 : w = .laysStatic Bundle.tN "UNASSIGNED_STACK" Bundle.steD
      · rw [e3]; exact lU
      · by_cases e4 : w = .laysStatic Bundle.tN "SUPPRESSED_SENTINEL" Bundle.listD
        · rw [e4]; exact lN
        · exact h1 w (List.mem_filter.mpr ⟨hw, by unfold vx_no; rw [decide_eq_true e1, decide_eq_true e2, decide_eq_true e3, decide_eq_true e4]; rfl⟩)
/-- where a static field lies, its class's statics cell in H -/
def vx_L (C n d : String) (A : Nat → Prop) (U : State) (H : Heap) : Prop := ∃ (c : ClassId) (k : Class) (i : Nat) (f : Field) (a : Nat) (cell : Cell), U.vm.findClass C = some c ∧ U.fieldFound? C n d = some (c, k, i, f) ∧ f.isStatic = true ∧ k.statics = some a ∧ H[a]? = some cell ∧ cell.vm.isStatics = true ∧ cell.cls = c ∧ f.slot < cell.slots.size ∧ k.staticTypes[f.slot]? = some f.type ∧ ¬ A a
theorem vx_L.moved {C n d : String} {A : Nat → Prop} {u U : State} {H : Heap} (hvm : u.vm.Alike U.vm) (h : vx_L C n d A u H) : vx_L C n d A U H := by
  obtain ⟨c, k, i, f, a, cell, h1, h2, h3, h4, h5, h6, h7, h8, h9, h10⟩ := h
  obtain ⟨k', hi', he⟩ := State.fieldFound?_setVm hvm h2
  exact ⟨c, k', i, f, a, cell, by rw [hvm.findClass]; exact h1, hi', h3, by rw [he]; exact h4, h5, h6, h7, h8, by rw [he]; exact h9, h10⟩
theorem vx_L.kept {C n d : String} {A : Nat → Prop} {U : State} {H H1 : Heap} (h : vx_L C n d A U H) (hq : ∀ a : Nat, a < H.size → ¬ A a → H1[a]? = H[a]?) : vx_L C n d A U H1 := by
  obtain ⟨c, k, i, f, a, cell, h1, h2, h3, h4, h5, h6, h7, h8, h9, h10⟩ := h
  exact ⟨c, k, i, f, a, cell, h1, h2, h3, h4, by rw [hq a (Array.getElem?_eq_some_iff.mp h5).1 h10]; exact h5, h6, h7, h8, h9, h10⟩
theorem vx_L.narrow {C n d : String} {A B : Nat → Prop} {U : State} {H : Heap} (h : vx_L C n d A U H) (hAB : ∀ q, B q → A q) : vx_L C n d B U H := by
  obtain ⟨c, k, i, f, a, cell, h1, h2, h3, h4, h5, h6, h7, h8, h9, h10⟩ := h
  exact ⟨c, k, i, f, a, cell, h1, h2, h3, h4, h5, h6, h7, h8, h9, fun z => h10 (hAB _ z)⟩
theorem vx_L.word {C n d : String} {A : Nat → Prop} {s : State} {args : Array Value} (h : vx_L C n d A s s.heap) : (Cond.laysStatic C n d).before args s = true := by
  obtain ⟨c, k, i, f, a, cell, h1, h2, h3, h4, h5, h6, h7, h8, h9, -⟩ := h
  show (Cond.laysStatic C n d).holds args s none s [] = true
  exact Cond.laysStatic_of h1 h2 h3 h4 h5 h6 h7 h8 h9
/-- .. and what it holds: null or some reference -/
def vx_Zq (C n d : String) (A : Nat → Prop) (U : State) (H : Heap) : Prop := va_Zq C n d A U H ∧ vx_L C n d A U H
theorem vx_Zq.moved {C n d : String} {A : Nat → Prop} {u U : State} {H : Heap} (hvm : u.vm.Alike U.vm) (h : vx_Zq C n d A u H) : vx_Zq C n d A U H := ⟨va_Zq.moved hvm h.1, vx_L.moved hvm h.2⟩
theorem vx_Zq.kept {C n d : String} {A : Nat → Prop} {U : State} {H H1 : Heap} (h : vx_Zq C n d A U H) (hq : ∀ a : Nat, a < H.size → ¬ A a → H1[a]? = H[a]?) : vx_Zq C n d A U H1 := ⟨va_Zq.kept h.1 hq, vx_L.kept h.2 hq⟩
theorem vx_Zq.narrow {C n d : String} {A B : Nat → Prop} {U : State} {H : Heap} (h : vx_Zq C n d A U H) (hAB : ∀ q, B q → A q) : vx_Zq C n d B U H := ⟨va_Zq.narrow h.1 hAB, vx_L.narrow h.2 hAB⟩
theorem vx_Zqof {args : Array Value} {s : State} {C n d : String} {A : Nat → Prop} (hl : (Cond.laysStatic C n d).before args s = true) (hini : (Cond.initialized C).before args s = true) (h : (Cond.isRef (.static C n d)).before args s = true) (hA : ∀ a : Nat, a < s.heap.size → ¬ A a) : vx_Zq C n d A s s.heap := by
  refine ⟨va_Zqof hl hini h hA, ?_⟩
  obtain ⟨c, k, i, f, a, cell, h1, h2, h3, h4, h5, h6, h7, h8, h9⟩ := Cond.laysStatic_spec hl
  exact ⟨c, k, i, f, a, cell, h1, h2, h3, h4, h5, h6, h7, h8, h9, hA a (Array.getElem?_eq_some_iff.mp h5).1⟩
theorem vx_isRef {C n d : String} {v : Value} {A : Nat → Prop} {s : State} {args : Array Value} (h : va_Z C n d v A s s.heap) (hv : v.isRef = true) : (Cond.isRef (.static C n d)).before args s = true := by
  obtain ⟨cf, kf, fi, f, a, cell, h1, h2, h3, h4, h5, h6, h7, -⟩ := h
  have he : (Term.static C n d).eval args s none [] s = some v := by
    simp [Term.eval, State.fieldNamed?, h1, h2, h4, h5, h6, h7]
  simp only [Cond.before, Cond.holds, Cond.value, he]
  cases v <;> simp_all [Value.isRef]
theorem vx_isRefq {C n d : String} {A : Nat → Prop} {s : State} {args : Array Value} (h : va_Zq C n d A s s.heap) : (Cond.isRef (.static C n d)).before args s = true := by
  rcases h with h | ⟨t, h⟩
  · exact vx_isRef h rfl
  · exact vx_isRef h rfl
/-- the same frame, seen from here: as if the method were called anew in this heap -/
theorem vx_rebase {T : State} (X : Stand p l e R s m args below meth c T locs cells slots) {R' : Room} (hf : R'.frames ≤ R.frames) (hl : R'.locals ≤ R.locals) (hc : cells + R'.cells ≤ R.cells) (hs : slots + R'.slots ≤ R.slots) :
    Stand p l e R' ((T.setVm s.vm).setFrames (.invoking m args :: below)) m args below meth c T [] 0 0 := by
  have htop : (T.setVm s.vm).topJava?.isSome := X.here.top
  have hF : ((T.setVm s.vm).setFrames (.invoking m args :: below)).frames = .invoking m args :: below := State.frames_setFrames _ (State.cur_lt_of_top htop)
  obtain ⟨g₀, hg0⟩ := Option.isSome_iff_exists.mp htop
  obtain ⟨r, hr⟩ := State.topJava?_eq_some.mp hg0
  have hl9 : e.platform.stackLimits (T.setVm s.vm).me = e.platform.stackLimits s.me := X.limits
  have hb9 : (T.setVm s.vm).me.stackBytes = s.me.stackBytes := X.bytes
  refine ⟨X.admits, X.cas, X.clock, hF, ?_, X.hears, X.method, X.code, X.here, X.tail, X.warmed, ?_, ?_, ?_⟩
  · have h := X.room
    have hU : ((T.setVm s.vm).setFrames (.invoking m args :: below)).localsInUse = s.localsInUse := by
      rw [State.localsInUse_invoking hF (meth := meth) (c := c) X.method X.code, State.localsInUse_invoking X.frames X.method X.code]
    simp only [State.hasRoom, Bool.and_eq_true, decide_eq_true_eq] at h ⊢
    obtain ⟨⟨⟨⟨h1, h2, h3, h4, h5, h6⟩, h7⟩, h8⟩, h9⟩ := h
    rw [X.frames, List.length_cons] at h2 h3
    have q1 := X.heapSize
    have q2 := X.used
    simp only [hF, hU, List.length_cons, State.stackLimits_setFrames, State.stackBytes_setFrames, hl9, hb9]
    refine ⟨⟨⟨⟨by omega, by omega, by omega, by omega, by omega, h6⟩, ?_⟩, ?_⟩, X.book⟩
    · show T.heap.size + R'.cells ≤ e.platform.maxCells
      omega
    · show T.slotsUsed + R'.slots ≤ e.platform.maxSlots
      omega
  · rw [State.stackLimits_setFrames]; rfl
  · rw [State.stackBytes_setFrames]; rfl
  · refine ⟨?_, Nat.le_refl _, Nat.le_refl _, ?_, ?_, fun a c9 h9 => ⟨c9, h9, rfl, rfl, fun _ _ => rfl⟩⟩
    · obtain ⟨t, ht, -⟩ := State.frames_cons hr
      show T.setVm s.vm = { ((T.setVm s.vm).setFrames (.invoking m args :: below)).setFrames (T.setVm s.vm).frames with heap := T.heap, slotsUsed := T.slotsUsed }
      rw [State.setFrames_setFrames, State.setFrames_self ht]
      rfl
    · show T.slotsUsed = T.slotsUsed + ((T.heap.toList.drop T.heap.size).map (·.slots.size)).sum
      rw [List.drop_eq_nil_of_le (Nat.le_of_eq Array.length_toList)]
      rfl
    · show ((T.heap.toList.drop T.heap.size).map (·.slots.size)).sum ≤ 0
      rw [List.drop_eq_nil_of_le (Nat.le_of_eq Array.length_toList)]
      exact Nat.le_refl _
/-- 'throw new E()': new; dup; invokespecial; athrow -/
theorem vx_throw0 {cc : ByteArray} {pc : Nat} (hexec : p.tables.exec = Jvm.exec) (hb : c.code = cc) (hl : l.stackTraces = false) {own cls : String} {names : List String} {ik ic mc ms : Nat} {A : Nat → Prop}
    (hown : s.vm.findClass own = some m.cls) (hcls : Bundle.fit cls = true) (hnames : ∀ n ∈ names, Bundle.fit n = true)
    (hk : (Cond.classLink own ik cls).before args s = true) (hini : (Cond.initialized cls).before args s = true) (hat : ∀ w ∈ vx_at0 own ic cls names, w.before args s = true)
    (hgood : ∀ w ∈ Cond.classLink own ik cls :: Cond.initialized cls :: vx_at0 own ic cls names, vx_ot w = true)
    (hU : vx_Zq Bundle.tN "UNASSIGNED_STACK" Bundle.steD A s s.heap) (hN : vx_Zq Bundle.tN "SUPPRESSED_SENTINEL" Bundle.listD A s s.heap) (hS : va_S A s.heap H locs) (hsize : ls.size = c.maxLocals)
    (d0 : decode cc pc = .ok (.new ik, 3)) (d3 : decode cc (pc + 3) = .ok (.dup, 1)) (d4 : decode cc (pc + 4) = .ok (.invokespecial ic, 3)) (d7 : decode cc (pc + 7) = .ok (.athrow, 1))
    (hout : ∀ x ∈ c.exceptionTable.toList, covers x (pc + 7) = false)
    (hRframes : names.length + 3 < R.frames) (hRlocals : (rest.map fun v => v.category).sum + (13 * (names.length + 1) + 42) ≤ R.locals) (hRcells : cells + 1 ≤ R.cells) (hRslots : slots + 6 ≤ R.slots) (hlocks : meth.locks = false)
    (hx : ∀ t : State, s.vm.Alike t.vm → H.size ≤ t.heap.size → (∀ q : Nat, q < H.size → t.heap[q]? = H[q]?) → XC cls s t)
    (hf : ∀ z ∈ locs, free z.base) (hc : cells + 1 ≤ mc) (hs : slots + 6 ≤ ms) :
    W p l e R s m args below meth c H locs cells slots (vx_MQ below Qc XC args s mc ms free) (F0 m pc ls rest) := by
  intro T hT X
  have htr : e.platform.stackTraces = false := (show e.platform.stackTraces = l.stackTraces by rw [X.admits.platform]).trans hl
  have Y := vx_rebase X (R' := { frames := R.frames, locals := R.locals, cells := 1, slots := 6 }) (Nat.le_refl _) (Nat.le_refl _) hRcells hRslots
  obtain ⟨s', hA⟩ : ∃ z, z = (T.setVm s.vm).setFrames (.invoking m args :: below) := ⟨_, rfl⟩
  rw [← hA] at Y
  have hvm : s'.vm = s.vm := by rw [hA]; rfl
  have hhp : s'.heap = H := by rw [hA]; exact hT
  have hW0 : s.WarmedH s'.vm := by rw [hvm]; exact State.WarmedH.refl s
  have hat' : ∀ w ∈ vx_at0 own ic cls names, w.before args s' = true := fun w hw => vx_ot_at hW0 hvm.symm (hgood w (List.mem_cons_of_mem _ (List.mem_cons_of_mem _ hw))) (hat w hw)
  have hk' : (Cond.classLink own ik cls).before args s' = true := vx_ot_at hW0 hvm.symm (hgood _ List.mem_cons_self) hk
  have hini' : (Cond.initialized cls).before args s' = true := vx_ot_at hW0 hvm.symm (hgood _ (List.mem_cons_of_mem _ List.mem_cons_self)) hini
  have hU' : vx_Zq Bundle.tN "UNASSIGNED_STACK" Bundle.steD A s' s'.heap := by rw [hhp]; exact vx_Zq.moved hW0.alike (hU.kept hS.2.1)
  have hN' : vx_Zq Bundle.tN "SUPPRESSED_SENTINEL" Bundle.listD A s' s'.heap := by rw [hhp]; exact vx_Zq.moved hW0.alike (hN.kept hS.2.1)
  have h : ∀ w ∈ Bundle.ownAtoms0 own ic cls names, w.before args s' = true := vx_own hat' (vx_isRefq hU'.1) (vx_isRefq hN'.1) hU'.2.word hN'.2.word
  have hown' : s'.vm.findClass own = some m.cls := by rw [hvm]; exact hown
  have hins : (Cond.instantiable cls 6).before args s' = true := h _ (by simp [Bundle.ownAtoms0])
  obtain ⟨vm₁, cX, kX, hfX, hkX, -, -, X₁, st1⟩ := Y.newCold hexec (own := own) (C := cls) (index := ik) (n := 6) hown' hk' hins hini'
    (g := F0 m pc ls rest) rfl (by rw [hb]; exact d0) (Nat.le_refl _) (Nat.le_refl _)
  generalize hT1 : (T.setVm vm₁).pushCell { cls := cX, slots := kX.instanceTypes.map defaultValue, vm := .none } = T1 at X₁ st1
  have hcat : (Value.ref T.heap.size).category = 1 := rfl
  have hcellA : T1.heap[T.heap.size]? = some (freshCell cX kX) := by rw [← hT1]; exact State.heap_pushCell_size _ _
  have d3' : decode c.code (pc + 3) = .ok (.dup, 1) := by rw [hb]; exact d3
  obtain ⟨U, hsteps, hrun, hend, hW, hsame, ce, hce, hO⟩ := X₁.ctorThrow0 hexec htr (own := own) (cls := cls) (names := names) (ic := ic) hown' hcls hnames h (fun x hx => nomatch hx) hfX hkX hcellA (by rw [hhp, hT]; exact Nat.le_refl _)
    (g := { method := m, pc := pc + 4, locals := ls, stack := .ref T.heap.size :: .ref T.heap.size :: rest, locked := none }) rfl hsize rfl rfl (rest := rest) rfl
    (by rw [hb]; exact d4) (by rw [hb]; exact d7) hout hRframes (by simp only [List.map_cons, List.sum_cons, hcat]; omega) hlocks
  obtain ⟨f1, f2⟩ := vx_frame hsame
  rw [hhp] at f1 f2
  have hWs : s.WarmedH U.vm := State.WarmedH.trans hW0 hW
  have hcl : s.vm.findClass cls = some ce.cls := by
    have h9 := hO.cls
    rw [hvm] at h9
    exact h9
  have hall : s.sameButNew ({ U with vm := s.vm } : State) locs mc ms := by
    subst hA
    obtain ⟨e1, e2⟩ := hsame
    rw [State.setFrames_setFrames] at e1
    have h2 : (T.setVm s.vm).sameButNew ({ U with vm := s.vm } : State) [] (0 + 1) (0 + 6) := ⟨e1, e2⟩
    have h3 := X.same.trans h2
    rw [List.append_nil] at h3
    exact h3.mono hc hs
  refine ⟨U, ?_, .threw T.heap.size, hrun, hend, Or.inr ⟨T.heap.size, rfl, cls, ce, locs, hx U hWs.alike f1 (fun q hq => f2 q hq (fun z hz => nomatch hz)), hce, hO.vm, hcl, hWs, hall, hf⟩⟩
  refine st1 _ ?_
  show Steps p.tables e below (T1.setTop { method := m, pc := pc + 3, locals := ls, stack := .ref T.heap.size :: rest, locked := none }) _
  jvm_step X₁.here [X₁.here.top, hexec, d3', Value.category]
  exact hsteps
/-- 'throw new E("text")': new; dup; ldc; invokespecial; athrow -/
theorem vx_throwS {cc : ByteArray} {pc : Nat} (hexec : p.tables.exec = Jvm.exec) (hb : c.code = cc) (hl : l.stackTraces = false) {own cls text : String} {names : List String} {ik is ic mc ms sa : Nat} {A : Nat → Prop}
    (hown : s.vm.findClass own = some m.cls) (hcls : Bundle.fit cls = true) (hnames : ∀ n ∈ names, Bundle.fit n = true)
    (hk : (Cond.classLink own ik cls).before args s = true) (hini : (Cond.initialized cls).before args s = true) (hstr : vk_R own is text sa s) (hat : ∀ w ∈ vx_atS own ic cls names, w.before args s = true)
    (hgood : ∀ w ∈ Cond.classLink own ik cls :: Cond.initialized cls :: vx_atS own ic cls names, vx_ot w = true)
    (hU : vx_Zq Bundle.tN "UNASSIGNED_STACK" Bundle.steD A s s.heap) (hN : vx_Zq Bundle.tN "SUPPRESSED_SENTINEL" Bundle.listD A s s.heap) (hS : va_S A s.heap H locs) (hsize : ls.size = c.maxLocals)
    (d0 : decode cc pc = .ok (.new ik, 3)) (d3 : decode cc (pc + 3) = .ok (.dup, 1)) (d4 : decode cc (pc + 4) = .ok (.ldc is, 2)) (d6 : decode cc (pc + 6) = .ok (.invokespecial ic, 3)) (d9 : decode cc (pc + 9) = .ok (.athrow, 1))
    (hout : ∀ x ∈ c.exceptionTable.toList, covers x (pc + 9) = false)
    (hRframes : names.length + 3 < R.frames) (hRlocals : (rest.map fun v => v.category).sum + (13 * (names.length + 1) + 43) ≤ R.locals) (hRcells : cells + 1 ≤ R.cells) (hRslots : slots + 6 ≤ R.slots) (hlocks : meth.locks = false)
    (hx : ∀ t : State, s.vm.Alike t.vm → H.size ≤ t.heap.size → (∀ q : Nat, q < H.size → t.heap[q]? = H[q]?) → XC cls s t)
    (hf : ∀ z ∈ locs, free z.base) (hc : cells + 1 ≤ mc) (hs : slots + 6 ≤ ms) :
    W p l e R s m args below meth c H locs cells slots (vx_MQ below Qc XC args s mc ms free) (F0 m pc ls rest) := by
  intro T hT X
  have htr : e.platform.stackTraces = false := (show e.platform.stackTraces = l.stackTraces by rw [X.admits.platform]).trans hl
  have Y := vx_rebase X (R' := { frames := R.frames, locals := R.locals, cells := 1, slots := 6 }) (Nat.le_refl _) (Nat.le_refl _) hRcells hRslots
  obtain ⟨s', hA⟩ : ∃ z, z = (T.setVm s.vm).setFrames (.invoking m args :: below) := ⟨_, rfl⟩
  rw [← hA] at Y
  have hvm : s'.vm = s.vm := by rw [hA]; rfl
  have hhp : s'.heap = H := by rw [hA]; exact hT
  have hW0 : s.WarmedH s'.vm := by rw [hvm]; exact State.WarmedH.refl s
  have hat' : ∀ w ∈ vx_atS own ic cls names, w.before args s' = true := fun w hw => vx_ot_at hW0 hvm.symm (hgood w (List.mem_cons_of_mem _ (List.mem_cons_of_mem _ hw))) (hat w hw)
  have hk' : (Cond.classLink own ik cls).before args s' = true := vx_ot_at hW0 hvm.symm (hgood _ List.mem_cons_self) hk
  have hini' : (Cond.initialized cls).before args s' = true := vx_ot_at hW0 hvm.symm (hgood _ (List.mem_cons_of_mem _ List.mem_cons_self)) hini
  have hU' : vx_Zq Bundle.tN "UNASSIGNED_STACK" Bundle.steD A s' s'.heap := by rw [hhp]; exact vx_Zq.moved hW0.alike (hU.kept hS.2.1)
  have hN' : vx_Zq Bundle.tN "SUPPRESSED_SENTINEL" Bundle.listD A s' s'.heap := by rw [hhp]; exact vx_Zq.moved hW0.alike (hN.kept hS.2.1)
  have h : ∀ w ∈ Bundle.ownAtoms own ic cls names, w.before args s' = true := vx_own hat' (vx_isRefq hU'.1) (vx_isRefq hN'.1) hU'.2.word hN'.2.word
  have hown' : s'.vm.findClass own = some m.cls := by rw [hvm]; exact hown
  have hins : (Cond.instantiable cls 6).before args s' = true := h _ (by simp [Bundle.ownAtoms])
  obtain ⟨vm₁, cX, kX, hfX, hkX, -, -, X₁, st1⟩ := Y.newCold hexec (own := own) (C := cls) (index := ik) (n := 6) hown' hk' hins hini'
    (g := F0 m pc ls rest) rfl (by rw [hb]; exact d0) (Nat.le_refl _) (Nat.le_refl _)
  generalize hT1 : (T.setVm vm₁).pushCell { cls := cX, slots := kX.instanceTypes.map defaultValue, vm := .none } = T1 at X₁ st1
  have hcat : (Value.ref T.heap.size).category = 1 := rfl
  have hcellA : T1.heap[T.heap.size]? = some (freshCell cX kX) := by rw [← hT1]; exact State.heap_pushCell_size _ _
  have d3' : decode c.code (pc + 3) = .ok (.dup, 1) := by rw [hb]; exact d3
  have d4' : decode c.code (pc + 4) = .ok (.ldc is, 2) := by rw [hb]; exact d4
  have hstr' : vk_R own is text sa s' := vk_R.warm hW0 hstr
  obtain ⟨U, hsteps, hrun, hend, hW, hsame, ce, hce, hO⟩ := X₁.ctorThrowS hexec htr (own := own) (cls := cls) (names := names) (ic := ic) hown' hcls hnames h (fun x hx => nomatch hx) hfX hkX hcellA (by rw [hhp, hT]; exact Nat.le_refl _) (msg := .ref sa) rfl
    (g := { method := m, pc := pc + 6, locals := ls, stack := .ref sa :: .ref T.heap.size :: .ref T.heap.size :: rest, locked := none }) rfl hsize rfl rfl (rest := rest) rfl
    (by rw [hb]; exact d6) (by rw [hb]; exact d9) hout hRframes (by simp only [List.map_cons, List.sum_cons, hcat]; omega) hlocks
  obtain ⟨f1, f2⟩ := vx_frame hsame
  rw [hhp] at f1 f2
  have hWs : s.WarmedH U.vm := State.WarmedH.trans hW0 hW
  have hcl : s.vm.findClass cls = some ce.cls := by
    have h9 := hO.cls
    rw [hvm] at h9
    exact h9
  have hall : s.sameButNew ({ U with vm := s.vm } : State) locs mc ms := by
    subst hA
    obtain ⟨e1, e2⟩ := hsame
    rw [State.setFrames_setFrames] at e1
    have h2 : (T.setVm s.vm).sameButNew ({ U with vm := s.vm } : State) [] (0 + 1) (0 + 6) := ⟨e1, e2⟩
    have h3 := X.same.trans h2
    rw [List.append_nil] at h3
    exact h3.mono hc hs
  refine ⟨U, ?_, .threw T.heap.size, hrun, hend, Or.inr ⟨T.heap.size, rfl, cls, ce, locs, hx U hWs.alike f1 (fun q hq => f2 q hq (fun z hz => nomatch hz)), hce, hO.vm, hcl, hWs, hall, hf⟩⟩
  refine st1 _ ?_
  show Steps p.tables e below (T1.setTop { method := m, pc := pc + 3, locals := ls, stack := .ref T.heap.size :: rest, locked := none }) _
  jvm_step X₁.here [X₁.here.top, hexec, d3', Value.category]
  exact X₁.ldcString hexec (own := own) (text := text) (index := is) (a := sa) hown' hstr'.1 hstr'.2
    (g := { method := m, pc := pc + 4, locals := ls, stack := .ref T.heap.size :: .ref T.heap.size :: rest, locked := none }) rfl d4' _ hsteps
/-- 'throw new E("text")', the text by a wide index -/
theorem vx_throwSW {cc : ByteArray} {pc : Nat} (hexec : p.tables.exec = Jvm.exec) (hb : c.code = cc) (hl : l.stackTraces = false) {own cls text : String} {names : List String} {ik is ic mc ms sa : Nat} {A : Nat → Prop}
    (hown : s.vm.findClass own = some m.cls) (hcls : Bundle.fit cls = true) (hnames : ∀ n ∈ names, Bundle.fit n = true)
    (hk : (Cond.classLink own ik cls).before args s = true) (hini : (Cond.initialized cls).before args s = true) (hstr : vk_R own is text sa s) (hat : ∀ w ∈ vx_atS own ic cls names, w.before args s = true)
    (hgood : ∀ w ∈ Cond.classLink own ik cls :: Cond.initialized cls :: vx_atS own ic cls names, vx_ot w = true)
    (hU : vx_Zq Bundle.tN "UNASSIGNED_STACK" Bundle.steD A s s.heap) (hN : vx_Zq Bundle.tN "SUPPRESSED_SENTINEL" Bundle.listD A s s.heap) (hS : va_S A s.heap H locs) (hsize : ls.size = c.maxLocals)
    (d0 : decode cc pc = .ok (.new ik, 3)) (d3 : decode cc (pc + 3) = .ok (.dup, 1)) (d4 : decode cc (pc + 4) = .ok (.ldc_w is, 3)) (d7 : decode cc (pc + 7) = .ok (.invokespecial ic, 3)) (d10 : decode cc (pc + 10) = .ok (.athrow, 1))
    (hout : ∀ x ∈ c.exceptionTable.toList, covers x (pc + 10) = false)
    (hRframes : names.length + 3 < R.frames) (hRlocals : (rest.map fun v => v.category).sum + (13 * (names.length + 1) + 43) ≤ R.locals) (hRcells : cells + 1 ≤ R.cells) (hRslots : slots + 6 ≤ R.slots) (hlocks : meth.locks = false)
    (hx : ∀ t : State, s.vm.Alike t.vm → H.size ≤ t.heap.size → (∀ q : Nat, q < H.size → t.heap[q]? = H[q]?) → XC cls s t)
    (hf : ∀ z ∈ locs, free z.base) (hc : cells + 1 ≤ mc) (hs : slots + 6 ≤ ms) :
    W p l e R s m args below meth c H locs cells slots (vx_MQ below Qc XC args s mc ms free) (F0 m pc ls rest) := by
  intro T hT X
  have htr : e.platform.stackTraces = false := (show e.platform.stackTraces = l.stackTraces by rw [X.admits.platform]).trans hl
  have Y := vx_rebase X (R' := { frames := R.frames, locals := R.locals, cells := 1, slots := 6 }) (Nat.le_refl _) (Nat.le_refl _) hRcells hRslots
  obtain ⟨s', hA⟩ : ∃ z, z = (T.setVm s.vm).setFrames (.invoking m args :: below) := ⟨_, rfl⟩
  rw [← hA] at Y
  have hvm : s'.vm = s.vm := by rw [hA]; rfl
  have hhp : s'.heap = H := by rw [hA]; exact hT
  have hW0 : s.WarmedH s'.vm := by rw [hvm]; exact State.WarmedH.refl s
  have hat' : ∀ w ∈ vx_atS own ic cls names, w.before args s' = true := fun w hw => vx_ot_at hW0 hvm.symm (hgood w (List.mem_cons_of_mem _ (List.mem_cons_of_mem _ hw))) (hat w hw)
  have hk' : (Cond.classLink own ik cls).before args s' = true := vx_ot_at hW0 hvm.symm (hgood _ List.mem_cons_self) hk
  have hini' : (Cond.initialized cls).before args s' = true := vx_ot_at hW0 hvm.symm (hgood _ (List.mem_cons_of_mem _ List.mem_cons_self)) hini
  have hU' : vx_Zq Bundle.tN "UNASSIGNED_STACK" Bundle.steD A s' s'.heap := by rw [hhp]; exact vx_Zq.moved hW0.alike (hU.kept hS.2.1)
  have hN' : vx_Zq Bundle.tN "SUPPRESSED_SENTINEL" Bundle.listD A s' s'.heap := by rw [hhp]; exact vx_Zq.moved hW0.alike (hN.kept hS.2.1)
  have h : ∀ w ∈ Bundle.ownAtoms own ic cls names, w.before args s' = true := vx_own hat' (vx_isRefq hU'.1) (vx_isRefq hN'.1) hU'.2.word hN'.2.word
  have hown' : s'.vm.findClass own = some m.cls := by rw [hvm]; exact hown
  have hins : (Cond.instantiable cls 6).before args s' = true := h _ (by simp [Bundle.ownAtoms])
  obtain ⟨vm₁, cX, kX, hfX, hkX, -, -, X₁, st1⟩ := Y.newCold hexec (own := own) (C := cls) (index := ik) (n := 6) hown' hk' hins hini'
    (g := F0 m pc ls rest) rfl (by rw [hb]; exact d0) (Nat.le_refl _) (Nat.le_refl _)
  generalize hT1 : (T.setVm vm₁).pushCell { cls := cX, slots := kX.instanceTypes.map defaultValue, vm := .none } = T1 at X₁ st1
  have hcat : (Value.ref T.heap.size).category = 1 := rfl
  have hcellA : T1.heap[T.heap.size]? = some (freshCell cX kX) := by rw [← hT1]; exact State.heap_pushCell_size _ _
  have d3' : decode c.code (pc + 3) = .ok (.dup, 1) := by rw [hb]; exact d3
  have d4' : decode c.code (pc + 4) = .ok (.ldc_w is, 3) := by rw [hb]; exact d4
  have hstr' : vk_R own is text sa s' := vk_R.warm hW0 hstr
  obtain ⟨U, hsteps, hrun, hend, hW, hsame, ce, hce, hO⟩ := X₁.ctorThrowS hexec htr (own := own) (cls := cls) (names := names) (ic := ic) hown' hcls hnames h (fun x hx => nomatch hx) hfX hkX hcellA (by rw [hhp, hT]; exact Nat.le_refl _) (msg := .ref sa) rfl
    (g := { method := m, pc := pc + 7, locals := ls, stack := .ref sa :: .ref T.heap.size :: .ref T.heap.size :: rest, locked := none }) rfl hsize rfl rfl (rest := rest) rfl
    (by rw [hb]; exact d7) (by rw [hb]; exact d10) hout hRframes (by simp only [List.map_cons, List.sum_cons, hcat]; omega) hlocks
  obtain ⟨f1, f2⟩ := vx_frame hsame
  rw [hhp] at f1 f2
  have hWs : s.WarmedH U.vm := State.WarmedH.trans hW0 hW
  have hcl : s.vm.findClass cls = some ce.cls := by
    have h9 := hO.cls
    rw [hvm] at h9
    exact h9
  have hall : s.sameButNew ({ U with vm := s.vm } : State) locs mc ms := by
    subst hA
    obtain ⟨e1, e2⟩ := hsame
    rw [State.setFrames_setFrames] at e1
    have h2 : (T.setVm s.vm).sameButNew ({ U with vm := s.vm } : State) [] (0 + 1) (0 + 6) := ⟨e1, e2⟩
    have h3 := X.same.trans h2
    rw [List.append_nil] at h3
    exact h3.mono hc hs
  refine ⟨U, ?_, .threw T.heap.size, hrun, hend, Or.inr ⟨T.heap.size, rfl, cls, ce, locs, hx U hWs.alike f1 (fun q hq => f2 q hq (fun z hz => nomatch hz)), hce, hO.vm, hcl, hWs, hall, hf⟩⟩
  refine st1 _ ?_
  show Steps p.tables e below (T1.setTop { method := m, pc := pc + 3, locals := ls, stack := .ref T.heap.size :: rest, locked := none }) _
  jvm_step X₁.here [X₁.here.top, hexec, d3', Value.category]
  exact X₁.ldcStringW hexec (own := own) (text := text) (index := is) (a := sa) hown' hstr'.1 hstr'.2
    (g := { method := m, pc := pc + 4, locals := ls, stack := .ref T.heap.size :: .ref T.heap.size :: rest, locked := none }) rfl d4' _ hsteps
end Ends
section Bodies
variable {l : Launch}
theorem vx_ofW {y : MethodName} {ws ws' : List Cond} {rm : Room} {Pc : Array Value → State → Prop} {Qc : Array Value → State → Outcome → State → Prop} {XC : String → State → State → Prop} {mc ms : Nat} {free : Addr → Prop} {cc : ByteArray} {maxL : Nat} {ret : Option FieldType}
    (hy : plainName y.cls = true) (hw : ws = Cond.code y cc maxL ret :: ws')
    (body : ∀ p e s m args below meth c s₁, BodyLoose p l y (headSpec ws rm) cc maxL ret e s m args below meth c s₁ → c.maxLocals = maxL → (∀ x ∈ c.exceptionTable.toList, False) → Pc args s →
      W p l e (headSpec ws rm).room s m args below meth c s.heap [] 0 0 (vx_MQ below Qc XC args s mc ms free) (entryFrame m args maxL)) : vx_Met l y ws rm Pc Qc XC mc ms free := by
  refine MetFree.of_bodyS (code := cc) (maxLocals := maxL) (ret := ret) hy ?_ ?_
  · intro args s m h hn
    obtain ⟨meth, c, h1, h2, h3, h4, h5, h6, -, -⟩ := Cond.code_spec hn (atoms_spec (ws := ws) h _ (by rw [hw]; exact List.mem_cons_self))
    exact ⟨meth, c, h1, h2, h3, h4, h5, h6⟩
  · intro p e s m args below meth c s₁ B hml hP _
    have hh0 : s₁.heap = s.heap := by rw [B.state]; rfl
    have ht : ∀ x ∈ c.exceptionTable.toList, False := by
      obtain ⟨meth9, c9, h1, h2, -, -, -, -, h7, -⟩ := Cond.code_spec B.named (atoms_spec (ws := ws) B.pre _ (by rw [hw]; exact List.mem_cons_self))
      cases Option.some.inj (h1.symm.trans B.method)
      cases Option.some.inj (h2.symm.trans (Stand.of_body B).code)
      intro x hx
      rw [Array.isEmpty_iff.mp h7] at hx
      cases hx
    obtain ⟨t, a1, o, b1, b2, b3⟩ := body p e s m args below meth c s₁ B hml ht hP s₁ hh0 (Stand.of_body B)
    exact ⟨t, o, a1, b1, b2, b3⟩
/-- the table of a body with handlers -/
theorem vx_table {p : Program} {x y : MethodName} {S : Spec} {cc bytes : ByteArray} {maxL maxL' : Nat} {ret ret' : Option FieldType} {e : Env} {s s₁ : State} {m : MethodId} {args : Array Value} {below : List Frame} {meth : Method} {c : Code} {hh : List (Nat × Nat × Nat × Nat)}
    (B : BodyLoose p l y S cc maxL ret e s m args below meth c s₁) (h : (Cond.codeWith y bytes maxL' ret' hh).before args s = true) : c.exceptionTable.toList = tableOf hh := by
  obtain ⟨m9, meth9, c9, hn9, h1, h2, -, -, h6, -⟩ := Cond.codeWith_spec h
  cases Option.some.inj (hn9.symm.trans B.named)
  cases Option.some.inj (h1.symm.trans B.method)
  cases Option.some.inj (h2.symm.trans (Stand.of_body B).code)
  rw [← h6, table_eq]
end Bodies
end VXA
/-! ===== END ===== -/
/-! ===== BEGIN a static call of a method with an exception table ===== -/
section VXS
variable {p : Program} {l : Launch} {e : Env} {R : Room} {s : State} {m : MethodId} {args : Array Value} {below : List Frame} {meth : Method} {c : Code} {T : State} {H : Heap} {locs : List Loc} {cells slots : Nat}
abbrev vx_CSW (R : Room) (s : State) (args : Array Value) (own : String) (index : Nat) (y : MethodName) (bytes : ByteArray) (maxL : Nat) (ret : Option FieldType) (hh : List (Nat × Nat × Nat × Nat)) (ws : List Cond) (rm : Room) (mc ms n : Nat) : Prop :=
  (rm.cells = mc ∧ rm.slots = ms ∧ rm.frames + 1 ≤ R.frames ∧ 8 + (maxL + 11) + rm.locals ≤ R.locals ∧ (∀ w ∈ ws, ∀ (a' : Array Value) (U : State), s.WarmedH U.vm → w.before a' U = true) ∧ Cond.codeWith y bytes maxL ret hh ∈ ws) ∧
  (Cond.codeWith y bytes maxL ret hh).before args s = true ∧ (Cond.initialized y.cls).before args s = true ∧ (y.cls ≠ "java/lang/invoke/MethodHandle" ∧ y.cls ≠ "java/lang/invoke/VarHandle") ∧
  (∀ sig, parseMethodDescriptor y.desc = some sig → n = sig.parameters.length) ∧ (Cond.methodLink own index y).before args s = true ∧ (Cond.static y).before args s = true
theorem vx_cwSW {own : String} {index maxL mc ms : Nat} {y : MethodName} {bytes : ByteArray} {ret : Option FieldType} {hh : List (Nat × Nat × Nat × Nat)} {Ts ws ws' : List Cond} {rm : Room} (n : Nat) (ht : ∀ w ∈ Ts, w.before args s = true) (hT : GoodIn Ts (va_wsS own index y ws)) (hw : ws = Cond.codeWith y bytes maxL ret hh :: ws') (hrc : rm.cells = mc) (hrs : rm.slots = ms)
    (hd : y.cls ≠ "java/lang/invoke/MethodHandle" ∧ y.cls ≠ "java/lang/invoke/VarHandle" ∧ (parseMethodDescriptor y.desc).map (fun d => d.parameters.length) = some n) (hR : rm.frames + 1 ≤ R.frames ∧ 8 + (maxL + 11) + rm.locals ≤ R.locals) :
    vx_CSW R s args own index y bytes maxL ret hh ws rm mc ms n := by
  have ok : ∀ w ∈ va_wsS own index y ws, w.before args s = true := fun w h => ht w (hT w h).1
  have hG : GoodIn Ts ws := fun w h => hT w (by unfold va_wsS; exact List.mem_append_right _ h)
  have hc : Cond.codeWith y bytes maxL ret hh ∈ ws := by rw [hw]; exact List.mem_cons_self
  refine ⟨⟨hrc, hrs, hR.1, hR.2, pay_in ht hG, hc⟩, ht _ (hG _ hc).1, ok _ (by simp [va_wsS]), ⟨hd.1, hd.2.1⟩, fun sig h => ?_, ok _ (by simp [va_wsS]), ok _ (by simp [va_wsS])⟩
  have h2 := hd.2.2
  rw [h] at h2
  exact (Option.some.inj h2).symm
theorem vx_callSW (X : Stand p l e R s m args below meth c T locs cells slots) (hexec : p.tables.exec = Jvm.exec) {own : String} {index : Nat} {y : MethodName} {bytes : ByteArray} {maxL : Nat} {ret : Option FieldType} {hh : List (Nat × Nat × Nat × Nat)}
    (hown : s.vm.findClass own = some m.cls) (hlink : (Cond.methodLink own index y).before args s = true) (hstat : (Cond.static y).before args s = true) (hinit : (Cond.initialized y.cls).before args s = true)
    (hcode : (Cond.codeWith y bytes maxL ret hh).before args s = true) (hy : y.cls ≠ "java/lang/invoke/MethodHandle" ∧ y.cls ≠ "java/lang/invoke/VarHandle")
    {W9 : Nat} {Pre : Pt → Array Value → Prop} {Post : Pt → Array Value → Option Value → Pt → Prop} (hK : Back l R p e below s args y 3 W9 Pre Post)
    {g : JFrame} (hg : g.method = m) (hsize : g.locals.size = c.maxLocals) {argsL rest : List Value} (hlen : ∀ sig, parseMethodDescriptor y.desc = some sig → argsL.length = sig.parameters.length)
    (hstack : g.stack = argsL.reverse ++ rest) (hW : 2 * g.monitorRoom + (rest.map fun v => v.category).sum ≤ W9) (hdg : decode c.code g.pc = .ok (.invokestatic index, 3))
    (hpre : ∀ vm₁, s.WarmedH vm₁ → Pre ⟨T.setVm vm₁, locs, cells, slots⟩ argsL.toArray) :
    ∃ (v : Option Value) (vm₁ : Vm) (B : Pt), s.WarmedH vm₁ ∧ Stand p l e R s m args below meth c B.U B.locs B.cells B.slots ∧ Post ⟨T.setVm vm₁, locs, cells, slots⟩ argsL.toArray v B ∧
      ∀ target, Steps p.tables e below (B.U.setTop { g with pc := g.pc + 3, stack := v.toList ++ rest }) target → Steps p.tables e below (T.setTop g) target := by
  obtain ⟨mk, methM, cM, hnamed, hmethM, -, -, -, -, -, -, hsigM⟩ := Cond.codeWith_spec hcode
  have hstatic : methM.isStatic = true := Cond.static_spec hnamed hmethM hstat
  obtain ⟨kP, hkP, -⟩ := className_of_methodNamed hnamed
  have hinitP : kP.init = .initialized := Cond.initialized_spec (findClass_of_methodNamed hnamed) hkP hinit
  obtain ⟨vm₁, X₁, hstep₁⟩ := X.invokestatic hexec hown hlink hnamed hmethM hstatic hkP hinitP hy (g := g) hg (argsL := argsL) (rest := rest) (hlen _ hsigM) hstack hdg
  obtain ⟨v, B, X', hpost, hsteps⟩ := hK m meth c ⟨T.setVm vm₁, locs, cells, slots⟩ { g with stack := rest } (.invokestatic index) mk argsL.toArray X₁ hg hsize hdg hW (X₁.named hnamed) (hpre vm₁ X₁.warmed)
  exact ⟨v, vm₁, B, X₁.warmed, X', hpost, fun target h => hstep₁ _ fun acts => by rw [doInvoke_state]; exact hsteps.trans h⟩
theorem vx_runSW {y : MethodName} {bytes cc : ByteArray} {maxL nL mc ms n index : Nat} {ret : Option FieldType} {hh : List (Nat × Nat × Nat × Nat)} {ws : List Cond} {rm : Room} {Pc : Array Value → State → Prop} {Qc : Array Value → State → Outcome → State → Prop} {free : Addr → Prop} {Ts : List Cond} {own : String} {As rest : List Value} {g : JFrame}
    (S : CallFix p m c cc nL s args Ts own) (hM : Met l y ws rm Pc Qc mc ms free) (cw : vx_CSW R s args own index y bytes maxL ret hh ws rm mc ms n) (hp : PreS s H Pc As)
    (hg : g.method = m) (hn : As.length = n) (hsize : g.locals.size = nL) (hstack : g.stack = As.reverse ++ rest) (hW : 2 * g.monitorRoom + (rest.map fun v => v.category).sum ≤ 8) (hdg : decode cc g.pc = .ok (.invokestatic index, 3)) (hf : cells + mc ≤ R.cells ∧ slots + ms ≤ R.slots) :
    va_Run p l e R s m args below meth c H locs cells slots mc ms g rest (Qc As.toArray) (free) := by
  obtain ⟨⟨hrc, hrs, hfr, hlo, hws, hcw⟩, hcode, hini, hy, hlen, hl, hstt⟩ := cw
  have hK : Back l R p e below s args y 3 8 (PreOf R mc ms Pc) (PostOf Qc mc ms free) := va_backW (hh := hh) (bytes := bytes) (maxL := maxL) (ret := ret) hM hp.1 hrc hrs hfr hlo hws hcw (fun a' U hW => word_at hW (Or.inl (by first | rfl | simp [Cond.onTables, Cond.keeps, Cond.steady])) hini)
  obtain ⟨hx, hb, hml, ho, -⟩ := S
  intro T hT X
  obtain ⟨v, vm₁, ⟨U', l2, c2, s2⟩, hW₁, X', ⟨g', mk, t, L, e1, e2, hq, h1, hL, h2, h3⟩, st⟩ := vx_callSW X hx (hh := hh) (bytes := bytes) (maxL := maxL) (ret := ret) ho hl hstt hini hcode hy hK hg (hsize.trans hml.symm) (argsL := As) (rest := rest) (fun sig h => hn.trans (hlen sig h)) hstack hW (by rw [hb]; exact hdg)
    (fun vm₁ hW₁ => ⟨hf.1, hf.2, hp.2 (T.setVm vm₁) hT hW₁⟩)
  dsimp only [Pt.U, Pt.locs, Pt.cells, Pt.slots] at X' e1 e2 h1 h2 h3 st
  subst h1; subst h2; subst h3
  exact ⟨v, (T.setVm vm₁).calling g' mk As.toArray, t, U', L, hT, X', hL, e1, e2, hq, st⟩
/-- not caught here, past rows that name other classes: it goes on to the caller -/
theorem vx_outP {p : Program} {l : Launch} {e : Env} {R : Room} {s : State} {m : MethodId} {args : Array Value} {below : List Frame} {meth : Method} {c : Code} {H : Heap} {locs : List Loc} {cells slots : Nat} {free : Addr → Prop} {ls : Array Slot} {rest : List Value} {Qc : Array Value → State → Outcome → State → Prop} {XC : String → State → State → Prop}
    {pc : Nat} {own E : String} {ce : Cell} {q : Addr} {mc ms : Nat} (hown : s.vm.findClass own = some m.cls) (hlocks : meth.locks = false)
    (hpass : ∀ z ∈ c.exceptionTable.toList, covers z pc = false ∨ (z.catchType ≠ 0 ∧ ∃ nm : String, (Cond.classLink own z.catchType nm).before args s = true ∧ va_Nc E nm s)) (hcell : H[q]? = some ce) (hv : ce.vm = .none) (hcl : s.vm.findClass E = some ce.cls)
    (hx : ∀ t : State, t.heap = H → s.vm.Alike t.vm → XC E s t) (hf : ∀ z ∈ locs, free z.base) (hc : cells ≤ mc) (hs : slots ≤ ms) :
    vx_W p l e R s m args below meth c H locs cells slots (vx_MQ below Qc XC args s mc ms free) (F0 m pc ls rest) q := by
  intro T hT X
  have hpl : e.platform.magicAccessors = ({} : Platform).magicAccessors := by rw [X.admits.platform]
  obtain ⟨vm', hW', X', st⟩ := X.outThrough hlocks q (g := F0 m pc ls rest) rfl rfl rfl (cell := ce) (by rw [hT]; exact hcell) (by rw [hv]; rfl)
    (by obtain ⟨k9, h9, -⟩ := Vm.findClass_spec hcl; exact ⟨k9, h9⟩) (fun z hz => by
      rcases hpass z hz with h | ⟨hz0, nm, hl1, hn1⟩
      · exact Or.inl h
      · obtain ⟨c6, hc6, hcl6⟩ := Cond.classLink_spec hown hl1 e.platform hpl
        obtain ⟨a8, b8, h1, h2, h3⟩ := hn1
        cases Option.some.inj (h1.symm.trans hcl)
        cases Option.some.inj (h2.symm.trans hc6)
        exact Or.inr ⟨hz0, _, hcl6, h3⟩)
  obtain ⟨g₀, hfr⟩ := X'.frames_eq
  have hcell9 : ((T.setVm vm').setFrames (.throwing q :: below)).heap[q]? = some ce := by
    show T.heap[q]? = some ce
    rw [hT]; exact hcell
  have hend : Ended ((T.setVm vm').setFrames (.throwing q :: below)) below (.threw q) := State.frames_setFrames _ (State.cur_lt_of_frames hfr)
  refine ⟨(T.setVm vm').setFrames (.throwing q :: below), ?_, .threw q, X'.here.running, hend, Or.inr ⟨q, rfl, E, ce, locs, hx _ hT (X'.ends _).1.alike, hcell9, hv, hcl, (X'.ends _).1, (X'.ends _).2.mono hc hs, hf⟩⟩
  rw [X.pushThrowing_eq]
  exact st
/-- a thing of a world lies in the heap -/
theorem vx_lt {D : va_G} {cl : List vw_C} {ws : va_W} {H1 : Heap} (h : va_P D cl ws H1) {k : Nat} {q : Nat × va_E} (hk : ws[k]? = some q) : q.1 < H1.size := (h k q hk).lt
end VXS
/-! ===== END ===== -/
/-! ===== BEGIN methods with a table of their own: called by a name, returning or throwing ===== -/
section VXH
/-! vx_backW, vx_callVX, vx_callSX, vx_callVW, vx_runVW, vx_runVX, vx_runSX, vx_ofWH follow the same proofs as their sisters above (Free/Laws.lean, Shelf42/LK1.lean); vx_outP calls Shelf42/NT130.lean (outThrough). -/
section
variable {l : Launch} {R : Room} {p : Program} {e : Env} {below : List Frame} {s : State} {sargs : Array Value} {y : MethodName} {len W9 : Nat}
theorem vx_backW {ws : List Cond} {rm : Room} {Pc : Array Value → State → Prop} {Qc : Array Value → State → Outcome → State → Prop} {XC : String → State → State → Prop} {mc ms : Nat} {free : Addr → Prop} {bytes : ByteArray} {maxL : Nat} {ret : Option FieldType} {hh : List (Nat × Nat × Nat × Nat)}
    (hM : vx_Met l y ws rm Pc Qc XC mc ms free) (hblind : FrameBlind Pc) (hrc : rm.cells = mc) (hrs : rm.slots = ms)
    (hframes : rm.frames + 1 ≤ R.frames) (hlocals : W9 + (maxL + 11) + rm.locals ≤ R.locals)
    (hws : ∀ w ∈ ws, ∀ a' U, s.WarmedH U.vm → w.before a' U = true) (hcode : Cond.codeWith y bytes maxL ret hh ∈ ws) (hinit : ∀ a' U, s.WarmedH U.vm → (Cond.initialized y.cls).before a' U = true) :
    vx_Back l R p e below s sargs y len W9 (PreOf R mc ms Pc) (PostOf Qc mc ms free) (vx_Post XC mc ms free) := by
  intro m meth c A g ig mk a X hg hsize hdg hW hn hp
  have h1 : (headSpec ws rm).pre.before a A.U = true := atoms_intro fun w hw => hws w hw _ _ X.warmed
  have h2 : (Cond.codeWith y bytes maxL ret hh).before a A.U = true := hws _ hcode _ _ X.warmed
  have h3 : (Cond.initialized y.cls).before a A.U = true := hinit _ _ X.warmed
  have h4 : A.cells + (headSpec ws rm).room.cells ≤ R.cells := by rw [show (headSpec ws rm).room.cells = mc from hrc]; exact hp.1
  have h5 : A.slots + (headSpec ws rm).room.slots ≤ R.slots := by rw [show (headSpec ws rm).room.slots = ms from hrs]; exact hp.2.1
  have hPc : Pc a (A.U.calling g mk a) := hblind _ _ _ _ hp.2.2
  obtain ⟨U, Ls, c0, s0⟩ := A
  dsimp only [Pt.U, Pt.locs, Pt.cells, Pt.slots] at h1 h2 h3 h4 h5 X hn hPc ⊢
  obtain ⟨m9, methY, cY, hn9, hmY, hcY, -, hlY, -⟩ := Cond.codeWith_spec h2
  cases Option.some.inj (hn9.symm.trans hn)
  obtain ⟨kY, hkY, -⟩ := className_of_methodNamed hn
  have hinitY : kY.init = .initialized := Cond.initialized_spec (findClass_of_methodNamed hn) hkY h3
  have h : At U g.method c below := by rw [hg]; exact X.here
  have hlocals9 : W9 + (maxL + 11) + (headSpec ws rm).room.locals ≤ R.locals := hlocals
  have happ : (headSpec ws rm).appliesLoose y e.platform (U.calling g mk a) = true :=
    Spec.appliesLoose_calling (g := g) h hdg hn hkY hinitY
      (X.room_calling (g := g) (R' := (headSpec ws rm).room) hsize hmY hcY hframes (by rw [hlY]; omega) h4 h5) h1
  obtain ⟨mid, hmid⟩ := h.above
  have hfr : (U.setTop g).frames = (.java g :: mid) ++ below := by rw [State.frames_setTop' g h.top, hmid]; rfl
  obtain ⟨o, s₂, hsteps, -, hend, hq⟩ := Steps.callFree hM p X.admits X.cas X.clock (acts := []) hfr happ hPc trivial
  have hq' : vx_Q Qc XC mc ms free a (U.calling g mk a) o s₂ := hq
  rw [State.frames_setTop' g h.top] at hend
  obtain ⟨g₀, hg0⟩ := Option.isSome_iff_exists.mp h.top
  obtain ⟨r, hr⟩ := State.topJava?_eq_some.mp hg0
  have hr' : (({ U with heap := s₂.heap, slotsUsed := s₂.slotsUsed } : State).setVm s₂.vm).frames = .java g₀ :: r := hr
  rcases hq' with ⟨hqc, L, hfe, hL⟩ | ⟨q, rfl, E, ce, L, hx, hce, hcv, hcl, hW₂, hsm, hL⟩
  · obtain ⟨⟨v, rfl⟩, hW₂, e2, q2, q3, q4, q5, q6⟩ := id hfe
    have e3 : s₂ = ({ (U.calling g mk a).setFrames s₂.frames with heap := s₂.heap, slotsUsed := s₂.slotsUsed } : State).setVm s₂.vm := by
      have : s₂ = ({ s₂ with vm := (U.calling g mk a).vm } : State).setVm s₂.vm := rfl
      rw [e2] at this
      exact this
    obtain ⟨c₂, i₂, len₂, hc₂, hd₂, hf₂⟩ := hend
    have hW' : U.WarmedH s₂.vm := hW₂
    have hcc : c₂ = c := by
      have h1 : s₂.code? g.method = U.code? g.method := by
        rw [State.code?_eq, State.code?_eq, hW'.alike.method?]
      exact Option.some.inj (hc₂.symm.trans (h1.trans h.code))
    subst hcc
    have hlen : len₂ = len := by rw [hdg] at hd₂; cases hd₂; rfl
    subst hlen
    have hs₂ : s₂ = (({ U with heap := s₂.heap, slotsUsed := s₂.slotsUsed } : State).setVm s₂.vm).setTop { g with pc := g.pc + len₂, stack := v.toList ++ g.stack } := by
      refine e3.trans ?_
      rw [hf₂, State.calling_eq h.top, State.setFrames_setFrames, State.setTop_of_frames _ hr', hr]
      rfl
    have hsame : U.sameButNew ({ U with heap := s₂.heap, slotsUsed := s₂.slotsUsed } : State) L mc ms := by
      refine ⟨?_, q2, q3, q4, q5, q6⟩
      obtain ⟨t, ht, -⟩ := State.frames_cons hr
      show ({ U with heap := s₂.heap, slotsUsed := s₂.slotsUsed } : State) = { U.setFrames U.frames with heap := s₂.heap, slotsUsed := s₂.slotsUsed }
      rw [State.setFrames_self ht]
    subst hg
    refine Or.inl ⟨v, ⟨(({ U with heap := s₂.heap, slotsUsed := s₂.slotsUsed } : State).setVm s₂.vm), Ls ++ L, c0 + mc, s0 + ms⟩,
      ⟨X.admits, X.cas, X.clock, X.frames, X.room, X.hears, X.method, X.code, (X.here.setHeapUsed s₂.heap s₂.slotsUsed).setVm hW'.alike, X.tail, State.WarmedH.trans X.warmed hW', X.limits, X.bytes, X.same.trans (hsame.setVm s.vm)⟩,
      ⟨g, mk, s₂, L, rfl, rfl, hqc, rfl, hL, rfl, rfl⟩, ?_⟩
    show Steps p.tables e below _ ((({ U with heap := s₂.heap, slotsUsed := s₂.slotsUsed } : State).setVm s₂.vm).setTop { g with pc := g.pc + len₂, stack := v.toList ++ g.stack })
    rw [← hs₂]
    exact hsteps
  · obtain ⟨e2, q2, q3, q4, q5, q6⟩ := id hsm
    have e3 : s₂ = ({ (U.calling g mk a).setFrames s₂.frames with heap := s₂.heap, slotsUsed := s₂.slotsUsed } : State).setVm s₂.vm := by
      have : s₂ = ({ s₂ with vm := (U.calling g mk a).vm } : State).setVm s₂.vm := rfl
      rw [e2] at this
      exact this
    have hf₂ : s₂.frames = .throwing q :: .java g :: U.frames.tail := hend
    have hW' : U.WarmedH s₂.vm := hW₂
    have hs₂ : s₂ = ((({ U with heap := s₂.heap, slotsUsed := s₂.slotsUsed } : State).setVm s₂.vm).setTop g).pushFrame (.throwing q) := by
      refine e3.trans ?_
      rw [hf₂, State.calling_eq h.top, State.setFrames_setFrames, State.pushFrame, State.frames_setTop _ hr', State.setTop_of_frames _ hr', State.setFrames_setFrames, hr]
      rfl
    have hsame : U.sameButNew ({ U with heap := s₂.heap, slotsUsed := s₂.slotsUsed } : State) L mc ms := by
      refine ⟨?_, q2, q3, q4, q5, q6⟩
      obtain ⟨t, ht, -⟩ := State.frames_cons hr
      show ({ U with heap := s₂.heap, slotsUsed := s₂.slotsUsed } : State) = { U.setFrames U.frames with heap := s₂.heap, slotsUsed := s₂.slotsUsed }
      rw [State.setFrames_self ht]
    subst hg
    refine Or.inr ⟨q, ⟨(({ U with heap := s₂.heap, slotsUsed := s₂.slotsUsed } : State).setVm s₂.vm), Ls ++ L, c0 + mc, s0 + ms⟩,
      ⟨X.admits, X.cas, X.clock, X.frames, X.room, X.hears, X.method, X.code, (X.here.setHeapUsed s₂.heap s₂.slotsUsed).setVm hW'.alike, X.tail, State.WarmedH.trans X.warmed hW', X.limits, X.bytes, X.same.trans (hsame.setVm s.vm)⟩,
      ⟨g, mk, s₂, L, E, ce, rfl, rfl, hx, hce, hcv, hcl, rfl, hL, rfl, rfl⟩, ?_⟩
    show Steps p.tables e below _ (((({ U with heap := s₂.heap, slotsUsed := s₂.slotsUsed } : State).setVm s₂.vm).setTop g).pushFrame (.throwing q))
    rw [← hs₂]
    exact hsteps
end
variable {p : Program} {l : Launch} {e : Env} {R : Room} {s : State} {m : MethodId} {args : Array Value} {below : List Frame} {meth : Method} {c : Code} {T : State} {H : Heap} {locs : List Loc} {cells slots : Nat}
theorem vx_callVX (X : Stand p l e R s m args below meth c T locs cells slots) (hexec : p.tables.exec = Jvm.exec) {own C : String} {index : Nat} {y : MethodName} {bytes : ByteArray} {maxL : Nat} {ret : Option FieldType} {hh : List (Nat × Nat × Nat × Nat)}
    (hown : s.vm.findClass own = some m.cls) (hlink : (Cond.methodLink own index y).before args s = true) (hinst : (Cond.instanceMethod y).before args s = true) (hsel : (Cond.selects C y y).before args s = true)
    (hcode : (Cond.codeWith y bytes maxL ret hh).before args s = true) (hy : y.cls ≠ "java/lang/invoke/MethodHandle" ∧ y.cls ≠ "java/lang/invoke/VarHandle")
    {W9 : Nat} {Pre : Pt → Array Value → Prop} {Post : Pt → Array Value → Option Value → Pt → Prop} {PostX : Pt → Array Value → Addr → Pt → Prop} (hK : vx_Back l R p e below s args y 3 W9 Pre Post PostX)
    {b : Addr} {cellB : Cell} (hcell : T.heap[b]? = some cellB) (hobj : cellB.vm.isStatics = false) (hcls : s.vm.findClass C = some cellB.cls)
    {g : JFrame} (hg : g.method = m) (hsize : g.locals.size = c.maxLocals) {argsL rest : List Value} (hlen : ∀ sig, parseMethodDescriptor y.desc = some sig → argsL.length = sig.parameters.length)
    (hstack : g.stack = argsL.reverse ++ .ref b :: rest) (hW : 2 * g.monitorRoom + (rest.map fun v => v.category).sum ≤ W9) (hdg : decode c.code g.pc = .ok (.invokevirtual index, 3))
    (hpre : ∀ vm₁, s.WarmedH vm₁ → Pre ⟨T.setVm vm₁, locs, cells, slots⟩ (Value.ref b :: argsL).toArray) :
    (∃ (v : Option Value) (vm₁ : Vm) (B : Pt), s.WarmedH vm₁ ∧ Stand p l e R s m args below meth c B.U B.locs B.cells B.slots ∧ Post ⟨T.setVm vm₁, locs, cells, slots⟩ (Value.ref b :: argsL).toArray v B ∧
      ∀ target, Steps p.tables e below (B.U.setTop { g with pc := g.pc + 3, stack := v.toList ++ rest }) target → Steps p.tables e below (T.setTop g) target) ∨
    (∃ (q : Addr) (vm₁ : Vm) (B : Pt), s.WarmedH vm₁ ∧ Stand p l e R s m args below meth c B.U B.locs B.cells B.slots ∧ PostX ⟨T.setVm vm₁, locs, cells, slots⟩ (Value.ref b :: argsL).toArray q B ∧
      Steps p.tables e below (T.setTop g) ((B.U.setTop { g with stack := rest }).pushFrame (.throwing q))) := by
  obtain ⟨mk, methM, hnamed, hmethM, hstM, habM⟩ := Cond.instanceMethod_spec hinst
  obtain ⟨m8, methM', cM, hn8, hmethM', -, -, -, -, -, -, hsigM⟩ := Cond.codeWith_spec hcode
  cases Option.some.inj (hn8.symm.trans hnamed)
  cases hmethM.symm.trans hmethM'
  obtain ⟨c2, r2, m2, q1, q2, q3, q4, kP, hkP, hkPi⟩ := Cond.selects_spec hsel
  cases hcls.symm.trans q1
  cases (State.methodFound?_of_named hnamed hy).symm.trans q2
  cases hnamed.symm.trans q3
  have hselP : selectMethod e.platform s.vm cellB.cls mk = .method mk := by rw [Launch.admits_selectMethod X.admits]; exact q4
  obtain ⟨vm₁, X₁, hstep₁⟩ := X.invokevirtual hexec hown hlink hnamed hmethM hstM hkP hkPi hy (a := b) (cell := cellB) hcell
    (fun z h => by rw [h] at hobj; cases hobj) hselP hmethM habM hkP hkPi (g := g) hg (argsL := argsL) (rest := rest) (hlen _ hsigM) hstack hdg
  rcases hK m meth c ⟨T.setVm vm₁, locs, cells, slots⟩ { g with stack := rest } (.invokevirtual index) mk (Value.ref b :: argsL).toArray X₁ hg hsize hdg hW (X₁.named hnamed) (hpre vm₁ X₁.warmed) with ⟨v, B, X', hpost, hsteps⟩ | ⟨q, B, X', hpost, hsteps⟩
  · exact Or.inl ⟨v, vm₁, B, X₁.warmed, X', hpost, fun target h => hstep₁ _ fun acts => by rw [doInvoke_state]; exact hsteps.trans h⟩
  · exact Or.inr ⟨q, vm₁, B, X₁.warmed, X', hpost, hstep₁ _ fun acts => by rw [doInvoke_state]; exact hsteps⟩
theorem vx_callSX (X : Stand p l e R s m args below meth c T locs cells slots) (hexec : p.tables.exec = Jvm.exec) {own : String} {index : Nat} {y : MethodName} {bytes : ByteArray} {maxL : Nat} {ret : Option FieldType} {hh : List (Nat × Nat × Nat × Nat)}
    (hown : s.vm.findClass own = some m.cls) (hlink : (Cond.methodLink own index y).before args s = true) (hstat : (Cond.static y).before args s = true) (hinit : (Cond.initialized y.cls).before args s = true)
    (hcode : (Cond.codeWith y bytes maxL ret hh).before args s = true) (hy : y.cls ≠ "java/lang/invoke/MethodHandle" ∧ y.cls ≠ "java/lang/invoke/VarHandle")
    {W9 : Nat} {Pre : Pt → Array Value → Prop} {Post : Pt → Array Value → Option Value → Pt → Prop} {PostX : Pt → Array Value → Addr → Pt → Prop} (hK : vx_Back l R p e below s args y 3 W9 Pre Post PostX)
    {g : JFrame} (hg : g.method = m) (hsize : g.locals.size = c.maxLocals) {argsL rest : List Value} (hlen : ∀ sig, parseMethodDescriptor y.desc = some sig → argsL.length = sig.parameters.length)
    (hstack : g.stack = argsL.reverse ++ rest) (hW : 2 * g.monitorRoom + (rest.map fun v => v.category).sum ≤ W9) (hdg : decode c.code g.pc = .ok (.invokestatic index, 3))
    (hpre : ∀ vm₁, s.WarmedH vm₁ → Pre ⟨T.setVm vm₁, locs, cells, slots⟩ argsL.toArray) :
    (∃ (v : Option Value) (vm₁ : Vm) (B : Pt), s.WarmedH vm₁ ∧ Stand p l e R s m args below meth c B.U B.locs B.cells B.slots ∧ Post ⟨T.setVm vm₁, locs, cells, slots⟩ argsL.toArray v B ∧
      ∀ target, Steps p.tables e below (B.U.setTop { g with pc := g.pc + 3, stack := v.toList ++ rest }) target → Steps p.tables e below (T.setTop g) target) ∨
    (∃ (q : Addr) (vm₁ : Vm) (B : Pt), s.WarmedH vm₁ ∧ Stand p l e R s m args below meth c B.U B.locs B.cells B.slots ∧ PostX ⟨T.setVm vm₁, locs, cells, slots⟩ argsL.toArray q B ∧
      Steps p.tables e below (T.setTop g) ((B.U.setTop { g with stack := rest }).pushFrame (.throwing q))) := by
  obtain ⟨mk, methM, cM, hnamed, hmethM, -, -, -, -, -, -, hsigM⟩ := Cond.codeWith_spec hcode
  have hstatic : methM.isStatic = true := Cond.static_spec hnamed hmethM hstat
  obtain ⟨kP, hkP, -⟩ := className_of_methodNamed hnamed
  have hinitP : kP.init = .initialized := Cond.initialized_spec (findClass_of_methodNamed hnamed) hkP hinit
  obtain ⟨vm₁, X₁, hstep₁⟩ := X.invokestatic hexec hown hlink hnamed hmethM hstatic hkP hinitP hy (g := g) hg (argsL := argsL) (rest := rest) (hlen _ hsigM) hstack hdg
  rcases hK m meth c ⟨T.setVm vm₁, locs, cells, slots⟩ { g with stack := rest } (.invokestatic index) mk argsL.toArray X₁ hg hsize hdg hW (X₁.named hnamed) (hpre vm₁ X₁.warmed) with ⟨v, B, X', hpost, hsteps⟩ | ⟨q, B, X', hpost, hsteps⟩
  · exact Or.inl ⟨v, vm₁, B, X₁.warmed, X', hpost, fun target h => hstep₁ _ fun acts => by rw [doInvoke_state]; exact hsteps.trans h⟩
  · exact Or.inr ⟨q, vm₁, B, X₁.warmed, X', hpost, hstep₁ _ fun acts => by rw [doInvoke_state]; exact hsteps⟩
theorem vx_callVW (X : Stand p l e R s m args below meth c T locs cells slots) (hexec : p.tables.exec = Jvm.exec) {own C : String} {index : Nat} {y : MethodName} {bytes : ByteArray} {maxL : Nat} {ret : Option FieldType} {hh : List (Nat × Nat × Nat × Nat)}
    (hown : s.vm.findClass own = some m.cls) (hlink : (Cond.methodLink own index y).before args s = true) (hinst : (Cond.instanceMethod y).before args s = true) (hsel : (Cond.selects C y y).before args s = true)
    (hcode : (Cond.codeWith y bytes maxL ret hh).before args s = true) (hy : y.cls ≠ "java/lang/invoke/MethodHandle" ∧ y.cls ≠ "java/lang/invoke/VarHandle")
    {W9 : Nat} {Pre : Pt → Array Value → Prop} {Post : Pt → Array Value → Option Value → Pt → Prop} (hK : Back l R p e below s args y 3 W9 Pre Post)
    {b : Addr} {cellB : Cell} (hcell : T.heap[b]? = some cellB) (hobj : cellB.vm.isStatics = false) (hcls : s.vm.findClass C = some cellB.cls)
    {g : JFrame} (hg : g.method = m) (hsize : g.locals.size = c.maxLocals) {argsL rest : List Value} (hlen : ∀ sig, parseMethodDescriptor y.desc = some sig → argsL.length = sig.parameters.length)
    (hstack : g.stack = argsL.reverse ++ .ref b :: rest) (hW : 2 * g.monitorRoom + (rest.map fun v => v.category).sum ≤ W9) (hdg : decode c.code g.pc = .ok (.invokevirtual index, 3))
    (hpre : ∀ vm₁, s.WarmedH vm₁ → Pre ⟨T.setVm vm₁, locs, cells, slots⟩ (Value.ref b :: argsL).toArray) :
    ∃ (v : Option Value) (vm₁ : Vm) (B : Pt), s.WarmedH vm₁ ∧ Stand p l e R s m args below meth c B.U B.locs B.cells B.slots ∧ Post ⟨T.setVm vm₁, locs, cells, slots⟩ (Value.ref b :: argsL).toArray v B ∧
      ∀ target, Steps p.tables e below (B.U.setTop { g with pc := g.pc + 3, stack := v.toList ++ rest }) target → Steps p.tables e below (T.setTop g) target := by
  obtain ⟨mk, methM, hnamed, hmethM, hstM, habM⟩ := Cond.instanceMethod_spec hinst
  obtain ⟨m8, methM', cM, hn8, hmethM', -, -, -, -, -, -, hsigM⟩ := Cond.codeWith_spec hcode
  cases Option.some.inj (hn8.symm.trans hnamed)
  cases hmethM.symm.trans hmethM'
  obtain ⟨c2, r2, m2, q1, q2, q3, q4, kP, hkP, hkPi⟩ := Cond.selects_spec hsel
  cases hcls.symm.trans q1
  cases (State.methodFound?_of_named hnamed hy).symm.trans q2
  cases hnamed.symm.trans q3
  have hselP : selectMethod e.platform s.vm cellB.cls mk = .method mk := by rw [Launch.admits_selectMethod X.admits]; exact q4
  obtain ⟨vm₁, X₁, hstep₁⟩ := X.invokevirtual hexec hown hlink hnamed hmethM hstM hkP hkPi hy (a := b) (cell := cellB) hcell
    (fun z h => by rw [h] at hobj; cases hobj) hselP hmethM habM hkP hkPi (g := g) hg (argsL := argsL) (rest := rest) (hlen _ hsigM) hstack hdg
  obtain ⟨v, B, X', hpost, hsteps⟩ := hK m meth c ⟨T.setVm vm₁, locs, cells, slots⟩ { g with stack := rest } (.invokevirtual index) mk (Value.ref b :: argsL).toArray X₁ hg hsize hdg hW (X₁.named hnamed) (hpre vm₁ X₁.warmed)
  exact ⟨v, vm₁, B, X₁.warmed, X', hpost, fun target h => hstep₁ _ fun acts => by rw [doInvoke_state]; exact hsteps.trans h⟩
abbrev vx_CVW (R : Room) (s : State) (args : Array Value) (own C : String) (index : Nat) (y : MethodName) (bytes : ByteArray) (maxL : Nat) (ret : Option FieldType) (hh : List (Nat × Nat × Nat × Nat)) (ws : List Cond) (rm : Room) (mc ms n : Nat) : Prop :=
  (rm.cells = mc ∧ rm.slots = ms ∧ rm.frames + 1 ≤ R.frames ∧ 8 + (maxL + 11) + rm.locals ≤ R.locals ∧ (∀ w ∈ ws, ∀ (a' : Array Value) (U : State), s.WarmedH U.vm → w.before a' U = true) ∧ Cond.codeWith y bytes maxL ret hh ∈ ws) ∧
  (Cond.codeWith y bytes maxL ret hh).before args s = true ∧ (Cond.initialized y.cls).before args s = true ∧ (y.cls ≠ "java/lang/invoke/MethodHandle" ∧ y.cls ≠ "java/lang/invoke/VarHandle") ∧
  (∀ sig, parseMethodDescriptor y.desc = some sig → n = sig.parameters.length) ∧ (Cond.methodLink own index y).before args s = true ∧ (Cond.instanceMethod y).before args s = true ∧ (Cond.selects C y y).before args s = true
theorem vx_cwVW {own C : String} {index maxL mc ms : Nat} {y : MethodName} {bytes : ByteArray} {ret : Option FieldType} {hh : List (Nat × Nat × Nat × Nat)} {Ts ws ws' : List Cond} {rm : Room} (n : Nat) (ht : ∀ w ∈ Ts, w.before args s = true) (hT : GoodIn Ts (wsV own index C y ws)) (hw : ws = Cond.codeWith y bytes maxL ret hh :: ws') (hrc : rm.cells = mc) (hrs : rm.slots = ms)
    (hd : y.cls = C ∧ y.cls ≠ "java/lang/invoke/MethodHandle" ∧ y.cls ≠ "java/lang/invoke/VarHandle" ∧ (parseMethodDescriptor y.desc).map (fun d => d.parameters.length) = some n) (hR : rm.frames + 1 ≤ R.frames ∧ 8 + (maxL + 11) + rm.locals ≤ R.locals) :
    vx_CVW R s args own C index y bytes maxL ret hh ws rm mc ms n := by
  obtain ⟨hC, hd⟩ := hd
  subst hC
  have ok : ∀ w ∈ wsV own index y.cls y ws, w.before args s = true := fun w h => ht w (hT w h).1
  have hG : GoodIn Ts ws := fun w h => hT w (by unfold wsV; exact List.mem_append_right _ h)
  have hc : Cond.codeWith y bytes maxL ret hh ∈ ws := by rw [hw]; exact List.mem_cons_self
  refine ⟨⟨hrc, hrs, hR.1, hR.2, pay_in ht hG, hc⟩, ht _ (hG _ hc).1, ok _ (by simp [wsV]), ⟨hd.1, hd.2.1⟩, fun sig h => ?_, ok _ (by simp [wsV]), ok _ (by simp [wsV]), ok _ (by simp [wsV])⟩
  have h2 := hd.2.2
  rw [h] at h2
  exact (Option.some.inj h2).symm
theorem vx_runVW {y : MethodName} {bytes cc : ByteArray} {maxL nL mc ms n index : Nat} {ret : Option FieldType} {hh : List (Nat × Nat × Nat × Nat)} {ws : List Cond} {rm : Room} {Pc : Array Value → State → Prop} {Qc : Array Value → State → Outcome → State → Prop} {free : Addr → Prop} {Ts : List Cond} {own C : String} {b : Addr} {As rest : List Value} {g : JFrame}
    (S : CallFix p m c cc nL s args Ts own) (hM : Met l y ws rm Pc Qc mc ms free) (cw : vx_CVW R s args own C index y bytes maxL ret hh ws rm mc ms n) (hp : PreV s H C b Pc As)
    (hg : g.method = m) (hn : As.length = n) (hsize : g.locals.size = nL) (hstack : g.stack = As.reverse ++ .ref b :: rest) (hW : 2 * g.monitorRoom + (rest.map fun v => v.category).sum ≤ 8) (hdg : decode cc g.pc = .ok (.invokevirtual index, 3)) (hf : cells + mc ≤ R.cells ∧ slots + ms ≤ R.slots) :
    va_Run p l e R s m args below meth c H locs cells slots mc ms g rest (Qc (Value.ref b :: As).toArray) free := by
  obtain ⟨⟨hrc, hrs, hfr, hlo, hws, hcw⟩, hcode, hini, hy, hlen, hl, hin, hse⟩ := cw
  have hK : Back l R p e below s args y 3 8 (PreOf R mc ms Pc) (PostOf Qc mc ms free) := va_backW (hh := hh) (bytes := bytes) (maxL := maxL) (ret := ret) hM hp.1 hrc hrs hfr hlo hws hcw (fun a' U hW => word_at hW (Or.inl (by first | rfl | simp [Cond.onTables, Cond.keeps, Cond.steady])) hini)
  obtain ⟨hx, hb, hml, ho, -⟩ := S
  obtain ⟨-, ⟨cellB, hcB, hoB, hclB⟩, hPc⟩ := hp
  intro T hT X
  obtain ⟨v, vm₁, ⟨U', l2, c2, s2⟩, hW₁, X', ⟨g', mk, t, L, e1, e2, hq, h1, hL, h2, h3⟩, st⟩ := vx_callVW X hx (C := C) (hh := hh) (bytes := bytes) (maxL := maxL) (ret := ret) ho hl hin hse hcode hy hK (by rw [hT]; exact hcB) hoB hclB hg (hsize.trans hml.symm) (argsL := As) (rest := rest) (fun sig h => hn.trans (hlen sig h)) hstack hW (by rw [hb]; exact hdg)
    (fun vm₁ hW₁ => ⟨hf.1, hf.2, hPc (T.setVm vm₁) hT hW₁⟩)
  dsimp only [Pt.U, Pt.locs, Pt.cells, Pt.slots] at X' e1 e2 h1 h2 h3 st
  subst h1; subst h2; subst h3
  exact ⟨v, (T.setVm vm₁).calling g' mk (Value.ref b :: As).toArray, t, U', L, hT, X', hL, e1, e2, hq, st⟩
section
variable {y : MethodName} {bytes cc : ByteArray} {maxL nL mc ms n index : Nat} {ret : Option FieldType} {ws : List Cond} {rm : Room} {Pc : Array Value → State → Prop} {Qc : Array Value → State → Outcome → State → Prop} {XC : String → State → State → Prop} {free : Addr → Prop} {Ts : List Cond} {own C : String} {b : Addr} {As rest : List Value} {g : JFrame}
theorem vx_runVX {hh : List (Nat × Nat × Nat × Nat)} (S : CallFix p m c cc nL s args Ts own) (hM : vx_Met l y ws rm Pc Qc XC mc ms free) (cw : vx_CVW R s args own C index y bytes maxL ret hh ws rm mc ms n) (hp : PreV s H C b Pc As)
    (hg : g.method = m) (hn : As.length = n) (hsize : g.locals.size = nL) (hstack : g.stack = As.reverse ++ .ref b :: rest) (hW : 2 * g.monitorRoom + (rest.map fun v => v.category).sum ≤ 8) (hdg : decode cc g.pc = .ok (.invokevirtual index, 3)) (hf : cells + mc ≤ R.cells ∧ slots + ms ≤ R.slots) :
    vx_Run p l e R s m args below meth c H locs cells slots mc ms g rest (Qc (Value.ref b :: As).toArray) XC free := by
  obtain ⟨⟨hrc, hrs, hfr, hlo, hws, hcw⟩, hcode, hini, hy, hlen, hl, hin, hse⟩ := cw
  have hK : vx_Back l R p e below s args y 3 8 (PreOf R mc ms Pc) (PostOf Qc mc ms free) (vx_Post XC mc ms free) := vx_backW (hh := hh) (bytes := bytes) (maxL := maxL) (ret := ret) hM hp.1 hrc hrs hfr hlo hws hcw (fun a' U hW => word_at hW (Or.inl (by first | rfl | simp [Cond.onTables, Cond.keeps, Cond.steady])) hini)
  obtain ⟨hx, hb, hml, ho, -⟩ := S
  obtain ⟨-, ⟨cellB, hcB, hoB, hclB⟩, hPc⟩ := hp
  intro T hT X
  rcases vx_callVX X hx (C := C) (hh := hh) (bytes := bytes) (maxL := maxL) (ret := ret) ho hl hin hse hcode hy hK (by rw [hT]; exact hcB) hoB hclB hg (hsize.trans hml.symm) (argsL := As) (rest := rest) (fun sig h => hn.trans (hlen sig h)) hstack hW (by rw [hb]; exact hdg)
    (fun vm₁ hW₁ => ⟨hf.1, hf.2, hPc (T.setVm vm₁) hT hW₁⟩) with ⟨v, vm₁, ⟨U', l2, c2, s2⟩, hW₁, X', ⟨g', mk, t, L, e1, e2, hq, h1, hL, h2, h3⟩, st⟩ | ⟨q, vm₁, ⟨U', l2, c2, s2⟩, hW₁, X', ⟨g', mk, t, L, E, ce, e1, e2, hq, hce, hcv, hcl, h1, hL, h2, h3⟩, st⟩
  · dsimp only [Pt.U, Pt.locs, Pt.cells, Pt.slots] at X' e1 e2 h1 h2 h3 st
    subst h1; subst h2; subst h3
    exact Or.inl ⟨v, (T.setVm vm₁).calling g' mk (Value.ref b :: As).toArray, t, U', L, hT, X', hL, e1, e2, hq, st⟩
  · dsimp only [Pt.U, Pt.locs, Pt.cells, Pt.slots] at X' e1 e2 h1 h2 h3 st hcl
    subst h1; subst h2; subst h3
    exact Or.inr ⟨q, (T.setVm vm₁).calling g' mk (Value.ref b :: As).toArray, t, U', L, E, ce, hT, X', hL, e1, e2, hq, hce, hcv, vx_cls hW₁ hcl, st⟩
theorem vx_runSX {hh : List (Nat × Nat × Nat × Nat)} (S : CallFix p m c cc nL s args Ts own) (hM : vx_Met l y ws rm Pc Qc XC mc ms free) (cw : vx_CSW R s args own index y bytes maxL ret hh ws rm mc ms n) (hp : PreS s H Pc As)
    (hg : g.method = m) (hn : As.length = n) (hsize : g.locals.size = nL) (hstack : g.stack = As.reverse ++ rest) (hW : 2 * g.monitorRoom + (rest.map fun v => v.category).sum ≤ 8) (hdg : decode cc g.pc = .ok (.invokestatic index, 3)) (hf : cells + mc ≤ R.cells ∧ slots + ms ≤ R.slots) :
    vx_Run p l e R s m args below meth c H locs cells slots mc ms g rest (Qc As.toArray) XC free := by
  obtain ⟨⟨hrc, hrs, hfr, hlo, hws, hcw⟩, hcode, hini, hy, hlen, hl, hstt⟩ := cw
  have hK : vx_Back l R p e below s args y 3 8 (PreOf R mc ms Pc) (PostOf Qc mc ms free) (vx_Post XC mc ms free) := vx_backW (hh := hh) (bytes := bytes) (maxL := maxL) (ret := ret) hM hp.1 hrc hrs hfr hlo hws hcw (fun a' U hW => word_at hW (Or.inl (by first | rfl | simp [Cond.onTables, Cond.keeps, Cond.steady])) hini)
  obtain ⟨hx, hb, hml, ho, -⟩ := S
  intro T hT X
  rcases vx_callSX X hx (hh := hh) (bytes := bytes) (maxL := maxL) (ret := ret) ho hl hstt hini hcode hy hK hg (hsize.trans hml.symm) (argsL := As) (rest := rest) (fun sig h => hn.trans (hlen sig h)) hstack hW (by rw [hb]; exact hdg)
    (fun vm₁ hW₁ => ⟨hf.1, hf.2, hp.2 (T.setVm vm₁) hT hW₁⟩) with ⟨v, vm₁, ⟨U', l2, c2, s2⟩, hW₁, X', ⟨g', mk, t, L, e1, e2, hq, h1, hL, h2, h3⟩, st⟩ | ⟨q, vm₁, ⟨U', l2, c2, s2⟩, hW₁, X', ⟨g', mk, t, L, E, ce, e1, e2, hq, hce, hcv, hcl, h1, hL, h2, h3⟩, st⟩
  · dsimp only [Pt.U, Pt.locs, Pt.cells, Pt.slots] at X' e1 e2 h1 h2 h3 st
    subst h1; subst h2; subst h3
    exact Or.inl ⟨v, (T.setVm vm₁).calling g' mk As.toArray, t, U', L, hT, X', hL, e1, e2, hq, st⟩
  · dsimp only [Pt.U, Pt.locs, Pt.cells, Pt.slots] at X' e1 e2 h1 h2 h3 st hcl
    subst h1; subst h2; subst h3
    exact Or.inr ⟨q, (T.setVm vm₁).calling g' mk As.toArray, t, U', L, E, ce, hT, X', hL, e1, e2, hq, hce, hcv, vx_cls hW₁ hcl, st⟩
end
end VXH
theorem vx_ofWH {l : Launch} {y : MethodName} {ws ws' : List Cond} {rm : Room} {Pc : Array Value → State → Prop} {Qc : Array Value → State → Outcome → State → Prop} {XC : String → State → State → Prop} {mc ms : Nat} {free : Addr → Prop} {cc : ByteArray} {maxL : Nat} {ret : Option FieldType} {hh : List (Nat × Nat × Nat × Nat)}
    (hy : plainName y.cls = true) (hw : ws = Cond.codeWith y cc maxL ret hh :: ws')
    (body : ∀ p e s m args below meth c s₁, BodyLoose p l y (headSpec ws rm) cc maxL ret e s m args below meth c s₁ → c.maxLocals = maxL → Pc args s →
      W p l e (headSpec ws rm).room s m args below meth c s.heap [] 0 0 (vx_MQ below Qc XC args s mc ms free) (entryFrame m args maxL)) : vx_Met l y ws rm Pc Qc XC mc ms free := by
  refine MetFree.of_bodyS (code := cc) (maxLocals := maxL) (ret := ret) hy ?_ ?_
  · intro args s m h hn
    obtain ⟨m9, meth, c, hn9, h1, h2, h3, h4, -, h5, h6, -⟩ := Cond.codeWith_spec (atoms_spec (ws := ws) h _ (by rw [hw]; exact List.mem_cons_self))
    cases hn.symm.trans hn9
    exact ⟨meth, c, h1, h2, h3, h4, h5, h6⟩
  · intro p e s m args below meth c s₁ B hml hP _
    have hh0 : s₁.heap = s.heap := by rw [B.state]; rfl
    obtain ⟨t, a1, o, b1, b2, b3⟩ := body p e s m args below meth c s₁ B hml hP s₁ hh0 (Stand.of_body B)
    exact ⟨t, o, a1, b1, b2, b3⟩
/-! ===== END ===== -/
end
section
def RX0 : String := "HeaderSqueeze$Context"
def TX0 : u_T := fun k => match k with
  | 0 => ("HeaderSqueeze$Context", "address", "I", false)
  | 1 => ("HeaderSqueeze$Context", "type", "I", false)
  | 2 => ("HeaderSqueeze$Context", "stride", "I", false)
  | 3 => ("HeaderSqueeze$Context", "phase", "I", false)
  | _ => ("HeaderSqueeze$Context", "offset", "I", false)
def tyX0 : Nat → FieldType := fun k => match k with
  | 0 => .int
  | 1 => .int
  | 2 => .int
  | 3 => .int
  | _ => .int
abbrev wsX00 : List Cond := u_ws RX0 TX0 5
theorem nmX0 : ∀ a, a < 5 → ∀ b, b < 5 → a ≠ b → (TX0 a).2.1 ≠ (TX0 b).2.1 := by decide +kernel
theorem tyX0_ok : ∀ k, k < 5 → parseFieldDescriptor (TX0 k).2.2.1 = some (tyX0 k) := by decide +kernel
abbrev cX0_init : ByteArray := prog_2_method_1_code
def yX0_init : MethodName := ⟨RX0, "<init>", "()V"⟩
abbrev cX0_isOf : ByteArray := prog_2_method_2_code
def yX0_isOf : MethodName := ⟨RX0, "isOf", "(LHeaderSqueeze$Head;)Z"⟩
abbrev cX0_goesAlong : ByteArray := prog_2_method_3_code
def yX0_goesAlong : MethodName := ⟨RX0, "goesAlong", "(LHeaderSqueeze$Head;)Z"⟩
abbrev cX0_follow : ByteArray := prog_2_method_4_code
def yX0_follow : MethodName := ⟨RX0, "follow", "(LHeaderSqueeze$Head;I)V"⟩
abbrev cX0_complete : ByteArray := prog_2_method_5_code
def yX0_complete : MethodName := ⟨RX0, "complete", "(LHeaderSqueeze$Head;I)V"⟩
abbrev cX0_phaseOf : ByteArray := prog_2_method_6_code
def yX0_phaseOf : MethodName := ⟨RX0, "phaseOf", "(LHeaderSqueeze$Head;I)I"⟩
abbrev cX0_offsetOf : ByteArray := prog_2_method_7_code
def yX0_offsetOf : MethodName := ⟨RX0, "offsetOf", "(LHeaderSqueeze$Head;)I"⟩
def RX1 : String := "HeaderSqueeze$Head"
def TX1 : u_T := fun k => match k with
  | 0 => ("HeaderSqueeze$Head", "address", "I", false)
  | 1 => ("HeaderSqueeze$Head", "type", "I", false)
  | 2 => ("HeaderSqueeze$Head", "mark", "Z", false)
  | 3 => ("HeaderSqueeze$Head", "number", "I", false)
  | 4 => ("HeaderSqueeze$Head", "time", "I", false)
  | _ => ("HeaderSqueeze$Head", "id", "I", false)
def tyX1 : Nat → FieldType := fun k => match k with
  | 0 => .int
  | 1 => .int
  | 2 => .boolean
  | 3 => .int
  | 4 => .int
  | _ => .int
abbrev wsX10 : List Cond := u_ws RX1 TX1 6
theorem nmX1 : ∀ a, a < 6 → ∀ b, b < 6 → a ≠ b → (TX1 a).2.1 ≠ (TX1 b).2.1 := by decide +kernel
theorem tyX1_ok : ∀ k, k < 6 → parseFieldDescriptor (TX1 k).2.2.1 = some (tyX1 k) := by decide +kernel
abbrev cX1_init : ByteArray := prog_3_method_1_code
def yX1_init : MethodName := ⟨RX1, "<init>", "()V"⟩
abbrev cX1_part : ByteArray := prog_3_method_2_code
def yX1_part : MethodName := ⟨RX1, "part", "(I)I"⟩
abbrev cX1_markBit : ByteArray := prog_3_method_3_code
def yX1_markBit : MethodName := ⟨RX1, "markBit", "()I"⟩
abbrev cX1_sumFor : ByteArray := prog_3_method_4_code
def yX1_sumFor : MethodName := ⟨RX1, "sumFor", "(II)I"⟩
abbrev cX1_sumBehind : ByteArray := prog_3_method_5_code
def yX1_sumBehind : MethodName := ⟨RX1, "sumBehind", "(III)I"⟩
def RX2 : String := "HeaderSqueeze$Line"
def TX2 : u_T := fun k => match k with
  | 0 => ("HeaderSqueeze$Line", "rows", "[LHeaderSqueeze$Packet;", true)
  | _ => ("HeaderSqueeze$Line", "packets", "I", false)
def tyX2 : Nat → FieldType := fun k => match k with
  | 0 => .array (.object "HeaderSqueeze$Packet")
  | _ => .int
abbrev wsX20 : List Cond := u_ws RX2 TX2 2
theorem nmX2 : ∀ a, a < 2 → ∀ b, b < 2 → a ≠ b → (TX2 a).2.1 ≠ (TX2 b).2.1 := by decide +kernel
theorem tyX2_ok : ∀ k, k < 2 → parseFieldDescriptor (TX2 k).2.2.1 = some (tyX2 k) := by decide +kernel
abbrev cX2_init : ByteArray := prog_4_method_1_code
def yX2_init : MethodName := ⟨RX2, "<init>", "()V"⟩
abbrev cX2_rowBehind : ByteArray := prog_4_method_2_code
def yX2_rowBehind : MethodName := ⟨RX2, "rowBehind", "()LHeaderSqueeze$Packet;"⟩
abbrev cX2_addRowBehind : ByteArray := prog_4_method_3_code
def yX2_addRowBehind : MethodName := ⟨RX2, "addRowBehind", "()Z"⟩
abbrev cX2_takeOff : ByteArray := prog_4_method_4_code
def yX2_takeOff : MethodName := ⟨RX2, "takeOff", "(I)LHeaderSqueeze$Packet;"⟩
def RX3 : String := "HeaderSqueeze$Packet"
def TX3 : u_T := fun k => match k with
  | 0 => ("HeaderSqueeze$Packet", "bytes", "[I", true)
  | 1 => ("HeaderSqueeze$Packet", "length", "I", false)
  | 2 => ("HeaderSqueeze$Packet", "flow", "I", false)
  | 3 => ("HeaderSqueeze$Packet", "kind", "I", false)
  | _ => ("HeaderSqueeze$Packet", "start", "I", false)
def tyX3 : Nat → FieldType := fun k => match k with
  | 0 => .array .int
  | 1 => .int
  | 2 => .int
  | 3 => .int
  | _ => .int
abbrev wsX30 : List Cond := u_ws RX3 TX3 5
theorem nmX3 : ∀ a, a < 5 → ∀ b, b < 5 → a ≠ b → (TX3 a).2.1 ≠ (TX3 b).2.1 := by decide +kernel
theorem tyX3_ok : ∀ k, k < 5 → parseFieldDescriptor (TX3 k).2.2.1 = some (tyX3 k) := by decide +kernel
abbrev cX3_init : ByteArray := prog_5_method_1_code
def yX3_init : MethodName := ⟨RX3, "<init>", "()V"⟩
abbrev cX3_write : ByteArray := prog_5_method_2_code
def yX3_write : MethodName := ⟨RX3, "write", "(IILHeaderSqueeze$Head;I)V"⟩
abbrev cX3_putMoving : ByteArray := prog_5_method_3_code
def yX3_putMoving : MethodName := ⟨RX3, "putMoving", "(LHeaderSqueeze$Head;I)V"⟩
abbrev cX3_putTwo : ByteArray := prog_5_method_4_code
def yX3_putTwo : MethodName := ⟨RX3, "putTwo", "(I)V"⟩
abbrev cX3_put : ByteArray := prog_5_method_5_code
def yX3_put : MethodName := ⟨RX3, "put", "(I)V"⟩
abbrev cX3_read : ByteArray := prog_5_method_6_code
def yX3_read : MethodName := ⟨RX3, "read", "()V"⟩
abbrev cX3_kindTold : ByteArray := prog_5_method_7_code
def yX3_kindTold : MethodName := ⟨RX3, "kindTold", "(I)I"⟩
abbrev cX3_isMisshapen : ByteArray := prog_5_method_8_code
def yX3_isMisshapen : MethodName := ⟨RX3, "isMisshapen", "()Z"⟩
abbrev cX3_isNoMark : ByteArray := prog_5_method_9_code
def yX3_isNoMark : MethodName := ⟨RX3, "isNoMark", "(I)Z"⟩
abbrev cX3_own : ByteArray := prog_5_method_10_code
def yX3_own : MethodName := ⟨RX3, "own", "(I)I"⟩
abbrev cX3_ownTwo : ByteArray := prog_5_method_11_code
def yX3_ownTwo : MethodName := ⟨RX3, "ownTwo", "(I)I"⟩
abbrev cX3_sumTold : ByteArray := prog_5_method_12_code
def yX3_sumTold : MethodName := ⟨RX3, "sumTold", "()I"⟩
abbrev cX3_lowTold : ByteArray := prog_5_method_13_code
def yX3_lowTold : MethodName := ⟨RX3, "lowTold", "()I"⟩
abbrev cX3_markTold : ByteArray := prog_5_method_14_code
def yX3_markTold : MethodName := ⟨RX3, "markTold", "()Z"⟩
abbrev cX3_strideTold : ByteArray := prog_5_method_15_code
def yX3_strideTold : MethodName := ⟨RX3, "strideTold", "()I"⟩
abbrev cX3_readFixed : ByteArray := prog_5_method_16_code
def yX3_readFixed : MethodName := ⟨RX3, "readFixed", "(LHeaderSqueeze$Head;)V"⟩
abbrev cX3_readMoving : ByteArray := prog_5_method_17_code
def yX3_readMoving : MethodName := ⟨RX3, "readMoving", "(LHeaderSqueeze$Head;)V"⟩
def RX4 : String := "HeaderSqueeze$Receiver"
def TX4 : u_T := fun k => match k with
  | 0 => ("HeaderSqueeze$Receiver", "context", "LHeaderSqueeze$Context;", true)
  | 1 => ("HeaderSqueeze$Receiver", "level", "I", false)
  | 2 => ("HeaderSqueeze$Receiver", "last", "I", false)
  | 3 => ("HeaderSqueeze$Receiver", "former", "I", false)
  | _ => ("HeaderSqueeze$Receiver", "failures", "I", false)
def tyX4 : Nat → FieldType := fun k => match k with
  | 0 => .object "HeaderSqueeze$Context"
  | 1 => .int
  | 2 => .int
  | 3 => .int
  | _ => .int
abbrev wsX40 : List Cond := u_ws RX4 TX4 5
theorem nmX4 : ∀ a, a < 5 → ∀ b, b < 5 → a ≠ b → (TX4 a).2.1 ≠ (TX4 b).2.1 := by decide +kernel
theorem tyX4_ok : ∀ k, k < 5 → parseFieldDescriptor (TX4 k).2.2.1 = some (tyX4 k) := by decide +kernel
abbrev cX4_init : ByteArray := prog_6_method_1_code
def yX4_init : MethodName := ⟨RX4, "<init>", "()V"⟩
abbrev cX4_hasUseFor : ByteArray := prog_6_method_2_code
def yX4_hasUseFor : MethodName := ⟨RX4, "hasUseFor", "(I)Z"⟩
abbrev cX4_take : ByteArray := prog_6_method_3_code
def yX4_take : MethodName := ⟨RX4, "take", "(LHeaderSqueeze$Packet;LHeaderSqueeze$Head;)I"⟩
abbrev cX4_makeMoving : ByteArray := prog_6_method_4_code
def yX4_makeMoving : MethodName := ⟨RX4, "makeMoving", "(LHeaderSqueeze$Packet;LHeaderSqueeze$Head;)I"⟩
abbrev cX4_makeSmall : ByteArray := prog_6_method_5_code
def yX4_makeSmall : MethodName := ⟨RX4, "makeSmall", "(LHeaderSqueeze$Packet;LHeaderSqueeze$Head;)I"⟩
abbrev cX4_numberNear : ByteArray := prog_6_method_6_code
def yX4_numberNear : MethodName := ⟨RX4, "numberNear", "(ILHeaderSqueeze$Packet;)I"⟩
abbrev cX4_fits : ByteArray := prog_6_method_7_code
def yX4_fits : MethodName := ⟨RX4, "fits", "(LHeaderSqueeze$Packet;LHeaderSqueeze$Head;I)Z"⟩
abbrev cX4_noteMade : ByteArray := prog_6_method_8_code
def yX4_noteMade : MethodName := ⟨RX4, "noteMade", "(I)V"⟩
abbrev cX4_noteFailure : ByteArray := prog_6_method_9_code
def yX4_noteFailure : MethodName := ⟨RX4, "noteFailure", "()V"⟩
def RX5 : String := "HeaderSqueeze$Sender"
def TX5 : u_T := fun k => match k with
  | 0 => ("HeaderSqueeze$Sender", "context", "LHeaderSqueeze$Context;", true)
  | 1 => ("HeaderSqueeze$Sender", "wishedStride", "I", false)
  | 2 => ("HeaderSqueeze$Sender", "state", "I", false)
  | 3 => ("HeaderSqueeze$Sender", "sentInState", "I", false)
  | 4 => ("HeaderSqueeze$Sender", "age", "I", false)
  | 5 => ("HeaderSqueeze$Sender", "hasContext", "Z", false)
  | 6 => ("HeaderSqueeze$Sender", "numbers", "[I", true)
  | _ => ("HeaderSqueeze$Sender", "numbersSent", "I", false)
def tyX5 : Nat → FieldType := fun k => match k with
  | 0 => .object "HeaderSqueeze$Context"
  | 1 => .int
  | 2 => .int
  | 3 => .int
  | 4 => .int
  | 5 => .boolean
  | 6 => .array .int
  | _ => .int
abbrev wsX50 : List Cond := u_ws RX5 TX5 8
theorem nmX5 : ∀ a, a < 8 → ∀ b, b < 8 → a ≠ b → (TX5 a).2.1 ≠ (TX5 b).2.1 := by decide +kernel
theorem tyX5_ok : ∀ k, k < 8 → parseFieldDescriptor (TX5 k).2.2.1 = some (tyX5 k) := by decide +kernel
abbrev cX5_init : ByteArray := prog_7_method_1_code
def yX5_init : MethodName := ⟨RX5, "<init>", "()V"⟩
abbrev cX5_chooseKind : ByteArray := prog_7_method_2_code
def yX5_chooseKind : MethodName := ⟨RX5, "chooseKind", "(LHeaderSqueeze$Head;)I"⟩
abbrev cX5_noteSent : ByteArray := prog_7_method_3_code
def yX5_noteSent : MethodName := ⟨RX5, "noteSent", "(II)V"⟩
abbrev cX5_enter : ByteArray := prog_7_method_4_code
def yX5_enter : MethodName := ⟨RX5, "enter", "(I)V"⟩
abbrev cX5_smallestKind : ByteArray := prog_7_method_5_code
def yX5_smallestKind : MethodName := ⟨RX5, "smallestKind", "(LHeaderSqueeze$Head;)I"⟩
abbrev cX5_isEnough : ByteArray := prog_7_method_6_code
def yX5_isEnough : MethodName := ⟨RX5, "isEnough", "(II)Z"⟩
def RX6 : String := "HeaderSqueeze"
def TX6 : u_T := fun k => match k with
  | 0 => ("HeaderSqueeze", "next", "LHeaderSqueeze$Head;", true)
  | 1 => ("HeaderSqueeze", "onTheWay", "LHeaderSqueeze$Line;", true)
  | 2 => ("HeaderSqueeze", "senders", "[LHeaderSqueeze$Sender;", true)
  | 3 => ("HeaderSqueeze", "receivers", "[LHeaderSqueeze$Receiver;", true)
  | 4 => ("HeaderSqueeze", "counts", "[I", true)
  | 5 => ("HeaderSqueeze", "latest", "LHeaderSqueeze$Head;", false)
  | _ => ("HeaderSqueeze", "trial", "LHeaderSqueeze$Head;", false)
def tyX6 : Nat → FieldType := fun k => match k with
  | 0 => .object "HeaderSqueeze$Head"
  | 1 => .object "HeaderSqueeze$Line"
  | 2 => .array (.object "HeaderSqueeze$Sender")
  | 3 => .array (.object "HeaderSqueeze$Receiver")
  | 4 => .array .int
  | 5 => .object "HeaderSqueeze$Head"
  | _ => .object "HeaderSqueeze$Head"
abbrev wsX60 : List Cond := u_ws RX6 TX6 7
theorem nmX6 : ∀ a, a < 7 → ∀ b, b < 7 → a ≠ b → (TX6 a).2.1 ≠ (TX6 b).2.1 := by decide +kernel
theorem tyX6_ok : ∀ k, k < 7 → parseFieldDescriptor (TX6 k).2.2.1 = some (tyX6 k) := by decide +kernel
abbrev cX6_init : ByteArray := prog_1_method_1_code
def yX6_init : MethodName := ⟨RX6, "<init>", "()V"⟩
abbrev cX6_stride : ByteArray := prog_1_method_2_code
def yX6_stride : MethodName := ⟨RX6, "stride", "(II)V"⟩
abbrev cX6_head : ByteArray := prog_1_method_3_code
def yX6_head : MethodName := ⟨RX6, "head", "(IIZ)V"⟩
abbrev cX6_send : ByteArray := prog_1_method_4_code
def yX6_send : MethodName := ⟨RX6, "send", "(IIII)I"⟩
abbrev cX6_line : ByteArray := prog_1_method_5_code
def yX6_line : MethodName := ⟨RX6, "line", "()I"⟩
abbrev cX6_size : ByteArray := prog_1_method_6_code
def yX6_size : MethodName := ⟨RX6, "size", "(I)I"⟩
abbrev cX6_byteAt : ByteArray := prog_1_method_7_code
def yX6_byteAt : MethodName := ⟨RX6, "byteAt", "(II)I"⟩
abbrev cX6_spoil : ByteArray := prog_1_method_8_code
def yX6_spoil : MethodName := ⟨RX6, "spoil", "(III)V"⟩
abbrev cX6_lose : ByteArray := prog_1_method_9_code
def yX6_lose : MethodName := ⟨RX6, "lose", "(I)V"⟩
abbrev cX6_deliver : ByteArray := prog_1_method_10_code
def yX6_deliver : MethodName := ⟨RX6, "deliver", "(I)I"⟩
abbrev cX6_made : ByteArray := prog_1_method_11_code
def yX6_made : MethodName := ⟨RX6, "made", "(I)I"⟩
abbrev cX6_sender : ByteArray := prog_1_method_12_code
def yX6_sender : MethodName := ⟨RX6, "sender", "(II)I"⟩
abbrev cX6_receiver : ByteArray := prog_1_method_13_code
def yX6_receiver : MethodName := ⟨RX6, "receiver", "(II)I"⟩
abbrev cX6_count : ByteArray := prog_1_method_14_code
def yX6_count : MethodName := ⟨RX6, "count", "(I)I"⟩
abbrev cX6_keepTrial : ByteArray := prog_1_method_15_code
def yX6_keepTrial : MethodName := ⟨RX6, "keepTrial", "()V"⟩
abbrev cX6_isNoPacket : ByteArray := prog_1_method_16_code
def yX6_isNoPacket : MethodName := ⟨RX6, "isNoPacket", "(I)Z"⟩
abbrev cX6_isNoByte : ByteArray := prog_1_method_17_code
def yX6_isNoByte : MethodName := ⟨RX6, "isNoByte", "(II)Z"⟩
abbrev cX6_isNoFlow : ByteArray := prog_1_method_18_code
def yX6_isNoFlow : MethodName := ⟨RX6, "isNoFlow", "(I)Z"⟩
abbrev cX6_isNotInTwoBytes : ByteArray := prog_1_method_19_code
def yX6_isNotInTwoBytes : MethodName := ⟨RX6, "isNotInTwoBytes", "(I)Z"⟩
def RX7 : String := "HeaderSqueezeModel"
def TX7 : u_T := fun k => match k with
  | 0 => ("HeaderSqueezeModel", "thrown", "I", false)
  | 1 => ("HeaderSqueezeModel", "address", "I", false)
  | 2 => ("HeaderSqueezeModel", "type", "I", false)
  | 3 => ("HeaderSqueezeModel", "mark", "Z", false)
  | 4 => ("HeaderSqueezeModel", "wished", "[I", false)
  | 5 => ("HeaderSqueezeModel", "has", "[Z", false)
  | 6 => ("HeaderSqueezeModel", "sendAddress", "[I", false)
  | 7 => ("HeaderSqueezeModel", "sendType", "[I", false)
  | 8 => ("HeaderSqueezeModel", "sendStride", "[I", false)
  | 9 => ("HeaderSqueezeModel", "sendPhase", "[I", false)
  | 10 => ("HeaderSqueezeModel", "sendOffset", "[I", false)
  | 11 => ("HeaderSqueezeModel", "state", "[I", false)
  | 12 => ("HeaderSqueezeModel", "sent", "[I", false)
  | 13 => ("HeaderSqueezeModel", "age", "[I", false)
  | 14 => ("HeaderSqueezeModel", "known", "[I", false)
  | 15 => ("HeaderSqueezeModel", "numbers", "[I", false)
  | 16 => ("HeaderSqueezeModel", "packets", "I", false)
  | 17 => ("HeaderSqueezeModel", "sizes", "[I", false)
  | 18 => ("HeaderSqueezeModel", "bytes", "[I", false)
  | 19 => ("HeaderSqueezeModel", "level", "[I", false)
  | 20 => ("HeaderSqueezeModel", "getAddress", "[I", false)
  | 21 => ("HeaderSqueezeModel", "getType", "[I", false)
  | 22 => ("HeaderSqueezeModel", "getStride", "[I", false)
  | 23 => ("HeaderSqueezeModel", "getPhase", "[I", false)
  | 24 => ("HeaderSqueezeModel", "getOffset", "[I", false)
  | 25 => ("HeaderSqueezeModel", "last", "[I", false)
  | 26 => ("HeaderSqueezeModel", "former", "[I", false)
  | 27 => ("HeaderSqueezeModel", "failed", "[I", false)
  | 28 => ("HeaderSqueezeModel", "made", "[I", false)
  | 29 => ("HeaderSqueezeModel", "counts", "[I", false)
  | 30 => ("HeaderSqueezeModel", "head", "[I", false)
  | 31 => ("HeaderSqueezeModel", "length", "I", false)
  | _ => ("HeaderSqueezeModel", "packet", "[I", false)
def tyX7 : Nat → FieldType := fun k => match k with
  | 0 => .int
  | 1 => .int
  | 2 => .int
  | 3 => .boolean
  | 4 => .array .int
  | 5 => .array .boolean
  | 6 => .array .int
  | 7 => .array .int
  | 8 => .array .int
  | 9 => .array .int
  | 10 => .array .int
  | 11 => .array .int
  | 12 => .array .int
  | 13 => .array .int
  | 14 => .array .int
  | 15 => .array .int
  | 16 => .int
  | 17 => .array .int
  | 18 => .array .int
  | 19 => .array .int
  | 20 => .array .int
  | 21 => .array .int
  | 22 => .array .int
  | 23 => .array .int
  | 24 => .array .int
  | 25 => .array .int
  | 26 => .array .int
  | 27 => .array .int
  | 28 => .array .int
  | 29 => .array .int
  | 30 => .array .int
  | 31 => .int
  | _ => .array .int
abbrev wsX70 : List Cond := u_ws RX7 TX7 33
theorem nmX7 : ∀ a, a < 33 → ∀ b, b < 33 → a ≠ b → (TX7 a).2.1 ≠ (TX7 b).2.1 := by decide +kernel
theorem tyX7_ok : ∀ k, k < 33 → parseFieldDescriptor (TX7 k).2.2.1 = some (tyX7 k) := by decide +kernel
abbrev cX7_init : ByteArray := prog_9_method_1_code
def yX7_init : MethodName := ⟨RX7, "<init>", "()V"⟩
abbrev cX7_thrown : ByteArray := prog_9_method_2_code
def yX7_thrown : MethodName := ⟨RX7, "thrown", "()I"⟩
abbrev cX7_fill : ByteArray := prog_9_method_3_code
def yX7_fill : MethodName := ⟨RX7, "fill", "(IIZIII)V"⟩
abbrev cX7_sum : ByteArray := prog_9_method_4_code
def yX7_sum : MethodName := ⟨RX7, "sum", "(II)I"⟩
abbrev cX7_bitsOf : ByteArray := prog_9_method_5_code
def yX7_bitsOf : MethodName := ⟨RX7, "bitsOf", "(I)I"⟩
abbrev cX7_backOf : ByteArray := prog_9_method_6_code
def yX7_backOf : MethodName := ⟨RX7, "backOf", "(I)I"⟩
abbrev cX7_noFlow : ByteArray := prog_9_method_7_code
def yX7_noFlow : MethodName := ⟨RX7, "noFlow", "(I)Z"⟩
abbrev cX7_outside : ByteArray := prog_9_method_8_code
def yX7_outside : MethodName := ⟨RX7, "outside", "(I)Z"⟩
abbrev cX7_stride : ByteArray := prog_9_method_9_code
def yX7_stride : MethodName := ⟨RX7, "stride", "(II)V"⟩
abbrev cX7_head : ByteArray := prog_9_method_10_code
def yX7_head : MethodName := ⟨RX7, "head", "(IIZ)V"⟩
abbrev cX7_enough : ByteArray := prog_9_method_11_code
def yX7_enough : MethodName := ⟨RX7, "enough", "(III)Z"⟩
abbrev cX7_put : ByteArray := prog_9_method_12_code
def yX7_put : MethodName := ⟨RX7, "put", "(I)V"⟩
abbrev cX7_putRest : ByteArray := prog_9_method_13_code
def yX7_putRest : MethodName := ⟨RX7, "putRest", "(I)V"⟩
abbrev cX7_write : ByteArray := prog_9_method_14_code
def yX7_write : MethodName := ⟨RX7, "write", "(III)V"⟩
abbrev cX7_choose : ByteArray := prog_9_method_15_code
def yX7_choose : MethodName := ⟨RX7, "choose", "(II)I"⟩
abbrev cX7_note : ByteArray := prog_9_method_16_code
def yX7_note : MethodName := ⟨RX7, "note", "(II)V"⟩
abbrev cX7_send : ByteArray := prog_9_method_17_code
def yX7_send : MethodName := ⟨RX7, "send", "(IIII)I"⟩
abbrev cX7_noPacket : ByteArray := prog_9_method_18_code
def yX7_noPacket : MethodName := ⟨RX7, "noPacket", "(I)Z"⟩
abbrev cX7_noByte : ByteArray := prog_9_method_19_code
def yX7_noByte : MethodName := ⟨RX7, "noByte", "(II)Z"⟩
abbrev cX7_line : ByteArray := prog_9_method_20_code
def yX7_line : MethodName := ⟨RX7, "line", "()I"⟩
abbrev cX7_size : ByteArray := prog_9_method_21_code
def yX7_size : MethodName := ⟨RX7, "size", "(I)I"⟩
abbrev cX7_byteAt : ByteArray := prog_9_method_22_code
def yX7_byteAt : MethodName := ⟨RX7, "byteAt", "(II)I"⟩
abbrev cX7_spoil : ByteArray := prog_9_method_23_code
def yX7_spoil : MethodName := ⟨RX7, "spoil", "(III)V"⟩
abbrev cX7_off : ByteArray := prog_9_method_24_code
def yX7_off : MethodName := ⟨RX7, "off", "(I)V"⟩
abbrev cX7_lose : ByteArray := prog_9_method_25_code
def yX7_lose : MethodName := ⟨RX7, "lose", "(I)V"⟩
abbrev cX7_kindOf : ByteArray := prog_9_method_26_code
def yX7_kindOf : MethodName := ⟨RX7, "kindOf", "(I)I"⟩
abbrev cX7_sizeOf : ByteArray := prog_9_method_27_code
def yX7_sizeOf : MethodName := ⟨RX7, "sizeOf", "(I)I"⟩
abbrev cX7_broken : ByteArray := prog_9_method_28_code
def yX7_broken : MethodName := ⟨RX7, "broken", "(II)Z"⟩
abbrev cX7_two : ByteArray := prog_9_method_29_code
def yX7_two : MethodName := ⟨RX7, "two", "(I)I"⟩
abbrev cX7_near : ByteArray := prog_9_method_30_code
def yX7_near : MethodName := ⟨RX7, "near", "(III)I"⟩
abbrev cX7_fits : ByteArray := prog_9_method_31_code
def yX7_fits : MethodName := ⟨RX7, "fits", "(IIIZI)Z"⟩
abbrev cX7_keep : ByteArray := prog_9_method_32_code
def yX7_keep : MethodName := ⟨RX7, "keep", "(II)V"⟩
abbrev cX7_fail : ByteArray := prog_9_method_33_code
def yX7_fail : MethodName := ⟨RX7, "fail", "(I)V"⟩
abbrev cX7_comeSmall : ByteArray := prog_9_method_34_code
def yX7_comeSmall : MethodName := ⟨RX7, "comeSmall", "(III)I"⟩
abbrev cX7_comeWhole : ByteArray := prog_9_method_35_code
def yX7_comeWhole : MethodName := ⟨RX7, "comeWhole", "(III)Z"⟩
abbrev cX7_deliver : ByteArray := prog_9_method_36_code
def yX7_deliver : MethodName := ⟨RX7, "deliver", "(I)I"⟩
abbrev cX7_made : ByteArray := prog_9_method_37_code
def yX7_made : MethodName := ⟨RX7, "made", "(I)I"⟩
abbrev cX7_sender : ByteArray := prog_9_method_38_code
def yX7_sender : MethodName := ⟨RX7, "sender", "(II)I"⟩
abbrev cX7_receiver : ByteArray := prog_9_method_39_code
def yX7_receiver : MethodName := ⟨RX7, "receiver", "(II)I"⟩
abbrev cX7_count : ByteArray := prog_9_method_40_code
def yX7_count : MethodName := ⟨RX7, "count", "(I)I"⟩
def RJx00060 : String := "java/lang/ArrayIndexOutOfBoundsException"
def TJx00060 : u_T := fun k => match k with
  | 0 => ("java/lang/Throwable", "backtrace", "Ljava/lang/Object;", false)
  | 1 => ("java/lang/Throwable", "detailMessage", "Ljava/lang/String;", false)
  | 2 => ("java/lang/Throwable", "cause", "Ljava/lang/Throwable;", false)
  | 3 => ("java/lang/Throwable", "stackTrace", "[Ljava/lang/StackTraceElement;", false)
  | 4 => ("java/lang/Throwable", "depth", "I", false)
  | _ => ("java/lang/Throwable", "suppressedExceptions", "Ljava/util/List;", false)
def tyJx00060 : Nat → FieldType := fun k => match k with
  | 0 => .object "java/lang/Object"
  | 1 => .object "java/lang/String"
  | 2 => .object "java/lang/Throwable"
  | 3 => .array (.object "java/lang/StackTraceElement")
  | 4 => .int
  | _ => .object "java/util/List"
abbrev wsJx000600 : List Cond := u_ws RJx00060 TJx00060 6
theorem nmJx00060 : ∀ a, a < 6 → ∀ b, b < 6 → a ≠ b → (TJx00060 a).2.1 ≠ (TJx00060 b).2.1 := by decide +kernel
theorem tyJx00060_ok : ∀ k, k < 6 → parseFieldDescriptor (TJx00060 k).2.2.1 = some (tyJx00060 k) := by decide +kernel
abbrev cJx00060_init_a7421 : ByteArray := prog_11_method_2_code
def yJx00060_init_a7421 : MethodName := ⟨RJx00060, "<init>", "(Ljava/lang/String;)V"⟩
def RJ9 : String := "java/lang/Math"
def TJ9 : u_T := fun k => match k with
  | _ => ("", "", "", false)
def tyJ9 : Nat → FieldType := fun k => match k with
  | _ => .int
abbrev wsJ90 : List Cond := u_ws RJ9 TJ9 0
theorem nmJ9 : ∀ a, a < 0 → ∀ b, b < 0 → a ≠ b → (TJ9 a).2.1 ≠ (TJ9 b).2.1 := by decide +kernel
theorem tyJ9_ok : ∀ k, k < 0 → parseFieldDescriptor (TJ9 k).2.2.1 = some (tyJ9 k) := by decide +kernel
abbrev cJ9_max_7cf53 : ByteArray := prog_16_method_65_code
def yJ9_max_7cf53 : MethodName := ⟨RJ9, "max", "(II)I"⟩
abbrev cJ9_min_7cf53 : ByteArray := prog_16_method_69_code
def yJ9_min_7cf53 : MethodName := ⟨RJ9, "min", "(II)I"⟩
def RJ0 : String := "java/lang/String"
def TJ0 : u_T := fun k => match k with
  | 0 => ("java/lang/String", "value", "[B", true)
  | _ => ("java/lang/String", "coder", "B", true)
def tyJ0 : Nat → FieldType := fun k => match k with
  | 0 => .array .byte
  | _ => .byte
abbrev wsJ00 : List Cond := u_ws RJ0 TJ0 2
theorem nmJ0 : ∀ a, a < 2 → ∀ b, b < 2 → a ≠ b → (TJ0 a).2.1 ≠ (TJ0 b).2.1 := by decide +kernel
theorem tyJ0_ok : ∀ k, k < 2 → parseFieldDescriptor (TJ0 k).2.2.1 = some (tyJ0 k) := by decide +kernel
def RL : String := "HeaderSqueezeLaw"
abbrev cL_stride : ByteArray := method_3_code
def yL_stride : MethodName := ⟨RL, "stride", "(LHeaderSqueeze;II)I"⟩
abbrev cL_head : ByteArray := method_4_code
def yL_head : MethodName := ⟨RL, "head", "(LHeaderSqueeze;IIZ)I"⟩
abbrev cL_send : ByteArray := method_5_code
def yL_send : MethodName := ⟨RL, "send", "(LHeaderSqueeze;IIII[J)I"⟩
abbrev cL_size : ByteArray := method_6_code
def yL_size : MethodName := ⟨RL, "size", "(LHeaderSqueeze;I[J)I"⟩
abbrev cL_byteAt : ByteArray := method_7_code
def yL_byteAt : MethodName := ⟨RL, "byteAt", "(LHeaderSqueeze;II[J)I"⟩
abbrev cL_spoil : ByteArray := method_8_code
def yL_spoil : MethodName := ⟨RL, "spoil", "(LHeaderSqueeze;III)I"⟩
abbrev cL_lose : ByteArray := method_9_code
def yL_lose : MethodName := ⟨RL, "lose", "(LHeaderSqueeze;I)I"⟩
abbrev cL_deliver : ByteArray := method_10_code
def yL_deliver : MethodName := ⟨RL, "deliver", "(LHeaderSqueeze;I[J)I"⟩
abbrev cL_made : ByteArray := method_11_code
def yL_made : MethodName := ⟨RL, "made", "(LHeaderSqueeze;I[J)I"⟩
abbrev cL_sender : ByteArray := method_12_code
def yL_sender : MethodName := ⟨RL, "sender", "(LHeaderSqueeze;II[J)I"⟩
abbrev cL_receiver : ByteArray := method_13_code
def yL_receiver : MethodName := ⟨RL, "receiver", "(LHeaderSqueeze;II[J)I"⟩
abbrev cL_count : ByteArray := method_14_code
def yL_count : MethodName := ⟨RL, "count", "(LHeaderSqueeze;I[J)I"⟩
abbrev cL_law : ByteArray := code
def yL_law : MethodName := ⟨RL, "law", "([I)Z"⟩
def wsJx00060_init_a7421 : List Cond := .code yJx00060_init_a7421 cJx00060_init_a7421 2 none :: ([])
def wsJ9_max_7cf53 : List Cond := .code yJ9_max_7cf53 cJ9_max_7cf53 2 (some .int) :: ([])
def wsJ9_min_7cf53 : List Cond := .code yJ9_min_7cf53 cJ9_min_7cf53 2 (some .int) :: ([])
abbrev vwCl : List vw_C := [(RJ0, TJ0, 2), (RJx00060, TJx00060, 6), (RX0, TX0, 5), (RX1, TX1, 6), (RX2, TX2, 2), (RX3, TX3, 5), (RX4, TX4, 5), (RX5, TX5, 8), (RX6, TX6, 7), (RX7, TX7, 33)]
theorem inX0 : ∀ w ∈ wsX00, w ∈ lw_tbl := by decide +kernel
theorem inX1 : ∀ w ∈ wsX10, w ∈ lw_tbl := by decide +kernel
theorem inX2 : ∀ w ∈ wsX20, w ∈ lw_tbl := by decide +kernel
theorem inX3 : ∀ w ∈ wsX30, w ∈ lw_tbl := by decide +kernel
theorem inX4 : ∀ w ∈ wsX40, w ∈ lw_tbl := by decide +kernel
theorem inX5 : ∀ w ∈ wsX50, w ∈ lw_tbl := by decide +kernel
theorem inX6 : ∀ w ∈ wsX60, w ∈ lw_tbl := by decide +kernel
theorem inX7 : ∀ w ∈ wsX70, w ∈ lw_tbl := by decide +kernel
end
section
theorem dX0_init_0 : decode cX0_init 0 = .ok (.aload_n 0, 1) := by decide +kernel
theorem dX0_init_1 : decode cX0_init 1 = .ok (.invokespecial 3, 3) := by decide +kernel
theorem dX0_init_4 : decode cX0_init 4 = .ok (.return_, 1) := by decide +kernel
theorem dX0_isOf_0 : decode cX0_isOf 0 = .ok (.aload_n 0, 1) := by decide +kernel
theorem dX0_isOf_1 : decode cX0_isOf 1 = .ok (.getfield 9, 3) := by decide +kernel
theorem dX0_isOf_4 : decode cX0_isOf 4 = .ok (.aload_n 1, 1) := by decide +kernel
theorem dX0_isOf_5 : decode cX0_isOf 5 = .ok (.getfield 15, 3) := by decide +kernel
theorem dX0_isOf_8 : decode cX0_isOf 8 = .ok (.if_icmp .ne 18, 3) := by decide +kernel
theorem dX0_isOf_11 : decode cX0_isOf 11 = .ok (.aload_n 0, 1) := by decide +kernel
theorem dX0_isOf_12 : decode cX0_isOf 12 = .ok (.getfield 18, 3) := by decide +kernel
theorem dX0_isOf_15 : decode cX0_isOf 15 = .ok (.aload_n 1, 1) := by decide +kernel
theorem dX0_isOf_16 : decode cX0_isOf 16 = .ok (.getfield 21, 3) := by decide +kernel
theorem dX0_isOf_19 : decode cX0_isOf 19 = .ok (.if_icmp .ne 7, 3) := by decide +kernel
theorem dX0_isOf_22 : decode cX0_isOf 22 = .ok (.iconst 1, 1) := by decide +kernel
theorem dX0_isOf_23 : decode cX0_isOf 23 = .ok (.goto 4, 3) := by decide +kernel
theorem dX0_isOf_26 : decode cX0_isOf 26 = .ok (.iconst 0, 1) := by decide +kernel
theorem dX0_isOf_27 : decode cX0_isOf 27 = .ok (.ireturn, 1) := by decide +kernel
theorem dX0_goesAlong_0 : decode cX0_goesAlong 0 = .ok (.aload_n 0, 1) := by decide +kernel
theorem dX0_goesAlong_1 : decode cX0_goesAlong 1 = .ok (.aload_n 1, 1) := by decide +kernel
theorem dX0_goesAlong_2 : decode cX0_goesAlong 2 = .ok (.invokevirtual 22, 3) := by decide +kernel
theorem dX0_goesAlong_5 : decode cX0_goesAlong 5 = .ok (.ifCond .eq 33, 3) := by decide +kernel
theorem dX0_goesAlong_8 : decode cX0_goesAlong 8 = .ok (.aload_n 0, 1) := by decide +kernel
theorem dX0_goesAlong_9 : decode cX0_goesAlong 9 = .ok (.getfield 26, 3) := by decide +kernel
theorem dX0_goesAlong_12 : decode cX0_goesAlong 12 = .ok (.aload_n 1, 1) := by decide +kernel
theorem dX0_goesAlong_13 : decode cX0_goesAlong 13 = .ok (.aload_n 0, 1) := by decide +kernel
theorem dX0_goesAlong_14 : decode cX0_goesAlong 14 = .ok (.getfield 29, 3) := by decide +kernel
theorem dX0_goesAlong_17 : decode cX0_goesAlong 17 = .ok (.invokestatic 32, 3) := by decide +kernel
theorem dX0_goesAlong_20 : decode cX0_goesAlong 20 = .ok (.if_icmp .ne 18, 3) := by decide +kernel
theorem dX0_goesAlong_23 : decode cX0_goesAlong 23 = .ok (.aload_n 0, 1) := by decide +kernel
theorem dX0_goesAlong_24 : decode cX0_goesAlong 24 = .ok (.getfield 36, 3) := by decide +kernel
theorem dX0_goesAlong_27 : decode cX0_goesAlong 27 = .ok (.aload_n 1, 1) := by decide +kernel
theorem dX0_goesAlong_28 : decode cX0_goesAlong 28 = .ok (.invokestatic 39, 3) := by decide +kernel
theorem dX0_goesAlong_31 : decode cX0_goesAlong 31 = .ok (.if_icmp .ne 7, 3) := by decide +kernel
theorem dX0_goesAlong_34 : decode cX0_goesAlong 34 = .ok (.iconst 1, 1) := by decide +kernel
theorem dX0_goesAlong_35 : decode cX0_goesAlong 35 = .ok (.goto 4, 3) := by decide +kernel
theorem dX0_goesAlong_38 : decode cX0_goesAlong 38 = .ok (.iconst 0, 1) := by decide +kernel
theorem dX0_goesAlong_39 : decode cX0_goesAlong 39 = .ok (.ireturn, 1) := by decide +kernel
theorem dX0_follow_0 : decode cX0_follow 0 = .ok (.aload_n 0, 1) := by decide +kernel
theorem dX0_follow_1 : decode cX0_follow 1 = .ok (.aload_n 1, 1) := by decide +kernel
theorem dX0_follow_2 : decode cX0_follow 2 = .ok (.getfield 15, 3) := by decide +kernel
theorem dX0_follow_5 : decode cX0_follow 5 = .ok (.putfield 9, 3) := by decide +kernel
theorem dX0_follow_8 : decode cX0_follow 8 = .ok (.aload_n 0, 1) := by decide +kernel
theorem dX0_follow_9 : decode cX0_follow 9 = .ok (.aload_n 1, 1) := by decide +kernel
theorem dX0_follow_10 : decode cX0_follow 10 = .ok (.getfield 21, 3) := by decide +kernel
theorem dX0_follow_13 : decode cX0_follow 13 = .ok (.putfield 18, 3) := by decide +kernel
theorem dX0_follow_16 : decode cX0_follow 16 = .ok (.aload_n 0, 1) := by decide +kernel
theorem dX0_follow_17 : decode cX0_follow 17 = .ok (.iload_n 2, 1) := by decide +kernel
theorem dX0_follow_18 : decode cX0_follow 18 = .ok (.putfield 29, 3) := by decide +kernel
theorem dX0_follow_21 : decode cX0_follow 21 = .ok (.aload_n 0, 1) := by decide +kernel
theorem dX0_follow_22 : decode cX0_follow 22 = .ok (.aload_n 1, 1) := by decide +kernel
theorem dX0_follow_23 : decode cX0_follow 23 = .ok (.iload_n 2, 1) := by decide +kernel
theorem dX0_follow_24 : decode cX0_follow 24 = .ok (.invokestatic 32, 3) := by decide +kernel
theorem dX0_follow_27 : decode cX0_follow 27 = .ok (.putfield 26, 3) := by decide +kernel
theorem dX0_follow_30 : decode cX0_follow 30 = .ok (.aload_n 0, 1) := by decide +kernel
theorem dX0_follow_31 : decode cX0_follow 31 = .ok (.aload_n 1, 1) := by decide +kernel
theorem dX0_follow_32 : decode cX0_follow 32 = .ok (.invokestatic 39, 3) := by decide +kernel
theorem dX0_follow_35 : decode cX0_follow 35 = .ok (.putfield 36, 3) := by decide +kernel
theorem dX0_follow_38 : decode cX0_follow 38 = .ok (.return_, 1) := by decide +kernel
theorem dX0_complete_0 : decode cX0_complete 0 = .ok (.aload_n 1, 1) := by decide +kernel
theorem dX0_complete_1 : decode cX0_complete 1 = .ok (.aload_n 0, 1) := by decide +kernel
theorem dX0_complete_2 : decode cX0_complete 2 = .ok (.getfield 9, 3) := by decide +kernel
theorem dX0_complete_5 : decode cX0_complete 5 = .ok (.putfield 15, 3) := by decide +kernel
theorem dX0_complete_8 : decode cX0_complete 8 = .ok (.aload_n 1, 1) := by decide +kernel
theorem dX0_complete_9 : decode cX0_complete 9 = .ok (.aload_n 0, 1) := by decide +kernel
theorem dX0_complete_10 : decode cX0_complete 10 = .ok (.getfield 18, 3) := by decide +kernel
theorem dX0_complete_13 : decode cX0_complete 13 = .ok (.putfield 21, 3) := by decide +kernel
theorem dX0_complete_16 : decode cX0_complete 16 = .ok (.aload_n 1, 1) := by decide +kernel
theorem dX0_complete_17 : decode cX0_complete 17 = .ok (.iload_n 2, 1) := by decide +kernel
theorem dX0_complete_18 : decode cX0_complete 18 = .ok (.putfield 43, 3) := by decide +kernel
theorem dX0_complete_21 : decode cX0_complete 21 = .ok (.aload_n 1, 1) := by decide +kernel
theorem dX0_complete_22 : decode cX0_complete 22 = .ok (.aload_n 0, 1) := by decide +kernel
theorem dX0_complete_23 : decode cX0_complete 23 = .ok (.getfield 26, 3) := by decide +kernel
theorem dX0_complete_26 : decode cX0_complete 26 = .ok (.iload_n 2, 1) := by decide +kernel
theorem dX0_complete_27 : decode cX0_complete 27 = .ok (.aload_n 0, 1) := by decide +kernel
theorem dX0_complete_28 : decode cX0_complete 28 = .ok (.getfield 29, 3) := by decide +kernel
theorem dX0_complete_31 : decode cX0_complete 31 = .ok (.imul, 1) := by decide +kernel
theorem dX0_complete_32 : decode cX0_complete 32 = .ok (.iadd, 1) := by decide +kernel
theorem dX0_complete_33 : decode cX0_complete 33 = .ok (.putfield 46, 3) := by decide +kernel
theorem dX0_complete_36 : decode cX0_complete 36 = .ok (.aload_n 1, 1) := by decide +kernel
theorem dX0_complete_37 : decode cX0_complete 37 = .ok (.aload_n 0, 1) := by decide +kernel
theorem dX0_complete_38 : decode cX0_complete 38 = .ok (.getfield 36, 3) := by decide +kernel
theorem dX0_complete_41 : decode cX0_complete 41 = .ok (.iload_n 2, 1) := by decide +kernel
theorem dX0_complete_42 : decode cX0_complete 42 = .ok (.iadd, 1) := by decide +kernel
theorem dX0_complete_43 : decode cX0_complete 43 = .ok (.ldc 49, 2) := by decide +kernel
theorem dX0_complete_45 : decode cX0_complete 45 = .ok (.iand, 1) := by decide +kernel
theorem dX0_complete_46 : decode cX0_complete 46 = .ok (.putfield 50, 3) := by decide +kernel
theorem dX0_complete_49 : decode cX0_complete 49 = .ok (.return_, 1) := by decide +kernel
theorem dX0_phaseOf_0 : decode cX0_phaseOf 0 = .ok (.aload_n 0, 1) := by decide +kernel
theorem dX0_phaseOf_1 : decode cX0_phaseOf 1 = .ok (.getfield 46, 3) := by decide +kernel
theorem dX0_phaseOf_4 : decode cX0_phaseOf 4 = .ok (.aload_n 0, 1) := by decide +kernel
theorem dX0_phaseOf_5 : decode cX0_phaseOf 5 = .ok (.getfield 43, 3) := by decide +kernel
theorem dX0_phaseOf_8 : decode cX0_phaseOf 8 = .ok (.iload_n 1, 1) := by decide +kernel
theorem dX0_phaseOf_9 : decode cX0_phaseOf 9 = .ok (.imul, 1) := by decide +kernel
theorem dX0_phaseOf_10 : decode cX0_phaseOf 10 = .ok (.isub, 1) := by decide +kernel
theorem dX0_phaseOf_11 : decode cX0_phaseOf 11 = .ok (.ireturn, 1) := by decide +kernel
theorem dX0_offsetOf_0 : decode cX0_offsetOf 0 = .ok (.aload_n 0, 1) := by decide +kernel
theorem dX0_offsetOf_1 : decode cX0_offsetOf 1 = .ok (.getfield 50, 3) := by decide +kernel
theorem dX0_offsetOf_4 : decode cX0_offsetOf 4 = .ok (.aload_n 0, 1) := by decide +kernel
theorem dX0_offsetOf_5 : decode cX0_offsetOf 5 = .ok (.getfield 43, 3) := by decide +kernel
theorem dX0_offsetOf_8 : decode cX0_offsetOf 8 = .ok (.isub, 1) := by decide +kernel
theorem dX0_offsetOf_9 : decode cX0_offsetOf 9 = .ok (.ldc 49, 2) := by decide +kernel
theorem dX0_offsetOf_11 : decode cX0_offsetOf 11 = .ok (.iand, 1) := by decide +kernel
theorem dX0_offsetOf_12 : decode cX0_offsetOf 12 = .ok (.ireturn, 1) := by decide +kernel
theorem dX1_init_0 : decode cX1_init 0 = .ok (.aload_n 0, 1) := by decide +kernel
theorem dX1_init_1 : decode cX1_init 1 = .ok (.invokespecial 3, 3) := by decide +kernel
theorem dX1_init_4 : decode cX1_init 4 = .ok (.return_, 1) := by decide +kernel
theorem dX1_part_0 : decode cX1_part 0 = .ok (.iload_n 1, 1) := by decide +kernel
theorem dX1_part_1 : decode cX1_part 1 = .ok (.tableswitch 148 0 9 #[55, 63, 72, 82, 90, 99, 107, 119, 131, 140], 55) := by decide +kernel
theorem dX1_part_56 : decode cX1_part 56 = .ok (.aload_n 0, 1) := by decide +kernel
theorem dX1_part_57 : decode cX1_part 57 = .ok (.getfield 9, 3) := by decide +kernel
theorem dX1_part_60 : decode cX1_part 60 = .ok (.bipush 8, 2) := by decide +kernel
theorem dX1_part_62 : decode cX1_part 62 = .ok (.iushr, 1) := by decide +kernel
theorem dX1_part_63 : decode cX1_part 63 = .ok (.ireturn, 1) := by decide +kernel
theorem dX1_part_64 : decode cX1_part 64 = .ok (.aload_n 0, 1) := by decide +kernel
theorem dX1_part_65 : decode cX1_part 65 = .ok (.getfield 9, 3) := by decide +kernel
theorem dX1_part_68 : decode cX1_part 68 = .ok (.sipush 255, 3) := by decide +kernel
theorem dX1_part_71 : decode cX1_part 71 = .ok (.iand, 1) := by decide +kernel
theorem dX1_part_72 : decode cX1_part 72 = .ok (.ireturn, 1) := by decide +kernel
theorem dX1_part_73 : decode cX1_part 73 = .ok (.aload_n 0, 1) := by decide +kernel
theorem dX1_part_74 : decode cX1_part 74 = .ok (.getfield 15, 3) := by decide +kernel
theorem dX1_part_77 : decode cX1_part 77 = .ok (.aload_n 0, 1) := by decide +kernel
theorem dX1_part_78 : decode cX1_part 78 = .ok (.invokevirtual 18, 3) := by decide +kernel
theorem dX1_part_81 : decode cX1_part 81 = .ok (.iadd, 1) := by decide +kernel
theorem dX1_part_82 : decode cX1_part 82 = .ok (.ireturn, 1) := by decide +kernel
theorem dX1_part_83 : decode cX1_part 83 = .ok (.aload_n 0, 1) := by decide +kernel
theorem dX1_part_84 : decode cX1_part 84 = .ok (.getfield 22, 3) := by decide +kernel
theorem dX1_part_87 : decode cX1_part 87 = .ok (.bipush 8, 2) := by decide +kernel
theorem dX1_part_89 : decode cX1_part 89 = .ok (.iushr, 1) := by decide +kernel
theorem dX1_part_90 : decode cX1_part 90 = .ok (.ireturn, 1) := by decide +kernel
theorem dX1_part_91 : decode cX1_part 91 = .ok (.aload_n 0, 1) := by decide +kernel
theorem dX1_part_92 : decode cX1_part 92 = .ok (.getfield 22, 3) := by decide +kernel
theorem dX1_part_95 : decode cX1_part 95 = .ok (.sipush 255, 3) := by decide +kernel
theorem dX1_part_98 : decode cX1_part 98 = .ok (.iand, 1) := by decide +kernel
theorem dX1_part_99 : decode cX1_part 99 = .ok (.ireturn, 1) := by decide +kernel
theorem dX1_part_100 : decode cX1_part 100 = .ok (.aload_n 0, 1) := by decide +kernel
theorem dX1_part_101 : decode cX1_part 101 = .ok (.getfield 25, 3) := by decide +kernel
theorem dX1_part_104 : decode cX1_part 104 = .ok (.bipush 24, 2) := by decide +kernel
theorem dX1_part_106 : decode cX1_part 106 = .ok (.iushr, 1) := by decide +kernel
theorem dX1_part_107 : decode cX1_part 107 = .ok (.ireturn, 1) := by decide +kernel
theorem dX1_part_108 : decode cX1_part 108 = .ok (.aload_n 0, 1) := by decide +kernel
theorem dX1_part_109 : decode cX1_part 109 = .ok (.getfield 25, 3) := by decide +kernel
theorem dX1_part_112 : decode cX1_part 112 = .ok (.bipush 16, 2) := by decide +kernel
theorem dX1_part_114 : decode cX1_part 114 = .ok (.iushr, 1) := by decide +kernel
theorem dX1_part_115 : decode cX1_part 115 = .ok (.sipush 255, 3) := by decide +kernel
theorem dX1_part_118 : decode cX1_part 118 = .ok (.iand, 1) := by decide +kernel
theorem dX1_part_119 : decode cX1_part 119 = .ok (.ireturn, 1) := by decide +kernel
theorem dX1_part_120 : decode cX1_part 120 = .ok (.aload_n 0, 1) := by decide +kernel
theorem dX1_part_121 : decode cX1_part 121 = .ok (.getfield 25, 3) := by decide +kernel
theorem dX1_part_124 : decode cX1_part 124 = .ok (.bipush 8, 2) := by decide +kernel
theorem dX1_part_126 : decode cX1_part 126 = .ok (.iushr, 1) := by decide +kernel
theorem dX1_part_127 : decode cX1_part 127 = .ok (.sipush 255, 3) := by decide +kernel
theorem dX1_part_130 : decode cX1_part 130 = .ok (.iand, 1) := by decide +kernel
theorem dX1_part_131 : decode cX1_part 131 = .ok (.ireturn, 1) := by decide +kernel
theorem dX1_part_132 : decode cX1_part 132 = .ok (.aload_n 0, 1) := by decide +kernel
theorem dX1_part_133 : decode cX1_part 133 = .ok (.getfield 25, 3) := by decide +kernel
theorem dX1_part_136 : decode cX1_part 136 = .ok (.sipush 255, 3) := by decide +kernel
theorem dX1_part_139 : decode cX1_part 139 = .ok (.iand, 1) := by decide +kernel
theorem dX1_part_140 : decode cX1_part 140 = .ok (.ireturn, 1) := by decide +kernel
theorem dX1_part_141 : decode cX1_part 141 = .ok (.aload_n 0, 1) := by decide +kernel
theorem dX1_part_142 : decode cX1_part 142 = .ok (.getfield 28, 3) := by decide +kernel
theorem dX1_part_145 : decode cX1_part 145 = .ok (.bipush 8, 2) := by decide +kernel
theorem dX1_part_147 : decode cX1_part 147 = .ok (.iushr, 1) := by decide +kernel
theorem dX1_part_148 : decode cX1_part 148 = .ok (.ireturn, 1) := by decide +kernel
theorem dX1_part_149 : decode cX1_part 149 = .ok (.aload_n 0, 1) := by decide +kernel
theorem dX1_part_150 : decode cX1_part 150 = .ok (.getfield 28, 3) := by decide +kernel
theorem dX1_part_153 : decode cX1_part 153 = .ok (.sipush 255, 3) := by decide +kernel
theorem dX1_part_156 : decode cX1_part 156 = .ok (.iand, 1) := by decide +kernel
theorem dX1_part_157 : decode cX1_part 157 = .ok (.ireturn, 1) := by decide +kernel
theorem dX1_markBit_0 : decode cX1_markBit 0 = .ok (.aload_n 0, 1) := by decide +kernel
theorem dX1_markBit_1 : decode cX1_markBit 1 = .ok (.getfield 31, 3) := by decide +kernel
theorem dX1_markBit_4 : decode cX1_markBit 4 = .ok (.ifCond .eq 9, 3) := by decide +kernel
theorem dX1_markBit_7 : decode cX1_markBit 7 = .ok (.sipush 128, 3) := by decide +kernel
theorem dX1_markBit_10 : decode cX1_markBit 10 = .ok (.goto 4, 3) := by decide +kernel
theorem dX1_markBit_13 : decode cX1_markBit 13 = .ok (.iconst 0, 1) := by decide +kernel
theorem dX1_markBit_14 : decode cX1_markBit 14 = .ok (.ireturn, 1) := by decide +kernel
theorem dX1_sumFor_0 : decode cX1_sumFor 0 = .ok (.getstatic 35, 3) := by decide +kernel
theorem dX1_sumFor_3 : decode cX1_sumFor 3 = .ok (.iload_n 1, 1) := by decide +kernel
theorem dX1_sumFor_4 : decode cX1_sumFor 4 = .ok (.iaload, 1) := by decide +kernel
theorem dX1_sumFor_5 : decode cX1_sumFor 5 = .ok (.istore_n 3, 1) := by decide +kernel
theorem dX1_sumFor_6 : decode cX1_sumFor 6 = .ok (.getstatic 39, 3) := by decide +kernel
theorem dX1_sumFor_9 : decode cX1_sumFor 9 = .ok (.iload_n 1, 1) := by decide +kernel
theorem dX1_sumFor_10 : decode cX1_sumFor 10 = .ok (.iaload, 1) := by decide +kernel
theorem dX1_sumFor_11 : decode cX1_sumFor 11 = .ok (.istore 4, 2) := by decide +kernel
theorem dX1_sumFor_13 : decode cX1_sumFor 13 = .ok (.iconst 0, 1) := by decide +kernel
theorem dX1_sumFor_14 : decode cX1_sumFor 14 = .ok (.istore 5, 2) := by decide +kernel
theorem dX1_sumFor_16 : decode cX1_sumFor 16 = .ok (.iload 5, 2) := by decide +kernel
theorem dX1_sumFor_18 : decode cX1_sumFor 18 = .ok (.bipush 11, 2) := by decide +kernel
theorem dX1_sumFor_20 : decode cX1_sumFor 20 = .ok (.if_icmp .ge 22, 3) := by decide +kernel
theorem dX1_sumFor_23 : decode cX1_sumFor 23 = .ok (.iload_n 3, 1) := by decide +kernel
theorem dX1_sumFor_24 : decode cX1_sumFor 24 = .ok (.iload 4, 2) := by decide +kernel
theorem dX1_sumFor_26 : decode cX1_sumFor 26 = .ok (.aload_n 0, 1) := by decide +kernel
theorem dX1_sumFor_27 : decode cX1_sumFor 27 = .ok (.iload 5, 2) := by decide +kernel
theorem dX1_sumFor_29 : decode cX1_sumFor 29 = .ok (.invokevirtual 42, 3) := by decide +kernel
theorem dX1_sumFor_32 : decode cX1_sumFor 32 = .ok (.invokestatic 46, 3) := by decide +kernel
theorem dX1_sumFor_35 : decode cX1_sumFor 35 = .ok (.istore_n 3, 1) := by decide +kernel
theorem dX1_sumFor_36 : decode cX1_sumFor 36 = .ok (.iinc 5 1, 3) := by decide +kernel
theorem dX1_sumFor_39 : decode cX1_sumFor 39 = .ok (.goto (-23), 3) := by decide +kernel
theorem dX1_sumFor_42 : decode cX1_sumFor 42 = .ok (.iload_n 1, 1) := by decide +kernel
theorem dX1_sumFor_43 : decode cX1_sumFor 43 = .ok (.iconst 4, 1) := by decide +kernel
theorem dX1_sumFor_44 : decode cX1_sumFor 44 = .ok (.if_icmp .ne 26, 3) := by decide +kernel
theorem dX1_sumFor_47 : decode cX1_sumFor 47 = .ok (.iload_n 3, 1) := by decide +kernel
theorem dX1_sumFor_48 : decode cX1_sumFor 48 = .ok (.iload 4, 2) := by decide +kernel
theorem dX1_sumFor_50 : decode cX1_sumFor 50 = .ok (.iload_n 2, 1) := by decide +kernel
theorem dX1_sumFor_51 : decode cX1_sumFor 51 = .ok (.bipush 8, 2) := by decide +kernel
theorem dX1_sumFor_53 : decode cX1_sumFor 53 = .ok (.iushr, 1) := by decide +kernel
theorem dX1_sumFor_54 : decode cX1_sumFor 54 = .ok (.invokestatic 46, 3) := by decide +kernel
theorem dX1_sumFor_57 : decode cX1_sumFor 57 = .ok (.istore_n 3, 1) := by decide +kernel
theorem dX1_sumFor_58 : decode cX1_sumFor 58 = .ok (.iload_n 3, 1) := by decide +kernel
theorem dX1_sumFor_59 : decode cX1_sumFor 59 = .ok (.iload 4, 2) := by decide +kernel
theorem dX1_sumFor_61 : decode cX1_sumFor 61 = .ok (.iload_n 2, 1) := by decide +kernel
theorem dX1_sumFor_62 : decode cX1_sumFor 62 = .ok (.sipush 255, 3) := by decide +kernel
theorem dX1_sumFor_65 : decode cX1_sumFor 65 = .ok (.iand, 1) := by decide +kernel
theorem dX1_sumFor_66 : decode cX1_sumFor 66 = .ok (.invokestatic 46, 3) := by decide +kernel
theorem dX1_sumFor_69 : decode cX1_sumFor 69 = .ok (.istore_n 3, 1) := by decide +kernel
theorem dX1_sumFor_70 : decode cX1_sumFor 70 = .ok (.iload_n 3, 1) := by decide +kernel
theorem dX1_sumFor_71 : decode cX1_sumFor 71 = .ok (.ireturn, 1) := by decide +kernel
theorem dX1_sumBehind_0 : decode cX1_sumBehind 0 = .ok (.iload_n 0, 1) := by decide +kernel
theorem dX1_sumBehind_1 : decode cX1_sumBehind 1 = .ok (.istore_n 3, 1) := by decide +kernel
theorem dX1_sumBehind_2 : decode cX1_sumBehind 2 = .ok (.iconst 0, 1) := by decide +kernel
theorem dX1_sumBehind_3 : decode cX1_sumBehind 3 = .ok (.istore 4, 2) := by decide +kernel
theorem dX1_sumBehind_5 : decode cX1_sumBehind 5 = .ok (.iload 4, 2) := by decide +kernel
theorem dX1_sumBehind_7 : decode cX1_sumBehind 7 = .ok (.bipush 8, 2) := by decide +kernel
theorem dX1_sumBehind_9 : decode cX1_sumBehind 9 = .ok (.if_icmp .ge 40, 3) := by decide +kernel
theorem dX1_sumBehind_12 : decode cX1_sumBehind 12 = .ok (.iload_n 3, 1) := by decide +kernel
theorem dX1_sumBehind_13 : decode cX1_sumBehind 13 = .ok (.iload_n 2, 1) := by decide +kernel
theorem dX1_sumBehind_14 : decode cX1_sumBehind 14 = .ok (.iload 4, 2) := by decide +kernel
theorem dX1_sumBehind_16 : decode cX1_sumBehind 16 = .ok (.iushr, 1) := by decide +kernel
theorem dX1_sumBehind_17 : decode cX1_sumBehind 17 = .ok (.ixor, 1) := by decide +kernel
theorem dX1_sumBehind_18 : decode cX1_sumBehind 18 = .ok (.iconst 1, 1) := by decide +kernel
theorem dX1_sumBehind_19 : decode cX1_sumBehind 19 = .ok (.iand, 1) := by decide +kernel
theorem dX1_sumBehind_20 : decode cX1_sumBehind 20 = .ok (.ifCond .eq 7, 3) := by decide +kernel
theorem dX1_sumBehind_23 : decode cX1_sumBehind 23 = .ok (.iconst 1, 1) := by decide +kernel
theorem dX1_sumBehind_24 : decode cX1_sumBehind 24 = .ok (.goto 4, 3) := by decide +kernel
theorem dX1_sumBehind_27 : decode cX1_sumBehind 27 = .ok (.iconst 0, 1) := by decide +kernel
theorem dX1_sumBehind_28 : decode cX1_sumBehind 28 = .ok (.istore 5, 2) := by decide +kernel
theorem dX1_sumBehind_30 : decode cX1_sumBehind 30 = .ok (.iload_n 3, 1) := by decide +kernel
theorem dX1_sumBehind_31 : decode cX1_sumBehind 31 = .ok (.iconst 1, 1) := by decide +kernel
theorem dX1_sumBehind_32 : decode cX1_sumBehind 32 = .ok (.iushr, 1) := by decide +kernel
theorem dX1_sumBehind_33 : decode cX1_sumBehind 33 = .ok (.istore_n 3, 1) := by decide +kernel
theorem dX1_sumBehind_34 : decode cX1_sumBehind 34 = .ok (.iload 5, 2) := by decide +kernel
theorem dX1_sumBehind_36 : decode cX1_sumBehind 36 = .ok (.ifCond .eq 7, 3) := by decide +kernel
theorem dX1_sumBehind_39 : decode cX1_sumBehind 39 = .ok (.iload_n 3, 1) := by decide +kernel
theorem dX1_sumBehind_40 : decode cX1_sumBehind 40 = .ok (.iload_n 1, 1) := by decide +kernel
theorem dX1_sumBehind_41 : decode cX1_sumBehind 41 = .ok (.ixor, 1) := by decide +kernel
theorem dX1_sumBehind_42 : decode cX1_sumBehind 42 = .ok (.istore_n 3, 1) := by decide +kernel
theorem dX1_sumBehind_43 : decode cX1_sumBehind 43 = .ok (.iinc 4 1, 3) := by decide +kernel
theorem dX1_sumBehind_46 : decode cX1_sumBehind 46 = .ok (.goto (-41), 3) := by decide +kernel
theorem dX1_sumBehind_49 : decode cX1_sumBehind 49 = .ok (.iload_n 3, 1) := by decide +kernel
theorem dX1_sumBehind_50 : decode cX1_sumBehind 50 = .ok (.ireturn, 1) := by decide +kernel
theorem dX2_init_0 : decode cX2_init 0 = .ok (.aload_n 0, 1) := by decide +kernel
theorem dX2_init_1 : decode cX2_init 1 = .ok (.invokespecial 3, 3) := by decide +kernel
theorem dX2_init_4 : decode cX2_init 4 = .ok (.aload_n 0, 1) := by decide +kernel
theorem dX2_init_5 : decode cX2_init 5 = .ok (.bipush 9, 2) := by decide +kernel
theorem dX2_init_7 : decode cX2_init 7 = .ok (.anewarray 9, 3) := by decide +kernel
theorem dX2_init_10 : decode cX2_init 10 = .ok (.putfield 11, 3) := by decide +kernel
theorem dX2_init_13 : decode cX2_init 13 = .ok (.iconst 0, 1) := by decide +kernel
theorem dX2_init_14 : decode cX2_init 14 = .ok (.istore_n 1, 1) := by decide +kernel
theorem dX2_init_15 : decode cX2_init 15 = .ok (.iload_n 1, 1) := by decide +kernel
theorem dX2_init_16 : decode cX2_init 16 = .ok (.bipush 8, 2) := by decide +kernel
theorem dX2_init_18 : decode cX2_init 18 = .ok (.if_icmp .gt 22, 3) := by decide +kernel
theorem dX2_init_21 : decode cX2_init 21 = .ok (.aload_n 0, 1) := by decide +kernel
theorem dX2_init_22 : decode cX2_init 22 = .ok (.getfield 11, 3) := by decide +kernel
theorem dX2_init_25 : decode cX2_init 25 = .ok (.iload_n 1, 1) := by decide +kernel
theorem dX2_init_26 : decode cX2_init 26 = .ok (.new 9, 3) := by decide +kernel
theorem dX2_init_29 : decode cX2_init 29 = .ok (.dup, 1) := by decide +kernel
theorem dX2_init_30 : decode cX2_init 30 = .ok (.invokespecial 17, 3) := by decide +kernel
theorem dX2_init_33 : decode cX2_init 33 = .ok (.aastore, 1) := by decide +kernel
theorem dX2_init_34 : decode cX2_init 34 = .ok (.iinc 1 1, 3) := by decide +kernel
theorem dX2_init_37 : decode cX2_init 37 = .ok (.goto (-22), 3) := by decide +kernel
theorem dX2_init_40 : decode cX2_init 40 = .ok (.return_, 1) := by decide +kernel
theorem dX2_rowBehind_0 : decode cX2_rowBehind 0 = .ok (.aload_n 0, 1) := by decide +kernel
theorem dX2_rowBehind_1 : decode cX2_rowBehind 1 = .ok (.getfield 11, 3) := by decide +kernel
theorem dX2_rowBehind_4 : decode cX2_rowBehind 4 = .ok (.aload_n 0, 1) := by decide +kernel
theorem dX2_rowBehind_5 : decode cX2_rowBehind 5 = .ok (.getfield 18, 3) := by decide +kernel
theorem dX2_rowBehind_8 : decode cX2_rowBehind 8 = .ok (.aaload, 1) := by decide +kernel
theorem dX2_rowBehind_9 : decode cX2_rowBehind 9 = .ok (.areturn, 1) := by decide +kernel
theorem dX2_addRowBehind_0 : decode cX2_addRowBehind 0 = .ok (.aload_n 0, 1) := by decide +kernel
theorem dX2_addRowBehind_1 : decode cX2_addRowBehind 1 = .ok (.getfield 18, 3) := by decide +kernel
theorem dX2_addRowBehind_4 : decode cX2_addRowBehind 4 = .ok (.bipush 8, 2) := by decide +kernel
theorem dX2_addRowBehind_6 : decode cX2_addRowBehind 6 = .ok (.if_icmp .ne 5, 3) := by decide +kernel
theorem dX2_addRowBehind_9 : decode cX2_addRowBehind 9 = .ok (.iconst 0, 1) := by decide +kernel
theorem dX2_addRowBehind_10 : decode cX2_addRowBehind 10 = .ok (.ireturn, 1) := by decide +kernel
theorem dX2_addRowBehind_11 : decode cX2_addRowBehind 11 = .ok (.aload_n 0, 1) := by decide +kernel
theorem dX2_addRowBehind_12 : decode cX2_addRowBehind 12 = .ok (.dup, 1) := by decide +kernel
theorem dX2_addRowBehind_13 : decode cX2_addRowBehind 13 = .ok (.getfield 18, 3) := by decide +kernel
theorem dX2_addRowBehind_16 : decode cX2_addRowBehind 16 = .ok (.iconst 1, 1) := by decide +kernel
theorem dX2_addRowBehind_17 : decode cX2_addRowBehind 17 = .ok (.iadd, 1) := by decide +kernel
theorem dX2_addRowBehind_18 : decode cX2_addRowBehind 18 = .ok (.putfield 18, 3) := by decide +kernel
theorem dX2_addRowBehind_21 : decode cX2_addRowBehind 21 = .ok (.iconst 1, 1) := by decide +kernel
theorem dX2_addRowBehind_22 : decode cX2_addRowBehind 22 = .ok (.ireturn, 1) := by decide +kernel
theorem dX2_takeOff_0 : decode cX2_takeOff 0 = .ok (.aload_n 0, 1) := by decide +kernel
theorem dX2_takeOff_1 : decode cX2_takeOff 1 = .ok (.getfield 11, 3) := by decide +kernel
theorem dX2_takeOff_4 : decode cX2_takeOff 4 = .ok (.iload_n 1, 1) := by decide +kernel
theorem dX2_takeOff_5 : decode cX2_takeOff 5 = .ok (.aaload, 1) := by decide +kernel
theorem dX2_takeOff_6 : decode cX2_takeOff 6 = .ok (.astore_n 2, 1) := by decide +kernel
theorem dX2_takeOff_7 : decode cX2_takeOff 7 = .ok (.aload_n 0, 1) := by decide +kernel
theorem dX2_takeOff_8 : decode cX2_takeOff 8 = .ok (.dup, 1) := by decide +kernel
theorem dX2_takeOff_9 : decode cX2_takeOff 9 = .ok (.getfield 18, 3) := by decide +kernel
theorem dX2_takeOff_12 : decode cX2_takeOff 12 = .ok (.iconst 1, 1) := by decide +kernel
theorem dX2_takeOff_13 : decode cX2_takeOff 13 = .ok (.isub, 1) := by decide +kernel
theorem dX2_takeOff_14 : decode cX2_takeOff 14 = .ok (.putfield 18, 3) := by decide +kernel
theorem dX2_takeOff_17 : decode cX2_takeOff 17 = .ok (.iload_n 1, 1) := by decide +kernel
theorem dX2_takeOff_18 : decode cX2_takeOff 18 = .ok (.istore_n 3, 1) := by decide +kernel
theorem dX2_takeOff_19 : decode cX2_takeOff 19 = .ok (.iload_n 3, 1) := by decide +kernel
theorem dX2_takeOff_20 : decode cX2_takeOff 20 = .ok (.aload_n 0, 1) := by decide +kernel
theorem dX2_takeOff_21 : decode cX2_takeOff 21 = .ok (.getfield 18, 3) := by decide +kernel
theorem dX2_takeOff_24 : decode cX2_takeOff 24 = .ok (.if_icmp .ge 23, 3) := by decide +kernel
theorem dX2_takeOff_27 : decode cX2_takeOff 27 = .ok (.aload_n 0, 1) := by decide +kernel
theorem dX2_takeOff_28 : decode cX2_takeOff 28 = .ok (.getfield 11, 3) := by decide +kernel
theorem dX2_takeOff_31 : decode cX2_takeOff 31 = .ok (.iload_n 3, 1) := by decide +kernel
theorem dX2_takeOff_32 : decode cX2_takeOff 32 = .ok (.aload_n 0, 1) := by decide +kernel
theorem dX2_takeOff_33 : decode cX2_takeOff 33 = .ok (.getfield 11, 3) := by decide +kernel
theorem dX2_takeOff_36 : decode cX2_takeOff 36 = .ok (.iload_n 3, 1) := by decide +kernel
theorem dX2_takeOff_37 : decode cX2_takeOff 37 = .ok (.iconst 1, 1) := by decide +kernel
theorem dX2_takeOff_38 : decode cX2_takeOff 38 = .ok (.iadd, 1) := by decide +kernel
theorem dX2_takeOff_39 : decode cX2_takeOff 39 = .ok (.aaload, 1) := by decide +kernel
theorem dX2_takeOff_40 : decode cX2_takeOff 40 = .ok (.aastore, 1) := by decide +kernel
theorem dX2_takeOff_41 : decode cX2_takeOff 41 = .ok (.iinc 3 1, 3) := by decide +kernel
theorem dX2_takeOff_44 : decode cX2_takeOff 44 = .ok (.goto (-25), 3) := by decide +kernel
theorem dX2_takeOff_47 : decode cX2_takeOff 47 = .ok (.aload_n 0, 1) := by decide +kernel
theorem dX2_takeOff_48 : decode cX2_takeOff 48 = .ok (.getfield 11, 3) := by decide +kernel
theorem dX2_takeOff_51 : decode cX2_takeOff 51 = .ok (.aload_n 0, 1) := by decide +kernel
theorem dX2_takeOff_52 : decode cX2_takeOff 52 = .ok (.getfield 18, 3) := by decide +kernel
theorem dX2_takeOff_55 : decode cX2_takeOff 55 = .ok (.aload_n 2, 1) := by decide +kernel
theorem dX2_takeOff_56 : decode cX2_takeOff 56 = .ok (.aastore, 1) := by decide +kernel
theorem dX2_takeOff_57 : decode cX2_takeOff 57 = .ok (.aload_n 2, 1) := by decide +kernel
theorem dX2_takeOff_58 : decode cX2_takeOff 58 = .ok (.areturn, 1) := by decide +kernel
theorem dX3_init_0 : decode cX3_init 0 = .ok (.aload_n 0, 1) := by decide +kernel
theorem dX3_init_1 : decode cX3_init 1 = .ok (.invokespecial 3, 3) := by decide +kernel
theorem dX3_init_4 : decode cX3_init 4 = .ok (.aload_n 0, 1) := by decide +kernel
theorem dX3_init_5 : decode cX3_init 5 = .ok (.bipush 17, 2) := by decide +kernel
theorem dX3_init_7 : decode cX3_init 7 = .ok (.newarray .int, 2) := by decide +kernel
theorem dX3_init_9 : decode cX3_init 9 = .ok (.putfield 9, 3) := by decide +kernel
theorem dX3_init_12 : decode cX3_init 12 = .ok (.return_, 1) := by decide +kernel
theorem dX3_write_0 : decode cX3_write 0 = .ok (.aload_n 3, 1) := by decide +kernel
theorem dX3_write_1 : decode cX3_write 1 = .ok (.iload_n 2, 1) := by decide +kernel
theorem dX3_write_2 : decode cX3_write 2 = .ok (.iload 4, 2) := by decide +kernel
theorem dX3_write_4 : decode cX3_write 4 = .ok (.invokevirtual 15, 3) := by decide +kernel
theorem dX3_write_7 : decode cX3_write 7 = .ok (.istore 5, 2) := by decide +kernel
theorem dX3_write_9 : decode cX3_write 9 = .ok (.iload_n 2, 1) := by decide +kernel
theorem dX3_write_10 : decode cX3_write 10 = .ok (.iconst 3, 1) := by decide +kernel
theorem dX3_write_11 : decode cX3_write 11 = .ok (.if_icmp .ge 16, 3) := by decide +kernel
theorem dX3_write_14 : decode cX3_write 14 = .ok (.aload_n 3, 1) := by decide +kernel
theorem dX3_write_15 : decode cX3_write 15 = .ok (.getfield 21, 3) := by decide +kernel
theorem dX3_write_18 : decode cX3_write 18 = .ok (.getstatic 25, 3) := by decide +kernel
theorem dX3_write_21 : decode cX3_write 21 = .ok (.iload_n 2, 1) := by decide +kernel
theorem dX3_write_22 : decode cX3_write 22 = .ok (.iaload, 1) := by decide +kernel
theorem dX3_write_23 : decode cX3_write 23 = .ok (.iand, 1) := by decide +kernel
theorem dX3_write_24 : decode cX3_write 24 = .ok (.goto 4, 3) := by decide +kernel
theorem dX3_write_27 : decode cX3_write 27 = .ok (.iconst 0, 1) := by decide +kernel
theorem dX3_write_28 : decode cX3_write 28 = .ok (.istore 6, 2) := by decide +kernel
theorem dX3_write_30 : decode cX3_write 30 = .ok (.aload_n 0, 1) := by decide +kernel
theorem dX3_write_31 : decode cX3_write 31 = .ok (.iconst 0, 1) := by decide +kernel
theorem dX3_write_32 : decode cX3_write 32 = .ok (.putfield 28, 3) := by decide +kernel
theorem dX3_write_35 : decode cX3_write 35 = .ok (.iload_n 1, 1) := by decide +kernel
theorem dX3_write_36 : decode cX3_write 36 = .ok (.ifCond .eq 12, 3) := by decide +kernel
theorem dX3_write_39 : decode cX3_write 39 = .ok (.aload_n 0, 1) := by decide +kernel
theorem dX3_write_40 : decode cX3_write 40 = .ok (.sipush 224, 3) := by decide +kernel
theorem dX3_write_43 : decode cX3_write 43 = .ok (.iload_n 1, 1) := by decide +kernel
theorem dX3_write_44 : decode cX3_write 44 = .ok (.iadd, 1) := by decide +kernel
theorem dX3_write_45 : decode cX3_write 45 = .ok (.invokevirtual 31, 3) := by decide +kernel
theorem dX3_write_48 : decode cX3_write 48 = .ok (.iload_n 2, 1) := by decide +kernel
theorem dX3_write_49 : decode cX3_write 49 = .ok (.tableswitch 133 0 3 #[31, 46, 70, 116], 31) := by decide +kernel
theorem dX3_write_80 : decode cX3_write 80 = .ok (.aload_n 0, 1) := by decide +kernel
theorem dX3_write_81 : decode cX3_write 81 = .ok (.iload 6, 2) := by decide +kernel
theorem dX3_write_83 : decode cX3_write 83 = .ok (.bipush 8, 2) := by decide +kernel
theorem dX3_write_85 : decode cX3_write 85 = .ok (.imul, 1) := by decide +kernel
theorem dX3_write_86 : decode cX3_write 86 = .ok (.iload 5, 2) := by decide +kernel
theorem dX3_write_88 : decode cX3_write 88 = .ok (.iadd, 1) := by decide +kernel
theorem dX3_write_89 : decode cX3_write 89 = .ok (.invokevirtual 31, 3) := by decide +kernel
theorem dX3_write_92 : decode cX3_write 92 = .ok (.goto 126, 3) := by decide +kernel
theorem dX3_write_95 : decode cX3_write 95 = .ok (.aload_n 0, 1) := by decide +kernel
theorem dX3_write_96 : decode cX3_write 96 = .ok (.sipush 128, 3) := by decide +kernel
theorem dX3_write_99 : decode cX3_write 99 = .ok (.iload 6, 2) := by decide +kernel
theorem dX3_write_101 : decode cX3_write 101 = .ok (.iadd, 1) := by decide +kernel
theorem dX3_write_102 : decode cX3_write 102 = .ok (.invokevirtual 31, 3) := by decide +kernel
theorem dX3_write_105 : decode cX3_write 105 = .ok (.aload_n 0, 1) := by decide +kernel
theorem dX3_write_106 : decode cX3_write 106 = .ok (.aload_n 3, 1) := by decide +kernel
theorem dX3_write_107 : decode cX3_write 107 = .ok (.invokevirtual 35, 3) := by decide +kernel
theorem dX3_write_110 : decode cX3_write 110 = .ok (.iload 5, 2) := by decide +kernel
theorem dX3_write_112 : decode cX3_write 112 = .ok (.iadd, 1) := by decide +kernel
theorem dX3_write_113 : decode cX3_write 113 = .ok (.invokevirtual 31, 3) := by decide +kernel
theorem dX3_write_116 : decode cX3_write 116 = .ok (.goto 102, 3) := by decide +kernel
theorem dX3_write_119 : decode cX3_write 119 = .ok (.aload_n 0, 1) := by decide +kernel
theorem dX3_write_120 : decode cX3_write 120 = .ok (.sipush 192, 3) := by decide +kernel
theorem dX3_write_123 : decode cX3_write 123 = .ok (.iload 6, 2) := by decide +kernel
theorem dX3_write_125 : decode cX3_write 125 = .ok (.iconst 5, 1) := by decide +kernel
theorem dX3_write_126 : decode cX3_write 126 = .ok (.iushr, 1) := by decide +kernel
theorem dX3_write_127 : decode cX3_write 127 = .ok (.iadd, 1) := by decide +kernel
theorem dX3_write_128 : decode cX3_write 128 = .ok (.invokevirtual 31, 3) := by decide +kernel
theorem dX3_write_131 : decode cX3_write 131 = .ok (.aload_n 0, 1) := by decide +kernel
theorem dX3_write_132 : decode cX3_write 132 = .ok (.iload 6, 2) := by decide +kernel
theorem dX3_write_134 : decode cX3_write 134 = .ok (.bipush 31, 2) := by decide +kernel
theorem dX3_write_136 : decode cX3_write 136 = .ok (.iand, 1) := by decide +kernel
theorem dX3_write_137 : decode cX3_write 137 = .ok (.bipush 8, 2) := by decide +kernel
theorem dX3_write_139 : decode cX3_write 139 = .ok (.imul, 1) := by decide +kernel
theorem dX3_write_140 : decode cX3_write 140 = .ok (.aload_n 3, 1) := by decide +kernel
theorem dX3_write_141 : decode cX3_write 141 = .ok (.getfield 39, 3) := by decide +kernel
theorem dX3_write_144 : decode cX3_write 144 = .ok (.ifCond .eq 7, 3) := by decide +kernel
theorem dX3_write_147 : decode cX3_write 147 = .ok (.iconst 4, 1) := by decide +kernel
theorem dX3_write_148 : decode cX3_write 148 = .ok (.goto 4, 3) := by decide +kernel
theorem dX3_write_151 : decode cX3_write 151 = .ok (.iconst 0, 1) := by decide +kernel
theorem dX3_write_152 : decode cX3_write 152 = .ok (.iadd, 1) := by decide +kernel
theorem dX3_write_153 : decode cX3_write 153 = .ok (.invokevirtual 31, 3) := by decide +kernel
theorem dX3_write_156 : decode cX3_write 156 = .ok (.aload_n 0, 1) := by decide +kernel
theorem dX3_write_157 : decode cX3_write 157 = .ok (.iload 5, 2) := by decide +kernel
theorem dX3_write_159 : decode cX3_write 159 = .ok (.invokevirtual 31, 3) := by decide +kernel
theorem dX3_write_162 : decode cX3_write 162 = .ok (.goto 56, 3) := by decide +kernel
theorem dX3_write_165 : decode cX3_write 165 = .ok (.aload_n 0, 1) := by decide +kernel
theorem dX3_write_166 : decode cX3_write 166 = .ok (.sipush 248, 3) := by decide +kernel
theorem dX3_write_169 : decode cX3_write 169 = .ok (.invokevirtual 31, 3) := by decide +kernel
theorem dX3_write_172 : decode cX3_write 172 = .ok (.aload_n 0, 1) := by decide +kernel
theorem dX3_write_173 : decode cX3_write 173 = .ok (.aload_n 3, 1) := by decide +kernel
theorem dX3_write_174 : decode cX3_write 174 = .ok (.iload 5, 2) := by decide +kernel
theorem dX3_write_176 : decode cX3_write 176 = .ok (.invokevirtual 43, 3) := by decide +kernel
theorem dX3_write_179 : decode cX3_write 179 = .ok (.goto 39, 3) := by decide +kernel
theorem dX3_write_182 : decode cX3_write 182 = .ok (.aload_n 0, 1) := by decide +kernel
theorem dX3_write_183 : decode cX3_write 183 = .ok (.sipush 253, 3) := by decide +kernel
theorem dX3_write_186 : decode cX3_write 186 = .ok (.invokevirtual 31, 3) := by decide +kernel
theorem dX3_write_189 : decode cX3_write 189 = .ok (.aload_n 0, 1) := by decide +kernel
theorem dX3_write_190 : decode cX3_write 190 = .ok (.aload_n 3, 1) := by decide +kernel
theorem dX3_write_191 : decode cX3_write 191 = .ok (.getfield 47, 3) := by decide +kernel
theorem dX3_write_194 : decode cX3_write 194 = .ok (.invokevirtual 50, 3) := by decide +kernel
theorem dX3_write_197 : decode cX3_write 197 = .ok (.aload_n 0, 1) := by decide +kernel
theorem dX3_write_198 : decode cX3_write 198 = .ok (.aload_n 3, 1) := by decide +kernel
theorem dX3_write_199 : decode cX3_write 199 = .ok (.getfield 53, 3) := by decide +kernel
theorem dX3_write_202 : decode cX3_write 202 = .ok (.invokevirtual 31, 3) := by decide +kernel
theorem dX3_write_205 : decode cX3_write 205 = .ok (.aload_n 0, 1) := by decide +kernel
theorem dX3_write_206 : decode cX3_write 206 = .ok (.iload 4, 2) := by decide +kernel
theorem dX3_write_208 : decode cX3_write 208 = .ok (.invokevirtual 50, 3) := by decide +kernel
theorem dX3_write_211 : decode cX3_write 211 = .ok (.aload_n 0, 1) := by decide +kernel
theorem dX3_write_212 : decode cX3_write 212 = .ok (.aload_n 3, 1) := by decide +kernel
theorem dX3_write_213 : decode cX3_write 213 = .ok (.iload 5, 2) := by decide +kernel
theorem dX3_write_215 : decode cX3_write 215 = .ok (.invokevirtual 43, 3) := by decide +kernel
theorem dX3_write_218 : decode cX3_write 218 = .ok (.return_, 1) := by decide +kernel
theorem dX3_putMoving_0 : decode cX3_putMoving 0 = .ok (.aload_n 0, 1) := by decide +kernel
theorem dX3_putMoving_1 : decode cX3_putMoving 1 = .ok (.aload_n 1, 1) := by decide +kernel
theorem dX3_putMoving_2 : decode cX3_putMoving 2 = .ok (.invokevirtual 35, 3) := by decide +kernel
theorem dX3_putMoving_5 : decode cX3_putMoving 5 = .ok (.invokevirtual 31, 3) := by decide +kernel
theorem dX3_putMoving_8 : decode cX3_putMoving 8 = .ok (.iconst 3, 1) := by decide +kernel
theorem dX3_putMoving_9 : decode cX3_putMoving 9 = .ok (.istore_n 3, 1) := by decide +kernel
theorem dX3_putMoving_10 : decode cX3_putMoving 10 = .ok (.iload_n 3, 1) := by decide +kernel
theorem dX3_putMoving_11 : decode cX3_putMoving 11 = .ok (.bipush 11, 2) := by decide +kernel
theorem dX3_putMoving_13 : decode cX3_putMoving 13 = .ok (.if_icmp .ge 18, 3) := by decide +kernel
theorem dX3_putMoving_16 : decode cX3_putMoving 16 = .ok (.aload_n 0, 1) := by decide +kernel
theorem dX3_putMoving_17 : decode cX3_putMoving 17 = .ok (.aload_n 1, 1) := by decide +kernel
theorem dX3_putMoving_18 : decode cX3_putMoving 18 = .ok (.iload_n 3, 1) := by decide +kernel
theorem dX3_putMoving_19 : decode cX3_putMoving 19 = .ok (.invokevirtual 56, 3) := by decide +kernel
theorem dX3_putMoving_22 : decode cX3_putMoving 22 = .ok (.invokevirtual 31, 3) := by decide +kernel
theorem dX3_putMoving_25 : decode cX3_putMoving 25 = .ok (.iinc 3 1, 3) := by decide +kernel
theorem dX3_putMoving_28 : decode cX3_putMoving 28 = .ok (.goto (-18), 3) := by decide +kernel
theorem dX3_putMoving_31 : decode cX3_putMoving 31 = .ok (.aload_n 0, 1) := by decide +kernel
theorem dX3_putMoving_32 : decode cX3_putMoving 32 = .ok (.iload_n 2, 1) := by decide +kernel
theorem dX3_putMoving_33 : decode cX3_putMoving 33 = .ok (.invokevirtual 31, 3) := by decide +kernel
theorem dX3_putMoving_36 : decode cX3_putMoving 36 = .ok (.return_, 1) := by decide +kernel
theorem dX3_putTwo_0 : decode cX3_putTwo 0 = .ok (.aload_n 0, 1) := by decide +kernel
theorem dX3_putTwo_1 : decode cX3_putTwo 1 = .ok (.iload_n 1, 1) := by decide +kernel
theorem dX3_putTwo_2 : decode cX3_putTwo 2 = .ok (.bipush 8, 2) := by decide +kernel
theorem dX3_putTwo_4 : decode cX3_putTwo 4 = .ok (.iushr, 1) := by decide +kernel
theorem dX3_putTwo_5 : decode cX3_putTwo 5 = .ok (.invokevirtual 31, 3) := by decide +kernel
theorem dX3_putTwo_8 : decode cX3_putTwo 8 = .ok (.aload_n 0, 1) := by decide +kernel
theorem dX3_putTwo_9 : decode cX3_putTwo 9 = .ok (.iload_n 1, 1) := by decide +kernel
theorem dX3_putTwo_10 : decode cX3_putTwo 10 = .ok (.sipush 255, 3) := by decide +kernel
theorem dX3_putTwo_13 : decode cX3_putTwo 13 = .ok (.iand, 1) := by decide +kernel
theorem dX3_putTwo_14 : decode cX3_putTwo 14 = .ok (.invokevirtual 31, 3) := by decide +kernel
theorem dX3_putTwo_17 : decode cX3_putTwo 17 = .ok (.return_, 1) := by decide +kernel
theorem dX3_put_0 : decode cX3_put 0 = .ok (.aload_n 0, 1) := by decide +kernel
theorem dX3_put_1 : decode cX3_put 1 = .ok (.getfield 28, 3) := by decide +kernel
theorem dX3_put_4 : decode cX3_put 4 = .ok (.bipush 17, 2) := by decide +kernel
theorem dX3_put_6 : decode cX3_put 6 = .ok (.if_icmp .ge 23, 3) := by decide +kernel
theorem dX3_put_9 : decode cX3_put 9 = .ok (.aload_n 0, 1) := by decide +kernel
theorem dX3_put_10 : decode cX3_put 10 = .ok (.getfield 9, 3) := by decide +kernel
theorem dX3_put_13 : decode cX3_put 13 = .ok (.aload_n 0, 1) := by decide +kernel
theorem dX3_put_14 : decode cX3_put 14 = .ok (.getfield 28, 3) := by decide +kernel
theorem dX3_put_17 : decode cX3_put 17 = .ok (.iload_n 1, 1) := by decide +kernel
theorem dX3_put_18 : decode cX3_put 18 = .ok (.iastore, 1) := by decide +kernel
theorem dX3_put_19 : decode cX3_put 19 = .ok (.aload_n 0, 1) := by decide +kernel
theorem dX3_put_20 : decode cX3_put 20 = .ok (.dup, 1) := by decide +kernel
theorem dX3_put_21 : decode cX3_put 21 = .ok (.getfield 28, 3) := by decide +kernel
theorem dX3_put_24 : decode cX3_put 24 = .ok (.iconst 1, 1) := by decide +kernel
theorem dX3_put_25 : decode cX3_put 25 = .ok (.iadd, 1) := by decide +kernel
theorem dX3_put_26 : decode cX3_put 26 = .ok (.putfield 28, 3) := by decide +kernel
theorem dX3_put_29 : decode cX3_put 29 = .ok (.return_, 1) := by decide +kernel
theorem dX3_read_0 : decode cX3_read 0 = .ok (.aload_n 0, 1) := by decide +kernel
theorem dX3_read_1 : decode cX3_read 1 = .ok (.getfield 9, 3) := by decide +kernel
theorem dX3_read_4 : decode cX3_read 4 = .ok (.iconst 0, 1) := by decide +kernel
theorem dX3_read_5 : decode cX3_read 5 = .ok (.iaload, 1) := by decide +kernel
theorem dX3_read_6 : decode cX3_read 6 = .ok (.sipush 224, 3) := by decide +kernel
theorem dX3_read_9 : decode cX3_read 9 = .ok (.if_icmp .le 19, 3) := by decide +kernel
theorem dX3_read_12 : decode cX3_read 12 = .ok (.aload_n 0, 1) := by decide +kernel
theorem dX3_read_13 : decode cX3_read 13 = .ok (.getfield 9, 3) := by decide +kernel
theorem dX3_read_16 : decode cX3_read 16 = .ok (.iconst 0, 1) := by decide +kernel
theorem dX3_read_17 : decode cX3_read 17 = .ok (.iaload, 1) := by decide +kernel
theorem dX3_read_18 : decode cX3_read 18 = .ok (.sipush 228, 3) := by decide +kernel
theorem dX3_read_21 : decode cX3_read 21 = .ok (.if_icmp .ge 7, 3) := by decide +kernel
theorem dX3_read_24 : decode cX3_read 24 = .ok (.iconst 1, 1) := by decide +kernel
theorem dX3_read_25 : decode cX3_read 25 = .ok (.goto 4, 3) := by decide +kernel
theorem dX3_read_28 : decode cX3_read 28 = .ok (.iconst 0, 1) := by decide +kernel
theorem dX3_read_29 : decode cX3_read 29 = .ok (.istore_n 1, 1) := by decide +kernel
theorem dX3_read_30 : decode cX3_read 30 = .ok (.aload_n 0, 1) := by decide +kernel
theorem dX3_read_31 : decode cX3_read 31 = .ok (.iload_n 1, 1) := by decide +kernel
theorem dX3_read_32 : decode cX3_read 32 = .ok (.ifCond .eq 16, 3) := by decide +kernel
theorem dX3_read_35 : decode cX3_read 35 = .ok (.aload_n 0, 1) := by decide +kernel
theorem dX3_read_36 : decode cX3_read 36 = .ok (.getfield 9, 3) := by decide +kernel
theorem dX3_read_39 : decode cX3_read 39 = .ok (.iconst 0, 1) := by decide +kernel
theorem dX3_read_40 : decode cX3_read 40 = .ok (.iaload, 1) := by decide +kernel
theorem dX3_read_41 : decode cX3_read 41 = .ok (.sipush 224, 3) := by decide +kernel
theorem dX3_read_44 : decode cX3_read 44 = .ok (.isub, 1) := by decide +kernel
theorem dX3_read_45 : decode cX3_read 45 = .ok (.goto 4, 3) := by decide +kernel
theorem dX3_read_48 : decode cX3_read 48 = .ok (.iconst 0, 1) := by decide +kernel
theorem dX3_read_49 : decode cX3_read 49 = .ok (.putfield 60, 3) := by decide +kernel
theorem dX3_read_52 : decode cX3_read 52 = .ok (.aload_n 0, 1) := by decide +kernel
theorem dX3_read_53 : decode cX3_read 53 = .ok (.iload_n 1, 1) := by decide +kernel
theorem dX3_read_54 : decode cX3_read 54 = .ok (.ifCond .eq 7, 3) := by decide +kernel
theorem dX3_read_57 : decode cX3_read 57 = .ok (.iconst 1, 1) := by decide +kernel
theorem dX3_read_58 : decode cX3_read 58 = .ok (.goto 4, 3) := by decide +kernel
theorem dX3_read_61 : decode cX3_read 61 = .ok (.iconst 0, 1) := by decide +kernel
theorem dX3_read_62 : decode cX3_read 62 = .ok (.putfield 63, 3) := by decide +kernel
theorem dX3_read_65 : decode cX3_read 65 = .ok (.aload_n 0, 1) := by decide +kernel
theorem dX3_read_66 : decode cX3_read 66 = .ok (.aload_n 0, 1) := by decide +kernel
theorem dX3_read_67 : decode cX3_read 67 = .ok (.getfield 63, 3) := by decide +kernel
theorem dX3_read_70 : decode cX3_read 70 = .ok (.aload_n 0, 1) := by decide +kernel
theorem dX3_read_71 : decode cX3_read 71 = .ok (.getfield 28, 3) := by decide +kernel
theorem dX3_read_74 : decode cX3_read 74 = .ok (.if_icmp .ge 18, 3) := by decide +kernel
theorem dX3_read_77 : decode cX3_read 77 = .ok (.aload_n 0, 1) := by decide +kernel
theorem dX3_read_78 : decode cX3_read 78 = .ok (.getfield 9, 3) := by decide +kernel
theorem dX3_read_81 : decode cX3_read 81 = .ok (.aload_n 0, 1) := by decide +kernel
theorem dX3_read_82 : decode cX3_read 82 = .ok (.getfield 63, 3) := by decide +kernel
theorem dX3_read_85 : decode cX3_read 85 = .ok (.iaload, 1) := by decide +kernel
theorem dX3_read_86 : decode cX3_read 86 = .ok (.invokestatic 66, 3) := by decide +kernel
theorem dX3_read_89 : decode cX3_read 89 = .ok (.goto 4, 3) := by decide +kernel
theorem dX3_read_92 : decode cX3_read 92 = .ok (.iconst (-1), 1) := by decide +kernel
theorem dX3_read_93 : decode cX3_read 93 = .ok (.putfield 69, 3) := by decide +kernel
theorem dX3_read_96 : decode cX3_read 96 = .ok (.aload_n 0, 1) := by decide +kernel
theorem dX3_read_97 : decode cX3_read 97 = .ok (.getfield 69, 3) := by decide +kernel
theorem dX3_read_100 : decode cX3_read 100 = .ok (.iconst (-1), 1) := by decide +kernel
theorem dX3_read_101 : decode cX3_read 101 = .ok (.if_icmp .eq 15, 3) := by decide +kernel
theorem dX3_read_104 : decode cX3_read 104 = .ok (.aload_n 0, 1) := by decide +kernel
theorem dX3_read_105 : decode cX3_read 105 = .ok (.invokevirtual 72, 3) := by decide +kernel
theorem dX3_read_108 : decode cX3_read 108 = .ok (.ifCond .eq 8, 3) := by decide +kernel
theorem dX3_read_111 : decode cX3_read 111 = .ok (.aload_n 0, 1) := by decide +kernel
theorem dX3_read_112 : decode cX3_read 112 = .ok (.iconst (-1), 1) := by decide +kernel
theorem dX3_read_113 : decode cX3_read 113 = .ok (.putfield 69, 3) := by decide +kernel
theorem dX3_read_116 : decode cX3_read 116 = .ok (.return_, 1) := by decide +kernel
theorem dX3_kindTold_0 : decode cX3_kindTold 0 = .ok (.iload_n 0, 1) := by decide +kernel
theorem dX3_kindTold_1 : decode cX3_kindTold 1 = .ok (.sipush 128, 3) := by decide +kernel
theorem dX3_kindTold_4 : decode cX3_kindTold 4 = .ok (.if_icmp .ge 5, 3) := by decide +kernel
theorem dX3_kindTold_7 : decode cX3_kindTold 7 = .ok (.iconst 0, 1) := by decide +kernel
theorem dX3_kindTold_8 : decode cX3_kindTold 8 = .ok (.ireturn, 1) := by decide +kernel
theorem dX3_kindTold_9 : decode cX3_kindTold 9 = .ok (.iload_n 0, 1) := by decide +kernel
theorem dX3_kindTold_10 : decode cX3_kindTold 10 = .ok (.sipush 192, 3) := by decide +kernel
theorem dX3_kindTold_13 : decode cX3_kindTold 13 = .ok (.if_icmp .ge 5, 3) := by decide +kernel
theorem dX3_kindTold_16 : decode cX3_kindTold 16 = .ok (.iconst 1, 1) := by decide +kernel
theorem dX3_kindTold_17 : decode cX3_kindTold 17 = .ok (.ireturn, 1) := by decide +kernel
theorem dX3_kindTold_18 : decode cX3_kindTold 18 = .ok (.iload_n 0, 1) := by decide +kernel
theorem dX3_kindTold_19 : decode cX3_kindTold 19 = .ok (.sipush 224, 3) := by decide +kernel
theorem dX3_kindTold_22 : decode cX3_kindTold 22 = .ok (.if_icmp .ge 5, 3) := by decide +kernel
theorem dX3_kindTold_25 : decode cX3_kindTold 25 = .ok (.iconst 2, 1) := by decide +kernel
theorem dX3_kindTold_26 : decode cX3_kindTold 26 = .ok (.ireturn, 1) := by decide +kernel
theorem dX3_kindTold_27 : decode cX3_kindTold 27 = .ok (.iload_n 0, 1) := by decide +kernel
theorem dX3_kindTold_28 : decode cX3_kindTold 28 = .ok (.sipush 248, 3) := by decide +kernel
theorem dX3_kindTold_31 : decode cX3_kindTold 31 = .ok (.if_icmp .ne 5, 3) := by decide +kernel
theorem dX3_kindTold_34 : decode cX3_kindTold 34 = .ok (.iconst 3, 1) := by decide +kernel
theorem dX3_kindTold_35 : decode cX3_kindTold 35 = .ok (.ireturn, 1) := by decide +kernel
theorem dX3_kindTold_36 : decode cX3_kindTold 36 = .ok (.iload_n 0, 1) := by decide +kernel
theorem dX3_kindTold_37 : decode cX3_kindTold 37 = .ok (.sipush 253, 3) := by decide +kernel
theorem dX3_kindTold_40 : decode cX3_kindTold 40 = .ok (.if_icmp .ne 7, 3) := by decide +kernel
theorem dX3_kindTold_43 : decode cX3_kindTold 43 = .ok (.iconst 4, 1) := by decide +kernel
theorem dX3_kindTold_44 : decode cX3_kindTold 44 = .ok (.goto 4, 3) := by decide +kernel
theorem dX3_kindTold_47 : decode cX3_kindTold 47 = .ok (.iconst (-1), 1) := by decide +kernel
theorem dX3_kindTold_48 : decode cX3_kindTold 48 = .ok (.ireturn, 1) := by decide +kernel
theorem dX3_isMisshapen_0 : decode cX3_isMisshapen 0 = .ok (.aload_n 0, 1) := by decide +kernel
theorem dX3_isMisshapen_1 : decode cX3_isMisshapen 1 = .ok (.getfield 28, 3) := by decide +kernel
theorem dX3_isMisshapen_4 : decode cX3_isMisshapen 4 = .ok (.aload_n 0, 1) := by decide +kernel
theorem dX3_isMisshapen_5 : decode cX3_isMisshapen 5 = .ok (.getfield 63, 3) := by decide +kernel
theorem dX3_isMisshapen_8 : decode cX3_isMisshapen 8 = .ok (.isub, 1) := by decide +kernel
theorem dX3_isMisshapen_9 : decode cX3_isMisshapen 9 = .ok (.getstatic 76, 3) := by decide +kernel
theorem dX3_isMisshapen_12 : decode cX3_isMisshapen 12 = .ok (.aload_n 0, 1) := by decide +kernel
theorem dX3_isMisshapen_13 : decode cX3_isMisshapen 13 = .ok (.getfield 69, 3) := by decide +kernel
theorem dX3_isMisshapen_16 : decode cX3_isMisshapen 16 = .ok (.iaload, 1) := by decide +kernel
theorem dX3_isMisshapen_17 : decode cX3_isMisshapen 17 = .ok (.if_icmp .eq 5, 3) := by decide +kernel
theorem dX3_isMisshapen_20 : decode cX3_isMisshapen 20 = .ok (.iconst 1, 1) := by decide +kernel
theorem dX3_isMisshapen_21 : decode cX3_isMisshapen 21 = .ok (.ireturn, 1) := by decide +kernel
theorem dX3_isMisshapen_22 : decode cX3_isMisshapen 22 = .ok (.aload_n 0, 1) := by decide +kernel
theorem dX3_isMisshapen_23 : decode cX3_isMisshapen 23 = .ok (.getfield 69, 3) := by decide +kernel
theorem dX3_isMisshapen_26 : decode cX3_isMisshapen 26 = .ok (.tableswitch 79 2 4 #[26, 42, 51], 26) := by decide +kernel
theorem dX3_isMisshapen_52 : decode cX3_isMisshapen 52 = .ok (.aload_n 0, 1) := by decide +kernel
theorem dX3_isMisshapen_53 : decode cX3_isMisshapen 53 = .ok (.iconst 1, 1) := by decide +kernel
theorem dX3_isMisshapen_54 : decode cX3_isMisshapen 54 = .ok (.invokevirtual 79, 3) := by decide +kernel
theorem dX3_isMisshapen_57 : decode cX3_isMisshapen 57 = .ok (.iconst 3, 1) := by decide +kernel
theorem dX3_isMisshapen_58 : decode cX3_isMisshapen 58 = .ok (.iand, 1) := by decide +kernel
theorem dX3_isMisshapen_59 : decode cX3_isMisshapen 59 = .ok (.ifCond .eq 7, 3) := by decide +kernel
theorem dX3_isMisshapen_62 : decode cX3_isMisshapen 62 = .ok (.iconst 1, 1) := by decide +kernel
theorem dX3_isMisshapen_63 : decode cX3_isMisshapen 63 = .ok (.goto 4, 3) := by decide +kernel
theorem dX3_isMisshapen_66 : decode cX3_isMisshapen 66 = .ok (.iconst 0, 1) := by decide +kernel
theorem dX3_isMisshapen_67 : decode cX3_isMisshapen 67 = .ok (.ireturn, 1) := by decide +kernel
theorem dX3_isMisshapen_68 : decode cX3_isMisshapen 68 = .ok (.aload_n 0, 1) := by decide +kernel
theorem dX3_isMisshapen_69 : decode cX3_isMisshapen 69 = .ok (.iconst 1, 1) := by decide +kernel
theorem dX3_isMisshapen_70 : decode cX3_isMisshapen 70 = .ok (.invokevirtual 79, 3) := by decide +kernel
theorem dX3_isMisshapen_73 : decode cX3_isMisshapen 73 = .ok (.invokestatic 82, 3) := by decide +kernel
theorem dX3_isMisshapen_76 : decode cX3_isMisshapen 76 = .ok (.ireturn, 1) := by decide +kernel
theorem dX3_isMisshapen_77 : decode cX3_isMisshapen 77 = .ok (.aload_n 0, 1) := by decide +kernel
theorem dX3_isMisshapen_78 : decode cX3_isMisshapen 78 = .ok (.iconst 3, 1) := by decide +kernel
theorem dX3_isMisshapen_79 : decode cX3_isMisshapen 79 = .ok (.invokevirtual 79, 3) := by decide +kernel
theorem dX3_isMisshapen_82 : decode cX3_isMisshapen 82 = .ok (.bipush 127, 2) := by decide +kernel
theorem dX3_isMisshapen_84 : decode cX3_isMisshapen 84 = .ok (.if_icmp .gt 15, 3) := by decide +kernel
theorem dX3_isMisshapen_87 : decode cX3_isMisshapen 87 = .ok (.aload_n 0, 1) := by decide +kernel
theorem dX3_isMisshapen_88 : decode cX3_isMisshapen 88 = .ok (.bipush 6, 2) := by decide +kernel
theorem dX3_isMisshapen_90 : decode cX3_isMisshapen 90 = .ok (.invokevirtual 79, 3) := by decide +kernel
theorem dX3_isMisshapen_93 : decode cX3_isMisshapen 93 = .ok (.invokestatic 82, 3) := by decide +kernel
theorem dX3_isMisshapen_96 : decode cX3_isMisshapen 96 = .ok (.ifCond .eq 7, 3) := by decide +kernel
theorem dX3_isMisshapen_99 : decode cX3_isMisshapen 99 = .ok (.iconst 1, 1) := by decide +kernel
theorem dX3_isMisshapen_100 : decode cX3_isMisshapen 100 = .ok (.goto 4, 3) := by decide +kernel
theorem dX3_isMisshapen_103 : decode cX3_isMisshapen 103 = .ok (.iconst 0, 1) := by decide +kernel
theorem dX3_isMisshapen_104 : decode cX3_isMisshapen 104 = .ok (.ireturn, 1) := by decide +kernel
theorem dX3_isMisshapen_105 : decode cX3_isMisshapen 105 = .ok (.iconst 0, 1) := by decide +kernel
theorem dX3_isMisshapen_106 : decode cX3_isMisshapen 106 = .ok (.ireturn, 1) := by decide +kernel
theorem dX3_isNoMark_0 : decode cX3_isNoMark 0 = .ok (.iload_n 0, 1) := by decide +kernel
theorem dX3_isNoMark_1 : decode cX3_isNoMark 1 = .ok (.ifCond .eq 14, 3) := by decide +kernel
theorem dX3_isNoMark_4 : decode cX3_isNoMark 4 = .ok (.iload_n 0, 1) := by decide +kernel
theorem dX3_isNoMark_5 : decode cX3_isNoMark 5 = .ok (.sipush 128, 3) := by decide +kernel
theorem dX3_isNoMark_8 : decode cX3_isNoMark 8 = .ok (.if_icmp .eq 7, 3) := by decide +kernel
theorem dX3_isNoMark_11 : decode cX3_isNoMark 11 = .ok (.iconst 1, 1) := by decide +kernel
theorem dX3_isNoMark_12 : decode cX3_isNoMark 12 = .ok (.goto 4, 3) := by decide +kernel
theorem dX3_isNoMark_15 : decode cX3_isNoMark 15 = .ok (.iconst 0, 1) := by decide +kernel
theorem dX3_isNoMark_16 : decode cX3_isNoMark 16 = .ok (.ireturn, 1) := by decide +kernel
theorem dX3_own_0 : decode cX3_own 0 = .ok (.aload_n 0, 1) := by decide +kernel
theorem dX3_own_1 : decode cX3_own 1 = .ok (.getfield 9, 3) := by decide +kernel
theorem dX3_own_4 : decode cX3_own 4 = .ok (.aload_n 0, 1) := by decide +kernel
theorem dX3_own_5 : decode cX3_own 5 = .ok (.getfield 63, 3) := by decide +kernel
theorem dX3_own_8 : decode cX3_own 8 = .ok (.iload_n 1, 1) := by decide +kernel
theorem dX3_own_9 : decode cX3_own 9 = .ok (.iadd, 1) := by decide +kernel
theorem dX3_own_10 : decode cX3_own 10 = .ok (.iaload, 1) := by decide +kernel
theorem dX3_own_11 : decode cX3_own 11 = .ok (.ireturn, 1) := by decide +kernel
theorem dX3_ownTwo_0 : decode cX3_ownTwo 0 = .ok (.aload_n 0, 1) := by decide +kernel
theorem dX3_ownTwo_1 : decode cX3_ownTwo 1 = .ok (.iload_n 1, 1) := by decide +kernel
theorem dX3_ownTwo_2 : decode cX3_ownTwo 2 = .ok (.invokevirtual 79, 3) := by decide +kernel
theorem dX3_ownTwo_5 : decode cX3_ownTwo 5 = .ok (.sipush 256, 3) := by decide +kernel
theorem dX3_ownTwo_8 : decode cX3_ownTwo 8 = .ok (.imul, 1) := by decide +kernel
theorem dX3_ownTwo_9 : decode cX3_ownTwo 9 = .ok (.aload_n 0, 1) := by decide +kernel
theorem dX3_ownTwo_10 : decode cX3_ownTwo 10 = .ok (.iload_n 1, 1) := by decide +kernel
theorem dX3_ownTwo_11 : decode cX3_ownTwo 11 = .ok (.iconst 1, 1) := by decide +kernel
theorem dX3_ownTwo_12 : decode cX3_ownTwo 12 = .ok (.iadd, 1) := by decide +kernel
theorem dX3_ownTwo_13 : decode cX3_ownTwo 13 = .ok (.invokevirtual 79, 3) := by decide +kernel
theorem dX3_ownTwo_16 : decode cX3_ownTwo 16 = .ok (.iadd, 1) := by decide +kernel
theorem dX3_ownTwo_17 : decode cX3_ownTwo 17 = .ok (.ireturn, 1) := by decide +kernel
theorem dX3_sumTold_0 : decode cX3_sumTold 0 = .ok (.aload_n 0, 1) := by decide +kernel
theorem dX3_sumTold_1 : decode cX3_sumTold 1 = .ok (.getfield 9, 3) := by decide +kernel
theorem dX3_sumTold_4 : decode cX3_sumTold 4 = .ok (.aload_n 0, 1) := by decide +kernel
theorem dX3_sumTold_5 : decode cX3_sumTold 5 = .ok (.getfield 28, 3) := by decide +kernel
theorem dX3_sumTold_8 : decode cX3_sumTold 8 = .ok (.iconst 1, 1) := by decide +kernel
theorem dX3_sumTold_9 : decode cX3_sumTold 9 = .ok (.isub, 1) := by decide +kernel
theorem dX3_sumTold_10 : decode cX3_sumTold 10 = .ok (.iaload, 1) := by decide +kernel
theorem dX3_sumTold_11 : decode cX3_sumTold 11 = .ok (.getstatic 86, 3) := by decide +kernel
theorem dX3_sumTold_14 : decode cX3_sumTold 14 = .ok (.aload_n 0, 1) := by decide +kernel
theorem dX3_sumTold_15 : decode cX3_sumTold 15 = .ok (.getfield 69, 3) := by decide +kernel
theorem dX3_sumTold_18 : decode cX3_sumTold 18 = .ok (.iaload, 1) := by decide +kernel
theorem dX3_sumTold_19 : decode cX3_sumTold 19 = .ok (.iand, 1) := by decide +kernel
theorem dX3_sumTold_20 : decode cX3_sumTold 20 = .ok (.ireturn, 1) := by decide +kernel
theorem dX3_lowTold_0 : decode cX3_lowTold 0 = .ok (.aload_n 0, 1) := by decide +kernel
theorem dX3_lowTold_1 : decode cX3_lowTold 1 = .ok (.getfield 69, 3) := by decide +kernel
theorem dX3_lowTold_4 : decode cX3_lowTold 4 = .ok (.lookupswitch 45 #[(0, 28), (1, 36)], 28) := by decide +kernel
theorem dX3_lowTold_32 : decode cX3_lowTold 32 = .ok (.aload_n 0, 1) := by decide +kernel
theorem dX3_lowTold_33 : decode cX3_lowTold 33 = .ok (.iconst 0, 1) := by decide +kernel
theorem dX3_lowTold_34 : decode cX3_lowTold 34 = .ok (.invokevirtual 79, 3) := by decide +kernel
theorem dX3_lowTold_37 : decode cX3_lowTold 37 = .ok (.iconst 3, 1) := by decide +kernel
theorem dX3_lowTold_38 : decode cX3_lowTold 38 = .ok (.iushr, 1) := by decide +kernel
theorem dX3_lowTold_39 : decode cX3_lowTold 39 = .ok (.ireturn, 1) := by decide +kernel
theorem dX3_lowTold_40 : decode cX3_lowTold 40 = .ok (.aload_n 0, 1) := by decide +kernel
theorem dX3_lowTold_41 : decode cX3_lowTold 41 = .ok (.iconst 0, 1) := by decide +kernel
theorem dX3_lowTold_42 : decode cX3_lowTold 42 = .ok (.invokevirtual 79, 3) := by decide +kernel
theorem dX3_lowTold_45 : decode cX3_lowTold 45 = .ok (.bipush 63, 2) := by decide +kernel
theorem dX3_lowTold_47 : decode cX3_lowTold 47 = .ok (.iand, 1) := by decide +kernel
theorem dX3_lowTold_48 : decode cX3_lowTold 48 = .ok (.ireturn, 1) := by decide +kernel
theorem dX3_lowTold_49 : decode cX3_lowTold 49 = .ok (.aload_n 0, 1) := by decide +kernel
theorem dX3_lowTold_50 : decode cX3_lowTold 50 = .ok (.iconst 0, 1) := by decide +kernel
theorem dX3_lowTold_51 : decode cX3_lowTold 51 = .ok (.invokevirtual 79, 3) := by decide +kernel
theorem dX3_lowTold_54 : decode cX3_lowTold 54 = .ok (.bipush 31, 2) := by decide +kernel
theorem dX3_lowTold_56 : decode cX3_lowTold 56 = .ok (.iand, 1) := by decide +kernel
theorem dX3_lowTold_57 : decode cX3_lowTold 57 = .ok (.bipush 32, 2) := by decide +kernel
theorem dX3_lowTold_59 : decode cX3_lowTold 59 = .ok (.imul, 1) := by decide +kernel
theorem dX3_lowTold_60 : decode cX3_lowTold 60 = .ok (.aload_n 0, 1) := by decide +kernel
theorem dX3_lowTold_61 : decode cX3_lowTold 61 = .ok (.iconst 1, 1) := by decide +kernel
theorem dX3_lowTold_62 : decode cX3_lowTold 62 = .ok (.invokevirtual 79, 3) := by decide +kernel
theorem dX3_lowTold_65 : decode cX3_lowTold 65 = .ok (.iconst 3, 1) := by decide +kernel
theorem dX3_lowTold_66 : decode cX3_lowTold 66 = .ok (.iushr, 1) := by decide +kernel
theorem dX3_lowTold_67 : decode cX3_lowTold 67 = .ok (.iadd, 1) := by decide +kernel
theorem dX3_lowTold_68 : decode cX3_lowTold 68 = .ok (.ireturn, 1) := by decide +kernel
theorem dX3_markTold_0 : decode cX3_markTold 0 = .ok (.aload_n 0, 1) := by decide +kernel
theorem dX3_markTold_1 : decode cX3_markTold 1 = .ok (.getfield 69, 3) := by decide +kernel
theorem dX3_markTold_4 : decode cX3_markTold 4 = .ok (.lookupswitch 47 #[(0, 28), (1, 30)], 28) := by decide +kernel
theorem dX3_markTold_32 : decode cX3_markTold 32 = .ok (.iconst 0, 1) := by decide +kernel
theorem dX3_markTold_33 : decode cX3_markTold 33 = .ok (.ireturn, 1) := by decide +kernel
theorem dX3_markTold_34 : decode cX3_markTold 34 = .ok (.aload_n 0, 1) := by decide +kernel
theorem dX3_markTold_35 : decode cX3_markTold 35 = .ok (.iconst 1, 1) := by decide +kernel
theorem dX3_markTold_36 : decode cX3_markTold 36 = .ok (.invokevirtual 79, 3) := by decide +kernel
theorem dX3_markTold_39 : decode cX3_markTold 39 = .ok (.sipush 128, 3) := by decide +kernel
theorem dX3_markTold_42 : decode cX3_markTold 42 = .ok (.if_icmp .lt 7, 3) := by decide +kernel
theorem dX3_markTold_45 : decode cX3_markTold 45 = .ok (.iconst 1, 1) := by decide +kernel
theorem dX3_markTold_46 : decode cX3_markTold 46 = .ok (.goto 4, 3) := by decide +kernel
theorem dX3_markTold_49 : decode cX3_markTold 49 = .ok (.iconst 0, 1) := by decide +kernel
theorem dX3_markTold_50 : decode cX3_markTold 50 = .ok (.ireturn, 1) := by decide +kernel
theorem dX3_markTold_51 : decode cX3_markTold 51 = .ok (.aload_n 0, 1) := by decide +kernel
theorem dX3_markTold_52 : decode cX3_markTold 52 = .ok (.iconst 1, 1) := by decide +kernel
theorem dX3_markTold_53 : decode cX3_markTold 53 = .ok (.invokevirtual 79, 3) := by decide +kernel
theorem dX3_markTold_56 : decode cX3_markTold 56 = .ok (.iconst 4, 1) := by decide +kernel
theorem dX3_markTold_57 : decode cX3_markTold 57 = .ok (.iand, 1) := by decide +kernel
theorem dX3_markTold_58 : decode cX3_markTold 58 = .ok (.ifCond .eq 7, 3) := by decide +kernel
theorem dX3_markTold_61 : decode cX3_markTold 61 = .ok (.iconst 1, 1) := by decide +kernel
theorem dX3_markTold_62 : decode cX3_markTold 62 = .ok (.goto 4, 3) := by decide +kernel
theorem dX3_markTold_65 : decode cX3_markTold 65 = .ok (.iconst 0, 1) := by decide +kernel
theorem dX3_markTold_66 : decode cX3_markTold 66 = .ok (.ireturn, 1) := by decide +kernel
theorem dX3_strideTold_0 : decode cX3_strideTold 0 = .ok (.aload_n 0, 1) := by decide +kernel
theorem dX3_strideTold_1 : decode cX3_strideTold 1 = .ok (.iconst 4, 1) := by decide +kernel
theorem dX3_strideTold_2 : decode cX3_strideTold 2 = .ok (.invokevirtual 89, 3) := by decide +kernel
theorem dX3_strideTold_5 : decode cX3_strideTold 5 = .ok (.ireturn, 1) := by decide +kernel
theorem dX3_readFixed_0 : decode cX3_readFixed 0 = .ok (.aload_n 1, 1) := by decide +kernel
theorem dX3_readFixed_1 : decode cX3_readFixed 1 = .ok (.aload_n 0, 1) := by decide +kernel
theorem dX3_readFixed_2 : decode cX3_readFixed 2 = .ok (.iconst 1, 1) := by decide +kernel
theorem dX3_readFixed_3 : decode cX3_readFixed 3 = .ok (.invokevirtual 89, 3) := by decide +kernel
theorem dX3_readFixed_6 : decode cX3_readFixed 6 = .ok (.putfield 47, 3) := by decide +kernel
theorem dX3_readFixed_9 : decode cX3_readFixed 9 = .ok (.aload_n 1, 1) := by decide +kernel
theorem dX3_readFixed_10 : decode cX3_readFixed 10 = .ok (.aload_n 0, 1) := by decide +kernel
theorem dX3_readFixed_11 : decode cX3_readFixed 11 = .ok (.iconst 3, 1) := by decide +kernel
theorem dX3_readFixed_12 : decode cX3_readFixed 12 = .ok (.invokevirtual 79, 3) := by decide +kernel
theorem dX3_readFixed_15 : decode cX3_readFixed 15 = .ok (.putfield 53, 3) := by decide +kernel
theorem dX3_readFixed_18 : decode cX3_readFixed 18 = .ok (.return_, 1) := by decide +kernel
theorem dX3_readMoving_0 : decode cX3_readMoving 0 = .ok (.aload_n 0, 1) := by decide +kernel
theorem dX3_readMoving_1 : decode cX3_readMoving 1 = .ok (.getfield 69, 3) := by decide +kernel
theorem dX3_readMoving_4 : decode cX3_readMoving 4 = .ok (.iconst 4, 1) := by decide +kernel
theorem dX3_readMoving_5 : decode cX3_readMoving 5 = .ok (.if_icmp .ne 8, 3) := by decide +kernel
theorem dX3_readMoving_8 : decode cX3_readMoving 8 = .ok (.bipush 6, 2) := by decide +kernel
theorem dX3_readMoving_10 : decode cX3_readMoving 10 = .ok (.goto 4, 3) := by decide +kernel
theorem dX3_readMoving_13 : decode cX3_readMoving 13 = .ok (.iconst 1, 1) := by decide +kernel
theorem dX3_readMoving_14 : decode cX3_readMoving 14 = .ok (.istore_n 2, 1) := by decide +kernel
theorem dX3_readMoving_15 : decode cX3_readMoving 15 = .ok (.aload_n 1, 1) := by decide +kernel
theorem dX3_readMoving_16 : decode cX3_readMoving 16 = .ok (.aload_n 0, 1) := by decide +kernel
theorem dX3_readMoving_17 : decode cX3_readMoving 17 = .ok (.iload_n 2, 1) := by decide +kernel
theorem dX3_readMoving_18 : decode cX3_readMoving 18 = .ok (.invokevirtual 79, 3) := by decide +kernel
theorem dX3_readMoving_21 : decode cX3_readMoving 21 = .ok (.ifCond .eq 7, 3) := by decide +kernel
theorem dX3_readMoving_24 : decode cX3_readMoving 24 = .ok (.iconst 1, 1) := by decide +kernel
theorem dX3_readMoving_25 : decode cX3_readMoving 25 = .ok (.goto 4, 3) := by decide +kernel
theorem dX3_readMoving_28 : decode cX3_readMoving 28 = .ok (.iconst 0, 1) := by decide +kernel
theorem dX3_readMoving_29 : decode cX3_readMoving 29 = .ok (.putfield 39, 3) := by decide +kernel
theorem dX3_readMoving_32 : decode cX3_readMoving 32 = .ok (.aload_n 1, 1) := by decide +kernel
theorem dX3_readMoving_33 : decode cX3_readMoving 33 = .ok (.aload_n 0, 1) := by decide +kernel
theorem dX3_readMoving_34 : decode cX3_readMoving 34 = .ok (.iload_n 2, 1) := by decide +kernel
theorem dX3_readMoving_35 : decode cX3_readMoving 35 = .ok (.iconst 1, 1) := by decide +kernel
theorem dX3_readMoving_36 : decode cX3_readMoving 36 = .ok (.iadd, 1) := by decide +kernel
theorem dX3_readMoving_37 : decode cX3_readMoving 37 = .ok (.invokevirtual 89, 3) := by decide +kernel
theorem dX3_readMoving_40 : decode cX3_readMoving 40 = .ok (.putfield 21, 3) := by decide +kernel
theorem dX3_readMoving_43 : decode cX3_readMoving 43 = .ok (.aload_n 1, 1) := by decide +kernel
theorem dX3_readMoving_44 : decode cX3_readMoving 44 = .ok (.aload_n 0, 1) := by decide +kernel
theorem dX3_readMoving_45 : decode cX3_readMoving 45 = .ok (.iload_n 2, 1) := by decide +kernel
theorem dX3_readMoving_46 : decode cX3_readMoving 46 = .ok (.iconst 3, 1) := by decide +kernel
theorem dX3_readMoving_47 : decode cX3_readMoving 47 = .ok (.iadd, 1) := by decide +kernel
theorem dX3_readMoving_48 : decode cX3_readMoving 48 = .ok (.invokevirtual 89, 3) := by decide +kernel
theorem dX3_readMoving_51 : decode cX3_readMoving 51 = .ok (.ldc 92, 2) := by decide +kernel
theorem dX3_readMoving_53 : decode cX3_readMoving 53 = .ok (.imul, 1) := by decide +kernel
theorem dX3_readMoving_54 : decode cX3_readMoving 54 = .ok (.aload_n 0, 1) := by decide +kernel
theorem dX3_readMoving_55 : decode cX3_readMoving 55 = .ok (.iload_n 2, 1) := by decide +kernel
theorem dX3_readMoving_56 : decode cX3_readMoving 56 = .ok (.iconst 5, 1) := by decide +kernel
theorem dX3_readMoving_57 : decode cX3_readMoving 57 = .ok (.iadd, 1) := by decide +kernel
theorem dX3_readMoving_58 : decode cX3_readMoving 58 = .ok (.invokevirtual 89, 3) := by decide +kernel
theorem dX3_readMoving_61 : decode cX3_readMoving 61 = .ok (.iadd, 1) := by decide +kernel
theorem dX3_readMoving_62 : decode cX3_readMoving 62 = .ok (.putfield 93, 3) := by decide +kernel
theorem dX3_readMoving_65 : decode cX3_readMoving 65 = .ok (.aload_n 1, 1) := by decide +kernel
theorem dX3_readMoving_66 : decode cX3_readMoving 66 = .ok (.aload_n 0, 1) := by decide +kernel
theorem dX3_readMoving_67 : decode cX3_readMoving 67 = .ok (.iload_n 2, 1) := by decide +kernel
theorem dX3_readMoving_68 : decode cX3_readMoving 68 = .ok (.bipush 7, 2) := by decide +kernel
theorem dX3_readMoving_70 : decode cX3_readMoving 70 = .ok (.iadd, 1) := by decide +kernel
theorem dX3_readMoving_71 : decode cX3_readMoving 71 = .ok (.invokevirtual 89, 3) := by decide +kernel
theorem dX3_readMoving_74 : decode cX3_readMoving 74 = .ok (.putfield 96, 3) := by decide +kernel
theorem dX3_readMoving_77 : decode cX3_readMoving 77 = .ok (.return_, 1) := by decide +kernel
theorem dX4_init_0 : decode cX4_init 0 = .ok (.aload_n 0, 1) := by decide +kernel
theorem dX4_init_1 : decode cX4_init 1 = .ok (.invokespecial 3, 3) := by decide +kernel
theorem dX4_init_4 : decode cX4_init 4 = .ok (.aload_n 0, 1) := by decide +kernel
theorem dX4_init_5 : decode cX4_init 5 = .ok (.new 9, 3) := by decide +kernel
theorem dX4_init_8 : decode cX4_init 8 = .ok (.dup, 1) := by decide +kernel
theorem dX4_init_9 : decode cX4_init 9 = .ok (.invokespecial 11, 3) := by decide +kernel
theorem dX4_init_12 : decode cX4_init 12 = .ok (.putfield 12, 3) := by decide +kernel
theorem dX4_init_15 : decode cX4_init 15 = .ok (.return_, 1) := by decide +kernel
theorem dX4_hasUseFor_0 : decode cX4_hasUseFor 0 = .ok (.iload_n 1, 1) := by decide +kernel
theorem dX4_hasUseFor_1 : decode cX4_hasUseFor 1 = .ok (.iconst 4, 1) := by decide +kernel
theorem dX4_hasUseFor_2 : decode cX4_hasUseFor 2 = .ok (.if_icmp .ne 5, 3) := by decide +kernel
theorem dX4_hasUseFor_5 : decode cX4_hasUseFor 5 = .ok (.iconst 1, 1) := by decide +kernel
theorem dX4_hasUseFor_6 : decode cX4_hasUseFor 6 = .ok (.ireturn, 1) := by decide +kernel
theorem dX4_hasUseFor_7 : decode cX4_hasUseFor 7 = .ok (.iload_n 1, 1) := by decide +kernel
theorem dX4_hasUseFor_8 : decode cX4_hasUseFor 8 = .ok (.iconst 3, 1) := by decide +kernel
theorem dX4_hasUseFor_9 : decode cX4_hasUseFor 9 = .ok (.if_icmp .ne 18, 3) := by decide +kernel
theorem dX4_hasUseFor_12 : decode cX4_hasUseFor 12 = .ok (.aload_n 0, 1) := by decide +kernel
theorem dX4_hasUseFor_13 : decode cX4_hasUseFor 13 = .ok (.getfield 18, 3) := by decide +kernel
theorem dX4_hasUseFor_16 : decode cX4_hasUseFor 16 = .ok (.ifCond .eq 7, 3) := by decide +kernel
theorem dX4_hasUseFor_19 : decode cX4_hasUseFor 19 = .ok (.iconst 1, 1) := by decide +kernel
theorem dX4_hasUseFor_20 : decode cX4_hasUseFor 20 = .ok (.goto 20, 3) := by decide +kernel
theorem dX4_hasUseFor_23 : decode cX4_hasUseFor 23 = .ok (.iconst 0, 1) := by decide +kernel
theorem dX4_hasUseFor_24 : decode cX4_hasUseFor 24 = .ok (.goto 16, 3) := by decide +kernel
theorem dX4_hasUseFor_27 : decode cX4_hasUseFor 27 = .ok (.aload_n 0, 1) := by decide +kernel
theorem dX4_hasUseFor_28 : decode cX4_hasUseFor 28 = .ok (.getfield 18, 3) := by decide +kernel
theorem dX4_hasUseFor_31 : decode cX4_hasUseFor 31 = .ok (.iconst 2, 1) := by decide +kernel
theorem dX4_hasUseFor_32 : decode cX4_hasUseFor 32 = .ok (.if_icmp .ne 7, 3) := by decide +kernel
theorem dX4_hasUseFor_35 : decode cX4_hasUseFor 35 = .ok (.iconst 1, 1) := by decide +kernel
theorem dX4_hasUseFor_36 : decode cX4_hasUseFor 36 = .ok (.goto 4, 3) := by decide +kernel
theorem dX4_hasUseFor_39 : decode cX4_hasUseFor 39 = .ok (.iconst 0, 1) := by decide +kernel
theorem dX4_hasUseFor_40 : decode cX4_hasUseFor 40 = .ok (.ireturn, 1) := by decide +kernel
theorem dX4_take_0 : decode cX4_take 0 = .ok (.aload_n 1, 1) := by decide +kernel
theorem dX4_take_1 : decode cX4_take 1 = .ok (.getfield 22, 3) := by decide +kernel
theorem dX4_take_4 : decode cX4_take 4 = .ok (.iconst 3, 1) := by decide +kernel
theorem dX4_take_5 : decode cX4_take 5 = .ok (.if_icmp .ge 12, 3) := by decide +kernel
theorem dX4_take_8 : decode cX4_take 8 = .ok (.aload_n 0, 1) := by decide +kernel
theorem dX4_take_9 : decode cX4_take 9 = .ok (.aload_n 1, 1) := by decide +kernel
theorem dX4_take_10 : decode cX4_take 10 = .ok (.aload_n 2, 1) := by decide +kernel
theorem dX4_take_11 : decode cX4_take 11 = .ok (.invokevirtual 27, 3) := by decide +kernel
theorem dX4_take_14 : decode cX4_take 14 = .ok (.goto 9, 3) := by decide +kernel
theorem dX4_take_17 : decode cX4_take 17 = .ok (.aload_n 0, 1) := by decide +kernel
theorem dX4_take_18 : decode cX4_take 18 = .ok (.aload_n 1, 1) := by decide +kernel
theorem dX4_take_19 : decode cX4_take 19 = .ok (.aload_n 2, 1) := by decide +kernel
theorem dX4_take_20 : decode cX4_take 20 = .ok (.invokevirtual 31, 3) := by decide +kernel
theorem dX4_take_23 : decode cX4_take 23 = .ok (.istore_n 3, 1) := by decide +kernel
theorem dX4_take_24 : decode cX4_take 24 = .ok (.iload_n 3, 1) := by decide +kernel
theorem dX4_take_25 : decode cX4_take 25 = .ok (.ifCond .ne 10, 3) := by decide +kernel
theorem dX4_take_28 : decode cX4_take 28 = .ok (.aload_n 0, 1) := by decide +kernel
theorem dX4_take_29 : decode cX4_take 29 = .ok (.invokevirtual 34, 3) := by decide +kernel
theorem dX4_take_32 : decode cX4_take 32 = .ok (.goto 11, 3) := by decide +kernel
theorem dX4_take_35 : decode cX4_take 35 = .ok (.aload_n 0, 1) := by decide +kernel
theorem dX4_take_36 : decode cX4_take 36 = .ok (.aload_n 2, 1) := by decide +kernel
theorem dX4_take_37 : decode cX4_take 37 = .ok (.getfield 37, 3) := by decide +kernel
theorem dX4_take_40 : decode cX4_take 40 = .ok (.invokevirtual 42, 3) := by decide +kernel
theorem dX4_take_43 : decode cX4_take 43 = .ok (.iload_n 3, 1) := by decide +kernel
theorem dX4_take_44 : decode cX4_take 44 = .ok (.ireturn, 1) := by decide +kernel
theorem dX4_makeMoving_0 : decode cX4_makeMoving 0 = .ok (.aload_n 0, 1) := by decide +kernel
theorem dX4_makeMoving_1 : decode cX4_makeMoving 1 = .ok (.getfield 12, 3) := by decide +kernel
theorem dX4_makeMoving_4 : decode cX4_makeMoving 4 = .ok (.getfield 46, 3) := by decide +kernel
theorem dX4_makeMoving_7 : decode cX4_makeMoving 7 = .ok (.istore_n 3, 1) := by decide +kernel
theorem dX4_makeMoving_8 : decode cX4_makeMoving 8 = .ok (.aload_n 1, 1) := by decide +kernel
theorem dX4_makeMoving_9 : decode cX4_makeMoving 9 = .ok (.getfield 22, 3) := by decide +kernel
theorem dX4_makeMoving_12 : decode cX4_makeMoving 12 = .ok (.iconst 4, 1) := by decide +kernel
theorem dX4_makeMoving_13 : decode cX4_makeMoving 13 = .ok (.if_icmp .ne 16, 3) := by decide +kernel
theorem dX4_makeMoving_16 : decode cX4_makeMoving 16 = .ok (.aload_n 1, 1) := by decide +kernel
theorem dX4_makeMoving_17 : decode cX4_makeMoving 17 = .ok (.invokevirtual 49, 3) := by decide +kernel
theorem dX4_makeMoving_20 : decode cX4_makeMoving 20 = .ok (.istore_n 3, 1) := by decide +kernel
theorem dX4_makeMoving_21 : decode cX4_makeMoving 21 = .ok (.aload_n 1, 1) := by decide +kernel
theorem dX4_makeMoving_22 : decode cX4_makeMoving 22 = .ok (.aload_n 2, 1) := by decide +kernel
theorem dX4_makeMoving_23 : decode cX4_makeMoving 23 = .ok (.invokevirtual 53, 3) := by decide +kernel
theorem dX4_makeMoving_26 : decode cX4_makeMoving 26 = .ok (.goto 25, 3) := by decide +kernel
theorem dX4_makeMoving_29 : decode cX4_makeMoving 29 = .ok (.aload_n 2, 1) := by decide +kernel
theorem dX4_makeMoving_30 : decode cX4_makeMoving 30 = .ok (.aload_n 0, 1) := by decide +kernel
theorem dX4_makeMoving_31 : decode cX4_makeMoving 31 = .ok (.getfield 12, 3) := by decide +kernel
theorem dX4_makeMoving_34 : decode cX4_makeMoving 34 = .ok (.getfield 57, 3) := by decide +kernel
theorem dX4_makeMoving_37 : decode cX4_makeMoving 37 = .ok (.putfield 60, 3) := by decide +kernel
theorem dX4_makeMoving_40 : decode cX4_makeMoving 40 = .ok (.aload_n 2, 1) := by decide +kernel
theorem dX4_makeMoving_41 : decode cX4_makeMoving 41 = .ok (.aload_n 0, 1) := by decide +kernel
theorem dX4_makeMoving_42 : decode cX4_makeMoving 42 = .ok (.getfield 12, 3) := by decide +kernel
theorem dX4_makeMoving_45 : decode cX4_makeMoving 45 = .ok (.getfield 61, 3) := by decide +kernel
theorem dX4_makeMoving_48 : decode cX4_makeMoving 48 = .ok (.putfield 64, 3) := by decide +kernel
theorem dX4_makeMoving_51 : decode cX4_makeMoving 51 = .ok (.aload_n 1, 1) := by decide +kernel
theorem dX4_makeMoving_52 : decode cX4_makeMoving 52 = .ok (.aload_n 2, 1) := by decide +kernel
theorem dX4_makeMoving_53 : decode cX4_makeMoving 53 = .ok (.invokevirtual 65, 3) := by decide +kernel
theorem dX4_makeMoving_56 : decode cX4_makeMoving 56 = .ok (.aload_n 2, 1) := by decide +kernel
theorem dX4_makeMoving_57 : decode cX4_makeMoving 57 = .ok (.aload_n 1, 1) := by decide +kernel
theorem dX4_makeMoving_58 : decode cX4_makeMoving 58 = .ok (.getfield 22, 3) := by decide +kernel
theorem dX4_makeMoving_61 : decode cX4_makeMoving 61 = .ok (.iload_n 3, 1) := by decide +kernel
theorem dX4_makeMoving_62 : decode cX4_makeMoving 62 = .ok (.invokevirtual 68, 3) := by decide +kernel
theorem dX4_makeMoving_65 : decode cX4_makeMoving 65 = .ok (.aload_n 1, 1) := by decide +kernel
theorem dX4_makeMoving_66 : decode cX4_makeMoving 66 = .ok (.invokevirtual 72, 3) := by decide +kernel
theorem dX4_makeMoving_69 : decode cX4_makeMoving 69 = .ok (.if_icmp .eq 5, 3) := by decide +kernel
theorem dX4_makeMoving_72 : decode cX4_makeMoving 72 = .ok (.iconst 0, 1) := by decide +kernel
theorem dX4_makeMoving_73 : decode cX4_makeMoving 73 = .ok (.ireturn, 1) := by decide +kernel
theorem dX4_makeMoving_74 : decode cX4_makeMoving 74 = .ok (.aload_n 0, 1) := by decide +kernel
theorem dX4_makeMoving_75 : decode cX4_makeMoving 75 = .ok (.getfield 12, 3) := by decide +kernel
theorem dX4_makeMoving_78 : decode cX4_makeMoving 78 = .ok (.aload_n 2, 1) := by decide +kernel
theorem dX4_makeMoving_79 : decode cX4_makeMoving 79 = .ok (.iload_n 3, 1) := by decide +kernel
theorem dX4_makeMoving_80 : decode cX4_makeMoving 80 = .ok (.invokevirtual 75, 3) := by decide +kernel
theorem dX4_makeMoving_83 : decode cX4_makeMoving 83 = .ok (.iconst 1, 1) := by decide +kernel
theorem dX4_makeMoving_84 : decode cX4_makeMoving 84 = .ok (.ireturn, 1) := by decide +kernel
theorem dX4_makeSmall_0 : decode cX4_makeSmall 0 = .ok (.aload_n 0, 1) := by decide +kernel
theorem dX4_makeSmall_1 : decode cX4_makeSmall 1 = .ok (.getfield 79, 3) := by decide +kernel
theorem dX4_makeSmall_4 : decode cX4_makeSmall 4 = .ok (.aload_n 1, 1) := by decide +kernel
theorem dX4_makeSmall_5 : decode cX4_makeSmall 5 = .ok (.invokestatic 82, 3) := by decide +kernel
theorem dX4_makeSmall_8 : decode cX4_makeSmall 8 = .ok (.istore_n 3, 1) := by decide +kernel
theorem dX4_makeSmall_9 : decode cX4_makeSmall 9 = .ok (.aload_n 0, 1) := by decide +kernel
theorem dX4_makeSmall_10 : decode cX4_makeSmall 10 = .ok (.aload_n 1, 1) := by decide +kernel
theorem dX4_makeSmall_11 : decode cX4_makeSmall 11 = .ok (.aload_n 2, 1) := by decide +kernel
theorem dX4_makeSmall_12 : decode cX4_makeSmall 12 = .ok (.iload_n 3, 1) := by decide +kernel
theorem dX4_makeSmall_13 : decode cX4_makeSmall 13 = .ok (.invokevirtual 86, 3) := by decide +kernel
theorem dX4_makeSmall_16 : decode cX4_makeSmall 16 = .ok (.ifCond .eq 5, 3) := by decide +kernel
theorem dX4_makeSmall_19 : decode cX4_makeSmall 19 = .ok (.iconst 1, 1) := by decide +kernel
theorem dX4_makeSmall_20 : decode cX4_makeSmall 20 = .ok (.ireturn, 1) := by decide +kernel
theorem dX4_makeSmall_21 : decode cX4_makeSmall 21 = .ok (.iload_n 3, 1) := by decide +kernel
theorem dX4_makeSmall_22 : decode cX4_makeSmall 22 = .ok (.getstatic 90, 3) := by decide +kernel
theorem dX4_makeSmall_25 : decode cX4_makeSmall 25 = .ok (.aload_n 1, 1) := by decide +kernel
theorem dX4_makeSmall_26 : decode cX4_makeSmall 26 = .ok (.getfield 22, 3) := by decide +kernel
theorem dX4_makeSmall_29 : decode cX4_makeSmall 29 = .ok (.iaload, 1) := by decide +kernel
theorem dX4_makeSmall_30 : decode cX4_makeSmall 30 = .ok (.iadd, 1) := by decide +kernel
theorem dX4_makeSmall_31 : decode cX4_makeSmall 31 = .ok (.iconst 1, 1) := by decide +kernel
theorem dX4_makeSmall_32 : decode cX4_makeSmall 32 = .ok (.iadd, 1) := by decide +kernel
theorem dX4_makeSmall_33 : decode cX4_makeSmall 33 = .ok (.ldc 94, 2) := by decide +kernel
theorem dX4_makeSmall_35 : decode cX4_makeSmall 35 = .ok (.iand, 1) := by decide +kernel
theorem dX4_makeSmall_36 : decode cX4_makeSmall 36 = .ok (.istore 4, 2) := by decide +kernel
theorem dX4_makeSmall_38 : decode cX4_makeSmall 38 = .ok (.aload_n 0, 1) := by decide +kernel
theorem dX4_makeSmall_39 : decode cX4_makeSmall 39 = .ok (.aload_n 1, 1) := by decide +kernel
theorem dX4_makeSmall_40 : decode cX4_makeSmall 40 = .ok (.aload_n 2, 1) := by decide +kernel
theorem dX4_makeSmall_41 : decode cX4_makeSmall 41 = .ok (.iload 4, 2) := by decide +kernel
theorem dX4_makeSmall_43 : decode cX4_makeSmall 43 = .ok (.invokevirtual 86, 3) := by decide +kernel
theorem dX4_makeSmall_46 : decode cX4_makeSmall 46 = .ok (.ifCond .ne 20, 3) := by decide +kernel
theorem dX4_makeSmall_49 : decode cX4_makeSmall 49 = .ok (.aload_n 0, 1) := by decide +kernel
theorem dX4_makeSmall_50 : decode cX4_makeSmall 50 = .ok (.aload_n 1, 1) := by decide +kernel
theorem dX4_makeSmall_51 : decode cX4_makeSmall 51 = .ok (.aload_n 2, 1) := by decide +kernel
theorem dX4_makeSmall_52 : decode cX4_makeSmall 52 = .ok (.aload_n 0, 1) := by decide +kernel
theorem dX4_makeSmall_53 : decode cX4_makeSmall 53 = .ok (.getfield 95, 3) := by decide +kernel
theorem dX4_makeSmall_56 : decode cX4_makeSmall 56 = .ok (.aload_n 1, 1) := by decide +kernel
theorem dX4_makeSmall_57 : decode cX4_makeSmall 57 = .ok (.invokestatic 82, 3) := by decide +kernel
theorem dX4_makeSmall_60 : decode cX4_makeSmall 60 = .ok (.invokevirtual 86, 3) := by decide +kernel
theorem dX4_makeSmall_63 : decode cX4_makeSmall 63 = .ok (.ifCond .eq 7, 3) := by decide +kernel
theorem dX4_makeSmall_66 : decode cX4_makeSmall 66 = .ok (.iconst 1, 1) := by decide +kernel
theorem dX4_makeSmall_67 : decode cX4_makeSmall 67 = .ok (.goto 4, 3) := by decide +kernel
theorem dX4_makeSmall_70 : decode cX4_makeSmall 70 = .ok (.iconst 0, 1) := by decide +kernel
theorem dX4_makeSmall_71 : decode cX4_makeSmall 71 = .ok (.istore 5, 2) := by decide +kernel
theorem dX4_makeSmall_73 : decode cX4_makeSmall 73 = .ok (.iload 5, 2) := by decide +kernel
theorem dX4_makeSmall_75 : decode cX4_makeSmall 75 = .ok (.ifCond .eq 7, 3) := by decide +kernel
theorem dX4_makeSmall_78 : decode cX4_makeSmall 78 = .ok (.iconst 2, 1) := by decide +kernel
theorem dX4_makeSmall_79 : decode cX4_makeSmall 79 = .ok (.goto 4, 3) := by decide +kernel
theorem dX4_makeSmall_82 : decode cX4_makeSmall 82 = .ok (.iconst 0, 1) := by decide +kernel
theorem dX4_makeSmall_83 : decode cX4_makeSmall 83 = .ok (.ireturn, 1) := by decide +kernel
theorem dX4_numberNear_0 : decode cX4_numberNear 0 = .ok (.iload_n 0, 1) := by decide +kernel
theorem dX4_numberNear_1 : decode cX4_numberNear 1 = .ok (.getstatic 98, 3) := by decide +kernel
theorem dX4_numberNear_4 : decode cX4_numberNear 4 = .ok (.aload_n 1, 1) := by decide +kernel
theorem dX4_numberNear_5 : decode cX4_numberNear 5 = .ok (.getfield 22, 3) := by decide +kernel
theorem dX4_numberNear_8 : decode cX4_numberNear 8 = .ok (.iaload, 1) := by decide +kernel
theorem dX4_numberNear_9 : decode cX4_numberNear 9 = .ok (.isub, 1) := by decide +kernel
theorem dX4_numberNear_10 : decode cX4_numberNear 10 = .ok (.istore_n 2, 1) := by decide +kernel
theorem dX4_numberNear_11 : decode cX4_numberNear 11 = .ok (.aload_n 1, 1) := by decide +kernel
theorem dX4_numberNear_12 : decode cX4_numberNear 12 = .ok (.invokevirtual 101, 3) := by decide +kernel
theorem dX4_numberNear_15 : decode cX4_numberNear 15 = .ok (.iload_n 2, 1) := by decide +kernel
theorem dX4_numberNear_16 : decode cX4_numberNear 16 = .ok (.isub, 1) := by decide +kernel
theorem dX4_numberNear_17 : decode cX4_numberNear 17 = .ok (.getstatic 90, 3) := by decide +kernel
theorem dX4_numberNear_20 : decode cX4_numberNear 20 = .ok (.aload_n 1, 1) := by decide +kernel
theorem dX4_numberNear_21 : decode cX4_numberNear 21 = .ok (.getfield 22, 3) := by decide +kernel
theorem dX4_numberNear_24 : decode cX4_numberNear 24 = .ok (.iaload, 1) := by decide +kernel
theorem dX4_numberNear_25 : decode cX4_numberNear 25 = .ok (.iand, 1) := by decide +kernel
theorem dX4_numberNear_26 : decode cX4_numberNear 26 = .ok (.istore_n 3, 1) := by decide +kernel
theorem dX4_numberNear_27 : decode cX4_numberNear 27 = .ok (.iload_n 2, 1) := by decide +kernel
theorem dX4_numberNear_28 : decode cX4_numberNear 28 = .ok (.iload_n 3, 1) := by decide +kernel
theorem dX4_numberNear_29 : decode cX4_numberNear 29 = .ok (.iadd, 1) := by decide +kernel
theorem dX4_numberNear_30 : decode cX4_numberNear 30 = .ok (.ldc 94, 2) := by decide +kernel
theorem dX4_numberNear_32 : decode cX4_numberNear 32 = .ok (.iand, 1) := by decide +kernel
theorem dX4_numberNear_33 : decode cX4_numberNear 33 = .ok (.ireturn, 1) := by decide +kernel
theorem dX4_fits_0 : decode cX4_fits 0 = .ok (.aload_n 0, 1) := by decide +kernel
theorem dX4_fits_1 : decode cX4_fits 1 = .ok (.getfield 12, 3) := by decide +kernel
theorem dX4_fits_4 : decode cX4_fits 4 = .ok (.aload_n 2, 1) := by decide +kernel
theorem dX4_fits_5 : decode cX4_fits 5 = .ok (.iload_n 3, 1) := by decide +kernel
theorem dX4_fits_6 : decode cX4_fits 6 = .ok (.invokevirtual 104, 3) := by decide +kernel
theorem dX4_fits_9 : decode cX4_fits 9 = .ok (.aload_n 2, 1) := by decide +kernel
theorem dX4_fits_10 : decode cX4_fits 10 = .ok (.aload_n 1, 1) := by decide +kernel
theorem dX4_fits_11 : decode cX4_fits 11 = .ok (.invokevirtual 107, 3) := by decide +kernel
theorem dX4_fits_14 : decode cX4_fits 14 = .ok (.putfield 111, 3) := by decide +kernel
theorem dX4_fits_17 : decode cX4_fits 17 = .ok (.aload_n 2, 1) := by decide +kernel
theorem dX4_fits_18 : decode cX4_fits 18 = .ok (.aload_n 1, 1) := by decide +kernel
theorem dX4_fits_19 : decode cX4_fits 19 = .ok (.getfield 22, 3) := by decide +kernel
theorem dX4_fits_22 : decode cX4_fits 22 = .ok (.aload_n 0, 1) := by decide +kernel
theorem dX4_fits_23 : decode cX4_fits 23 = .ok (.getfield 12, 3) := by decide +kernel
theorem dX4_fits_26 : decode cX4_fits 26 = .ok (.getfield 46, 3) := by decide +kernel
theorem dX4_fits_29 : decode cX4_fits 29 = .ok (.invokevirtual 68, 3) := by decide +kernel
theorem dX4_fits_32 : decode cX4_fits 32 = .ok (.aload_n 1, 1) := by decide +kernel
theorem dX4_fits_33 : decode cX4_fits 33 = .ok (.invokevirtual 72, 3) := by decide +kernel
theorem dX4_fits_36 : decode cX4_fits 36 = .ok (.if_icmp .ne 7, 3) := by decide +kernel
theorem dX4_fits_39 : decode cX4_fits 39 = .ok (.iconst 1, 1) := by decide +kernel
theorem dX4_fits_40 : decode cX4_fits 40 = .ok (.goto 4, 3) := by decide +kernel
theorem dX4_fits_43 : decode cX4_fits 43 = .ok (.iconst 0, 1) := by decide +kernel
theorem dX4_fits_44 : decode cX4_fits 44 = .ok (.ireturn, 1) := by decide +kernel
theorem dX4_noteMade_0 : decode cX4_noteMade 0 = .ok (.aload_n 0, 1) := by decide +kernel
theorem dX4_noteMade_1 : decode cX4_noteMade 1 = .ok (.aload_n 0, 1) := by decide +kernel
theorem dX4_noteMade_2 : decode cX4_noteMade 2 = .ok (.getfield 18, 3) := by decide +kernel
theorem dX4_noteMade_5 : decode cX4_noteMade 5 = .ok (.ifCond .ne 7, 3) := by decide +kernel
theorem dX4_noteMade_8 : decode cX4_noteMade 8 = .ok (.iload_n 1, 1) := by decide +kernel
theorem dX4_noteMade_9 : decode cX4_noteMade 9 = .ok (.goto 7, 3) := by decide +kernel
theorem dX4_noteMade_12 : decode cX4_noteMade 12 = .ok (.aload_n 0, 1) := by decide +kernel
theorem dX4_noteMade_13 : decode cX4_noteMade 13 = .ok (.getfield 79, 3) := by decide +kernel
theorem dX4_noteMade_16 : decode cX4_noteMade 16 = .ok (.putfield 95, 3) := by decide +kernel
theorem dX4_noteMade_19 : decode cX4_noteMade 19 = .ok (.aload_n 0, 1) := by decide +kernel
theorem dX4_noteMade_20 : decode cX4_noteMade 20 = .ok (.iload_n 1, 1) := by decide +kernel
theorem dX4_noteMade_21 : decode cX4_noteMade 21 = .ok (.putfield 79, 3) := by decide +kernel
theorem dX4_noteMade_24 : decode cX4_noteMade 24 = .ok (.aload_n 0, 1) := by decide +kernel
theorem dX4_noteMade_25 : decode cX4_noteMade 25 = .ok (.iconst 2, 1) := by decide +kernel
theorem dX4_noteMade_26 : decode cX4_noteMade 26 = .ok (.putfield 18, 3) := by decide +kernel
theorem dX4_noteMade_29 : decode cX4_noteMade 29 = .ok (.aload_n 0, 1) := by decide +kernel
theorem dX4_noteMade_30 : decode cX4_noteMade 30 = .ok (.iconst 0, 1) := by decide +kernel
theorem dX4_noteMade_31 : decode cX4_noteMade 31 = .ok (.putfield 115, 3) := by decide +kernel
theorem dX4_noteMade_34 : decode cX4_noteMade 34 = .ok (.return_, 1) := by decide +kernel
end
section
theorem dX4_noteFailure_0 : decode cX4_noteFailure 0 = .ok (.aload_n 0, 1) := by decide +kernel
theorem dX4_noteFailure_1 : decode cX4_noteFailure 1 = .ok (.dup, 1) := by decide +kernel
theorem dX4_noteFailure_2 : decode cX4_noteFailure 2 = .ok (.getfield 115, 3) := by decide +kernel
theorem dX4_noteFailure_5 : decode cX4_noteFailure 5 = .ok (.iconst 1, 1) := by decide +kernel
theorem dX4_noteFailure_6 : decode cX4_noteFailure 6 = .ok (.iadd, 1) := by decide +kernel
theorem dX4_noteFailure_7 : decode cX4_noteFailure 7 = .ok (.putfield 115, 3) := by decide +kernel
theorem dX4_noteFailure_10 : decode cX4_noteFailure 10 = .ok (.aload_n 0, 1) := by decide +kernel
theorem dX4_noteFailure_11 : decode cX4_noteFailure 11 = .ok (.getfield 115, 3) := by decide +kernel
theorem dX4_noteFailure_14 : decode cX4_noteFailure 14 = .ok (.iconst 3, 1) := by decide +kernel
theorem dX4_noteFailure_15 : decode cX4_noteFailure 15 = .ok (.if_icmp .ne 22, 3) := by decide +kernel
theorem dX4_noteFailure_18 : decode cX4_noteFailure 18 = .ok (.aload_n 0, 1) := by decide +kernel
theorem dX4_noteFailure_19 : decode cX4_noteFailure 19 = .ok (.iconst 0, 1) := by decide +kernel
theorem dX4_noteFailure_20 : decode cX4_noteFailure 20 = .ok (.putfield 115, 3) := by decide +kernel
theorem dX4_noteFailure_23 : decode cX4_noteFailure 23 = .ok (.aload_n 0, 1) := by decide +kernel
theorem dX4_noteFailure_24 : decode cX4_noteFailure 24 = .ok (.aload_n 0, 1) := by decide +kernel
theorem dX4_noteFailure_25 : decode cX4_noteFailure 25 = .ok (.getfield 18, 3) := by decide +kernel
theorem dX4_noteFailure_28 : decode cX4_noteFailure 28 = .ok (.iconst 1, 1) := by decide +kernel
theorem dX4_noteFailure_29 : decode cX4_noteFailure 29 = .ok (.isub, 1) := by decide +kernel
theorem dX4_noteFailure_30 : decode cX4_noteFailure 30 = .ok (.iconst 0, 1) := by decide +kernel
theorem dX4_noteFailure_31 : decode cX4_noteFailure 31 = .ok (.invokestatic 118, 3) := by decide +kernel
theorem dX4_noteFailure_34 : decode cX4_noteFailure 34 = .ok (.putfield 18, 3) := by decide +kernel
theorem dX4_noteFailure_37 : decode cX4_noteFailure 37 = .ok (.return_, 1) := by decide +kernel
theorem dX5_init_0 : decode cX5_init 0 = .ok (.aload_n 0, 1) := by decide +kernel
theorem dX5_init_1 : decode cX5_init 1 = .ok (.invokespecial 3, 3) := by decide +kernel
theorem dX5_init_4 : decode cX5_init 4 = .ok (.aload_n 0, 1) := by decide +kernel
theorem dX5_init_5 : decode cX5_init 5 = .ok (.new 9, 3) := by decide +kernel
theorem dX5_init_8 : decode cX5_init 8 = .ok (.dup, 1) := by decide +kernel
theorem dX5_init_9 : decode cX5_init 9 = .ok (.invokespecial 11, 3) := by decide +kernel
theorem dX5_init_12 : decode cX5_init 12 = .ok (.putfield 12, 3) := by decide +kernel
theorem dX5_init_15 : decode cX5_init 15 = .ok (.aload_n 0, 1) := by decide +kernel
theorem dX5_init_16 : decode cX5_init 16 = .ok (.iconst 4, 1) := by decide +kernel
theorem dX5_init_17 : decode cX5_init 17 = .ok (.newarray .int, 2) := by decide +kernel
theorem dX5_init_19 : decode cX5_init 19 = .ok (.putfield 18, 3) := by decide +kernel
theorem dX5_init_22 : decode cX5_init 22 = .ok (.return_, 1) := by decide +kernel
theorem dX5_chooseKind_0 : decode cX5_chooseKind 0 = .ok (.aload_n 0, 1) := by decide +kernel
theorem dX5_chooseKind_1 : decode cX5_chooseKind 1 = .ok (.getfield 22, 3) := by decide +kernel
theorem dX5_chooseKind_4 : decode cX5_chooseKind 4 = .ok (.ifCond .eq 37, 3) := by decide +kernel
theorem dX5_chooseKind_7 : decode cX5_chooseKind 7 = .ok (.aload_n 0, 1) := by decide +kernel
theorem dX5_chooseKind_8 : decode cX5_chooseKind 8 = .ok (.getfield 12, 3) := by decide +kernel
theorem dX5_chooseKind_11 : decode cX5_chooseKind 11 = .ok (.aload_n 1, 1) := by decide +kernel
theorem dX5_chooseKind_12 : decode cX5_chooseKind 12 = .ok (.invokevirtual 26, 3) := by decide +kernel
theorem dX5_chooseKind_15 : decode cX5_chooseKind 15 = .ok (.ifCond .eq 26, 3) := by decide +kernel
theorem dX5_chooseKind_18 : decode cX5_chooseKind 18 = .ok (.aload_n 0, 1) := by decide +kernel
theorem dX5_chooseKind_19 : decode cX5_chooseKind 19 = .ok (.getfield 12, 3) := by decide +kernel
theorem dX5_chooseKind_22 : decode cX5_chooseKind 22 = .ok (.getfield 30, 3) := by decide +kernel
theorem dX5_chooseKind_25 : decode cX5_chooseKind 25 = .ok (.aload_n 0, 1) := by decide +kernel
theorem dX5_chooseKind_26 : decode cX5_chooseKind 26 = .ok (.getfield 34, 3) := by decide +kernel
theorem dX5_chooseKind_29 : decode cX5_chooseKind 29 = .ok (.if_icmp .ne 12, 3) := by decide +kernel
theorem dX5_chooseKind_32 : decode cX5_chooseKind 32 = .ok (.aload_n 0, 1) := by decide +kernel
theorem dX5_chooseKind_33 : decode cX5_chooseKind 33 = .ok (.getfield 37, 3) := by decide +kernel
theorem dX5_chooseKind_36 : decode cX5_chooseKind 36 = .ok (.bipush 20, 2) := by decide +kernel
theorem dX5_chooseKind_38 : decode cX5_chooseKind 38 = .ok (.if_icmp .ne 11, 3) := by decide +kernel
theorem dX5_chooseKind_41 : decode cX5_chooseKind 41 = .ok (.aload_n 0, 1) := by decide +kernel
theorem dX5_chooseKind_42 : decode cX5_chooseKind 42 = .ok (.iconst 0, 1) := by decide +kernel
theorem dX5_chooseKind_43 : decode cX5_chooseKind 43 = .ok (.invokevirtual 40, 3) := by decide +kernel
theorem dX5_chooseKind_46 : decode cX5_chooseKind 46 = .ok (.goto 30, 3) := by decide +kernel
theorem dX5_chooseKind_49 : decode cX5_chooseKind 49 = .ok (.aload_n 0, 1) := by decide +kernel
theorem dX5_chooseKind_50 : decode cX5_chooseKind 50 = .ok (.getfield 12, 3) := by decide +kernel
theorem dX5_chooseKind_53 : decode cX5_chooseKind 53 = .ok (.aload_n 1, 1) := by decide +kernel
theorem dX5_chooseKind_54 : decode cX5_chooseKind 54 = .ok (.invokevirtual 44, 3) := by decide +kernel
theorem dX5_chooseKind_57 : decode cX5_chooseKind 57 = .ok (.ifCond .ne 19, 3) := by decide +kernel
theorem dX5_chooseKind_60 : decode cX5_chooseKind 60 = .ok (.aload_n 0, 1) := by decide +kernel
theorem dX5_chooseKind_61 : decode cX5_chooseKind 61 = .ok (.aload_n 0, 1) := by decide +kernel
theorem dX5_chooseKind_62 : decode cX5_chooseKind 62 = .ok (.getfield 47, 3) := by decide +kernel
theorem dX5_chooseKind_65 : decode cX5_chooseKind 65 = .ok (.ifCond .ne 7, 3) := by decide +kernel
theorem dX5_chooseKind_68 : decode cX5_chooseKind 68 = .ok (.iconst 0, 1) := by decide +kernel
theorem dX5_chooseKind_69 : decode cX5_chooseKind 69 = .ok (.goto 4, 3) := by decide +kernel
theorem dX5_chooseKind_72 : decode cX5_chooseKind 72 = .ok (.iconst 1, 1) := by decide +kernel
theorem dX5_chooseKind_73 : decode cX5_chooseKind 73 = .ok (.invokevirtual 40, 3) := by decide +kernel
theorem dX5_chooseKind_76 : decode cX5_chooseKind 76 = .ok (.aload_n 0, 1) := by decide +kernel
theorem dX5_chooseKind_77 : decode cX5_chooseKind 77 = .ok (.getfield 12, 3) := by decide +kernel
theorem dX5_chooseKind_80 : decode cX5_chooseKind 80 = .ok (.aload_n 1, 1) := by decide +kernel
theorem dX5_chooseKind_81 : decode cX5_chooseKind 81 = .ok (.aload_n 0, 1) := by decide +kernel
theorem dX5_chooseKind_82 : decode cX5_chooseKind 82 = .ok (.getfield 34, 3) := by decide +kernel
theorem dX5_chooseKind_85 : decode cX5_chooseKind 85 = .ok (.invokevirtual 50, 3) := by decide +kernel
theorem dX5_chooseKind_88 : decode cX5_chooseKind 88 = .ok (.aload_n 0, 1) := by decide +kernel
theorem dX5_chooseKind_89 : decode cX5_chooseKind 89 = .ok (.iconst 1, 1) := by decide +kernel
theorem dX5_chooseKind_90 : decode cX5_chooseKind 90 = .ok (.putfield 22, 3) := by decide +kernel
theorem dX5_chooseKind_93 : decode cX5_chooseKind 93 = .ok (.aload_n 0, 1) := by decide +kernel
theorem dX5_chooseKind_94 : decode cX5_chooseKind 94 = .ok (.getfield 47, 3) := by decide +kernel
theorem dX5_chooseKind_97 : decode cX5_chooseKind 97 = .ok (.lookupswitch 31 #[(0, 27), (1, 29)], 27) := by decide +kernel
theorem dX5_chooseKind_124 : decode cX5_chooseKind 124 = .ok (.iconst 4, 1) := by decide +kernel
theorem dX5_chooseKind_125 : decode cX5_chooseKind 125 = .ok (.ireturn, 1) := by decide +kernel
theorem dX5_chooseKind_126 : decode cX5_chooseKind 126 = .ok (.iconst 3, 1) := by decide +kernel
theorem dX5_chooseKind_127 : decode cX5_chooseKind 127 = .ok (.ireturn, 1) := by decide +kernel
theorem dX5_chooseKind_128 : decode cX5_chooseKind 128 = .ok (.aload_n 0, 1) := by decide +kernel
theorem dX5_chooseKind_129 : decode cX5_chooseKind 129 = .ok (.aload_n 1, 1) := by decide +kernel
theorem dX5_chooseKind_130 : decode cX5_chooseKind 130 = .ok (.invokevirtual 54, 3) := by decide +kernel
theorem dX5_chooseKind_133 : decode cX5_chooseKind 133 = .ok (.ireturn, 1) := by decide +kernel
theorem dX5_noteSent_0 : decode cX5_noteSent 0 = .ok (.aload_n 0, 1) := by decide +kernel
theorem dX5_noteSent_1 : decode cX5_noteSent 1 = .ok (.iload_n 1, 1) := by decide +kernel
theorem dX5_noteSent_2 : decode cX5_noteSent 2 = .ok (.iconst 4, 1) := by decide +kernel
theorem dX5_noteSent_3 : decode cX5_noteSent 3 = .ok (.if_icmp .ne 7, 3) := by decide +kernel
theorem dX5_noteSent_6 : decode cX5_noteSent 6 = .ok (.iconst 0, 1) := by decide +kernel
theorem dX5_noteSent_7 : decode cX5_noteSent 7 = .ok (.goto 9, 3) := by decide +kernel
theorem dX5_noteSent_10 : decode cX5_noteSent 10 = .ok (.aload_n 0, 1) := by decide +kernel
theorem dX5_noteSent_11 : decode cX5_noteSent 11 = .ok (.getfield 37, 3) := by decide +kernel
theorem dX5_noteSent_14 : decode cX5_noteSent 14 = .ok (.iconst 1, 1) := by decide +kernel
theorem dX5_noteSent_15 : decode cX5_noteSent 15 = .ok (.iadd, 1) := by decide +kernel
theorem dX5_noteSent_16 : decode cX5_noteSent 16 = .ok (.putfield 37, 3) := by decide +kernel
theorem dX5_noteSent_19 : decode cX5_noteSent 19 = .ok (.aload_n 0, 1) := by decide +kernel
theorem dX5_noteSent_20 : decode cX5_noteSent 20 = .ok (.getfield 18, 3) := by decide +kernel
theorem dX5_noteSent_23 : decode cX5_noteSent 23 = .ok (.aload_n 0, 1) := by decide +kernel
theorem dX5_noteSent_24 : decode cX5_noteSent 24 = .ok (.getfield 58, 3) := by decide +kernel
theorem dX5_noteSent_27 : decode cX5_noteSent 27 = .ok (.iconst 3, 1) := by decide +kernel
theorem dX5_noteSent_28 : decode cX5_noteSent 28 = .ok (.iand, 1) := by decide +kernel
theorem dX5_noteSent_29 : decode cX5_noteSent 29 = .ok (.iload_n 2, 1) := by decide +kernel
theorem dX5_noteSent_30 : decode cX5_noteSent 30 = .ok (.iastore, 1) := by decide +kernel
theorem dX5_noteSent_31 : decode cX5_noteSent 31 = .ok (.aload_n 0, 1) := by decide +kernel
theorem dX5_noteSent_32 : decode cX5_noteSent 32 = .ok (.dup, 1) := by decide +kernel
theorem dX5_noteSent_33 : decode cX5_noteSent 33 = .ok (.getfield 58, 3) := by decide +kernel
theorem dX5_noteSent_36 : decode cX5_noteSent 36 = .ok (.iconst 1, 1) := by decide +kernel
theorem dX5_noteSent_37 : decode cX5_noteSent 37 = .ok (.iadd, 1) := by decide +kernel
theorem dX5_noteSent_38 : decode cX5_noteSent 38 = .ok (.putfield 58, 3) := by decide +kernel
theorem dX5_noteSent_41 : decode cX5_noteSent 41 = .ok (.aload_n 0, 1) := by decide +kernel
theorem dX5_noteSent_42 : decode cX5_noteSent 42 = .ok (.dup, 1) := by decide +kernel
theorem dX5_noteSent_43 : decode cX5_noteSent 43 = .ok (.getfield 61, 3) := by decide +kernel
theorem dX5_noteSent_46 : decode cX5_noteSent 46 = .ok (.iconst 1, 1) := by decide +kernel
theorem dX5_noteSent_47 : decode cX5_noteSent 47 = .ok (.iadd, 1) := by decide +kernel
theorem dX5_noteSent_48 : decode cX5_noteSent 48 = .ok (.putfield 61, 3) := by decide +kernel
theorem dX5_noteSent_51 : decode cX5_noteSent 51 = .ok (.aload_n 0, 1) := by decide +kernel
theorem dX5_noteSent_52 : decode cX5_noteSent 52 = .ok (.getfield 47, 3) := by decide +kernel
theorem dX5_noteSent_55 : decode cX5_noteSent 55 = .ok (.iconst 2, 1) := by decide +kernel
theorem dX5_noteSent_56 : decode cX5_noteSent 56 = .ok (.if_icmp .eq 16, 3) := by decide +kernel
theorem dX5_noteSent_59 : decode cX5_noteSent 59 = .ok (.aload_n 0, 1) := by decide +kernel
theorem dX5_noteSent_60 : decode cX5_noteSent 60 = .ok (.getfield 61, 3) := by decide +kernel
theorem dX5_noteSent_63 : decode cX5_noteSent 63 = .ok (.iconst 3, 1) := by decide +kernel
theorem dX5_noteSent_64 : decode cX5_noteSent 64 = .ok (.if_icmp .ne 8, 3) := by decide +kernel
theorem dX5_noteSent_67 : decode cX5_noteSent 67 = .ok (.aload_n 0, 1) := by decide +kernel
theorem dX5_noteSent_68 : decode cX5_noteSent 68 = .ok (.iconst 2, 1) := by decide +kernel
theorem dX5_noteSent_69 : decode cX5_noteSent 69 = .ok (.invokevirtual 40, 3) := by decide +kernel
theorem dX5_noteSent_72 : decode cX5_noteSent 72 = .ok (.return_, 1) := by decide +kernel
theorem dX5_enter_0 : decode cX5_enter 0 = .ok (.aload_n 0, 1) := by decide +kernel
theorem dX5_enter_1 : decode cX5_enter 1 = .ok (.iload_n 1, 1) := by decide +kernel
theorem dX5_enter_2 : decode cX5_enter 2 = .ok (.putfield 47, 3) := by decide +kernel
theorem dX5_enter_5 : decode cX5_enter 5 = .ok (.aload_n 0, 1) := by decide +kernel
theorem dX5_enter_6 : decode cX5_enter 6 = .ok (.iconst 0, 1) := by decide +kernel
theorem dX5_enter_7 : decode cX5_enter 7 = .ok (.putfield 61, 3) := by decide +kernel
theorem dX5_enter_10 : decode cX5_enter 10 = .ok (.return_, 1) := by decide +kernel
theorem dX5_smallestKind_0 : decode cX5_smallestKind 0 = .ok (.aload_n 1, 1) := by decide +kernel
theorem dX5_smallestKind_1 : decode cX5_smallestKind 1 = .ok (.getfield 64, 3) := by decide +kernel
theorem dX5_smallestKind_4 : decode cX5_smallestKind 4 = .ok (.ifCond .ne 17, 3) := by decide +kernel
theorem dX5_smallestKind_7 : decode cX5_smallestKind 7 = .ok (.aload_n 0, 1) := by decide +kernel
theorem dX5_smallestKind_8 : decode cX5_smallestKind 8 = .ok (.iconst 0, 1) := by decide +kernel
theorem dX5_smallestKind_9 : decode cX5_smallestKind 9 = .ok (.aload_n 1, 1) := by decide +kernel
theorem dX5_smallestKind_10 : decode cX5_smallestKind 10 = .ok (.getfield 69, 3) := by decide +kernel
theorem dX5_smallestKind_13 : decode cX5_smallestKind 13 = .ok (.invokevirtual 72, 3) := by decide +kernel
theorem dX5_smallestKind_16 : decode cX5_smallestKind 16 = .ok (.ifCond .eq 5, 3) := by decide +kernel
theorem dX5_smallestKind_19 : decode cX5_smallestKind 19 = .ok (.iconst 0, 1) := by decide +kernel
theorem dX5_smallestKind_20 : decode cX5_smallestKind 20 = .ok (.ireturn, 1) := by decide +kernel
theorem dX5_smallestKind_21 : decode cX5_smallestKind 21 = .ok (.aload_n 0, 1) := by decide +kernel
theorem dX5_smallestKind_22 : decode cX5_smallestKind 22 = .ok (.iconst 1, 1) := by decide +kernel
theorem dX5_smallestKind_23 : decode cX5_smallestKind 23 = .ok (.aload_n 1, 1) := by decide +kernel
theorem dX5_smallestKind_24 : decode cX5_smallestKind 24 = .ok (.getfield 69, 3) := by decide +kernel
theorem dX5_smallestKind_27 : decode cX5_smallestKind 27 = .ok (.invokevirtual 72, 3) := by decide +kernel
theorem dX5_smallestKind_30 : decode cX5_smallestKind 30 = .ok (.ifCond .eq 5, 3) := by decide +kernel
theorem dX5_smallestKind_33 : decode cX5_smallestKind 33 = .ok (.iconst 1, 1) := by decide +kernel
theorem dX5_smallestKind_34 : decode cX5_smallestKind 34 = .ok (.ireturn, 1) := by decide +kernel
theorem dX5_smallestKind_35 : decode cX5_smallestKind 35 = .ok (.aload_n 0, 1) := by decide +kernel
theorem dX5_smallestKind_36 : decode cX5_smallestKind 36 = .ok (.iconst 2, 1) := by decide +kernel
theorem dX5_smallestKind_37 : decode cX5_smallestKind 37 = .ok (.aload_n 1, 1) := by decide +kernel
theorem dX5_smallestKind_38 : decode cX5_smallestKind 38 = .ok (.getfield 69, 3) := by decide +kernel
theorem dX5_smallestKind_41 : decode cX5_smallestKind 41 = .ok (.invokevirtual 72, 3) := by decide +kernel
theorem dX5_smallestKind_44 : decode cX5_smallestKind 44 = .ok (.ifCond .eq 7, 3) := by decide +kernel
theorem dX5_smallestKind_47 : decode cX5_smallestKind 47 = .ok (.iconst 2, 1) := by decide +kernel
theorem dX5_smallestKind_48 : decode cX5_smallestKind 48 = .ok (.goto 4, 3) := by decide +kernel
theorem dX5_smallestKind_51 : decode cX5_smallestKind 51 = .ok (.iconst 3, 1) := by decide +kernel
theorem dX5_smallestKind_52 : decode cX5_smallestKind 52 = .ok (.ireturn, 1) := by decide +kernel
theorem dX5_isEnough_0 : decode cX5_isEnough 0 = .ok (.aload_n 0, 1) := by decide +kernel
theorem dX5_isEnough_1 : decode cX5_isEnough 1 = .ok (.getfield 58, 3) := by decide +kernel
theorem dX5_isEnough_4 : decode cX5_isEnough 4 = .ok (.iconst 4, 1) := by decide +kernel
theorem dX5_isEnough_5 : decode cX5_isEnough 5 = .ok (.invokestatic 76, 3) := by decide +kernel
theorem dX5_isEnough_8 : decode cX5_isEnough 8 = .ok (.istore_n 3, 1) := by decide +kernel
theorem dX5_isEnough_9 : decode cX5_isEnough 9 = .ok (.iconst 0, 1) := by decide +kernel
theorem dX5_isEnough_10 : decode cX5_isEnough 10 = .ok (.istore 4, 2) := by decide +kernel
theorem dX5_isEnough_12 : decode cX5_isEnough 12 = .ok (.iload 4, 2) := by decide +kernel
theorem dX5_isEnough_14 : decode cX5_isEnough 14 = .ok (.iload_n 3, 1) := by decide +kernel
theorem dX5_isEnough_15 : decode cX5_isEnough 15 = .ok (.if_icmp .ge 41, 3) := by decide +kernel
theorem dX5_isEnough_18 : decode cX5_isEnough 18 = .ok (.iload_n 2, 1) := by decide +kernel
theorem dX5_isEnough_19 : decode cX5_isEnough 19 = .ok (.aload_n 0, 1) := by decide +kernel
theorem dX5_isEnough_20 : decode cX5_isEnough 20 = .ok (.getfield 18, 3) := by decide +kernel
theorem dX5_isEnough_23 : decode cX5_isEnough 23 = .ok (.iload 4, 2) := by decide +kernel
theorem dX5_isEnough_25 : decode cX5_isEnough 25 = .ok (.iaload, 1) := by decide +kernel
theorem dX5_isEnough_26 : decode cX5_isEnough 26 = .ok (.isub, 1) := by decide +kernel
theorem dX5_isEnough_27 : decode cX5_isEnough 27 = .ok (.getstatic 82, 3) := by decide +kernel
theorem dX5_isEnough_30 : decode cX5_isEnough 30 = .ok (.iload_n 1, 1) := by decide +kernel
theorem dX5_isEnough_31 : decode cX5_isEnough 31 = .ok (.iaload, 1) := by decide +kernel
theorem dX5_isEnough_32 : decode cX5_isEnough 32 = .ok (.iadd, 1) := by decide +kernel
theorem dX5_isEnough_33 : decode cX5_isEnough 33 = .ok (.ldc 85, 2) := by decide +kernel
theorem dX5_isEnough_35 : decode cX5_isEnough 35 = .ok (.iand, 1) := by decide +kernel
theorem dX5_isEnough_36 : decode cX5_isEnough 36 = .ok (.istore 5, 2) := by decide +kernel
theorem dX5_isEnough_38 : decode cX5_isEnough 38 = .ok (.iload 5, 2) := by decide +kernel
theorem dX5_isEnough_40 : decode cX5_isEnough 40 = .ok (.getstatic 86, 3) := by decide +kernel
theorem dX5_isEnough_43 : decode cX5_isEnough 43 = .ok (.iload_n 1, 1) := by decide +kernel
theorem dX5_isEnough_44 : decode cX5_isEnough 44 = .ok (.iaload, 1) := by decide +kernel
theorem dX5_isEnough_45 : decode cX5_isEnough 45 = .ok (.if_icmp .le 5, 3) := by decide +kernel
theorem dX5_isEnough_48 : decode cX5_isEnough 48 = .ok (.iconst 0, 1) := by decide +kernel
theorem dX5_isEnough_49 : decode cX5_isEnough 49 = .ok (.ireturn, 1) := by decide +kernel
theorem dX5_isEnough_50 : decode cX5_isEnough 50 = .ok (.iinc 4 1, 3) := by decide +kernel
theorem dX5_isEnough_53 : decode cX5_isEnough 53 = .ok (.goto (-41), 3) := by decide +kernel
theorem dX5_isEnough_56 : decode cX5_isEnough 56 = .ok (.iconst 1, 1) := by decide +kernel
theorem dX5_isEnough_57 : decode cX5_isEnough 57 = .ok (.ireturn, 1) := by decide +kernel
theorem dX6_init_0 : decode cX6_init 0 = .ok (.aload_n 0, 1) := by decide +kernel
theorem dX6_init_1 : decode cX6_init 1 = .ok (.invokespecial 1, 3) := by decide +kernel
theorem dX6_init_4 : decode cX6_init 4 = .ok (.aload_n 0, 1) := by decide +kernel
theorem dX6_init_5 : decode cX6_init 5 = .ok (.new 7, 3) := by decide +kernel
theorem dX6_init_8 : decode cX6_init 8 = .ok (.dup, 1) := by decide +kernel
theorem dX6_init_9 : decode cX6_init 9 = .ok (.invokespecial 9, 3) := by decide +kernel
theorem dX6_init_12 : decode cX6_init 12 = .ok (.putfield 10, 3) := by decide +kernel
theorem dX6_init_15 : decode cX6_init 15 = .ok (.aload_n 0, 1) := by decide +kernel
theorem dX6_init_16 : decode cX6_init 16 = .ok (.new 16, 3) := by decide +kernel
theorem dX6_init_19 : decode cX6_init 19 = .ok (.dup, 1) := by decide +kernel
theorem dX6_init_20 : decode cX6_init 20 = .ok (.invokespecial 18, 3) := by decide +kernel
theorem dX6_init_23 : decode cX6_init 23 = .ok (.putfield 19, 3) := by decide +kernel
theorem dX6_init_26 : decode cX6_init 26 = .ok (.aload_n 0, 1) := by decide +kernel
theorem dX6_init_27 : decode cX6_init 27 = .ok (.iconst 4, 1) := by decide +kernel
theorem dX6_init_28 : decode cX6_init 28 = .ok (.anewarray 23, 3) := by decide +kernel
theorem dX6_init_31 : decode cX6_init 31 = .ok (.putfield 25, 3) := by decide +kernel
theorem dX6_init_34 : decode cX6_init 34 = .ok (.aload_n 0, 1) := by decide +kernel
theorem dX6_init_35 : decode cX6_init 35 = .ok (.iconst 4, 1) := by decide +kernel
theorem dX6_init_36 : decode cX6_init 36 = .ok (.anewarray 29, 3) := by decide +kernel
theorem dX6_init_39 : decode cX6_init 39 = .ok (.putfield 31, 3) := by decide +kernel
theorem dX6_init_42 : decode cX6_init 42 = .ok (.aload_n 0, 1) := by decide +kernel
theorem dX6_init_43 : decode cX6_init 43 = .ok (.bipush 11, 2) := by decide +kernel
theorem dX6_init_45 : decode cX6_init 45 = .ok (.newarray .int, 2) := by decide +kernel
theorem dX6_init_47 : decode cX6_init 47 = .ok (.putfield 35, 3) := by decide +kernel
theorem dX6_init_50 : decode cX6_init 50 = .ok (.aload_n 0, 1) := by decide +kernel
theorem dX6_init_51 : decode cX6_init 51 = .ok (.new 7, 3) := by decide +kernel
theorem dX6_init_54 : decode cX6_init 54 = .ok (.dup, 1) := by decide +kernel
theorem dX6_init_55 : decode cX6_init 55 = .ok (.invokespecial 9, 3) := by decide +kernel
theorem dX6_init_58 : decode cX6_init 58 = .ok (.putfield 39, 3) := by decide +kernel
theorem dX6_init_61 : decode cX6_init 61 = .ok (.aload_n 0, 1) := by decide +kernel
theorem dX6_init_62 : decode cX6_init 62 = .ok (.new 7, 3) := by decide +kernel
theorem dX6_init_65 : decode cX6_init 65 = .ok (.dup, 1) := by decide +kernel
theorem dX6_init_66 : decode cX6_init 66 = .ok (.invokespecial 9, 3) := by decide +kernel
theorem dX6_init_69 : decode cX6_init 69 = .ok (.putfield 42, 3) := by decide +kernel
theorem dX6_init_72 : decode cX6_init 72 = .ok (.iconst 0, 1) := by decide +kernel
theorem dX6_init_73 : decode cX6_init 73 = .ok (.istore_n 1, 1) := by decide +kernel
theorem dX6_init_74 : decode cX6_init 74 = .ok (.iload_n 1, 1) := by decide +kernel
theorem dX6_init_75 : decode cX6_init 75 = .ok (.iconst 4, 1) := by decide +kernel
theorem dX6_init_76 : decode cX6_init 76 = .ok (.if_icmp .ge 35, 3) := by decide +kernel
theorem dX6_init_79 : decode cX6_init 79 = .ok (.aload_n 0, 1) := by decide +kernel
theorem dX6_init_80 : decode cX6_init 80 = .ok (.getfield 25, 3) := by decide +kernel
theorem dX6_init_83 : decode cX6_init 83 = .ok (.iload_n 1, 1) := by decide +kernel
theorem dX6_init_84 : decode cX6_init 84 = .ok (.new 23, 3) := by decide +kernel
theorem dX6_init_87 : decode cX6_init 87 = .ok (.dup, 1) := by decide +kernel
theorem dX6_init_88 : decode cX6_init 88 = .ok (.invokespecial 45, 3) := by decide +kernel
theorem dX6_init_91 : decode cX6_init 91 = .ok (.aastore, 1) := by decide +kernel
theorem dX6_init_92 : decode cX6_init 92 = .ok (.aload_n 0, 1) := by decide +kernel
theorem dX6_init_93 : decode cX6_init 93 = .ok (.getfield 31, 3) := by decide +kernel
theorem dX6_init_96 : decode cX6_init 96 = .ok (.iload_n 1, 1) := by decide +kernel
theorem dX6_init_97 : decode cX6_init 97 = .ok (.new 29, 3) := by decide +kernel
theorem dX6_init_100 : decode cX6_init 100 = .ok (.dup, 1) := by decide +kernel
theorem dX6_init_101 : decode cX6_init 101 = .ok (.invokespecial 46, 3) := by decide +kernel
theorem dX6_init_104 : decode cX6_init 104 = .ok (.aastore, 1) := by decide +kernel
theorem dX6_init_105 : decode cX6_init 105 = .ok (.iinc 1 1, 3) := by decide +kernel
theorem dX6_init_108 : decode cX6_init 108 = .ok (.goto (-34), 3) := by decide +kernel
theorem dX6_init_111 : decode cX6_init 111 = .ok (.return_, 1) := by decide +kernel
theorem dX6_stride_0 : decode cX6_stride 0 = .ok (.iload_n 1, 1) := by decide +kernel
theorem dX6_stride_1 : decode cX6_stride 1 = .ok (.invokestatic 47, 3) := by decide +kernel
theorem dX6_stride_4 : decode cX6_stride 4 = .ok (.ifCond .eq 11, 3) := by decide +kernel
theorem dX6_stride_7 : decode cX6_stride 7 = .ok (.new 51, 3) := by decide +kernel
theorem dX6_stride_10 : decode cX6_stride 10 = .ok (.dup, 1) := by decide +kernel
theorem dX6_stride_11 : decode cX6_stride 11 = .ok (.invokespecial 53, 3) := by decide +kernel
theorem dX6_stride_14 : decode cX6_stride 14 = .ok (.athrow, 1) := by decide +kernel
theorem dX6_stride_15 : decode cX6_stride 15 = .ok (.iload_n 2, 1) := by decide +kernel
theorem dX6_stride_16 : decode cX6_stride 16 = .ok (.invokestatic 54, 3) := by decide +kernel
theorem dX6_stride_19 : decode cX6_stride 19 = .ok (.ifCond .eq 11, 3) := by decide +kernel
theorem dX6_stride_22 : decode cX6_stride 22 = .ok (.new 57, 3) := by decide +kernel
theorem dX6_stride_25 : decode cX6_stride 25 = .ok (.dup, 1) := by decide +kernel
theorem dX6_stride_26 : decode cX6_stride 26 = .ok (.invokespecial 59, 3) := by decide +kernel
theorem dX6_stride_29 : decode cX6_stride 29 = .ok (.athrow, 1) := by decide +kernel
theorem dX6_stride_30 : decode cX6_stride 30 = .ok (.aload_n 0, 1) := by decide +kernel
theorem dX6_stride_31 : decode cX6_stride 31 = .ok (.getfield 25, 3) := by decide +kernel
theorem dX6_stride_34 : decode cX6_stride 34 = .ok (.iload_n 1, 1) := by decide +kernel
theorem dX6_stride_35 : decode cX6_stride 35 = .ok (.aaload, 1) := by decide +kernel
theorem dX6_stride_36 : decode cX6_stride 36 = .ok (.iload_n 2, 1) := by decide +kernel
theorem dX6_stride_37 : decode cX6_stride 37 = .ok (.putfield 60, 3) := by decide +kernel
theorem dX6_stride_40 : decode cX6_stride 40 = .ok (.return_, 1) := by decide +kernel
theorem dX6_head_0 : decode cX6_head 0 = .ok (.iload_n 1, 1) := by decide +kernel
theorem dX6_head_1 : decode cX6_head 1 = .ok (.invokestatic 54, 3) := by decide +kernel
theorem dX6_head_4 : decode cX6_head 4 = .ok (.ifCond .ne 13, 3) := by decide +kernel
theorem dX6_head_7 : decode cX6_head 7 = .ok (.iload_n 2, 1) := by decide +kernel
theorem dX6_head_8 : decode cX6_head 8 = .ok (.ifCond .lt 9, 3) := by decide +kernel
theorem dX6_head_11 : decode cX6_head 11 = .ok (.iload_n 2, 1) := by decide +kernel
theorem dX6_head_12 : decode cX6_head 12 = .ok (.bipush 127, 2) := by decide +kernel
theorem dX6_head_14 : decode cX6_head 14 = .ok (.if_icmp .le 11, 3) := by decide +kernel
theorem dX6_head_17 : decode cX6_head 17 = .ok (.new 57, 3) := by decide +kernel
theorem dX6_head_20 : decode cX6_head 20 = .ok (.dup, 1) := by decide +kernel
theorem dX6_head_21 : decode cX6_head 21 = .ok (.invokespecial 59, 3) := by decide +kernel
theorem dX6_head_24 : decode cX6_head 24 = .ok (.athrow, 1) := by decide +kernel
theorem dX6_head_25 : decode cX6_head 25 = .ok (.aload_n 0, 1) := by decide +kernel
theorem dX6_head_26 : decode cX6_head 26 = .ok (.getfield 10, 3) := by decide +kernel
theorem dX6_head_29 : decode cX6_head 29 = .ok (.iload_n 1, 1) := by decide +kernel
theorem dX6_head_30 : decode cX6_head 30 = .ok (.putfield 64, 3) := by decide +kernel
theorem dX6_head_33 : decode cX6_head 33 = .ok (.aload_n 0, 1) := by decide +kernel
theorem dX6_head_34 : decode cX6_head 34 = .ok (.getfield 10, 3) := by decide +kernel
theorem dX6_head_37 : decode cX6_head 37 = .ok (.iload_n 2, 1) := by decide +kernel
theorem dX6_head_38 : decode cX6_head 38 = .ok (.putfield 67, 3) := by decide +kernel
theorem dX6_head_41 : decode cX6_head 41 = .ok (.aload_n 0, 1) := by decide +kernel
theorem dX6_head_42 : decode cX6_head 42 = .ok (.getfield 10, 3) := by decide +kernel
theorem dX6_head_45 : decode cX6_head 45 = .ok (.iload_n 3, 1) := by decide +kernel
theorem dX6_head_46 : decode cX6_head 46 = .ok (.putfield 70, 3) := by decide +kernel
theorem dX6_head_49 : decode cX6_head 49 = .ok (.return_, 1) := by decide +kernel
theorem dX6_send_0 : decode cX6_send 0 = .ok (.iload_n 1, 1) := by decide +kernel
theorem dX6_send_1 : decode cX6_send 1 = .ok (.invokestatic 47, 3) := by decide +kernel
theorem dX6_send_4 : decode cX6_send 4 = .ok (.ifCond .eq 11, 3) := by decide +kernel
theorem dX6_send_7 : decode cX6_send 7 = .ok (.new 51, 3) := by decide +kernel
theorem dX6_send_10 : decode cX6_send 10 = .ok (.dup, 1) := by decide +kernel
theorem dX6_send_11 : decode cX6_send 11 = .ok (.invokespecial 53, 3) := by decide +kernel
theorem dX6_send_14 : decode cX6_send 14 = .ok (.athrow, 1) := by decide +kernel
theorem dX6_send_15 : decode cX6_send 15 = .ok (.iload_n 2, 1) := by decide +kernel
theorem dX6_send_16 : decode cX6_send 16 = .ok (.invokestatic 54, 3) := by decide +kernel
theorem dX6_send_19 : decode cX6_send 19 = .ok (.ifCond .ne 11, 3) := by decide +kernel
theorem dX6_send_22 : decode cX6_send 22 = .ok (.iload 4, 2) := by decide +kernel
theorem dX6_send_24 : decode cX6_send 24 = .ok (.invokestatic 54, 3) := by decide +kernel
theorem dX6_send_27 : decode cX6_send 27 = .ok (.ifCond .eq 11, 3) := by decide +kernel
theorem dX6_send_30 : decode cX6_send 30 = .ok (.new 57, 3) := by decide +kernel
theorem dX6_send_33 : decode cX6_send 33 = .ok (.dup, 1) := by decide +kernel
theorem dX6_send_34 : decode cX6_send 34 = .ok (.invokespecial 59, 3) := by decide +kernel
theorem dX6_send_37 : decode cX6_send 37 = .ok (.athrow, 1) := by decide +kernel
theorem dX6_send_38 : decode cX6_send 38 = .ok (.aload_n 0, 1) := by decide +kernel
theorem dX6_send_39 : decode cX6_send 39 = .ok (.getfield 10, 3) := by decide +kernel
theorem dX6_send_42 : decode cX6_send 42 = .ok (.iload_n 2, 1) := by decide +kernel
theorem dX6_send_43 : decode cX6_send 43 = .ok (.putfield 74, 3) := by decide +kernel
theorem dX6_send_46 : decode cX6_send 46 = .ok (.aload_n 0, 1) := by decide +kernel
theorem dX6_send_47 : decode cX6_send 47 = .ok (.getfield 10, 3) := by decide +kernel
theorem dX6_send_50 : decode cX6_send 50 = .ok (.iload_n 3, 1) := by decide +kernel
theorem dX6_send_51 : decode cX6_send 51 = .ok (.putfield 77, 3) := by decide +kernel
theorem dX6_send_54 : decode cX6_send 54 = .ok (.aload_n 0, 1) := by decide +kernel
theorem dX6_send_55 : decode cX6_send 55 = .ok (.getfield 10, 3) := by decide +kernel
theorem dX6_send_58 : decode cX6_send 58 = .ok (.iload 4, 2) := by decide +kernel
theorem dX6_send_60 : decode cX6_send 60 = .ok (.putfield 80, 3) := by decide +kernel
theorem dX6_send_63 : decode cX6_send 63 = .ok (.aload_n 0, 1) := by decide +kernel
theorem dX6_send_64 : decode cX6_send 64 = .ok (.getfield 25, 3) := by decide +kernel
theorem dX6_send_67 : decode cX6_send 67 = .ok (.iload_n 1, 1) := by decide +kernel
theorem dX6_send_68 : decode cX6_send 68 = .ok (.aaload, 1) := by decide +kernel
theorem dX6_send_69 : decode cX6_send 69 = .ok (.astore 5, 2) := by decide +kernel
theorem dX6_send_71 : decode cX6_send 71 = .ok (.aload 5, 2) := by decide +kernel
theorem dX6_send_73 : decode cX6_send 73 = .ok (.aload_n 0, 1) := by decide +kernel
theorem dX6_send_74 : decode cX6_send 74 = .ok (.getfield 10, 3) := by decide +kernel
theorem dX6_send_77 : decode cX6_send 77 = .ok (.invokevirtual 83, 3) := by decide +kernel
theorem dX6_send_80 : decode cX6_send 80 = .ok (.istore 6, 2) := by decide +kernel
theorem dX6_send_82 : decode cX6_send 82 = .ok (.aload_n 0, 1) := by decide +kernel
theorem dX6_send_83 : decode cX6_send 83 = .ok (.getfield 19, 3) := by decide +kernel
theorem dX6_send_86 : decode cX6_send 86 = .ok (.invokevirtual 87, 3) := by decide +kernel
theorem dX6_send_89 : decode cX6_send 89 = .ok (.astore 7, 2) := by decide +kernel
theorem dX6_send_91 : decode cX6_send 91 = .ok (.aload 7, 2) := by decide +kernel
theorem dX6_send_93 : decode cX6_send 93 = .ok (.iload_n 1, 1) := by decide +kernel
theorem dX6_send_94 : decode cX6_send 94 = .ok (.iload 6, 2) := by decide +kernel
theorem dX6_send_96 : decode cX6_send 96 = .ok (.aload_n 0, 1) := by decide +kernel
theorem dX6_send_97 : decode cX6_send 97 = .ok (.getfield 10, 3) := by decide +kernel
theorem dX6_send_100 : decode cX6_send 100 = .ok (.aload 5, 2) := by decide +kernel
theorem dX6_send_102 : decode cX6_send 102 = .ok (.getfield 60, 3) := by decide +kernel
theorem dX6_send_105 : decode cX6_send 105 = .ok (.invokevirtual 91, 3) := by decide +kernel
theorem dX6_send_108 : decode cX6_send 108 = .ok (.aload 5, 2) := by decide +kernel
theorem dX6_send_110 : decode cX6_send 110 = .ok (.iload 6, 2) := by decide +kernel
theorem dX6_send_112 : decode cX6_send 112 = .ok (.iload_n 2, 1) := by decide +kernel
theorem dX6_send_113 : decode cX6_send 113 = .ok (.invokevirtual 97, 3) := by decide +kernel
theorem dX6_send_116 : decode cX6_send 116 = .ok (.aload_n 0, 1) := by decide +kernel
theorem dX6_send_117 : decode cX6_send 117 = .ok (.getfield 35, 3) := by decide +kernel
theorem dX6_send_120 : decode cX6_send 120 = .ok (.iload 6, 2) := by decide +kernel
theorem dX6_send_122 : decode cX6_send 122 = .ok (.dup2, 1) := by decide +kernel
theorem dX6_send_123 : decode cX6_send 123 = .ok (.iaload, 1) := by decide +kernel
theorem dX6_send_124 : decode cX6_send 124 = .ok (.iconst 1, 1) := by decide +kernel
theorem dX6_send_125 : decode cX6_send 125 = .ok (.iadd, 1) := by decide +kernel
theorem dX6_send_126 : decode cX6_send 126 = .ok (.iastore, 1) := by decide +kernel
theorem dX6_send_127 : decode cX6_send 127 = .ok (.aload_n 0, 1) := by decide +kernel
theorem dX6_send_128 : decode cX6_send 128 = .ok (.getfield 35, 3) := by decide +kernel
theorem dX6_send_131 : decode cX6_send 131 = .ok (.iconst 5, 1) := by decide +kernel
theorem dX6_send_132 : decode cX6_send 132 = .ok (.dup2, 1) := by decide +kernel
theorem dX6_send_133 : decode cX6_send 133 = .ok (.iaload, 1) := by decide +kernel
theorem dX6_send_134 : decode cX6_send 134 = .ok (.aload 7, 2) := by decide +kernel
theorem dX6_send_136 : decode cX6_send 136 = .ok (.getfield 101, 3) := by decide +kernel
theorem dX6_send_139 : decode cX6_send 139 = .ok (.iadd, 1) := by decide +kernel
theorem dX6_send_140 : decode cX6_send 140 = .ok (.iastore, 1) := by decide +kernel
theorem dX6_send_141 : decode cX6_send 141 = .ok (.aload_n 0, 1) := by decide +kernel
theorem dX6_send_142 : decode cX6_send 142 = .ok (.getfield 19, 3) := by decide +kernel
theorem dX6_send_145 : decode cX6_send 145 = .ok (.invokevirtual 104, 3) := by decide +kernel
theorem dX6_send_148 : decode cX6_send 148 = .ok (.ifCond .eq 8, 3) := by decide +kernel
theorem dX6_send_151 : decode cX6_send 151 = .ok (.iload 6, 2) := by decide +kernel
theorem dX6_send_153 : decode cX6_send 153 = .ok (.goto 8, 3) := by decide +kernel
theorem dX6_send_156 : decode cX6_send 156 = .ok (.iload 6, 2) := by decide +kernel
theorem dX6_send_158 : decode cX6_send 158 = .ok (.bipush 8, 2) := by decide +kernel
theorem dX6_send_160 : decode cX6_send 160 = .ok (.iadd, 1) := by decide +kernel
theorem dX6_send_161 : decode cX6_send 161 = .ok (.ireturn, 1) := by decide +kernel
theorem dX6_line_0 : decode cX6_line 0 = .ok (.aload_n 0, 1) := by decide +kernel
theorem dX6_line_1 : decode cX6_line 1 = .ok (.getfield 19, 3) := by decide +kernel
theorem dX6_line_4 : decode cX6_line 4 = .ok (.getfield 108, 3) := by decide +kernel
theorem dX6_line_7 : decode cX6_line 7 = .ok (.ireturn, 1) := by decide +kernel
theorem dX6_size_0 : decode cX6_size 0 = .ok (.aload_n 0, 1) := by decide +kernel
theorem dX6_size_1 : decode cX6_size 1 = .ok (.iload_n 1, 1) := by decide +kernel
theorem dX6_size_2 : decode cX6_size 2 = .ok (.invokevirtual 111, 3) := by decide +kernel
theorem dX6_size_5 : decode cX6_size 5 = .ok (.ifCond .eq 11, 3) := by decide +kernel
theorem dX6_size_8 : decode cX6_size 8 = .ok (.new 51, 3) := by decide +kernel
theorem dX6_size_11 : decode cX6_size 11 = .ok (.dup, 1) := by decide +kernel
theorem dX6_size_12 : decode cX6_size 12 = .ok (.invokespecial 53, 3) := by decide +kernel
theorem dX6_size_15 : decode cX6_size 15 = .ok (.athrow, 1) := by decide +kernel
theorem dX6_size_16 : decode cX6_size 16 = .ok (.aload_n 0, 1) := by decide +kernel
theorem dX6_size_17 : decode cX6_size 17 = .ok (.getfield 19, 3) := by decide +kernel
theorem dX6_size_20 : decode cX6_size 20 = .ok (.getfield 114, 3) := by decide +kernel
theorem dX6_size_23 : decode cX6_size 23 = .ok (.iload_n 1, 1) := by decide +kernel
theorem dX6_size_24 : decode cX6_size 24 = .ok (.aaload, 1) := by decide +kernel
theorem dX6_size_25 : decode cX6_size 25 = .ok (.getfield 101, 3) := by decide +kernel
theorem dX6_size_28 : decode cX6_size 28 = .ok (.ireturn, 1) := by decide +kernel
theorem dX6_byteAt_0 : decode cX6_byteAt 0 = .ok (.aload_n 0, 1) := by decide +kernel
theorem dX6_byteAt_1 : decode cX6_byteAt 1 = .ok (.iload_n 1, 1) := by decide +kernel
theorem dX6_byteAt_2 : decode cX6_byteAt 2 = .ok (.invokevirtual 111, 3) := by decide +kernel
theorem dX6_byteAt_5 : decode cX6_byteAt 5 = .ok (.ifCond .ne 12, 3) := by decide +kernel
theorem dX6_byteAt_8 : decode cX6_byteAt 8 = .ok (.aload_n 0, 1) := by decide +kernel
theorem dX6_byteAt_9 : decode cX6_byteAt 9 = .ok (.iload_n 1, 1) := by decide +kernel
theorem dX6_byteAt_10 : decode cX6_byteAt 10 = .ok (.iload_n 2, 1) := by decide +kernel
theorem dX6_byteAt_11 : decode cX6_byteAt 11 = .ok (.invokevirtual 118, 3) := by decide +kernel
theorem dX6_byteAt_14 : decode cX6_byteAt 14 = .ok (.ifCond .eq 11, 3) := by decide +kernel
theorem dX6_byteAt_17 : decode cX6_byteAt 17 = .ok (.new 51, 3) := by decide +kernel
theorem dX6_byteAt_20 : decode cX6_byteAt 20 = .ok (.dup, 1) := by decide +kernel
theorem dX6_byteAt_21 : decode cX6_byteAt 21 = .ok (.invokespecial 53, 3) := by decide +kernel
theorem dX6_byteAt_24 : decode cX6_byteAt 24 = .ok (.athrow, 1) := by decide +kernel
theorem dX6_byteAt_25 : decode cX6_byteAt 25 = .ok (.aload_n 0, 1) := by decide +kernel
theorem dX6_byteAt_26 : decode cX6_byteAt 26 = .ok (.getfield 19, 3) := by decide +kernel
theorem dX6_byteAt_29 : decode cX6_byteAt 29 = .ok (.getfield 114, 3) := by decide +kernel
theorem dX6_byteAt_32 : decode cX6_byteAt 32 = .ok (.iload_n 1, 1) := by decide +kernel
theorem dX6_byteAt_33 : decode cX6_byteAt 33 = .ok (.aaload, 1) := by decide +kernel
theorem dX6_byteAt_34 : decode cX6_byteAt 34 = .ok (.getfield 122, 3) := by decide +kernel
theorem dX6_byteAt_37 : decode cX6_byteAt 37 = .ok (.iload_n 2, 1) := by decide +kernel
theorem dX6_byteAt_38 : decode cX6_byteAt 38 = .ok (.iaload, 1) := by decide +kernel
theorem dX6_byteAt_39 : decode cX6_byteAt 39 = .ok (.ireturn, 1) := by decide +kernel
theorem dX6_spoil_0 : decode cX6_spoil 0 = .ok (.aload_n 0, 1) := by decide +kernel
theorem dX6_spoil_1 : decode cX6_spoil 1 = .ok (.iload_n 1, 1) := by decide +kernel
theorem dX6_spoil_2 : decode cX6_spoil 2 = .ok (.invokevirtual 111, 3) := by decide +kernel
theorem dX6_spoil_5 : decode cX6_spoil 5 = .ok (.ifCond .ne 12, 3) := by decide +kernel
theorem dX6_spoil_8 : decode cX6_spoil 8 = .ok (.aload_n 0, 1) := by decide +kernel
theorem dX6_spoil_9 : decode cX6_spoil 9 = .ok (.iload_n 1, 1) := by decide +kernel
theorem dX6_spoil_10 : decode cX6_spoil 10 = .ok (.iload_n 2, 1) := by decide +kernel
theorem dX6_spoil_11 : decode cX6_spoil 11 = .ok (.invokevirtual 118, 3) := by decide +kernel
theorem dX6_spoil_14 : decode cX6_spoil 14 = .ok (.ifCond .eq 11, 3) := by decide +kernel
theorem dX6_spoil_17 : decode cX6_spoil 17 = .ok (.new 51, 3) := by decide +kernel
theorem dX6_spoil_20 : decode cX6_spoil 20 = .ok (.dup, 1) := by decide +kernel
theorem dX6_spoil_21 : decode cX6_spoil 21 = .ok (.invokespecial 53, 3) := by decide +kernel
theorem dX6_spoil_24 : decode cX6_spoil 24 = .ok (.athrow, 1) := by decide +kernel
theorem dX6_spoil_25 : decode cX6_spoil 25 = .ok (.iload_n 3, 1) := by decide +kernel
theorem dX6_spoil_26 : decode cX6_spoil 26 = .ok (.ifCond .lt 10, 3) := by decide +kernel
theorem dX6_spoil_29 : decode cX6_spoil 29 = .ok (.iload_n 3, 1) := by decide +kernel
theorem dX6_spoil_30 : decode cX6_spoil 30 = .ok (.sipush 255, 3) := by decide +kernel
theorem dX6_spoil_33 : decode cX6_spoil 33 = .ok (.if_icmp .le 11, 3) := by decide +kernel
theorem dX6_spoil_36 : decode cX6_spoil 36 = .ok (.new 57, 3) := by decide +kernel
theorem dX6_spoil_39 : decode cX6_spoil 39 = .ok (.dup, 1) := by decide +kernel
theorem dX6_spoil_40 : decode cX6_spoil 40 = .ok (.invokespecial 59, 3) := by decide +kernel
theorem dX6_spoil_43 : decode cX6_spoil 43 = .ok (.athrow, 1) := by decide +kernel
theorem dX6_spoil_44 : decode cX6_spoil 44 = .ok (.aload_n 0, 1) := by decide +kernel
theorem dX6_spoil_45 : decode cX6_spoil 45 = .ok (.getfield 19, 3) := by decide +kernel
theorem dX6_spoil_48 : decode cX6_spoil 48 = .ok (.getfield 114, 3) := by decide +kernel
theorem dX6_spoil_51 : decode cX6_spoil 51 = .ok (.iload_n 1, 1) := by decide +kernel
theorem dX6_spoil_52 : decode cX6_spoil 52 = .ok (.aaload, 1) := by decide +kernel
theorem dX6_spoil_53 : decode cX6_spoil 53 = .ok (.getfield 122, 3) := by decide +kernel
theorem dX6_spoil_56 : decode cX6_spoil 56 = .ok (.iload_n 2, 1) := by decide +kernel
theorem dX6_spoil_57 : decode cX6_spoil 57 = .ok (.dup2, 1) := by decide +kernel
theorem dX6_spoil_58 : decode cX6_spoil 58 = .ok (.iaload, 1) := by decide +kernel
theorem dX6_spoil_59 : decode cX6_spoil 59 = .ok (.iload_n 3, 1) := by decide +kernel
theorem dX6_spoil_60 : decode cX6_spoil 60 = .ok (.ixor, 1) := by decide +kernel
theorem dX6_spoil_61 : decode cX6_spoil 61 = .ok (.iastore, 1) := by decide +kernel
theorem dX6_spoil_62 : decode cX6_spoil 62 = .ok (.return_, 1) := by decide +kernel
theorem dX6_lose_0 : decode cX6_lose 0 = .ok (.aload_n 0, 1) := by decide +kernel
theorem dX6_lose_1 : decode cX6_lose 1 = .ok (.iload_n 1, 1) := by decide +kernel
theorem dX6_lose_2 : decode cX6_lose 2 = .ok (.invokevirtual 111, 3) := by decide +kernel
theorem dX6_lose_5 : decode cX6_lose 5 = .ok (.ifCond .eq 11, 3) := by decide +kernel
theorem dX6_lose_8 : decode cX6_lose 8 = .ok (.new 51, 3) := by decide +kernel
theorem dX6_lose_11 : decode cX6_lose 11 = .ok (.dup, 1) := by decide +kernel
theorem dX6_lose_12 : decode cX6_lose 12 = .ok (.invokespecial 53, 3) := by decide +kernel
theorem dX6_lose_15 : decode cX6_lose 15 = .ok (.athrow, 1) := by decide +kernel
theorem dX6_lose_16 : decode cX6_lose 16 = .ok (.aload_n 0, 1) := by decide +kernel
theorem dX6_lose_17 : decode cX6_lose 17 = .ok (.getfield 19, 3) := by decide +kernel
theorem dX6_lose_20 : decode cX6_lose 20 = .ok (.iload_n 1, 1) := by decide +kernel
theorem dX6_lose_21 : decode cX6_lose 21 = .ok (.invokevirtual 125, 3) := by decide +kernel
theorem dX6_lose_24 : decode cX6_lose 24 = .ok (.pop, 1) := by decide +kernel
theorem dX6_lose_25 : decode cX6_lose 25 = .ok (.return_, 1) := by decide +kernel
theorem dX6_deliver_0 : decode cX6_deliver 0 = .ok (.aload_n 0, 1) := by decide +kernel
theorem dX6_deliver_1 : decode cX6_deliver 1 = .ok (.iload_n 1, 1) := by decide +kernel
theorem dX6_deliver_2 : decode cX6_deliver 2 = .ok (.invokevirtual 111, 3) := by decide +kernel
theorem dX6_deliver_5 : decode cX6_deliver 5 = .ok (.ifCond .eq 11, 3) := by decide +kernel
theorem dX6_deliver_8 : decode cX6_deliver 8 = .ok (.new 51, 3) := by decide +kernel
theorem dX6_deliver_11 : decode cX6_deliver 11 = .ok (.dup, 1) := by decide +kernel
theorem dX6_deliver_12 : decode cX6_deliver 12 = .ok (.invokespecial 53, 3) := by decide +kernel
theorem dX6_deliver_15 : decode cX6_deliver 15 = .ok (.athrow, 1) := by decide +kernel
theorem dX6_deliver_16 : decode cX6_deliver 16 = .ok (.aload_n 0, 1) := by decide +kernel
theorem dX6_deliver_17 : decode cX6_deliver 17 = .ok (.getfield 19, 3) := by decide +kernel
theorem dX6_deliver_20 : decode cX6_deliver 20 = .ok (.iload_n 1, 1) := by decide +kernel
theorem dX6_deliver_21 : decode cX6_deliver 21 = .ok (.invokevirtual 125, 3) := by decide +kernel
theorem dX6_deliver_24 : decode cX6_deliver 24 = .ok (.astore_n 2, 1) := by decide +kernel
theorem dX6_deliver_25 : decode cX6_deliver 25 = .ok (.aload_n 2, 1) := by decide +kernel
theorem dX6_deliver_26 : decode cX6_deliver 26 = .ok (.invokevirtual 129, 3) := by decide +kernel
theorem dX6_deliver_29 : decode cX6_deliver 29 = .ok (.aload_n 2, 1) := by decide +kernel
theorem dX6_deliver_30 : decode cX6_deliver 30 = .ok (.getfield 132, 3) := by decide +kernel
theorem dX6_deliver_33 : decode cX6_deliver 33 = .ok (.iconst (-1), 1) := by decide +kernel
theorem dX6_deliver_34 : decode cX6_deliver 34 = .ok (.if_icmp .ne 22, 3) := by decide +kernel
theorem dX6_deliver_37 : decode cX6_deliver 37 = .ok (.aload_n 0, 1) := by decide +kernel
theorem dX6_deliver_38 : decode cX6_deliver 38 = .ok (.getfield 35, 3) := by decide +kernel
theorem dX6_deliver_41 : decode cX6_deliver 41 = .ok (.bipush 8, 2) := by decide +kernel
theorem dX6_deliver_43 : decode cX6_deliver 43 = .ok (.dup2, 1) := by decide +kernel
theorem dX6_deliver_44 : decode cX6_deliver 44 = .ok (.iaload, 1) := by decide +kernel
theorem dX6_deliver_45 : decode cX6_deliver 45 = .ok (.iconst 1, 1) := by decide +kernel
theorem dX6_deliver_46 : decode cX6_deliver 46 = .ok (.iadd, 1) := by decide +kernel
theorem dX6_deliver_47 : decode cX6_deliver 47 = .ok (.iastore, 1) := by decide +kernel
theorem dX6_deliver_48 : decode cX6_deliver 48 = .ok (.new 57, 3) := by decide +kernel
theorem dX6_deliver_51 : decode cX6_deliver 51 = .ok (.dup, 1) := by decide +kernel
theorem dX6_deliver_52 : decode cX6_deliver 52 = .ok (.invokespecial 59, 3) := by decide +kernel
theorem dX6_deliver_55 : decode cX6_deliver 55 = .ok (.athrow, 1) := by decide +kernel
theorem dX6_deliver_56 : decode cX6_deliver 56 = .ok (.aload_n 0, 1) := by decide +kernel
theorem dX6_deliver_57 : decode cX6_deliver 57 = .ok (.getfield 31, 3) := by decide +kernel
theorem dX6_deliver_60 : decode cX6_deliver 60 = .ok (.aload_n 2, 1) := by decide +kernel
theorem dX6_deliver_61 : decode cX6_deliver 61 = .ok (.getfield 135, 3) := by decide +kernel
theorem dX6_deliver_64 : decode cX6_deliver 64 = .ok (.aaload, 1) := by decide +kernel
theorem dX6_deliver_65 : decode cX6_deliver 65 = .ok (.astore_n 3, 1) := by decide +kernel
theorem dX6_deliver_66 : decode cX6_deliver 66 = .ok (.aload_n 3, 1) := by decide +kernel
theorem dX6_deliver_67 : decode cX6_deliver 67 = .ok (.aload_n 2, 1) := by decide +kernel
theorem dX6_deliver_68 : decode cX6_deliver 68 = .ok (.getfield 132, 3) := by decide +kernel
theorem dX6_deliver_71 : decode cX6_deliver 71 = .ok (.invokevirtual 138, 3) := by decide +kernel
theorem dX6_deliver_74 : decode cX6_deliver 74 = .ok (.ifCond .ne 22, 3) := by decide +kernel
theorem dX6_deliver_77 : decode cX6_deliver 77 = .ok (.aload_n 0, 1) := by decide +kernel
theorem dX6_deliver_78 : decode cX6_deliver 78 = .ok (.getfield 35, 3) := by decide +kernel
theorem dX6_deliver_81 : decode cX6_deliver 81 = .ok (.bipush 9, 2) := by decide +kernel
theorem dX6_deliver_83 : decode cX6_deliver 83 = .ok (.dup2, 1) := by decide +kernel
theorem dX6_deliver_84 : decode cX6_deliver 84 = .ok (.iaload, 1) := by decide +kernel
theorem dX6_deliver_85 : decode cX6_deliver 85 = .ok (.iconst 1, 1) := by decide +kernel
theorem dX6_deliver_86 : decode cX6_deliver 86 = .ok (.iadd, 1) := by decide +kernel
theorem dX6_deliver_87 : decode cX6_deliver 87 = .ok (.iastore, 1) := by decide +kernel
theorem dX6_deliver_88 : decode cX6_deliver 88 = .ok (.new 141, 3) := by decide +kernel
theorem dX6_deliver_91 : decode cX6_deliver 91 = .ok (.dup, 1) := by decide +kernel
theorem dX6_deliver_92 : decode cX6_deliver 92 = .ok (.invokespecial 143, 3) := by decide +kernel
theorem dX6_deliver_95 : decode cX6_deliver 95 = .ok (.athrow, 1) := by decide +kernel
theorem dX6_deliver_96 : decode cX6_deliver 96 = .ok (.aload_n 3, 1) := by decide +kernel
theorem dX6_deliver_97 : decode cX6_deliver 97 = .ok (.aload_n 2, 1) := by decide +kernel
theorem dX6_deliver_98 : decode cX6_deliver 98 = .ok (.aload_n 0, 1) := by decide +kernel
theorem dX6_deliver_99 : decode cX6_deliver 99 = .ok (.getfield 42, 3) := by decide +kernel
theorem dX6_deliver_102 : decode cX6_deliver 102 = .ok (.invokevirtual 144, 3) := by decide +kernel
theorem dX6_deliver_105 : decode cX6_deliver 105 = .ok (.istore 4, 2) := by decide +kernel
theorem dX6_deliver_107 : decode cX6_deliver 107 = .ok (.iload 4, 2) := by decide +kernel
theorem dX6_deliver_109 : decode cX6_deliver 109 = .ok (.ifCond .ne 22, 3) := by decide +kernel
theorem dX6_deliver_112 : decode cX6_deliver 112 = .ok (.aload_n 0, 1) := by decide +kernel
theorem dX6_deliver_113 : decode cX6_deliver 113 = .ok (.getfield 35, 3) := by decide +kernel
theorem dX6_deliver_116 : decode cX6_deliver 116 = .ok (.bipush 10, 2) := by decide +kernel
theorem dX6_deliver_118 : decode cX6_deliver 118 = .ok (.dup2, 1) := by decide +kernel
theorem dX6_deliver_119 : decode cX6_deliver 119 = .ok (.iaload, 1) := by decide +kernel
theorem dX6_deliver_120 : decode cX6_deliver 120 = .ok (.iconst 1, 1) := by decide +kernel
theorem dX6_deliver_121 : decode cX6_deliver 121 = .ok (.iadd, 1) := by decide +kernel
theorem dX6_deliver_122 : decode cX6_deliver 122 = .ok (.iastore, 1) := by decide +kernel
theorem dX6_deliver_123 : decode cX6_deliver 123 = .ok (.new 148, 3) := by decide +kernel
theorem dX6_deliver_126 : decode cX6_deliver 126 = .ok (.dup, 1) := by decide +kernel
theorem dX6_deliver_127 : decode cX6_deliver 127 = .ok (.invokespecial 150, 3) := by decide +kernel
theorem dX6_deliver_130 : decode cX6_deliver 130 = .ok (.athrow, 1) := by decide +kernel
theorem dX6_deliver_131 : decode cX6_deliver 131 = .ok (.aload_n 0, 1) := by decide +kernel
theorem dX6_deliver_132 : decode cX6_deliver 132 = .ok (.invokevirtual 151, 3) := by decide +kernel
theorem dX6_deliver_135 : decode cX6_deliver 135 = .ok (.aload_n 0, 1) := by decide +kernel
theorem dX6_deliver_136 : decode cX6_deliver 136 = .ok (.getfield 35, 3) := by decide +kernel
theorem dX6_deliver_139 : decode cX6_deliver 139 = .ok (.bipush 6, 2) := by decide +kernel
theorem dX6_deliver_141 : decode cX6_deliver 141 = .ok (.dup2, 1) := by decide +kernel
theorem dX6_deliver_142 : decode cX6_deliver 142 = .ok (.iaload, 1) := by decide +kernel
theorem dX6_deliver_143 : decode cX6_deliver 143 = .ok (.iconst 1, 1) := by decide +kernel
theorem dX6_deliver_144 : decode cX6_deliver 144 = .ok (.iadd, 1) := by decide +kernel
theorem dX6_deliver_145 : decode cX6_deliver 145 = .ok (.iastore, 1) := by decide +kernel
theorem dX6_deliver_146 : decode cX6_deliver 146 = .ok (.iload 4, 2) := by decide +kernel
theorem dX6_deliver_148 : decode cX6_deliver 148 = .ok (.iconst 2, 1) := by decide +kernel
theorem dX6_deliver_149 : decode cX6_deliver 149 = .ok (.if_icmp .ne 21, 3) := by decide +kernel
theorem dX6_deliver_152 : decode cX6_deliver 152 = .ok (.aload_n 0, 1) := by decide +kernel
theorem dX6_deliver_153 : decode cX6_deliver 153 = .ok (.getfield 35, 3) := by decide +kernel
theorem dX6_deliver_156 : decode cX6_deliver 156 = .ok (.bipush 7, 2) := by decide +kernel
theorem dX6_deliver_158 : decode cX6_deliver 158 = .ok (.dup2, 1) := by decide +kernel
theorem dX6_deliver_159 : decode cX6_deliver 159 = .ok (.iaload, 1) := by decide +kernel
theorem dX6_deliver_160 : decode cX6_deliver 160 = .ok (.iconst 1, 1) := by decide +kernel
theorem dX6_deliver_161 : decode cX6_deliver 161 = .ok (.iadd, 1) := by decide +kernel
theorem dX6_deliver_162 : decode cX6_deliver 162 = .ok (.iastore, 1) := by decide +kernel
theorem dX6_deliver_163 : decode cX6_deliver 163 = .ok (.aload_n 2, 1) := by decide +kernel
theorem dX6_deliver_164 : decode cX6_deliver 164 = .ok (.getfield 135, 3) := by decide +kernel
theorem dX6_deliver_167 : decode cX6_deliver 167 = .ok (.iconst 4, 1) := by decide +kernel
theorem dX6_deliver_168 : decode cX6_deliver 168 = .ok (.iadd, 1) := by decide +kernel
theorem dX6_deliver_169 : decode cX6_deliver 169 = .ok (.ireturn, 1) := by decide +kernel
theorem dX6_deliver_170 : decode cX6_deliver 170 = .ok (.aload_n 2, 1) := by decide +kernel
theorem dX6_deliver_171 : decode cX6_deliver 171 = .ok (.getfield 135, 3) := by decide +kernel
theorem dX6_deliver_174 : decode cX6_deliver 174 = .ok (.ireturn, 1) := by decide +kernel
theorem dX6_made_0 : decode cX6_made 0 = .ok (.iload_n 1, 1) := by decide +kernel
theorem dX6_made_1 : decode cX6_made 1 = .ok (.ifCond .lt 9, 3) := by decide +kernel
theorem dX6_made_4 : decode cX6_made 4 = .ok (.iload_n 1, 1) := by decide +kernel
theorem dX6_made_5 : decode cX6_made 5 = .ok (.bipush 11, 2) := by decide +kernel
theorem dX6_made_7 : decode cX6_made 7 = .ok (.if_icmp .lt 11, 3) := by decide +kernel
theorem dX6_made_10 : decode cX6_made 10 = .ok (.new 51, 3) := by decide +kernel
theorem dX6_made_13 : decode cX6_made 13 = .ok (.dup, 1) := by decide +kernel
theorem dX6_made_14 : decode cX6_made 14 = .ok (.invokespecial 53, 3) := by decide +kernel
theorem dX6_made_17 : decode cX6_made 17 = .ok (.athrow, 1) := by decide +kernel
theorem dX6_made_18 : decode cX6_made 18 = .ok (.aload_n 0, 1) := by decide +kernel
theorem dX6_made_19 : decode cX6_made 19 = .ok (.getfield 39, 3) := by decide +kernel
theorem dX6_made_22 : decode cX6_made 22 = .ok (.iload_n 1, 1) := by decide +kernel
theorem dX6_made_23 : decode cX6_made 23 = .ok (.invokevirtual 154, 3) := by decide +kernel
theorem dX6_made_26 : decode cX6_made 26 = .ok (.ireturn, 1) := by decide +kernel
theorem dX6_sender_0 : decode cX6_sender 0 = .ok (.iload_n 1, 1) := by decide +kernel
theorem dX6_sender_1 : decode cX6_sender 1 = .ok (.invokestatic 47, 3) := by decide +kernel
theorem dX6_sender_4 : decode cX6_sender 4 = .ok (.ifCond .eq 11, 3) := by decide +kernel
theorem dX6_sender_7 : decode cX6_sender 7 = .ok (.new 51, 3) := by decide +kernel
theorem dX6_sender_10 : decode cX6_sender 10 = .ok (.dup, 1) := by decide +kernel
theorem dX6_sender_11 : decode cX6_sender 11 = .ok (.invokespecial 53, 3) := by decide +kernel
theorem dX6_sender_14 : decode cX6_sender 14 = .ok (.athrow, 1) := by decide +kernel
theorem dX6_sender_15 : decode cX6_sender 15 = .ok (.aload_n 0, 1) := by decide +kernel
theorem dX6_sender_16 : decode cX6_sender 16 = .ok (.getfield 25, 3) := by decide +kernel
theorem dX6_sender_19 : decode cX6_sender 19 = .ok (.iload_n 1, 1) := by decide +kernel
theorem dX6_sender_20 : decode cX6_sender 20 = .ok (.aaload, 1) := by decide +kernel
theorem dX6_sender_21 : decode cX6_sender 21 = .ok (.astore_n 3, 1) := by decide +kernel
theorem dX6_sender_22 : decode cX6_sender 22 = .ok (.iload_n 2, 1) := by decide +kernel
theorem dX6_sender_23 : decode cX6_sender 23 = .ok (.tableswitch 64 0 4 #[33, 38, 43, 48, 56], 33) := by decide +kernel
theorem dX6_sender_56 : decode cX6_sender 56 = .ok (.aload_n 3, 1) := by decide +kernel
theorem dX6_sender_57 : decode cX6_sender 57 = .ok (.getfield 158, 3) := by decide +kernel
theorem dX6_sender_60 : decode cX6_sender 60 = .ok (.ireturn, 1) := by decide +kernel
theorem dX6_sender_61 : decode cX6_sender 61 = .ok (.aload_n 3, 1) := by decide +kernel
theorem dX6_sender_62 : decode cX6_sender 62 = .ok (.getfield 161, 3) := by decide +kernel
theorem dX6_sender_65 : decode cX6_sender 65 = .ok (.ireturn, 1) := by decide +kernel
theorem dX6_sender_66 : decode cX6_sender 66 = .ok (.aload_n 3, 1) := by decide +kernel
theorem dX6_sender_67 : decode cX6_sender 67 = .ok (.getfield 164, 3) := by decide +kernel
theorem dX6_sender_70 : decode cX6_sender 70 = .ok (.ireturn, 1) := by decide +kernel
theorem dX6_sender_71 : decode cX6_sender 71 = .ok (.aload_n 3, 1) := by decide +kernel
theorem dX6_sender_72 : decode cX6_sender 72 = .ok (.getfield 167, 3) := by decide +kernel
theorem dX6_sender_75 : decode cX6_sender 75 = .ok (.getfield 171, 3) := by decide +kernel
theorem dX6_sender_78 : decode cX6_sender 78 = .ok (.ireturn, 1) := by decide +kernel
theorem dX6_sender_79 : decode cX6_sender 79 = .ok (.aload_n 3, 1) := by decide +kernel
theorem dX6_sender_80 : decode cX6_sender 80 = .ok (.getfield 167, 3) := by decide +kernel
theorem dX6_sender_83 : decode cX6_sender 83 = .ok (.getfield 176, 3) := by decide +kernel
theorem dX6_sender_86 : decode cX6_sender 86 = .ok (.ireturn, 1) := by decide +kernel
theorem dX6_sender_87 : decode cX6_sender 87 = .ok (.new 57, 3) := by decide +kernel
theorem dX6_sender_90 : decode cX6_sender 90 = .ok (.dup, 1) := by decide +kernel
theorem dX6_sender_91 : decode cX6_sender 91 = .ok (.invokespecial 59, 3) := by decide +kernel
theorem dX6_sender_94 : decode cX6_sender 94 = .ok (.athrow, 1) := by decide +kernel
theorem dX6_receiver_0 : decode cX6_receiver 0 = .ok (.iload_n 1, 1) := by decide +kernel
theorem dX6_receiver_1 : decode cX6_receiver 1 = .ok (.invokestatic 47, 3) := by decide +kernel
theorem dX6_receiver_4 : decode cX6_receiver 4 = .ok (.ifCond .eq 11, 3) := by decide +kernel
theorem dX6_receiver_7 : decode cX6_receiver 7 = .ok (.new 51, 3) := by decide +kernel
theorem dX6_receiver_10 : decode cX6_receiver 10 = .ok (.dup, 1) := by decide +kernel
theorem dX6_receiver_11 : decode cX6_receiver 11 = .ok (.invokespecial 53, 3) := by decide +kernel
theorem dX6_receiver_14 : decode cX6_receiver 14 = .ok (.athrow, 1) := by decide +kernel
theorem dX6_receiver_15 : decode cX6_receiver 15 = .ok (.aload_n 0, 1) := by decide +kernel
theorem dX6_receiver_16 : decode cX6_receiver 16 = .ok (.getfield 31, 3) := by decide +kernel
theorem dX6_receiver_19 : decode cX6_receiver 19 = .ok (.iload_n 1, 1) := by decide +kernel
theorem dX6_receiver_20 : decode cX6_receiver 20 = .ok (.aaload, 1) := by decide +kernel
theorem dX6_receiver_21 : decode cX6_receiver 21 = .ok (.astore_n 3, 1) := by decide +kernel
theorem dX6_receiver_22 : decode cX6_receiver 22 = .ok (.iload_n 2, 1) := by decide +kernel
theorem dX6_receiver_23 : decode cX6_receiver 23 = .ok (.tableswitch 49 0 3 #[29, 34, 39, 44], 29) := by decide +kernel
theorem dX6_receiver_52 : decode cX6_receiver 52 = .ok (.aload_n 3, 1) := by decide +kernel
theorem dX6_receiver_53 : decode cX6_receiver 53 = .ok (.getfield 179, 3) := by decide +kernel
theorem dX6_receiver_56 : decode cX6_receiver 56 = .ok (.ireturn, 1) := by decide +kernel
theorem dX6_receiver_57 : decode cX6_receiver 57 = .ok (.aload_n 3, 1) := by decide +kernel
theorem dX6_receiver_58 : decode cX6_receiver 58 = .ok (.getfield 182, 3) := by decide +kernel
theorem dX6_receiver_61 : decode cX6_receiver 61 = .ok (.ireturn, 1) := by decide +kernel
theorem dX6_receiver_62 : decode cX6_receiver 62 = .ok (.aload_n 3, 1) := by decide +kernel
theorem dX6_receiver_63 : decode cX6_receiver 63 = .ok (.getfield 185, 3) := by decide +kernel
theorem dX6_receiver_66 : decode cX6_receiver 66 = .ok (.ireturn, 1) := by decide +kernel
theorem dX6_receiver_67 : decode cX6_receiver 67 = .ok (.aload_n 3, 1) := by decide +kernel
theorem dX6_receiver_68 : decode cX6_receiver 68 = .ok (.getfield 188, 3) := by decide +kernel
theorem dX6_receiver_71 : decode cX6_receiver 71 = .ok (.ireturn, 1) := by decide +kernel
theorem dX6_receiver_72 : decode cX6_receiver 72 = .ok (.new 57, 3) := by decide +kernel
theorem dX6_receiver_75 : decode cX6_receiver 75 = .ok (.dup, 1) := by decide +kernel
theorem dX6_receiver_76 : decode cX6_receiver 76 = .ok (.invokespecial 59, 3) := by decide +kernel
theorem dX6_receiver_79 : decode cX6_receiver 79 = .ok (.athrow, 1) := by decide +kernel
theorem dX6_count_0 : decode cX6_count 0 = .ok (.iload_n 1, 1) := by decide +kernel
theorem dX6_count_1 : decode cX6_count 1 = .ok (.ifCond .lt 9, 3) := by decide +kernel
theorem dX6_count_4 : decode cX6_count 4 = .ok (.iload_n 1, 1) := by decide +kernel
theorem dX6_count_5 : decode cX6_count 5 = .ok (.bipush 11, 2) := by decide +kernel
theorem dX6_count_7 : decode cX6_count 7 = .ok (.if_icmp .lt 11, 3) := by decide +kernel
theorem dX6_count_10 : decode cX6_count 10 = .ok (.new 57, 3) := by decide +kernel
theorem dX6_count_13 : decode cX6_count 13 = .ok (.dup, 1) := by decide +kernel
theorem dX6_count_14 : decode cX6_count 14 = .ok (.invokespecial 59, 3) := by decide +kernel
theorem dX6_count_17 : decode cX6_count 17 = .ok (.athrow, 1) := by decide +kernel
theorem dX6_count_18 : decode cX6_count 18 = .ok (.aload_n 0, 1) := by decide +kernel
theorem dX6_count_19 : decode cX6_count 19 = .ok (.getfield 35, 3) := by decide +kernel
theorem dX6_count_22 : decode cX6_count 22 = .ok (.iload_n 1, 1) := by decide +kernel
theorem dX6_count_23 : decode cX6_count 23 = .ok (.iaload, 1) := by decide +kernel
theorem dX6_count_24 : decode cX6_count 24 = .ok (.ireturn, 1) := by decide +kernel
theorem dX6_keepTrial_0 : decode cX6_keepTrial 0 = .ok (.aload_n 0, 1) := by decide +kernel
theorem dX6_keepTrial_1 : decode cX6_keepTrial 1 = .ok (.getfield 39, 3) := by decide +kernel
theorem dX6_keepTrial_4 : decode cX6_keepTrial 4 = .ok (.astore_n 1, 1) := by decide +kernel
theorem dX6_keepTrial_5 : decode cX6_keepTrial 5 = .ok (.aload_n 0, 1) := by decide +kernel
theorem dX6_keepTrial_6 : decode cX6_keepTrial 6 = .ok (.aload_n 0, 1) := by decide +kernel
theorem dX6_keepTrial_7 : decode cX6_keepTrial 7 = .ok (.getfield 42, 3) := by decide +kernel
theorem dX6_keepTrial_10 : decode cX6_keepTrial 10 = .ok (.putfield 39, 3) := by decide +kernel
theorem dX6_keepTrial_13 : decode cX6_keepTrial 13 = .ok (.aload_n 0, 1) := by decide +kernel
theorem dX6_keepTrial_14 : decode cX6_keepTrial 14 = .ok (.aload_n 1, 1) := by decide +kernel
theorem dX6_keepTrial_15 : decode cX6_keepTrial 15 = .ok (.putfield 42, 3) := by decide +kernel
theorem dX6_keepTrial_18 : decode cX6_keepTrial 18 = .ok (.return_, 1) := by decide +kernel
theorem dX6_isNoPacket_0 : decode cX6_isNoPacket 0 = .ok (.iload_n 1, 1) := by decide +kernel
theorem dX6_isNoPacket_1 : decode cX6_isNoPacket 1 = .ok (.ifCond .lt 14, 3) := by decide +kernel
theorem dX6_isNoPacket_4 : decode cX6_isNoPacket 4 = .ok (.iload_n 1, 1) := by decide +kernel
theorem dX6_isNoPacket_5 : decode cX6_isNoPacket 5 = .ok (.aload_n 0, 1) := by decide +kernel
theorem dX6_isNoPacket_6 : decode cX6_isNoPacket 6 = .ok (.getfield 19, 3) := by decide +kernel
theorem dX6_isNoPacket_9 : decode cX6_isNoPacket 9 = .ok (.getfield 108, 3) := by decide +kernel
theorem dX6_isNoPacket_12 : decode cX6_isNoPacket 12 = .ok (.if_icmp .lt 7, 3) := by decide +kernel
theorem dX6_isNoPacket_15 : decode cX6_isNoPacket 15 = .ok (.iconst 1, 1) := by decide +kernel
theorem dX6_isNoPacket_16 : decode cX6_isNoPacket 16 = .ok (.goto 4, 3) := by decide +kernel
theorem dX6_isNoPacket_19 : decode cX6_isNoPacket 19 = .ok (.iconst 0, 1) := by decide +kernel
theorem dX6_isNoPacket_20 : decode cX6_isNoPacket 20 = .ok (.ireturn, 1) := by decide +kernel
theorem dX6_isNoByte_0 : decode cX6_isNoByte 0 = .ok (.iload_n 2, 1) := by decide +kernel
theorem dX6_isNoByte_1 : decode cX6_isNoByte 1 = .ok (.ifCond .lt 19, 3) := by decide +kernel
theorem dX6_isNoByte_4 : decode cX6_isNoByte 4 = .ok (.iload_n 2, 1) := by decide +kernel
theorem dX6_isNoByte_5 : decode cX6_isNoByte 5 = .ok (.aload_n 0, 1) := by decide +kernel
theorem dX6_isNoByte_6 : decode cX6_isNoByte 6 = .ok (.getfield 19, 3) := by decide +kernel
theorem dX6_isNoByte_9 : decode cX6_isNoByte 9 = .ok (.getfield 114, 3) := by decide +kernel
theorem dX6_isNoByte_12 : decode cX6_isNoByte 12 = .ok (.iload_n 1, 1) := by decide +kernel
theorem dX6_isNoByte_13 : decode cX6_isNoByte 13 = .ok (.aaload, 1) := by decide +kernel
theorem dX6_isNoByte_14 : decode cX6_isNoByte 14 = .ok (.getfield 101, 3) := by decide +kernel
theorem dX6_isNoByte_17 : decode cX6_isNoByte 17 = .ok (.if_icmp .lt 7, 3) := by decide +kernel
theorem dX6_isNoByte_20 : decode cX6_isNoByte 20 = .ok (.iconst 1, 1) := by decide +kernel
theorem dX6_isNoByte_21 : decode cX6_isNoByte 21 = .ok (.goto 4, 3) := by decide +kernel
theorem dX6_isNoByte_24 : decode cX6_isNoByte 24 = .ok (.iconst 0, 1) := by decide +kernel
theorem dX6_isNoByte_25 : decode cX6_isNoByte 25 = .ok (.ireturn, 1) := by decide +kernel
theorem dX6_isNoFlow_0 : decode cX6_isNoFlow 0 = .ok (.iload_n 0, 1) := by decide +kernel
theorem dX6_isNoFlow_1 : decode cX6_isNoFlow 1 = .ok (.ifCond .lt 8, 3) := by decide +kernel
theorem dX6_isNoFlow_4 : decode cX6_isNoFlow 4 = .ok (.iload_n 0, 1) := by decide +kernel
theorem dX6_isNoFlow_5 : decode cX6_isNoFlow 5 = .ok (.iconst 4, 1) := by decide +kernel
theorem dX6_isNoFlow_6 : decode cX6_isNoFlow 6 = .ok (.if_icmp .lt 7, 3) := by decide +kernel
theorem dX6_isNoFlow_9 : decode cX6_isNoFlow 9 = .ok (.iconst 1, 1) := by decide +kernel
theorem dX6_isNoFlow_10 : decode cX6_isNoFlow 10 = .ok (.goto 4, 3) := by decide +kernel
theorem dX6_isNoFlow_13 : decode cX6_isNoFlow 13 = .ok (.iconst 0, 1) := by decide +kernel
theorem dX6_isNoFlow_14 : decode cX6_isNoFlow 14 = .ok (.ireturn, 1) := by decide +kernel
theorem dX6_isNotInTwoBytes_0 : decode cX6_isNotInTwoBytes 0 = .ok (.iload_n 0, 1) := by decide +kernel
theorem dX6_isNotInTwoBytes_1 : decode cX6_isNotInTwoBytes 1 = .ok (.ifCond .lt 9, 3) := by decide +kernel
theorem dX6_isNotInTwoBytes_4 : decode cX6_isNotInTwoBytes 4 = .ok (.iload_n 0, 1) := by decide +kernel
theorem dX6_isNotInTwoBytes_5 : decode cX6_isNotInTwoBytes 5 = .ok (.ldc 191, 2) := by decide +kernel
theorem dX6_isNotInTwoBytes_7 : decode cX6_isNotInTwoBytes 7 = .ok (.if_icmp .le 7, 3) := by decide +kernel
theorem dX6_isNotInTwoBytes_10 : decode cX6_isNotInTwoBytes 10 = .ok (.iconst 1, 1) := by decide +kernel
theorem dX6_isNotInTwoBytes_11 : decode cX6_isNotInTwoBytes 11 = .ok (.goto 4, 3) := by decide +kernel
theorem dX6_isNotInTwoBytes_14 : decode cX6_isNotInTwoBytes 14 = .ok (.iconst 0, 1) := by decide +kernel
theorem dX6_isNotInTwoBytes_15 : decode cX6_isNotInTwoBytes 15 = .ok (.ireturn, 1) := by decide +kernel
theorem dX7_init_0 : decode cX7_init 0 = .ok (.aload_n 0, 1) := by decide +kernel
theorem dX7_init_1 : decode cX7_init 1 = .ok (.invokespecial 1, 3) := by decide +kernel
theorem dX7_init_4 : decode cX7_init 4 = .ok (.aload_n 0, 1) := by decide +kernel
theorem dX7_init_5 : decode cX7_init 5 = .ok (.iconst 4, 1) := by decide +kernel
theorem dX7_init_6 : decode cX7_init 6 = .ok (.newarray .int, 2) := by decide +kernel
theorem dX7_init_8 : decode cX7_init 8 = .ok (.putfield 7, 3) := by decide +kernel
theorem dX7_init_11 : decode cX7_init 11 = .ok (.aload_n 0, 1) := by decide +kernel
theorem dX7_init_12 : decode cX7_init 12 = .ok (.iconst 4, 1) := by decide +kernel
theorem dX7_init_13 : decode cX7_init 13 = .ok (.newarray .boolean, 2) := by decide +kernel
theorem dX7_init_15 : decode cX7_init 15 = .ok (.putfield 13, 3) := by decide +kernel
theorem dX7_init_18 : decode cX7_init 18 = .ok (.aload_n 0, 1) := by decide +kernel
theorem dX7_init_19 : decode cX7_init 19 = .ok (.iconst 4, 1) := by decide +kernel
theorem dX7_init_20 : decode cX7_init 20 = .ok (.newarray .int, 2) := by decide +kernel
theorem dX7_init_22 : decode cX7_init 22 = .ok (.putfield 17, 3) := by decide +kernel
theorem dX7_init_25 : decode cX7_init 25 = .ok (.aload_n 0, 1) := by decide +kernel
theorem dX7_init_26 : decode cX7_init 26 = .ok (.iconst 4, 1) := by decide +kernel
theorem dX7_init_27 : decode cX7_init 27 = .ok (.newarray .int, 2) := by decide +kernel
theorem dX7_init_29 : decode cX7_init 29 = .ok (.putfield 20, 3) := by decide +kernel
theorem dX7_init_32 : decode cX7_init 32 = .ok (.aload_n 0, 1) := by decide +kernel
theorem dX7_init_33 : decode cX7_init 33 = .ok (.iconst 4, 1) := by decide +kernel
theorem dX7_init_34 : decode cX7_init 34 = .ok (.newarray .int, 2) := by decide +kernel
theorem dX7_init_36 : decode cX7_init 36 = .ok (.putfield 23, 3) := by decide +kernel
theorem dX7_init_39 : decode cX7_init 39 = .ok (.aload_n 0, 1) := by decide +kernel
theorem dX7_init_40 : decode cX7_init 40 = .ok (.iconst 4, 1) := by decide +kernel
theorem dX7_init_41 : decode cX7_init 41 = .ok (.newarray .int, 2) := by decide +kernel
theorem dX7_init_43 : decode cX7_init 43 = .ok (.putfield 26, 3) := by decide +kernel
theorem dX7_init_46 : decode cX7_init 46 = .ok (.aload_n 0, 1) := by decide +kernel
theorem dX7_init_47 : decode cX7_init 47 = .ok (.iconst 4, 1) := by decide +kernel
theorem dX7_init_48 : decode cX7_init 48 = .ok (.newarray .int, 2) := by decide +kernel
theorem dX7_init_50 : decode cX7_init 50 = .ok (.putfield 29, 3) := by decide +kernel
theorem dX7_init_53 : decode cX7_init 53 = .ok (.aload_n 0, 1) := by decide +kernel
theorem dX7_init_54 : decode cX7_init 54 = .ok (.iconst 4, 1) := by decide +kernel
theorem dX7_init_55 : decode cX7_init 55 = .ok (.newarray .int, 2) := by decide +kernel
theorem dX7_init_57 : decode cX7_init 57 = .ok (.putfield 32, 3) := by decide +kernel
theorem dX7_init_60 : decode cX7_init 60 = .ok (.aload_n 0, 1) := by decide +kernel
theorem dX7_init_61 : decode cX7_init 61 = .ok (.iconst 4, 1) := by decide +kernel
theorem dX7_init_62 : decode cX7_init 62 = .ok (.newarray .int, 2) := by decide +kernel
theorem dX7_init_64 : decode cX7_init 64 = .ok (.putfield 35, 3) := by decide +kernel
theorem dX7_init_67 : decode cX7_init 67 = .ok (.aload_n 0, 1) := by decide +kernel
theorem dX7_init_68 : decode cX7_init 68 = .ok (.iconst 4, 1) := by decide +kernel
theorem dX7_init_69 : decode cX7_init 69 = .ok (.newarray .int, 2) := by decide +kernel
theorem dX7_init_71 : decode cX7_init 71 = .ok (.putfield 38, 3) := by decide +kernel
theorem dX7_init_74 : decode cX7_init 74 = .ok (.aload_n 0, 1) := by decide +kernel
theorem dX7_init_75 : decode cX7_init 75 = .ok (.iconst 4, 1) := by decide +kernel
theorem dX7_init_76 : decode cX7_init 76 = .ok (.newarray .int, 2) := by decide +kernel
theorem dX7_init_78 : decode cX7_init 78 = .ok (.putfield 41, 3) := by decide +kernel
theorem dX7_init_81 : decode cX7_init 81 = .ok (.aload_n 0, 1) := by decide +kernel
theorem dX7_init_82 : decode cX7_init 82 = .ok (.bipush 16, 2) := by decide +kernel
theorem dX7_init_84 : decode cX7_init 84 = .ok (.newarray .int, 2) := by decide +kernel
theorem dX7_init_86 : decode cX7_init 86 = .ok (.putfield 44, 3) := by decide +kernel
theorem dX7_init_89 : decode cX7_init 89 = .ok (.aload_n 0, 1) := by decide +kernel
theorem dX7_init_90 : decode cX7_init 90 = .ok (.bipush 8, 2) := by decide +kernel
theorem dX7_init_92 : decode cX7_init 92 = .ok (.newarray .int, 2) := by decide +kernel
theorem dX7_init_94 : decode cX7_init 94 = .ok (.putfield 47, 3) := by decide +kernel
theorem dX7_init_97 : decode cX7_init 97 = .ok (.aload_n 0, 1) := by decide +kernel
theorem dX7_init_98 : decode cX7_init 98 = .ok (.sipush 160, 3) := by decide +kernel
theorem dX7_init_101 : decode cX7_init 101 = .ok (.newarray .int, 2) := by decide +kernel
theorem dX7_init_103 : decode cX7_init 103 = .ok (.putfield 50, 3) := by decide +kernel
theorem dX7_init_106 : decode cX7_init 106 = .ok (.aload_n 0, 1) := by decide +kernel
theorem dX7_init_107 : decode cX7_init 107 = .ok (.iconst 4, 1) := by decide +kernel
theorem dX7_init_108 : decode cX7_init 108 = .ok (.newarray .int, 2) := by decide +kernel
theorem dX7_init_110 : decode cX7_init 110 = .ok (.putfield 53, 3) := by decide +kernel
theorem dX7_init_113 : decode cX7_init 113 = .ok (.aload_n 0, 1) := by decide +kernel
theorem dX7_init_114 : decode cX7_init 114 = .ok (.iconst 4, 1) := by decide +kernel
theorem dX7_init_115 : decode cX7_init 115 = .ok (.newarray .int, 2) := by decide +kernel
theorem dX7_init_117 : decode cX7_init 117 = .ok (.putfield 56, 3) := by decide +kernel
theorem dX7_init_120 : decode cX7_init 120 = .ok (.aload_n 0, 1) := by decide +kernel
theorem dX7_init_121 : decode cX7_init 121 = .ok (.iconst 4, 1) := by decide +kernel
theorem dX7_init_122 : decode cX7_init 122 = .ok (.newarray .int, 2) := by decide +kernel
theorem dX7_init_124 : decode cX7_init 124 = .ok (.putfield 59, 3) := by decide +kernel
theorem dX7_init_127 : decode cX7_init 127 = .ok (.aload_n 0, 1) := by decide +kernel
theorem dX7_init_128 : decode cX7_init 128 = .ok (.iconst 4, 1) := by decide +kernel
theorem dX7_init_129 : decode cX7_init 129 = .ok (.newarray .int, 2) := by decide +kernel
theorem dX7_init_131 : decode cX7_init 131 = .ok (.putfield 62, 3) := by decide +kernel
theorem dX7_init_134 : decode cX7_init 134 = .ok (.aload_n 0, 1) := by decide +kernel
theorem dX7_init_135 : decode cX7_init 135 = .ok (.iconst 4, 1) := by decide +kernel
theorem dX7_init_136 : decode cX7_init 136 = .ok (.newarray .int, 2) := by decide +kernel
theorem dX7_init_138 : decode cX7_init 138 = .ok (.putfield 65, 3) := by decide +kernel
theorem dX7_init_141 : decode cX7_init 141 = .ok (.aload_n 0, 1) := by decide +kernel
theorem dX7_init_142 : decode cX7_init 142 = .ok (.iconst 4, 1) := by decide +kernel
theorem dX7_init_143 : decode cX7_init 143 = .ok (.newarray .int, 2) := by decide +kernel
theorem dX7_init_145 : decode cX7_init 145 = .ok (.putfield 68, 3) := by decide +kernel
theorem dX7_init_148 : decode cX7_init 148 = .ok (.aload_n 0, 1) := by decide +kernel
theorem dX7_init_149 : decode cX7_init 149 = .ok (.iconst 4, 1) := by decide +kernel
theorem dX7_init_150 : decode cX7_init 150 = .ok (.newarray .int, 2) := by decide +kernel
theorem dX7_init_152 : decode cX7_init 152 = .ok (.putfield 71, 3) := by decide +kernel
theorem dX7_init_155 : decode cX7_init 155 = .ok (.aload_n 0, 1) := by decide +kernel
theorem dX7_init_156 : decode cX7_init 156 = .ok (.iconst 4, 1) := by decide +kernel
theorem dX7_init_157 : decode cX7_init 157 = .ok (.newarray .int, 2) := by decide +kernel
theorem dX7_init_159 : decode cX7_init 159 = .ok (.putfield 74, 3) := by decide +kernel
theorem dX7_init_162 : decode cX7_init 162 = .ok (.aload_n 0, 1) := by decide +kernel
theorem dX7_init_163 : decode cX7_init 163 = .ok (.iconst 4, 1) := by decide +kernel
theorem dX7_init_164 : decode cX7_init 164 = .ok (.newarray .int, 2) := by decide +kernel
theorem dX7_init_166 : decode cX7_init 166 = .ok (.putfield 77, 3) := by decide +kernel
theorem dX7_init_169 : decode cX7_init 169 = .ok (.aload_n 0, 1) := by decide +kernel
theorem dX7_init_170 : decode cX7_init 170 = .ok (.bipush 11, 2) := by decide +kernel
theorem dX7_init_172 : decode cX7_init 172 = .ok (.newarray .int, 2) := by decide +kernel
theorem dX7_init_174 : decode cX7_init 174 = .ok (.putfield 80, 3) := by decide +kernel
theorem dX7_init_177 : decode cX7_init 177 = .ok (.aload_n 0, 1) := by decide +kernel
theorem dX7_init_178 : decode cX7_init 178 = .ok (.bipush 11, 2) := by decide +kernel
theorem dX7_init_180 : decode cX7_init 180 = .ok (.newarray .int, 2) := by decide +kernel
theorem dX7_init_182 : decode cX7_init 182 = .ok (.putfield 83, 3) := by decide +kernel
theorem dX7_init_185 : decode cX7_init 185 = .ok (.aload_n 0, 1) := by decide +kernel
theorem dX7_init_186 : decode cX7_init 186 = .ok (.bipush 13, 2) := by decide +kernel
theorem dX7_init_188 : decode cX7_init 188 = .ok (.newarray .int, 2) := by decide +kernel
theorem dX7_init_190 : decode cX7_init 190 = .ok (.putfield 86, 3) := by decide +kernel
theorem dX7_init_193 : decode cX7_init 193 = .ok (.aload_n 0, 1) := by decide +kernel
theorem dX7_init_194 : decode cX7_init 194 = .ok (.bipush 20, 2) := by decide +kernel
theorem dX7_init_196 : decode cX7_init 196 = .ok (.newarray .int, 2) := by decide +kernel
theorem dX7_init_198 : decode cX7_init 198 = .ok (.putfield 89, 3) := by decide +kernel
theorem dX7_init_201 : decode cX7_init 201 = .ok (.return_, 1) := by decide +kernel
theorem dX7_thrown_0 : decode cX7_thrown 0 = .ok (.aload_n 0, 1) := by decide +kernel
theorem dX7_thrown_1 : decode cX7_thrown 1 = .ok (.getfield 92, 3) := by decide +kernel
theorem dX7_thrown_4 : decode cX7_thrown 4 = .ok (.ireturn, 1) := by decide +kernel
theorem dX7_fill_0 : decode cX7_fill 0 = .ok (.aload_n 0, 1) := by decide +kernel
theorem dX7_fill_1 : decode cX7_fill 1 = .ok (.getfield 86, 3) := by decide +kernel
theorem dX7_fill_4 : decode cX7_fill 4 = .ok (.iconst 0, 1) := by decide +kernel
theorem dX7_fill_5 : decode cX7_fill 5 = .ok (.iload_n 1, 1) := by decide +kernel
theorem dX7_fill_6 : decode cX7_fill 6 = .ok (.sipush 256, 3) := by decide +kernel
theorem dX7_fill_9 : decode cX7_fill 9 = .ok (.idiv, 1) := by decide +kernel
theorem dX7_fill_10 : decode cX7_fill 10 = .ok (.iastore, 1) := by decide +kernel
theorem dX7_fill_11 : decode cX7_fill 11 = .ok (.aload_n 0, 1) := by decide +kernel
theorem dX7_fill_12 : decode cX7_fill 12 = .ok (.getfield 86, 3) := by decide +kernel
theorem dX7_fill_15 : decode cX7_fill 15 = .ok (.iconst 1, 1) := by decide +kernel
theorem dX7_fill_16 : decode cX7_fill 16 = .ok (.iload_n 1, 1) := by decide +kernel
theorem dX7_fill_17 : decode cX7_fill 17 = .ok (.sipush 256, 3) := by decide +kernel
theorem dX7_fill_20 : decode cX7_fill 20 = .ok (.irem, 1) := by decide +kernel
theorem dX7_fill_21 : decode cX7_fill 21 = .ok (.iastore, 1) := by decide +kernel
theorem dX7_fill_22 : decode cX7_fill 22 = .ok (.aload_n 0, 1) := by decide +kernel
theorem dX7_fill_23 : decode cX7_fill 23 = .ok (.getfield 86, 3) := by decide +kernel
theorem dX7_fill_26 : decode cX7_fill 26 = .ok (.iconst 2, 1) := by decide +kernel
theorem dX7_fill_27 : decode cX7_fill 27 = .ok (.iload_n 2, 1) := by decide +kernel
theorem dX7_fill_28 : decode cX7_fill 28 = .ok (.iload_n 3, 1) := by decide +kernel
theorem dX7_fill_29 : decode cX7_fill 29 = .ok (.ifCond .eq 9, 3) := by decide +kernel
theorem dX7_fill_32 : decode cX7_fill 32 = .ok (.sipush 128, 3) := by decide +kernel
theorem dX7_fill_35 : decode cX7_fill 35 = .ok (.goto 4, 3) := by decide +kernel
theorem dX7_fill_38 : decode cX7_fill 38 = .ok (.iconst 0, 1) := by decide +kernel
theorem dX7_fill_39 : decode cX7_fill 39 = .ok (.iadd, 1) := by decide +kernel
theorem dX7_fill_40 : decode cX7_fill 40 = .ok (.iastore, 1) := by decide +kernel
theorem dX7_fill_41 : decode cX7_fill 41 = .ok (.aload_n 0, 1) := by decide +kernel
theorem dX7_fill_42 : decode cX7_fill 42 = .ok (.getfield 86, 3) := by decide +kernel
theorem dX7_fill_45 : decode cX7_fill 45 = .ok (.iconst 3, 1) := by decide +kernel
theorem dX7_fill_46 : decode cX7_fill 46 = .ok (.iload 4, 2) := by decide +kernel
theorem dX7_fill_48 : decode cX7_fill 48 = .ok (.sipush 256, 3) := by decide +kernel
theorem dX7_fill_51 : decode cX7_fill 51 = .ok (.idiv, 1) := by decide +kernel
theorem dX7_fill_52 : decode cX7_fill 52 = .ok (.iastore, 1) := by decide +kernel
theorem dX7_fill_53 : decode cX7_fill 53 = .ok (.aload_n 0, 1) := by decide +kernel
theorem dX7_fill_54 : decode cX7_fill 54 = .ok (.getfield 86, 3) := by decide +kernel
theorem dX7_fill_57 : decode cX7_fill 57 = .ok (.iconst 4, 1) := by decide +kernel
theorem dX7_fill_58 : decode cX7_fill 58 = .ok (.iload 4, 2) := by decide +kernel
theorem dX7_fill_60 : decode cX7_fill 60 = .ok (.sipush 256, 3) := by decide +kernel
theorem dX7_fill_63 : decode cX7_fill 63 = .ok (.irem, 1) := by decide +kernel
theorem dX7_fill_64 : decode cX7_fill 64 = .ok (.iastore, 1) := by decide +kernel
theorem dX7_fill_65 : decode cX7_fill 65 = .ok (.iconst 0, 1) := by decide +kernel
theorem dX7_fill_66 : decode cX7_fill 66 = .ok (.istore 7, 2) := by decide +kernel
theorem dX7_fill_68 : decode cX7_fill 68 = .ok (.iload 7, 2) := by decide +kernel
theorem dX7_fill_70 : decode cX7_fill 70 = .ok (.iconst 4, 1) := by decide +kernel
theorem dX7_fill_71 : decode cX7_fill 71 = .ok (.if_icmp .ge 33, 3) := by decide +kernel
theorem dX7_fill_74 : decode cX7_fill 74 = .ok (.aload_n 0, 1) := by decide +kernel
theorem dX7_fill_75 : decode cX7_fill 75 = .ok (.getfield 86, 3) := by decide +kernel
theorem dX7_fill_78 : decode cX7_fill 78 = .ok (.iconst 5, 1) := by decide +kernel
theorem dX7_fill_79 : decode cX7_fill 79 = .ok (.iload 7, 2) := by decide +kernel
theorem dX7_fill_81 : decode cX7_fill 81 = .ok (.iadd, 1) := by decide +kernel
theorem dX7_fill_82 : decode cX7_fill 82 = .ok (.iload 5, 2) := by decide +kernel
theorem dX7_fill_84 : decode cX7_fill 84 = .ok (.bipush 24, 2) := by decide +kernel
theorem dX7_fill_86 : decode cX7_fill 86 = .ok (.bipush 8, 2) := by decide +kernel
theorem dX7_fill_88 : decode cX7_fill 88 = .ok (.iload 7, 2) := by decide +kernel
theorem dX7_fill_90 : decode cX7_fill 90 = .ok (.imul, 1) := by decide +kernel
theorem dX7_fill_91 : decode cX7_fill 91 = .ok (.isub, 1) := by decide +kernel
theorem dX7_fill_92 : decode cX7_fill 92 = .ok (.ishr, 1) := by decide +kernel
theorem dX7_fill_93 : decode cX7_fill 93 = .ok (.sipush 255, 3) := by decide +kernel
theorem dX7_fill_96 : decode cX7_fill 96 = .ok (.iand, 1) := by decide +kernel
theorem dX7_fill_97 : decode cX7_fill 97 = .ok (.iastore, 1) := by decide +kernel
theorem dX7_fill_98 : decode cX7_fill 98 = .ok (.iinc 7 1, 3) := by decide +kernel
theorem dX7_fill_101 : decode cX7_fill 101 = .ok (.goto (-33), 3) := by decide +kernel
theorem dX7_fill_104 : decode cX7_fill 104 = .ok (.aload_n 0, 1) := by decide +kernel
theorem dX7_fill_105 : decode cX7_fill 105 = .ok (.getfield 86, 3) := by decide +kernel
theorem dX7_fill_108 : decode cX7_fill 108 = .ok (.bipush 9, 2) := by decide +kernel
theorem dX7_fill_110 : decode cX7_fill 110 = .ok (.iload 6, 2) := by decide +kernel
theorem dX7_fill_112 : decode cX7_fill 112 = .ok (.sipush 256, 3) := by decide +kernel
theorem dX7_fill_115 : decode cX7_fill 115 = .ok (.idiv, 1) := by decide +kernel
theorem dX7_fill_116 : decode cX7_fill 116 = .ok (.iastore, 1) := by decide +kernel
theorem dX7_fill_117 : decode cX7_fill 117 = .ok (.aload_n 0, 1) := by decide +kernel
theorem dX7_fill_118 : decode cX7_fill 118 = .ok (.getfield 86, 3) := by decide +kernel
theorem dX7_fill_121 : decode cX7_fill 121 = .ok (.bipush 10, 2) := by decide +kernel
theorem dX7_fill_123 : decode cX7_fill 123 = .ok (.iload 6, 2) := by decide +kernel
theorem dX7_fill_125 : decode cX7_fill 125 = .ok (.sipush 256, 3) := by decide +kernel
theorem dX7_fill_128 : decode cX7_fill 128 = .ok (.irem, 1) := by decide +kernel
theorem dX7_fill_129 : decode cX7_fill 129 = .ok (.iastore, 1) := by decide +kernel
theorem dX7_fill_130 : decode cX7_fill 130 = .ok (.return_, 1) := by decide +kernel
theorem dX7_sum_0 : decode cX7_sum 0 = .ok (.iload_n 1, 1) := by decide +kernel
theorem dX7_sum_1 : decode cX7_sum 1 = .ok (.iconst 3, 1) := by decide +kernel
theorem dX7_sum_2 : decode cX7_sum 2 = .ok (.if_icmp .ne 8, 3) := by decide +kernel
theorem dX7_sum_5 : decode cX7_sum 5 = .ok (.bipush 6, 2) := by decide +kernel
theorem dX7_sum_7 : decode cX7_sum 7 = .ok (.goto 17, 3) := by decide +kernel
theorem dX7_sum_10 : decode cX7_sum 10 = .ok (.iload_n 1, 1) := by decide +kernel
theorem dX7_sum_11 : decode cX7_sum 11 = .ok (.bipush 7, 2) := by decide +kernel
theorem dX7_sum_13 : decode cX7_sum 13 = .ok (.if_icmp .ne 8, 3) := by decide +kernel
theorem dX7_sum_16 : decode cX7_sum 16 = .ok (.bipush 121, 2) := by decide +kernel
theorem dX7_sum_18 : decode cX7_sum 18 = .ok (.goto 6, 3) := by decide +kernel
theorem dX7_sum_21 : decode cX7_sum 21 = .ok (.sipush 224, 3) := by decide +kernel
theorem dX7_sum_24 : decode cX7_sum 24 = .ok (.istore_n 3, 1) := by decide +kernel
theorem dX7_sum_25 : decode cX7_sum 25 = .ok (.iconst 1, 1) := by decide +kernel
theorem dX7_sum_26 : decode cX7_sum 26 = .ok (.iload_n 1, 1) := by decide +kernel
theorem dX7_sum_27 : decode cX7_sum 27 = .ok (.ishl, 1) := by decide +kernel
theorem dX7_sum_28 : decode cX7_sum 28 = .ok (.iconst 1, 1) := by decide +kernel
theorem dX7_sum_29 : decode cX7_sum 29 = .ok (.isub, 1) := by decide +kernel
theorem dX7_sum_30 : decode cX7_sum 30 = .ok (.istore 4, 2) := by decide +kernel
theorem dX7_sum_32 : decode cX7_sum 32 = .ok (.iconst 0, 1) := by decide +kernel
theorem dX7_sum_33 : decode cX7_sum 33 = .ok (.istore 5, 2) := by decide +kernel
theorem dX7_sum_35 : decode cX7_sum 35 = .ok (.iload 5, 2) := by decide +kernel
theorem dX7_sum_37 : decode cX7_sum 37 = .ok (.iload_n 2, 1) := by decide +kernel
theorem dX7_sum_38 : decode cX7_sum 38 = .ok (.if_icmp .ge 73, 3) := by decide +kernel
theorem dX7_sum_41 : decode cX7_sum 41 = .ok (.iconst 0, 1) := by decide +kernel
theorem dX7_sum_42 : decode cX7_sum 42 = .ok (.istore 6, 2) := by decide +kernel
theorem dX7_sum_44 : decode cX7_sum 44 = .ok (.iload 6, 2) := by decide +kernel
theorem dX7_sum_46 : decode cX7_sum 46 = .ok (.bipush 8, 2) := by decide +kernel
theorem dX7_sum_48 : decode cX7_sum 48 = .ok (.if_icmp .ge 57, 3) := by decide +kernel
theorem dX7_sum_51 : decode cX7_sum 51 = .ok (.iload 4, 2) := by decide +kernel
theorem dX7_sum_53 : decode cX7_sum 53 = .ok (.iconst 1, 1) := by decide +kernel
theorem dX7_sum_54 : decode cX7_sum 54 = .ok (.iand, 1) := by decide +kernel
theorem dX7_sum_55 : decode cX7_sum 55 = .ok (.aload_n 0, 1) := by decide +kernel
theorem dX7_sum_56 : decode cX7_sum 56 = .ok (.getfield 86, 3) := by decide +kernel
theorem dX7_sum_59 : decode cX7_sum 59 = .ok (.iload 5, 2) := by decide +kernel
theorem dX7_sum_61 : decode cX7_sum 61 = .ok (.iaload, 1) := by decide +kernel
theorem dX7_sum_62 : decode cX7_sum 62 = .ok (.iload 6, 2) := by decide +kernel
theorem dX7_sum_64 : decode cX7_sum 64 = .ok (.ishr, 1) := by decide +kernel
theorem dX7_sum_65 : decode cX7_sum 65 = .ok (.iconst 1, 1) := by decide +kernel
theorem dX7_sum_66 : decode cX7_sum 66 = .ok (.iand, 1) := by decide +kernel
theorem dX7_sum_67 : decode cX7_sum 67 = .ok (.if_icmp .eq 7, 3) := by decide +kernel
theorem dX7_sum_70 : decode cX7_sum 70 = .ok (.iconst 1, 1) := by decide +kernel
theorem dX7_sum_71 : decode cX7_sum 71 = .ok (.goto 4, 3) := by decide +kernel
theorem dX7_sum_74 : decode cX7_sum 74 = .ok (.iconst 0, 1) := by decide +kernel
theorem dX7_sum_75 : decode cX7_sum 75 = .ok (.istore 7, 2) := by decide +kernel
theorem dX7_sum_77 : decode cX7_sum 77 = .ok (.iload 4, 2) := by decide +kernel
theorem dX7_sum_79 : decode cX7_sum 79 = .ok (.iconst 1, 1) := by decide +kernel
theorem dX7_sum_80 : decode cX7_sum 80 = .ok (.ishr, 1) := by decide +kernel
theorem dX7_sum_81 : decode cX7_sum 81 = .ok (.istore 4, 2) := by decide +kernel
theorem dX7_sum_83 : decode cX7_sum 83 = .ok (.iload 7, 2) := by decide +kernel
theorem dX7_sum_85 : decode cX7_sum 85 = .ok (.ifCond .eq 10, 3) := by decide +kernel
theorem dX7_sum_88 : decode cX7_sum 88 = .ok (.iload 4, 2) := by decide +kernel
theorem dX7_sum_90 : decode cX7_sum 90 = .ok (.iload_n 3, 1) := by decide +kernel
theorem dX7_sum_91 : decode cX7_sum 91 = .ok (.ixor, 1) := by decide +kernel
theorem dX7_sum_92 : decode cX7_sum 92 = .ok (.goto 5, 3) := by decide +kernel
theorem dX7_sum_95 : decode cX7_sum 95 = .ok (.iload 4, 2) := by decide +kernel
theorem dX7_sum_97 : decode cX7_sum 97 = .ok (.istore 4, 2) := by decide +kernel
theorem dX7_sum_99 : decode cX7_sum 99 = .ok (.iinc 6 1, 3) := by decide +kernel
theorem dX7_sum_102 : decode cX7_sum 102 = .ok (.goto (-58), 3) := by decide +kernel
theorem dX7_sum_105 : decode cX7_sum 105 = .ok (.iinc 5 1, 3) := by decide +kernel
theorem dX7_sum_108 : decode cX7_sum 108 = .ok (.goto (-73), 3) := by decide +kernel
theorem dX7_sum_111 : decode cX7_sum 111 = .ok (.iload 4, 2) := by decide +kernel
theorem dX7_sum_113 : decode cX7_sum 113 = .ok (.ireturn, 1) := by decide +kernel
theorem dX7_bitsOf_0 : decode cX7_bitsOf 0 = .ok (.iload_n 1, 1) := by decide +kernel
theorem dX7_bitsOf_1 : decode cX7_bitsOf 1 = .ok (.ifCond .ne 7, 3) := by decide +kernel
theorem dX7_bitsOf_4 : decode cX7_bitsOf 4 = .ok (.iconst 4, 1) := by decide +kernel
theorem dX7_bitsOf_5 : decode cX7_bitsOf 5 = .ok (.goto 15, 3) := by decide +kernel
theorem dX7_bitsOf_8 : decode cX7_bitsOf 8 = .ok (.iload_n 1, 1) := by decide +kernel
theorem dX7_bitsOf_9 : decode cX7_bitsOf 9 = .ok (.iconst 1, 1) := by decide +kernel
theorem dX7_bitsOf_10 : decode cX7_bitsOf 10 = .ok (.if_icmp .ne 8, 3) := by decide +kernel
theorem dX7_bitsOf_13 : decode cX7_bitsOf 13 = .ok (.bipush 6, 2) := by decide +kernel
theorem dX7_bitsOf_15 : decode cX7_bitsOf 15 = .ok (.goto 5, 3) := by decide +kernel
theorem dX7_bitsOf_18 : decode cX7_bitsOf 18 = .ok (.bipush 10, 2) := by decide +kernel
theorem dX7_bitsOf_20 : decode cX7_bitsOf 20 = .ok (.ireturn, 1) := by decide +kernel
theorem dX7_backOf_0 : decode cX7_backOf 0 = .ok (.iload_n 1, 1) := by decide +kernel
theorem dX7_backOf_1 : decode cX7_backOf 1 = .ok (.ifCond .ne 7, 3) := by decide +kernel
theorem dX7_backOf_4 : decode cX7_backOf 4 = .ok (.iconst 1, 1) := by decide +kernel
theorem dX7_backOf_5 : decode cX7_backOf 5 = .ok (.goto 14, 3) := by decide +kernel
theorem dX7_backOf_8 : decode cX7_backOf 8 = .ok (.iload_n 1, 1) := by decide +kernel
theorem dX7_backOf_9 : decode cX7_backOf 9 = .ok (.iconst 1, 1) := by decide +kernel
theorem dX7_backOf_10 : decode cX7_backOf 10 = .ok (.if_icmp .ne 7, 3) := by decide +kernel
theorem dX7_backOf_13 : decode cX7_backOf 13 = .ok (.iconst 3, 1) := by decide +kernel
theorem dX7_backOf_14 : decode cX7_backOf 14 = .ok (.goto 5, 3) := by decide +kernel
theorem dX7_backOf_17 : decode cX7_backOf 17 = .ok (.bipush 31, 2) := by decide +kernel
theorem dX7_backOf_19 : decode cX7_backOf 19 = .ok (.ireturn, 1) := by decide +kernel
end
section
theorem dX7_noFlow_0 : decode cX7_noFlow 0 = .ok (.iload_n 1, 1) := by decide +kernel
theorem dX7_noFlow_1 : decode cX7_noFlow 1 = .ok (.ifCond .lt 8, 3) := by decide +kernel
theorem dX7_noFlow_4 : decode cX7_noFlow 4 = .ok (.iload_n 1, 1) := by decide +kernel
theorem dX7_noFlow_5 : decode cX7_noFlow 5 = .ok (.iconst 3, 1) := by decide +kernel
theorem dX7_noFlow_6 : decode cX7_noFlow 6 = .ok (.if_icmp .le 7, 3) := by decide +kernel
theorem dX7_noFlow_9 : decode cX7_noFlow 9 = .ok (.iconst 1, 1) := by decide +kernel
theorem dX7_noFlow_10 : decode cX7_noFlow 10 = .ok (.goto 4, 3) := by decide +kernel
theorem dX7_noFlow_13 : decode cX7_noFlow 13 = .ok (.iconst 0, 1) := by decide +kernel
theorem dX7_noFlow_14 : decode cX7_noFlow 14 = .ok (.ireturn, 1) := by decide +kernel
theorem dX7_outside_0 : decode cX7_outside 0 = .ok (.iload_n 1, 1) := by decide +kernel
theorem dX7_outside_1 : decode cX7_outside 1 = .ok (.ifCond .lt 9, 3) := by decide +kernel
theorem dX7_outside_4 : decode cX7_outside 4 = .ok (.iload_n 1, 1) := by decide +kernel
theorem dX7_outside_5 : decode cX7_outside 5 = .ok (.ldc 96, 2) := by decide +kernel
theorem dX7_outside_7 : decode cX7_outside 7 = .ok (.if_icmp .le 7, 3) := by decide +kernel
theorem dX7_outside_10 : decode cX7_outside 10 = .ok (.iconst 1, 1) := by decide +kernel
theorem dX7_outside_11 : decode cX7_outside 11 = .ok (.goto 4, 3) := by decide +kernel
theorem dX7_outside_14 : decode cX7_outside 14 = .ok (.iconst 0, 1) := by decide +kernel
theorem dX7_outside_15 : decode cX7_outside 15 = .ok (.ireturn, 1) := by decide +kernel
theorem dX7_stride_0 : decode cX7_stride 0 = .ok (.aload_n 0, 1) := by decide +kernel
theorem dX7_stride_1 : decode cX7_stride 1 = .ok (.aload_n 0, 1) := by decide +kernel
theorem dX7_stride_2 : decode cX7_stride 2 = .ok (.iload_n 1, 1) := by decide +kernel
theorem dX7_stride_3 : decode cX7_stride 3 = .ok (.invokevirtual 97, 3) := by decide +kernel
theorem dX7_stride_6 : decode cX7_stride 6 = .ok (.ifCond .eq 7, 3) := by decide +kernel
theorem dX7_stride_9 : decode cX7_stride 9 = .ok (.iconst 1, 1) := by decide +kernel
theorem dX7_stride_10 : decode cX7_stride 10 = .ok (.goto 16, 3) := by decide +kernel
theorem dX7_stride_13 : decode cX7_stride 13 = .ok (.aload_n 0, 1) := by decide +kernel
theorem dX7_stride_14 : decode cX7_stride 14 = .ok (.iload_n 2, 1) := by decide +kernel
theorem dX7_stride_15 : decode cX7_stride 15 = .ok (.invokevirtual 101, 3) := by decide +kernel
theorem dX7_stride_18 : decode cX7_stride 18 = .ok (.ifCond .eq 7, 3) := by decide +kernel
theorem dX7_stride_21 : decode cX7_stride 21 = .ok (.iconst 2, 1) := by decide +kernel
theorem dX7_stride_22 : decode cX7_stride 22 = .ok (.goto 4, 3) := by decide +kernel
theorem dX7_stride_25 : decode cX7_stride 25 = .ok (.iconst 0, 1) := by decide +kernel
theorem dX7_stride_26 : decode cX7_stride 26 = .ok (.putfield 92, 3) := by decide +kernel
theorem dX7_stride_29 : decode cX7_stride 29 = .ok (.aload_n 0, 1) := by decide +kernel
theorem dX7_stride_30 : decode cX7_stride 30 = .ok (.getfield 92, 3) := by decide +kernel
theorem dX7_stride_33 : decode cX7_stride 33 = .ok (.ifCond .ne 10, 3) := by decide +kernel
theorem dX7_stride_36 : decode cX7_stride 36 = .ok (.aload_n 0, 1) := by decide +kernel
theorem dX7_stride_37 : decode cX7_stride 37 = .ok (.getfield 7, 3) := by decide +kernel
theorem dX7_stride_40 : decode cX7_stride 40 = .ok (.iload_n 1, 1) := by decide +kernel
theorem dX7_stride_41 : decode cX7_stride 41 = .ok (.iload_n 2, 1) := by decide +kernel
theorem dX7_stride_42 : decode cX7_stride 42 = .ok (.iastore, 1) := by decide +kernel
theorem dX7_stride_43 : decode cX7_stride 43 = .ok (.return_, 1) := by decide +kernel
theorem dX7_head_0 : decode cX7_head 0 = .ok (.aload_n 0, 1) := by decide +kernel
theorem dX7_head_1 : decode cX7_head 1 = .ok (.aload_n 0, 1) := by decide +kernel
theorem dX7_head_2 : decode cX7_head 2 = .ok (.iload_n 1, 1) := by decide +kernel
theorem dX7_head_3 : decode cX7_head 3 = .ok (.invokevirtual 101, 3) := by decide +kernel
theorem dX7_head_6 : decode cX7_head 6 = .ok (.ifCond .ne 13, 3) := by decide +kernel
theorem dX7_head_9 : decode cX7_head 9 = .ok (.iload_n 2, 1) := by decide +kernel
theorem dX7_head_10 : decode cX7_head 10 = .ok (.ifCond .lt 9, 3) := by decide +kernel
theorem dX7_head_13 : decode cX7_head 13 = .ok (.iload_n 2, 1) := by decide +kernel
theorem dX7_head_14 : decode cX7_head 14 = .ok (.bipush 127, 2) := by decide +kernel
theorem dX7_head_16 : decode cX7_head 16 = .ok (.if_icmp .le 7, 3) := by decide +kernel
theorem dX7_head_19 : decode cX7_head 19 = .ok (.iconst 1, 1) := by decide +kernel
theorem dX7_head_20 : decode cX7_head 20 = .ok (.goto 4, 3) := by decide +kernel
theorem dX7_head_23 : decode cX7_head 23 = .ok (.iconst 0, 1) := by decide +kernel
theorem dX7_head_24 : decode cX7_head 24 = .ok (.putfield 92, 3) := by decide +kernel
theorem dX7_head_27 : decode cX7_head 27 = .ok (.aload_n 0, 1) := by decide +kernel
theorem dX7_head_28 : decode cX7_head 28 = .ok (.getfield 92, 3) := by decide +kernel
theorem dX7_head_31 : decode cX7_head 31 = .ok (.ifCond .ne 18, 3) := by decide +kernel
theorem dX7_head_34 : decode cX7_head 34 = .ok (.aload_n 0, 1) := by decide +kernel
theorem dX7_head_35 : decode cX7_head 35 = .ok (.iload_n 1, 1) := by decide +kernel
theorem dX7_head_36 : decode cX7_head 36 = .ok (.putfield 104, 3) := by decide +kernel
theorem dX7_head_39 : decode cX7_head 39 = .ok (.aload_n 0, 1) := by decide +kernel
theorem dX7_head_40 : decode cX7_head 40 = .ok (.iload_n 2, 1) := by decide +kernel
theorem dX7_head_41 : decode cX7_head 41 = .ok (.putfield 107, 3) := by decide +kernel
theorem dX7_head_44 : decode cX7_head 44 = .ok (.aload_n 0, 1) := by decide +kernel
theorem dX7_head_45 : decode cX7_head 45 = .ok (.iload_n 3, 1) := by decide +kernel
theorem dX7_head_46 : decode cX7_head 46 = .ok (.putfield 110, 3) := by decide +kernel
theorem dX7_head_49 : decode cX7_head 49 = .ok (.return_, 1) := by decide +kernel
theorem dX7_enough_0 : decode cX7_enough 0 = .ok (.iconst 1, 1) := by decide +kernel
theorem dX7_enough_1 : decode cX7_enough 1 = .ok (.istore 4, 2) := by decide +kernel
theorem dX7_enough_3 : decode cX7_enough 3 = .ok (.iconst 0, 1) := by decide +kernel
theorem dX7_enough_4 : decode cX7_enough 4 = .ok (.istore 5, 2) := by decide +kernel
theorem dX7_enough_6 : decode cX7_enough 6 = .ok (.iload 5, 2) := by decide +kernel
theorem dX7_enough_8 : decode cX7_enough 8 = .ok (.aload_n 0, 1) := by decide +kernel
theorem dX7_enough_9 : decode cX7_enough 9 = .ok (.getfield 41, 3) := by decide +kernel
theorem dX7_enough_12 : decode cX7_enough 12 = .ok (.iload_n 1, 1) := by decide +kernel
theorem dX7_enough_13 : decode cX7_enough 13 = .ok (.iaload, 1) := by decide +kernel
theorem dX7_enough_14 : decode cX7_enough 14 = .ok (.if_icmp .ge 57, 3) := by decide +kernel
theorem dX7_enough_17 : decode cX7_enough 17 = .ok (.iload_n 3, 1) := by decide +kernel
theorem dX7_enough_18 : decode cX7_enough 18 = .ok (.aload_n 0, 1) := by decide +kernel
theorem dX7_enough_19 : decode cX7_enough 19 = .ok (.getfield 44, 3) := by decide +kernel
theorem dX7_enough_22 : decode cX7_enough 22 = .ok (.iconst 4, 1) := by decide +kernel
theorem dX7_enough_23 : decode cX7_enough 23 = .ok (.iload_n 1, 1) := by decide +kernel
theorem dX7_enough_24 : decode cX7_enough 24 = .ok (.imul, 1) := by decide +kernel
theorem dX7_enough_25 : decode cX7_enough 25 = .ok (.iload 5, 2) := by decide +kernel
theorem dX7_enough_27 : decode cX7_enough 27 = .ok (.iadd, 1) := by decide +kernel
theorem dX7_enough_28 : decode cX7_enough 28 = .ok (.iaload, 1) := by decide +kernel
theorem dX7_enough_29 : decode cX7_enough 29 = .ok (.isub, 1) := by decide +kernel
theorem dX7_enough_30 : decode cX7_enough 30 = .ok (.aload_n 0, 1) := by decide +kernel
theorem dX7_enough_31 : decode cX7_enough 31 = .ok (.iload_n 2, 1) := by decide +kernel
theorem dX7_enough_32 : decode cX7_enough 32 = .ok (.invokevirtual 114, 3) := by decide +kernel
theorem dX7_enough_35 : decode cX7_enough 35 = .ok (.iadd, 1) := by decide +kernel
theorem dX7_enough_36 : decode cX7_enough 36 = .ok (.ldc 96, 2) := by decide +kernel
theorem dX7_enough_38 : decode cX7_enough 38 = .ok (.iand, 1) := by decide +kernel
theorem dX7_enough_39 : decode cX7_enough 39 = .ok (.istore 6, 2) := by decide +kernel
theorem dX7_enough_41 : decode cX7_enough 41 = .ok (.iload 4, 2) := by decide +kernel
theorem dX7_enough_43 : decode cX7_enough 43 = .ok (.ifCond .eq 19, 3) := by decide +kernel
theorem dX7_enough_46 : decode cX7_enough 46 = .ok (.iload 6, 2) := by decide +kernel
theorem dX7_enough_48 : decode cX7_enough 48 = .ok (.iconst 1, 1) := by decide +kernel
theorem dX7_enough_49 : decode cX7_enough 49 = .ok (.aload_n 0, 1) := by decide +kernel
theorem dX7_enough_50 : decode cX7_enough 50 = .ok (.iload_n 2, 1) := by decide +kernel
theorem dX7_enough_51 : decode cX7_enough 51 = .ok (.invokevirtual 118, 3) := by decide +kernel
theorem dX7_enough_54 : decode cX7_enough 54 = .ok (.ishl, 1) := by decide +kernel
theorem dX7_enough_55 : decode cX7_enough 55 = .ok (.if_icmp .ge 7, 3) := by decide +kernel
theorem dX7_enough_58 : decode cX7_enough 58 = .ok (.iconst 1, 1) := by decide +kernel
theorem dX7_enough_59 : decode cX7_enough 59 = .ok (.goto 4, 3) := by decide +kernel
theorem dX7_enough_62 : decode cX7_enough 62 = .ok (.iconst 0, 1) := by decide +kernel
theorem dX7_enough_63 : decode cX7_enough 63 = .ok (.istore 4, 2) := by decide +kernel
theorem dX7_enough_65 : decode cX7_enough 65 = .ok (.iinc 5 1, 3) := by decide +kernel
theorem dX7_enough_68 : decode cX7_enough 68 = .ok (.goto (-62), 3) := by decide +kernel
theorem dX7_enough_71 : decode cX7_enough 71 = .ok (.iload 4, 2) := by decide +kernel
theorem dX7_enough_73 : decode cX7_enough 73 = .ok (.ireturn, 1) := by decide +kernel
theorem dX7_put_0 : decode cX7_put 0 = .ok (.aload_n 0, 1) := by decide +kernel
theorem dX7_put_1 : decode cX7_put 1 = .ok (.getfield 89, 3) := by decide +kernel
theorem dX7_put_4 : decode cX7_put 4 = .ok (.aload_n 0, 1) := by decide +kernel
theorem dX7_put_5 : decode cX7_put 5 = .ok (.getfield 121, 3) := by decide +kernel
theorem dX7_put_8 : decode cX7_put 8 = .ok (.iload_n 1, 1) := by decide +kernel
theorem dX7_put_9 : decode cX7_put 9 = .ok (.iastore, 1) := by decide +kernel
theorem dX7_put_10 : decode cX7_put 10 = .ok (.aload_n 0, 1) := by decide +kernel
theorem dX7_put_11 : decode cX7_put 11 = .ok (.dup, 1) := by decide +kernel
theorem dX7_put_12 : decode cX7_put 12 = .ok (.getfield 121, 3) := by decide +kernel
theorem dX7_put_15 : decode cX7_put 15 = .ok (.iconst 1, 1) := by decide +kernel
theorem dX7_put_16 : decode cX7_put 16 = .ok (.iadd, 1) := by decide +kernel
theorem dX7_put_17 : decode cX7_put 17 = .ok (.putfield 121, 3) := by decide +kernel
theorem dX7_put_20 : decode cX7_put 20 = .ok (.return_, 1) := by decide +kernel
theorem dX7_putRest_0 : decode cX7_putRest 0 = .ok (.aload_n 0, 1) := by decide +kernel
theorem dX7_putRest_1 : decode cX7_putRest 1 = .ok (.aload_n 0, 1) := by decide +kernel
theorem dX7_putRest_2 : decode cX7_putRest 2 = .ok (.getfield 86, 3) := by decide +kernel
theorem dX7_putRest_5 : decode cX7_putRest 5 = .ok (.iconst 2, 1) := by decide +kernel
theorem dX7_putRest_6 : decode cX7_putRest 6 = .ok (.iaload, 1) := by decide +kernel
theorem dX7_putRest_7 : decode cX7_putRest 7 = .ok (.sipush 128, 3) := by decide +kernel
theorem dX7_putRest_10 : decode cX7_putRest 10 = .ok (.iand, 1) := by decide +kernel
theorem dX7_putRest_11 : decode cX7_putRest 11 = .ok (.invokevirtual 124, 3) := by decide +kernel
theorem dX7_putRest_14 : decode cX7_putRest 14 = .ok (.iconst 3, 1) := by decide +kernel
theorem dX7_putRest_15 : decode cX7_putRest 15 = .ok (.istore_n 2, 1) := by decide +kernel
theorem dX7_putRest_16 : decode cX7_putRest 16 = .ok (.iload_n 2, 1) := by decide +kernel
theorem dX7_putRest_17 : decode cX7_putRest 17 = .ok (.bipush 11, 2) := by decide +kernel
theorem dX7_putRest_19 : decode cX7_putRest 19 = .ok (.if_icmp .ge 19, 3) := by decide +kernel
theorem dX7_putRest_22 : decode cX7_putRest 22 = .ok (.aload_n 0, 1) := by decide +kernel
theorem dX7_putRest_23 : decode cX7_putRest 23 = .ok (.aload_n 0, 1) := by decide +kernel
theorem dX7_putRest_24 : decode cX7_putRest 24 = .ok (.getfield 86, 3) := by decide +kernel
theorem dX7_putRest_27 : decode cX7_putRest 27 = .ok (.iload_n 2, 1) := by decide +kernel
theorem dX7_putRest_28 : decode cX7_putRest 28 = .ok (.iaload, 1) := by decide +kernel
theorem dX7_putRest_29 : decode cX7_putRest 29 = .ok (.invokevirtual 124, 3) := by decide +kernel
theorem dX7_putRest_32 : decode cX7_putRest 32 = .ok (.iinc 2 1, 3) := by decide +kernel
theorem dX7_putRest_35 : decode cX7_putRest 35 = .ok (.goto (-19), 3) := by decide +kernel
theorem dX7_putRest_38 : decode cX7_putRest 38 = .ok (.aload_n 0, 1) := by decide +kernel
theorem dX7_putRest_39 : decode cX7_putRest 39 = .ok (.aload_n 0, 1) := by decide +kernel
theorem dX7_putRest_40 : decode cX7_putRest 40 = .ok (.bipush 8, 2) := by decide +kernel
theorem dX7_putRest_42 : decode cX7_putRest 42 = .ok (.iload_n 1, 1) := by decide +kernel
theorem dX7_putRest_43 : decode cX7_putRest 43 = .ok (.invokevirtual 128, 3) := by decide +kernel
theorem dX7_putRest_46 : decode cX7_putRest 46 = .ok (.invokevirtual 124, 3) := by decide +kernel
theorem dX7_putRest_49 : decode cX7_putRest 49 = .ok (.return_, 1) := by decide +kernel
theorem dX7_write_0 : decode cX7_write 0 = .ok (.aload_n 0, 1) := by decide +kernel
theorem dX7_write_1 : decode cX7_write 1 = .ok (.iconst 0, 1) := by decide +kernel
theorem dX7_write_2 : decode cX7_write 2 = .ok (.putfield 121, 3) := by decide +kernel
theorem dX7_write_5 : decode cX7_write 5 = .ok (.iload_n 1, 1) := by decide +kernel
theorem dX7_write_6 : decode cX7_write 6 = .ok (.ifCond .le 12, 3) := by decide +kernel
theorem dX7_write_9 : decode cX7_write 9 = .ok (.aload_n 0, 1) := by decide +kernel
theorem dX7_write_10 : decode cX7_write 10 = .ok (.sipush 224, 3) := by decide +kernel
theorem dX7_write_13 : decode cX7_write 13 = .ok (.iload_n 1, 1) := by decide +kernel
theorem dX7_write_14 : decode cX7_write 14 = .ok (.iadd, 1) := by decide +kernel
theorem dX7_write_15 : decode cX7_write 15 = .ok (.invokevirtual 124, 3) := by decide +kernel
theorem dX7_write_18 : decode cX7_write 18 = .ok (.iload_n 2, 1) := by decide +kernel
theorem dX7_write_19 : decode cX7_write 19 = .ok (.ifCond .ne 25, 3) := by decide +kernel
theorem dX7_write_22 : decode cX7_write 22 = .ok (.aload_n 0, 1) := by decide +kernel
theorem dX7_write_23 : decode cX7_write 23 = .ok (.iload_n 3, 1) := by decide +kernel
theorem dX7_write_24 : decode cX7_write 24 = .ok (.bipush 16, 2) := by decide +kernel
theorem dX7_write_26 : decode cX7_write 26 = .ok (.irem, 1) := by decide +kernel
theorem dX7_write_27 : decode cX7_write 27 = .ok (.bipush 8, 2) := by decide +kernel
theorem dX7_write_29 : decode cX7_write 29 = .ok (.imul, 1) := by decide +kernel
theorem dX7_write_30 : decode cX7_write 30 = .ok (.aload_n 0, 1) := by decide +kernel
theorem dX7_write_31 : decode cX7_write 31 = .ok (.iconst 3, 1) := by decide +kernel
theorem dX7_write_32 : decode cX7_write 32 = .ok (.bipush 11, 2) := by decide +kernel
theorem dX7_write_34 : decode cX7_write 34 = .ok (.invokevirtual 128, 3) := by decide +kernel
theorem dX7_write_37 : decode cX7_write 37 = .ok (.iadd, 1) := by decide +kernel
theorem dX7_write_38 : decode cX7_write 38 = .ok (.invokevirtual 124, 3) := by decide +kernel
theorem dX7_write_41 : decode cX7_write 41 = .ok (.goto 228, 3) := by decide +kernel
theorem dX7_write_44 : decode cX7_write 44 = .ok (.iload_n 2, 1) := by decide +kernel
theorem dX7_write_45 : decode cX7_write 45 = .ok (.iconst 1, 1) := by decide +kernel
theorem dX7_write_46 : decode cX7_write 46 = .ok (.if_icmp .ne 45, 3) := by decide +kernel
theorem dX7_write_49 : decode cX7_write 49 = .ok (.aload_n 0, 1) := by decide +kernel
theorem dX7_write_50 : decode cX7_write 50 = .ok (.sipush 128, 3) := by decide +kernel
theorem dX7_write_53 : decode cX7_write 53 = .ok (.iload_n 3, 1) := by decide +kernel
theorem dX7_write_54 : decode cX7_write 54 = .ok (.bipush 64, 2) := by decide +kernel
theorem dX7_write_56 : decode cX7_write 56 = .ok (.irem, 1) := by decide +kernel
theorem dX7_write_57 : decode cX7_write 57 = .ok (.iadd, 1) := by decide +kernel
theorem dX7_write_58 : decode cX7_write 58 = .ok (.invokevirtual 124, 3) := by decide +kernel
theorem dX7_write_61 : decode cX7_write 61 = .ok (.aload_n 0, 1) := by decide +kernel
theorem dX7_write_62 : decode cX7_write 62 = .ok (.aload_n 0, 1) := by decide +kernel
theorem dX7_write_63 : decode cX7_write 63 = .ok (.getfield 110, 3) := by decide +kernel
theorem dX7_write_66 : decode cX7_write 66 = .ok (.ifCond .eq 9, 3) := by decide +kernel
theorem dX7_write_69 : decode cX7_write 69 = .ok (.sipush 128, 3) := by decide +kernel
theorem dX7_write_72 : decode cX7_write 72 = .ok (.goto 4, 3) := by decide +kernel
theorem dX7_write_75 : decode cX7_write 75 = .ok (.iconst 0, 1) := by decide +kernel
theorem dX7_write_76 : decode cX7_write 76 = .ok (.aload_n 0, 1) := by decide +kernel
theorem dX7_write_77 : decode cX7_write 77 = .ok (.bipush 7, 2) := by decide +kernel
theorem dX7_write_79 : decode cX7_write 79 = .ok (.bipush 11, 2) := by decide +kernel
theorem dX7_write_81 : decode cX7_write 81 = .ok (.invokevirtual 128, 3) := by decide +kernel
theorem dX7_write_84 : decode cX7_write 84 = .ok (.iadd, 1) := by decide +kernel
theorem dX7_write_85 : decode cX7_write 85 = .ok (.invokevirtual 124, 3) := by decide +kernel
theorem dX7_write_88 : decode cX7_write 88 = .ok (.goto 181, 3) := by decide +kernel
theorem dX7_write_91 : decode cX7_write 91 = .ok (.iload_n 2, 1) := by decide +kernel
theorem dX7_write_92 : decode cX7_write 92 = .ok (.iconst 2, 1) := by decide +kernel
theorem dX7_write_93 : decode cX7_write 93 = .ok (.if_icmp .ne 58, 3) := by decide +kernel
theorem dX7_write_96 : decode cX7_write 96 = .ok (.aload_n 0, 1) := by decide +kernel
theorem dX7_write_97 : decode cX7_write 97 = .ok (.sipush 192, 3) := by decide +kernel
theorem dX7_write_100 : decode cX7_write 100 = .ok (.iload_n 3, 1) := by decide +kernel
theorem dX7_write_101 : decode cX7_write 101 = .ok (.sipush 1024, 3) := by decide +kernel
theorem dX7_write_104 : decode cX7_write 104 = .ok (.irem, 1) := by decide +kernel
theorem dX7_write_105 : decode cX7_write 105 = .ok (.bipush 32, 2) := by decide +kernel
theorem dX7_write_107 : decode cX7_write 107 = .ok (.idiv, 1) := by decide +kernel
theorem dX7_write_108 : decode cX7_write 108 = .ok (.iadd, 1) := by decide +kernel
theorem dX7_write_109 : decode cX7_write 109 = .ok (.invokevirtual 124, 3) := by decide +kernel
theorem dX7_write_112 : decode cX7_write 112 = .ok (.aload_n 0, 1) := by decide +kernel
theorem dX7_write_113 : decode cX7_write 113 = .ok (.iload_n 3, 1) := by decide +kernel
theorem dX7_write_114 : decode cX7_write 114 = .ok (.bipush 32, 2) := by decide +kernel
theorem dX7_write_116 : decode cX7_write 116 = .ok (.irem, 1) := by decide +kernel
theorem dX7_write_117 : decode cX7_write 117 = .ok (.bipush 8, 2) := by decide +kernel
theorem dX7_write_119 : decode cX7_write 119 = .ok (.imul, 1) := by decide +kernel
theorem dX7_write_120 : decode cX7_write 120 = .ok (.aload_n 0, 1) := by decide +kernel
theorem dX7_write_121 : decode cX7_write 121 = .ok (.getfield 110, 3) := by decide +kernel
theorem dX7_write_124 : decode cX7_write 124 = .ok (.ifCond .eq 7, 3) := by decide +kernel
theorem dX7_write_127 : decode cX7_write 127 = .ok (.iconst 4, 1) := by decide +kernel
theorem dX7_write_128 : decode cX7_write 128 = .ok (.goto 4, 3) := by decide +kernel
theorem dX7_write_131 : decode cX7_write 131 = .ok (.iconst 0, 1) := by decide +kernel
theorem dX7_write_132 : decode cX7_write 132 = .ok (.iadd, 1) := by decide +kernel
theorem dX7_write_133 : decode cX7_write 133 = .ok (.invokevirtual 124, 3) := by decide +kernel
theorem dX7_write_136 : decode cX7_write 136 = .ok (.aload_n 0, 1) := by decide +kernel
theorem dX7_write_137 : decode cX7_write 137 = .ok (.aload_n 0, 1) := by decide +kernel
theorem dX7_write_138 : decode cX7_write 138 = .ok (.bipush 8, 2) := by decide +kernel
theorem dX7_write_140 : decode cX7_write 140 = .ok (.bipush 11, 2) := by decide +kernel
theorem dX7_write_142 : decode cX7_write 142 = .ok (.invokevirtual 128, 3) := by decide +kernel
theorem dX7_write_145 : decode cX7_write 145 = .ok (.invokevirtual 124, 3) := by decide +kernel
theorem dX7_write_148 : decode cX7_write 148 = .ok (.goto 121, 3) := by decide +kernel
theorem dX7_write_151 : decode cX7_write 151 = .ok (.iload_n 2, 1) := by decide +kernel
theorem dX7_write_152 : decode cX7_write 152 = .ok (.iconst 3, 1) := by decide +kernel
theorem dX7_write_153 : decode cX7_write 153 = .ok (.if_icmp .ne 19, 3) := by decide +kernel
theorem dX7_write_156 : decode cX7_write 156 = .ok (.aload_n 0, 1) := by decide +kernel
theorem dX7_write_157 : decode cX7_write 157 = .ok (.sipush 248, 3) := by decide +kernel
theorem dX7_write_160 : decode cX7_write 160 = .ok (.invokevirtual 124, 3) := by decide +kernel
theorem dX7_write_163 : decode cX7_write 163 = .ok (.aload_n 0, 1) := by decide +kernel
theorem dX7_write_164 : decode cX7_write 164 = .ok (.bipush 11, 2) := by decide +kernel
theorem dX7_write_166 : decode cX7_write 166 = .ok (.invokevirtual 132, 3) := by decide +kernel
theorem dX7_write_169 : decode cX7_write 169 = .ok (.goto 100, 3) := by decide +kernel
theorem dX7_write_172 : decode cX7_write 172 = .ok (.aload_n 0, 1) := by decide +kernel
theorem dX7_write_173 : decode cX7_write 173 = .ok (.getfield 86, 3) := by decide +kernel
theorem dX7_write_176 : decode cX7_write 176 = .ok (.bipush 11, 2) := by decide +kernel
theorem dX7_write_178 : decode cX7_write 178 = .ok (.aload_n 0, 1) := by decide +kernel
theorem dX7_write_179 : decode cX7_write 179 = .ok (.getfield 7, 3) := by decide +kernel
theorem dX7_write_182 : decode cX7_write 182 = .ok (.iload_n 1, 1) := by decide +kernel
theorem dX7_write_183 : decode cX7_write 183 = .ok (.iaload, 1) := by decide +kernel
theorem dX7_write_184 : decode cX7_write 184 = .ok (.sipush 256, 3) := by decide +kernel
theorem dX7_write_187 : decode cX7_write 187 = .ok (.idiv, 1) := by decide +kernel
theorem dX7_write_188 : decode cX7_write 188 = .ok (.iastore, 1) := by decide +kernel
theorem dX7_write_189 : decode cX7_write 189 = .ok (.aload_n 0, 1) := by decide +kernel
theorem dX7_write_190 : decode cX7_write 190 = .ok (.getfield 86, 3) := by decide +kernel
theorem dX7_write_193 : decode cX7_write 193 = .ok (.bipush 12, 2) := by decide +kernel
theorem dX7_write_195 : decode cX7_write 195 = .ok (.aload_n 0, 1) := by decide +kernel
theorem dX7_write_196 : decode cX7_write 196 = .ok (.getfield 7, 3) := by decide +kernel
theorem dX7_write_199 : decode cX7_write 199 = .ok (.iload_n 1, 1) := by decide +kernel
theorem dX7_write_200 : decode cX7_write 200 = .ok (.iaload, 1) := by decide +kernel
theorem dX7_write_201 : decode cX7_write 201 = .ok (.sipush 256, 3) := by decide +kernel
theorem dX7_write_204 : decode cX7_write 204 = .ok (.irem, 1) := by decide +kernel
theorem dX7_write_205 : decode cX7_write 205 = .ok (.iastore, 1) := by decide +kernel
theorem dX7_write_206 : decode cX7_write 206 = .ok (.aload_n 0, 1) := by decide +kernel
theorem dX7_write_207 : decode cX7_write 207 = .ok (.sipush 253, 3) := by decide +kernel
theorem dX7_write_210 : decode cX7_write 210 = .ok (.invokevirtual 124, 3) := by decide +kernel
theorem dX7_write_213 : decode cX7_write 213 = .ok (.aload_n 0, 1) := by decide +kernel
theorem dX7_write_214 : decode cX7_write 214 = .ok (.aload_n 0, 1) := by decide +kernel
theorem dX7_write_215 : decode cX7_write 215 = .ok (.getfield 86, 3) := by decide +kernel
theorem dX7_write_218 : decode cX7_write 218 = .ok (.iconst 0, 1) := by decide +kernel
theorem dX7_write_219 : decode cX7_write 219 = .ok (.iaload, 1) := by decide +kernel
theorem dX7_write_220 : decode cX7_write 220 = .ok (.invokevirtual 124, 3) := by decide +kernel
theorem dX7_write_223 : decode cX7_write 223 = .ok (.aload_n 0, 1) := by decide +kernel
theorem dX7_write_224 : decode cX7_write 224 = .ok (.aload_n 0, 1) := by decide +kernel
theorem dX7_write_225 : decode cX7_write 225 = .ok (.getfield 86, 3) := by decide +kernel
theorem dX7_write_228 : decode cX7_write 228 = .ok (.iconst 1, 1) := by decide +kernel
theorem dX7_write_229 : decode cX7_write 229 = .ok (.iaload, 1) := by decide +kernel
theorem dX7_write_230 : decode cX7_write 230 = .ok (.invokevirtual 124, 3) := by decide +kernel
theorem dX7_write_233 : decode cX7_write 233 = .ok (.aload_n 0, 1) := by decide +kernel
theorem dX7_write_234 : decode cX7_write 234 = .ok (.aload_n 0, 1) := by decide +kernel
theorem dX7_write_235 : decode cX7_write 235 = .ok (.getfield 107, 3) := by decide +kernel
theorem dX7_write_238 : decode cX7_write 238 = .ok (.invokevirtual 124, 3) := by decide +kernel
theorem dX7_write_241 : decode cX7_write 241 = .ok (.aload_n 0, 1) := by decide +kernel
theorem dX7_write_242 : decode cX7_write 242 = .ok (.aload_n 0, 1) := by decide +kernel
theorem dX7_write_243 : decode cX7_write 243 = .ok (.getfield 86, 3) := by decide +kernel
theorem dX7_write_246 : decode cX7_write 246 = .ok (.bipush 11, 2) := by decide +kernel
theorem dX7_write_248 : decode cX7_write 248 = .ok (.iaload, 1) := by decide +kernel
theorem dX7_write_249 : decode cX7_write 249 = .ok (.invokevirtual 124, 3) := by decide +kernel
theorem dX7_write_252 : decode cX7_write 252 = .ok (.aload_n 0, 1) := by decide +kernel
theorem dX7_write_253 : decode cX7_write 253 = .ok (.aload_n 0, 1) := by decide +kernel
theorem dX7_write_254 : decode cX7_write 254 = .ok (.getfield 86, 3) := by decide +kernel
theorem dX7_write_257 : decode cX7_write 257 = .ok (.bipush 12, 2) := by decide +kernel
theorem dX7_write_259 : decode cX7_write 259 = .ok (.iaload, 1) := by decide +kernel
theorem dX7_write_260 : decode cX7_write 260 = .ok (.invokevirtual 124, 3) := by decide +kernel
theorem dX7_write_263 : decode cX7_write 263 = .ok (.aload_n 0, 1) := by decide +kernel
theorem dX7_write_264 : decode cX7_write 264 = .ok (.bipush 13, 2) := by decide +kernel
theorem dX7_write_266 : decode cX7_write 266 = .ok (.invokevirtual 132, 3) := by decide +kernel
theorem dX7_write_269 : decode cX7_write 269 = .ok (.return_, 1) := by decide +kernel
theorem dX7_choose_0 : decode cX7_choose 0 = .ok (.aload_n 0, 1) := by decide +kernel
theorem dX7_choose_1 : decode cX7_choose 1 = .ok (.getfield 32, 3) := by decide +kernel
theorem dX7_choose_4 : decode cX7_choose 4 = .ok (.iload_n 1, 1) := by decide +kernel
theorem dX7_choose_5 : decode cX7_choose 5 = .ok (.iaload, 1) := by decide +kernel
theorem dX7_choose_6 : decode cX7_choose 6 = .ok (.iconst 2, 1) := by decide +kernel
theorem dX7_choose_7 : decode cX7_choose 7 = .ok (.if_icmp .ge 18, 3) := by decide +kernel
theorem dX7_choose_10 : decode cX7_choose 10 = .ok (.aload_n 0, 1) := by decide +kernel
theorem dX7_choose_11 : decode cX7_choose 11 = .ok (.getfield 32, 3) := by decide +kernel
theorem dX7_choose_14 : decode cX7_choose 14 = .ok (.iload_n 1, 1) := by decide +kernel
theorem dX7_choose_15 : decode cX7_choose 15 = .ok (.iaload, 1) := by decide +kernel
theorem dX7_choose_16 : decode cX7_choose 16 = .ok (.ifCond .ne 7, 3) := by decide +kernel
theorem dX7_choose_19 : decode cX7_choose 19 = .ok (.iconst 4, 1) := by decide +kernel
theorem dX7_choose_20 : decode cX7_choose 20 = .ok (.goto 4, 3) := by decide +kernel
theorem dX7_choose_23 : decode cX7_choose 23 = .ok (.iconst 3, 1) := by decide +kernel
theorem dX7_choose_24 : decode cX7_choose 24 = .ok (.ireturn, 1) := by decide +kernel
theorem dX7_choose_25 : decode cX7_choose 25 = .ok (.aload_n 0, 1) := by decide +kernel
theorem dX7_choose_26 : decode cX7_choose 26 = .ok (.getfield 110, 3) := by decide +kernel
theorem dX7_choose_29 : decode cX7_choose 29 = .ok (.ifCond .ne 15, 3) := by decide +kernel
theorem dX7_choose_32 : decode cX7_choose 32 = .ok (.aload_n 0, 1) := by decide +kernel
theorem dX7_choose_33 : decode cX7_choose 33 = .ok (.iload_n 1, 1) := by decide +kernel
theorem dX7_choose_34 : decode cX7_choose 34 = .ok (.iconst 0, 1) := by decide +kernel
theorem dX7_choose_35 : decode cX7_choose 35 = .ok (.iload_n 2, 1) := by decide +kernel
theorem dX7_choose_36 : decode cX7_choose 36 = .ok (.invokevirtual 135, 3) := by decide +kernel
theorem dX7_choose_39 : decode cX7_choose 39 = .ok (.ifCond .eq 5, 3) := by decide +kernel
theorem dX7_choose_42 : decode cX7_choose 42 = .ok (.iconst 0, 1) := by decide +kernel
theorem dX7_choose_43 : decode cX7_choose 43 = .ok (.ireturn, 1) := by decide +kernel
theorem dX7_choose_44 : decode cX7_choose 44 = .ok (.aload_n 0, 1) := by decide +kernel
theorem dX7_choose_45 : decode cX7_choose 45 = .ok (.iload_n 1, 1) := by decide +kernel
theorem dX7_choose_46 : decode cX7_choose 46 = .ok (.iconst 1, 1) := by decide +kernel
theorem dX7_choose_47 : decode cX7_choose 47 = .ok (.iload_n 2, 1) := by decide +kernel
theorem dX7_choose_48 : decode cX7_choose 48 = .ok (.invokevirtual 135, 3) := by decide +kernel
theorem dX7_choose_51 : decode cX7_choose 51 = .ok (.ifCond .eq 7, 3) := by decide +kernel
theorem dX7_choose_54 : decode cX7_choose 54 = .ok (.iconst 1, 1) := by decide +kernel
theorem dX7_choose_55 : decode cX7_choose 55 = .ok (.goto 18, 3) := by decide +kernel
theorem dX7_choose_58 : decode cX7_choose 58 = .ok (.aload_n 0, 1) := by decide +kernel
theorem dX7_choose_59 : decode cX7_choose 59 = .ok (.iload_n 1, 1) := by decide +kernel
theorem dX7_choose_60 : decode cX7_choose 60 = .ok (.iconst 2, 1) := by decide +kernel
theorem dX7_choose_61 : decode cX7_choose 61 = .ok (.iload_n 2, 1) := by decide +kernel
theorem dX7_choose_62 : decode cX7_choose 62 = .ok (.invokevirtual 135, 3) := by decide +kernel
theorem dX7_choose_65 : decode cX7_choose 65 = .ok (.ifCond .eq 7, 3) := by decide +kernel
theorem dX7_choose_68 : decode cX7_choose 68 = .ok (.iconst 2, 1) := by decide +kernel
theorem dX7_choose_69 : decode cX7_choose 69 = .ok (.goto 4, 3) := by decide +kernel
theorem dX7_choose_72 : decode cX7_choose 72 = .ok (.iconst 3, 1) := by decide +kernel
theorem dX7_choose_73 : decode cX7_choose 73 = .ok (.ireturn, 1) := by decide +kernel
theorem dX7_note_0 : decode cX7_note 0 = .ok (.aload_n 0, 1) := by decide +kernel
theorem dX7_note_1 : decode cX7_note 1 = .ok (.getfield 41, 3) := by decide +kernel
theorem dX7_note_4 : decode cX7_note 4 = .ok (.iload_n 1, 1) := by decide +kernel
theorem dX7_note_5 : decode cX7_note 5 = .ok (.iaload, 1) := by decide +kernel
theorem dX7_note_6 : decode cX7_note 6 = .ok (.iconst 4, 1) := by decide +kernel
theorem dX7_note_7 : decode cX7_note 7 = .ok (.if_icmp .ne 45, 3) := by decide +kernel
theorem dX7_note_10 : decode cX7_note 10 = .ok (.iconst 0, 1) := by decide +kernel
theorem dX7_note_11 : decode cX7_note 11 = .ok (.istore_n 3, 1) := by decide +kernel
theorem dX7_note_12 : decode cX7_note 12 = .ok (.iload_n 3, 1) := by decide +kernel
theorem dX7_note_13 : decode cX7_note 13 = .ok (.iconst 3, 1) := by decide +kernel
theorem dX7_note_14 : decode cX7_note 14 = .ok (.if_icmp .ge 31, 3) := by decide +kernel
theorem dX7_note_17 : decode cX7_note 17 = .ok (.aload_n 0, 1) := by decide +kernel
theorem dX7_note_18 : decode cX7_note 18 = .ok (.getfield 44, 3) := by decide +kernel
theorem dX7_note_21 : decode cX7_note 21 = .ok (.iconst 4, 1) := by decide +kernel
theorem dX7_note_22 : decode cX7_note 22 = .ok (.iload_n 1, 1) := by decide +kernel
theorem dX7_note_23 : decode cX7_note 23 = .ok (.imul, 1) := by decide +kernel
theorem dX7_note_24 : decode cX7_note 24 = .ok (.iload_n 3, 1) := by decide +kernel
theorem dX7_note_25 : decode cX7_note 25 = .ok (.iadd, 1) := by decide +kernel
theorem dX7_note_26 : decode cX7_note 26 = .ok (.aload_n 0, 1) := by decide +kernel
theorem dX7_note_27 : decode cX7_note 27 = .ok (.getfield 44, 3) := by decide +kernel
theorem dX7_note_30 : decode cX7_note 30 = .ok (.iconst 4, 1) := by decide +kernel
theorem dX7_note_31 : decode cX7_note 31 = .ok (.iload_n 1, 1) := by decide +kernel
theorem dX7_note_32 : decode cX7_note 32 = .ok (.imul, 1) := by decide +kernel
theorem dX7_note_33 : decode cX7_note 33 = .ok (.iload_n 3, 1) := by decide +kernel
theorem dX7_note_34 : decode cX7_note 34 = .ok (.iadd, 1) := by decide +kernel
theorem dX7_note_35 : decode cX7_note 35 = .ok (.iconst 1, 1) := by decide +kernel
theorem dX7_note_36 : decode cX7_note 36 = .ok (.iadd, 1) := by decide +kernel
theorem dX7_note_37 : decode cX7_note 37 = .ok (.iaload, 1) := by decide +kernel
theorem dX7_note_38 : decode cX7_note 38 = .ok (.iastore, 1) := by decide +kernel
theorem dX7_note_39 : decode cX7_note 39 = .ok (.iinc 3 1, 3) := by decide +kernel
theorem dX7_note_42 : decode cX7_note 42 = .ok (.goto (-30), 3) := by decide +kernel
theorem dX7_note_45 : decode cX7_note 45 = .ok (.aload_n 0, 1) := by decide +kernel
theorem dX7_note_46 : decode cX7_note 46 = .ok (.getfield 41, 3) := by decide +kernel
theorem dX7_note_49 : decode cX7_note 49 = .ok (.iload_n 1, 1) := by decide +kernel
theorem dX7_note_50 : decode cX7_note 50 = .ok (.iconst 3, 1) := by decide +kernel
theorem dX7_note_51 : decode cX7_note 51 = .ok (.iastore, 1) := by decide +kernel
theorem dX7_note_52 : decode cX7_note 52 = .ok (.aload_n 0, 1) := by decide +kernel
theorem dX7_note_53 : decode cX7_note 53 = .ok (.getfield 44, 3) := by decide +kernel
theorem dX7_note_56 : decode cX7_note 56 = .ok (.iconst 4, 1) := by decide +kernel
theorem dX7_note_57 : decode cX7_note 57 = .ok (.iload_n 1, 1) := by decide +kernel
theorem dX7_note_58 : decode cX7_note 58 = .ok (.imul, 1) := by decide +kernel
theorem dX7_note_59 : decode cX7_note 59 = .ok (.aload_n 0, 1) := by decide +kernel
theorem dX7_note_60 : decode cX7_note 60 = .ok (.getfield 41, 3) := by decide +kernel
theorem dX7_note_63 : decode cX7_note 63 = .ok (.iload_n 1, 1) := by decide +kernel
theorem dX7_note_64 : decode cX7_note 64 = .ok (.iaload, 1) := by decide +kernel
theorem dX7_note_65 : decode cX7_note 65 = .ok (.iadd, 1) := by decide +kernel
theorem dX7_note_66 : decode cX7_note 66 = .ok (.iload_n 2, 1) := by decide +kernel
theorem dX7_note_67 : decode cX7_note 67 = .ok (.iastore, 1) := by decide +kernel
theorem dX7_note_68 : decode cX7_note 68 = .ok (.aload_n 0, 1) := by decide +kernel
theorem dX7_note_69 : decode cX7_note 69 = .ok (.getfield 41, 3) := by decide +kernel
theorem dX7_note_72 : decode cX7_note 72 = .ok (.iload_n 1, 1) := by decide +kernel
theorem dX7_note_73 : decode cX7_note 73 = .ok (.dup2, 1) := by decide +kernel
theorem dX7_note_74 : decode cX7_note 74 = .ok (.iaload, 1) := by decide +kernel
theorem dX7_note_75 : decode cX7_note 75 = .ok (.iconst 1, 1) := by decide +kernel
theorem dX7_note_76 : decode cX7_note 76 = .ok (.iadd, 1) := by decide +kernel
theorem dX7_note_77 : decode cX7_note 77 = .ok (.iastore, 1) := by decide +kernel
theorem dX7_note_78 : decode cX7_note 78 = .ok (.return_, 1) := by decide +kernel
theorem dX7_send_0 : decode cX7_send 0 = .ok (.aload_n 0, 1) := by decide +kernel
theorem dX7_send_1 : decode cX7_send 1 = .ok (.aload_n 0, 1) := by decide +kernel
theorem dX7_send_2 : decode cX7_send 2 = .ok (.iload_n 1, 1) := by decide +kernel
theorem dX7_send_3 : decode cX7_send 3 = .ok (.invokevirtual 97, 3) := by decide +kernel
theorem dX7_send_6 : decode cX7_send 6 = .ok (.ifCond .eq 7, 3) := by decide +kernel
theorem dX7_send_9 : decode cX7_send 9 = .ok (.iconst 1, 1) := by decide +kernel
theorem dX7_send_10 : decode cX7_send 10 = .ok (.goto 25, 3) := by decide +kernel
theorem dX7_send_13 : decode cX7_send 13 = .ok (.aload_n 0, 1) := by decide +kernel
theorem dX7_send_14 : decode cX7_send 14 = .ok (.iload_n 2, 1) := by decide +kernel
theorem dX7_send_15 : decode cX7_send 15 = .ok (.invokevirtual 101, 3) := by decide +kernel
theorem dX7_send_18 : decode cX7_send 18 = .ok (.ifCond .ne 12, 3) := by decide +kernel
theorem dX7_send_21 : decode cX7_send 21 = .ok (.aload_n 0, 1) := by decide +kernel
theorem dX7_send_22 : decode cX7_send 22 = .ok (.iload 4, 2) := by decide +kernel
theorem dX7_send_24 : decode cX7_send 24 = .ok (.invokevirtual 101, 3) := by decide +kernel
theorem dX7_send_27 : decode cX7_send 27 = .ok (.ifCond .eq 7, 3) := by decide +kernel
theorem dX7_send_30 : decode cX7_send 30 = .ok (.iconst 2, 1) := by decide +kernel
theorem dX7_send_31 : decode cX7_send 31 = .ok (.goto 4, 3) := by decide +kernel
theorem dX7_send_34 : decode cX7_send 34 = .ok (.iconst 0, 1) := by decide +kernel
theorem dX7_send_35 : decode cX7_send 35 = .ok (.putfield 92, 3) := by decide +kernel
theorem dX7_send_38 : decode cX7_send 38 = .ok (.aload_n 0, 1) := by decide +kernel
theorem dX7_send_39 : decode cX7_send 39 = .ok (.getfield 92, 3) := by decide +kernel
theorem dX7_send_42 : decode cX7_send 42 = .ok (.ifCond .eq 5, 3) := by decide +kernel
theorem dX7_send_45 : decode cX7_send 45 = .ok (.iconst 0, 1) := by decide +kernel
theorem dX7_send_46 : decode cX7_send 46 = .ok (.ireturn, 1) := by decide +kernel
theorem dX7_send_47 : decode cX7_send 47 = .ok (.iload_n 3, 1) := by decide +kernel
theorem dX7_send_48 : decode cX7_send 48 = .ok (.iload_n 2, 1) := by decide +kernel
theorem dX7_send_49 : decode cX7_send 49 = .ok (.aload_n 0, 1) := by decide +kernel
theorem dX7_send_50 : decode cX7_send 50 = .ok (.getfield 7, 3) := by decide +kernel
theorem dX7_send_53 : decode cX7_send 53 = .ok (.iload_n 1, 1) := by decide +kernel
theorem dX7_send_54 : decode cX7_send 54 = .ok (.iaload, 1) := by decide +kernel
theorem dX7_send_55 : decode cX7_send 55 = .ok (.imul, 1) := by decide +kernel
theorem dX7_send_56 : decode cX7_send 56 = .ok (.isub, 1) := by decide +kernel
theorem dX7_send_57 : decode cX7_send 57 = .ok (.istore 5, 2) := by decide +kernel
theorem dX7_send_59 : decode cX7_send 59 = .ok (.iload 4, 2) := by decide +kernel
theorem dX7_send_61 : decode cX7_send 61 = .ok (.iload_n 2, 1) := by decide +kernel
theorem dX7_send_62 : decode cX7_send 62 = .ok (.isub, 1) := by decide +kernel
theorem dX7_send_63 : decode cX7_send 63 = .ok (.ldc 96, 2) := by decide +kernel
theorem dX7_send_65 : decode cX7_send 65 = .ok (.iand, 1) := by decide +kernel
theorem dX7_send_66 : decode cX7_send 66 = .ok (.istore 6, 2) := by decide +kernel
theorem dX7_send_68 : decode cX7_send 68 = .ok (.aload_n 0, 1) := by decide +kernel
theorem dX7_send_69 : decode cX7_send 69 = .ok (.getfield 13, 3) := by decide +kernel
theorem dX7_send_72 : decode cX7_send 72 = .ok (.iload_n 1, 1) := by decide +kernel
theorem dX7_send_73 : decode cX7_send 73 = .ok (.baload, 1) := by decide +kernel
theorem dX7_send_74 : decode cX7_send 74 = .ok (.ifCond .eq 48, 3) := by decide +kernel
theorem dX7_send_77 : decode cX7_send 77 = .ok (.aload_n 0, 1) := by decide +kernel
theorem dX7_send_78 : decode cX7_send 78 = .ok (.getfield 17, 3) := by decide +kernel
theorem dX7_send_81 : decode cX7_send 81 = .ok (.iload_n 1, 1) := by decide +kernel
theorem dX7_send_82 : decode cX7_send 82 = .ok (.iaload, 1) := by decide +kernel
theorem dX7_send_83 : decode cX7_send 83 = .ok (.aload_n 0, 1) := by decide +kernel
theorem dX7_send_84 : decode cX7_send 84 = .ok (.getfield 104, 3) := by decide +kernel
theorem dX7_send_87 : decode cX7_send 87 = .ok (.if_icmp .ne 35, 3) := by decide +kernel
theorem dX7_send_90 : decode cX7_send 90 = .ok (.aload_n 0, 1) := by decide +kernel
theorem dX7_send_91 : decode cX7_send 91 = .ok (.getfield 20, 3) := by decide +kernel
theorem dX7_send_94 : decode cX7_send 94 = .ok (.iload_n 1, 1) := by decide +kernel
theorem dX7_send_95 : decode cX7_send 95 = .ok (.iaload, 1) := by decide +kernel
theorem dX7_send_96 : decode cX7_send 96 = .ok (.aload_n 0, 1) := by decide +kernel
theorem dX7_send_97 : decode cX7_send 97 = .ok (.getfield 107, 3) := by decide +kernel
theorem dX7_send_100 : decode cX7_send 100 = .ok (.if_icmp .ne 22, 3) := by decide +kernel
theorem dX7_send_103 : decode cX7_send 103 = .ok (.aload_n 0, 1) := by decide +kernel
theorem dX7_send_104 : decode cX7_send 104 = .ok (.getfield 23, 3) := by decide +kernel
theorem dX7_send_107 : decode cX7_send 107 = .ok (.iload_n 1, 1) := by decide +kernel
theorem dX7_send_108 : decode cX7_send 108 = .ok (.iaload, 1) := by decide +kernel
theorem dX7_send_109 : decode cX7_send 109 = .ok (.aload_n 0, 1) := by decide +kernel
theorem dX7_send_110 : decode cX7_send 110 = .ok (.getfield 7, 3) := by decide +kernel
theorem dX7_send_113 : decode cX7_send 113 = .ok (.iload_n 1, 1) := by decide +kernel
theorem dX7_send_114 : decode cX7_send 114 = .ok (.iaload, 1) := by decide +kernel
theorem dX7_send_115 : decode cX7_send 115 = .ok (.if_icmp .ne 7, 3) := by decide +kernel
theorem dX7_send_118 : decode cX7_send 118 = .ok (.iconst 1, 1) := by decide +kernel
theorem dX7_send_119 : decode cX7_send 119 = .ok (.goto 4, 3) := by decide +kernel
theorem dX7_send_122 : decode cX7_send 122 = .ok (.iconst 0, 1) := by decide +kernel
theorem dX7_send_123 : decode cX7_send 123 = .ok (.istore 7, 2) := by decide +kernel
theorem dX7_send_125 : decode cX7_send 125 = .ok (.iload 7, 2) := by decide +kernel
theorem dX7_send_127 : decode cX7_send 127 = .ok (.ifCond .eq 29, 3) := by decide +kernel
theorem dX7_send_130 : decode cX7_send 130 = .ok (.aload_n 0, 1) := by decide +kernel
theorem dX7_send_131 : decode cX7_send 131 = .ok (.getfield 26, 3) := by decide +kernel
theorem dX7_send_134 : decode cX7_send 134 = .ok (.iload_n 1, 1) := by decide +kernel
theorem dX7_send_135 : decode cX7_send 135 = .ok (.iaload, 1) := by decide +kernel
theorem dX7_send_136 : decode cX7_send 136 = .ok (.iload 5, 2) := by decide +kernel
theorem dX7_send_138 : decode cX7_send 138 = .ok (.if_icmp .ne 18, 3) := by decide +kernel
theorem dX7_send_141 : decode cX7_send 141 = .ok (.aload_n 0, 1) := by decide +kernel
theorem dX7_send_142 : decode cX7_send 142 = .ok (.getfield 29, 3) := by decide +kernel
theorem dX7_send_145 : decode cX7_send 145 = .ok (.iload_n 1, 1) := by decide +kernel
theorem dX7_send_146 : decode cX7_send 146 = .ok (.iaload, 1) := by decide +kernel
theorem dX7_send_147 : decode cX7_send 147 = .ok (.iload 6, 2) := by decide +kernel
theorem dX7_send_149 : decode cX7_send 149 = .ok (.if_icmp .ne 7, 3) := by decide +kernel
theorem dX7_send_152 : decode cX7_send 152 = .ok (.iconst 1, 1) := by decide +kernel
theorem dX7_send_153 : decode cX7_send 153 = .ok (.goto 4, 3) := by decide +kernel
theorem dX7_send_156 : decode cX7_send 156 = .ok (.iconst 0, 1) := by decide +kernel
theorem dX7_send_157 : decode cX7_send 157 = .ok (.istore 8, 2) := by decide +kernel
theorem dX7_send_159 : decode cX7_send 159 = .ok (.iload 7, 2) := by decide +kernel
theorem dX7_send_161 : decode cX7_send 161 = .ok (.ifCond .eq 14, 3) := by decide +kernel
theorem dX7_send_164 : decode cX7_send 164 = .ok (.aload_n 0, 1) := by decide +kernel
theorem dX7_send_165 : decode cX7_send 165 = .ok (.getfield 38, 3) := by decide +kernel
theorem dX7_send_168 : decode cX7_send 168 = .ok (.iload_n 1, 1) := by decide +kernel
theorem dX7_send_169 : decode cX7_send 169 = .ok (.iaload, 1) := by decide +kernel
theorem dX7_send_170 : decode cX7_send 170 = .ok (.bipush 20, 2) := by decide +kernel
theorem dX7_send_172 : decode cX7_send 172 = .ok (.if_icmp .ne 20, 3) := by decide +kernel
theorem dX7_send_175 : decode cX7_send 175 = .ok (.aload_n 0, 1) := by decide +kernel
theorem dX7_send_176 : decode cX7_send 176 = .ok (.getfield 32, 3) := by decide +kernel
theorem dX7_send_179 : decode cX7_send 179 = .ok (.iload_n 1, 1) := by decide +kernel
theorem dX7_send_180 : decode cX7_send 180 = .ok (.iconst 0, 1) := by decide +kernel
theorem dX7_send_181 : decode cX7_send 181 = .ok (.iastore, 1) := by decide +kernel
theorem dX7_send_182 : decode cX7_send 182 = .ok (.aload_n 0, 1) := by decide +kernel
theorem dX7_send_183 : decode cX7_send 183 = .ok (.getfield 35, 3) := by decide +kernel
theorem dX7_send_186 : decode cX7_send 186 = .ok (.iload_n 1, 1) := by decide +kernel
theorem dX7_send_187 : decode cX7_send 187 = .ok (.iconst 0, 1) := by decide +kernel
theorem dX7_send_188 : decode cX7_send 188 = .ok (.iastore, 1) := by decide +kernel
theorem dX7_send_189 : decode cX7_send 189 = .ok (.goto 35, 3) := by decide +kernel
theorem dX7_send_192 : decode cX7_send 192 = .ok (.iload 8, 2) := by decide +kernel
theorem dX7_send_194 : decode cX7_send 194 = .ok (.ifCond .ne 30, 3) := by decide +kernel
theorem dX7_send_197 : decode cX7_send 197 = .ok (.aload_n 0, 1) := by decide +kernel
theorem dX7_send_198 : decode cX7_send 198 = .ok (.getfield 32, 3) := by decide +kernel
theorem dX7_send_201 : decode cX7_send 201 = .ok (.iload_n 1, 1) := by decide +kernel
theorem dX7_send_202 : decode cX7_send 202 = .ok (.aload_n 0, 1) := by decide +kernel
theorem dX7_send_203 : decode cX7_send 203 = .ok (.getfield 32, 3) := by decide +kernel
theorem dX7_send_206 : decode cX7_send 206 = .ok (.iload_n 1, 1) := by decide +kernel
theorem dX7_send_207 : decode cX7_send 207 = .ok (.iaload, 1) := by decide +kernel
theorem dX7_send_208 : decode cX7_send 208 = .ok (.ifCond .ne 7, 3) := by decide +kernel
theorem dX7_send_211 : decode cX7_send 211 = .ok (.iconst 0, 1) := by decide +kernel
theorem dX7_send_212 : decode cX7_send 212 = .ok (.goto 4, 3) := by decide +kernel
theorem dX7_send_215 : decode cX7_send 215 = .ok (.iconst 1, 1) := by decide +kernel
theorem dX7_send_216 : decode cX7_send 216 = .ok (.iastore, 1) := by decide +kernel
theorem dX7_send_217 : decode cX7_send 217 = .ok (.aload_n 0, 1) := by decide +kernel
theorem dX7_send_218 : decode cX7_send 218 = .ok (.getfield 35, 3) := by decide +kernel
theorem dX7_send_221 : decode cX7_send 221 = .ok (.iload_n 1, 1) := by decide +kernel
theorem dX7_send_222 : decode cX7_send 222 = .ok (.iconst 0, 1) := by decide +kernel
theorem dX7_send_223 : decode cX7_send 223 = .ok (.iastore, 1) := by decide +kernel
theorem dX7_send_224 : decode cX7_send 224 = .ok (.aload_n 0, 1) := by decide +kernel
theorem dX7_send_225 : decode cX7_send 225 = .ok (.getfield 13, 3) := by decide +kernel
theorem dX7_send_228 : decode cX7_send 228 = .ok (.iload_n 1, 1) := by decide +kernel
theorem dX7_send_229 : decode cX7_send 229 = .ok (.iconst 1, 1) := by decide +kernel
theorem dX7_send_230 : decode cX7_send 230 = .ok (.bastore, 1) := by decide +kernel
theorem dX7_send_231 : decode cX7_send 231 = .ok (.aload_n 0, 1) := by decide +kernel
theorem dX7_send_232 : decode cX7_send 232 = .ok (.getfield 17, 3) := by decide +kernel
theorem dX7_send_235 : decode cX7_send 235 = .ok (.iload_n 1, 1) := by decide +kernel
theorem dX7_send_236 : decode cX7_send 236 = .ok (.aload_n 0, 1) := by decide +kernel
theorem dX7_send_237 : decode cX7_send 237 = .ok (.getfield 104, 3) := by decide +kernel
theorem dX7_send_240 : decode cX7_send 240 = .ok (.iastore, 1) := by decide +kernel
theorem dX7_send_241 : decode cX7_send 241 = .ok (.aload_n 0, 1) := by decide +kernel
theorem dX7_send_242 : decode cX7_send 242 = .ok (.getfield 20, 3) := by decide +kernel
theorem dX7_send_245 : decode cX7_send 245 = .ok (.iload_n 1, 1) := by decide +kernel
theorem dX7_send_246 : decode cX7_send 246 = .ok (.aload_n 0, 1) := by decide +kernel
theorem dX7_send_247 : decode cX7_send 247 = .ok (.getfield 107, 3) := by decide +kernel
theorem dX7_send_250 : decode cX7_send 250 = .ok (.iastore, 1) := by decide +kernel
theorem dX7_send_251 : decode cX7_send 251 = .ok (.aload_n 0, 1) := by decide +kernel
theorem dX7_send_252 : decode cX7_send 252 = .ok (.getfield 23, 3) := by decide +kernel
theorem dX7_send_255 : decode cX7_send 255 = .ok (.iload_n 1, 1) := by decide +kernel
theorem dX7_send_256 : decode cX7_send 256 = .ok (.aload_n 0, 1) := by decide +kernel
theorem dX7_send_257 : decode cX7_send 257 = .ok (.getfield 7, 3) := by decide +kernel
theorem dX7_send_260 : decode cX7_send 260 = .ok (.iload_n 1, 1) := by decide +kernel
theorem dX7_send_261 : decode cX7_send 261 = .ok (.iaload, 1) := by decide +kernel
theorem dX7_send_262 : decode cX7_send 262 = .ok (.iastore, 1) := by decide +kernel
theorem dX7_send_263 : decode cX7_send 263 = .ok (.aload_n 0, 1) := by decide +kernel
theorem dX7_send_264 : decode cX7_send 264 = .ok (.getfield 26, 3) := by decide +kernel
theorem dX7_send_267 : decode cX7_send 267 = .ok (.iload_n 1, 1) := by decide +kernel
theorem dX7_send_268 : decode cX7_send 268 = .ok (.iload 5, 2) := by decide +kernel
theorem dX7_send_270 : decode cX7_send 270 = .ok (.iastore, 1) := by decide +kernel
theorem dX7_send_271 : decode cX7_send 271 = .ok (.aload_n 0, 1) := by decide +kernel
theorem dX7_send_272 : decode cX7_send 272 = .ok (.getfield 29, 3) := by decide +kernel
theorem dX7_send_275 : decode cX7_send 275 = .ok (.iload_n 1, 1) := by decide +kernel
theorem dX7_send_276 : decode cX7_send 276 = .ok (.iload 6, 2) := by decide +kernel
theorem dX7_send_278 : decode cX7_send 278 = .ok (.iastore, 1) := by decide +kernel
theorem dX7_send_279 : decode cX7_send 279 = .ok (.aload_n 0, 1) := by decide +kernel
theorem dX7_send_280 : decode cX7_send 280 = .ok (.iload_n 1, 1) := by decide +kernel
theorem dX7_send_281 : decode cX7_send 281 = .ok (.iload_n 2, 1) := by decide +kernel
theorem dX7_send_282 : decode cX7_send 282 = .ok (.invokevirtual 139, 3) := by decide +kernel
theorem dX7_send_285 : decode cX7_send 285 = .ok (.istore 9, 2) := by decide +kernel
theorem dX7_send_287 : decode cX7_send 287 = .ok (.aload_n 0, 1) := by decide +kernel
theorem dX7_send_288 : decode cX7_send 288 = .ok (.aload_n 0, 1) := by decide +kernel
theorem dX7_send_289 : decode cX7_send 289 = .ok (.getfield 104, 3) := by decide +kernel
theorem dX7_send_292 : decode cX7_send 292 = .ok (.aload_n 0, 1) := by decide +kernel
theorem dX7_send_293 : decode cX7_send 293 = .ok (.getfield 107, 3) := by decide +kernel
theorem dX7_send_296 : decode cX7_send 296 = .ok (.aload_n 0, 1) := by decide +kernel
theorem dX7_send_297 : decode cX7_send 297 = .ok (.getfield 110, 3) := by decide +kernel
theorem dX7_send_300 : decode cX7_send 300 = .ok (.iload_n 2, 1) := by decide +kernel
theorem dX7_send_301 : decode cX7_send 301 = .ok (.iload_n 3, 1) := by decide +kernel
theorem dX7_send_302 : decode cX7_send 302 = .ok (.iload 4, 2) := by decide +kernel
theorem dX7_send_304 : decode cX7_send 304 = .ok (.invokevirtual 142, 3) := by decide +kernel
theorem dX7_send_307 : decode cX7_send 307 = .ok (.aload_n 0, 1) := by decide +kernel
theorem dX7_send_308 : decode cX7_send 308 = .ok (.iload_n 1, 1) := by decide +kernel
theorem dX7_send_309 : decode cX7_send 309 = .ok (.iload 9, 2) := by decide +kernel
theorem dX7_send_311 : decode cX7_send 311 = .ok (.iload_n 2, 1) := by decide +kernel
theorem dX7_send_312 : decode cX7_send 312 = .ok (.invokevirtual 146, 3) := by decide +kernel
theorem dX7_send_315 : decode cX7_send 315 = .ok (.aload_n 0, 1) := by decide +kernel
theorem dX7_send_316 : decode cX7_send 316 = .ok (.getfield 83, 3) := by decide +kernel
theorem dX7_send_319 : decode cX7_send 319 = .ok (.iload 9, 2) := by decide +kernel
theorem dX7_send_321 : decode cX7_send 321 = .ok (.dup2, 1) := by decide +kernel
theorem dX7_send_322 : decode cX7_send 322 = .ok (.iaload, 1) := by decide +kernel
theorem dX7_send_323 : decode cX7_send 323 = .ok (.iconst 1, 1) := by decide +kernel
theorem dX7_send_324 : decode cX7_send 324 = .ok (.iadd, 1) := by decide +kernel
theorem dX7_send_325 : decode cX7_send 325 = .ok (.iastore, 1) := by decide +kernel
theorem dX7_send_326 : decode cX7_send 326 = .ok (.aload_n 0, 1) := by decide +kernel
theorem dX7_send_327 : decode cX7_send 327 = .ok (.getfield 83, 3) := by decide +kernel
theorem dX7_send_330 : decode cX7_send 330 = .ok (.iconst 5, 1) := by decide +kernel
theorem dX7_send_331 : decode cX7_send 331 = .ok (.dup2, 1) := by decide +kernel
theorem dX7_send_332 : decode cX7_send 332 = .ok (.iaload, 1) := by decide +kernel
theorem dX7_send_333 : decode cX7_send 333 = .ok (.aload_n 0, 1) := by decide +kernel
theorem dX7_send_334 : decode cX7_send 334 = .ok (.getfield 121, 3) := by decide +kernel
theorem dX7_send_337 : decode cX7_send 337 = .ok (.iadd, 1) := by decide +kernel
theorem dX7_send_338 : decode cX7_send 338 = .ok (.iastore, 1) := by decide +kernel
theorem dX7_send_339 : decode cX7_send 339 = .ok (.aload_n 0, 1) := by decide +kernel
theorem dX7_send_340 : decode cX7_send 340 = .ok (.getfield 38, 3) := by decide +kernel
theorem dX7_send_343 : decode cX7_send 343 = .ok (.iload_n 1, 1) := by decide +kernel
theorem dX7_send_344 : decode cX7_send 344 = .ok (.iload 9, 2) := by decide +kernel
theorem dX7_send_346 : decode cX7_send 346 = .ok (.iconst 4, 1) := by decide +kernel
theorem dX7_send_347 : decode cX7_send 347 = .ok (.if_icmp .ne 7, 3) := by decide +kernel
theorem dX7_send_350 : decode cX7_send 350 = .ok (.iconst 0, 1) := by decide +kernel
theorem dX7_send_351 : decode cX7_send 351 = .ok (.goto 11, 3) := by decide +kernel
theorem dX7_send_354 : decode cX7_send 354 = .ok (.aload_n 0, 1) := by decide +kernel
theorem dX7_send_355 : decode cX7_send 355 = .ok (.getfield 38, 3) := by decide +kernel
theorem dX7_send_358 : decode cX7_send 358 = .ok (.iload_n 1, 1) := by decide +kernel
theorem dX7_send_359 : decode cX7_send 359 = .ok (.iaload, 1) := by decide +kernel
theorem dX7_send_360 : decode cX7_send 360 = .ok (.iconst 1, 1) := by decide +kernel
theorem dX7_send_361 : decode cX7_send 361 = .ok (.iadd, 1) := by decide +kernel
theorem dX7_send_362 : decode cX7_send 362 = .ok (.iastore, 1) := by decide +kernel
theorem dX7_send_363 : decode cX7_send 363 = .ok (.aload_n 0, 1) := by decide +kernel
theorem dX7_send_364 : decode cX7_send 364 = .ok (.getfield 35, 3) := by decide +kernel
theorem dX7_send_367 : decode cX7_send 367 = .ok (.iload_n 1, 1) := by decide +kernel
theorem dX7_send_368 : decode cX7_send 368 = .ok (.dup2, 1) := by decide +kernel
theorem dX7_send_369 : decode cX7_send 369 = .ok (.iaload, 1) := by decide +kernel
theorem dX7_send_370 : decode cX7_send 370 = .ok (.iconst 1, 1) := by decide +kernel
theorem dX7_send_371 : decode cX7_send 371 = .ok (.iadd, 1) := by decide +kernel
theorem dX7_send_372 : decode cX7_send 372 = .ok (.iastore, 1) := by decide +kernel
theorem dX7_send_373 : decode cX7_send 373 = .ok (.aload_n 0, 1) := by decide +kernel
theorem dX7_send_374 : decode cX7_send 374 = .ok (.getfield 32, 3) := by decide +kernel
theorem dX7_send_377 : decode cX7_send 377 = .ok (.iload_n 1, 1) := by decide +kernel
theorem dX7_send_378 : decode cX7_send 378 = .ok (.iaload, 1) := by decide +kernel
theorem dX7_send_379 : decode cX7_send 379 = .ok (.iconst 2, 1) := by decide +kernel
theorem dX7_send_380 : decode cX7_send 380 = .ok (.if_icmp .ge 27, 3) := by decide +kernel
theorem dX7_send_383 : decode cX7_send 383 = .ok (.aload_n 0, 1) := by decide +kernel
theorem dX7_send_384 : decode cX7_send 384 = .ok (.getfield 35, 3) := by decide +kernel
theorem dX7_send_387 : decode cX7_send 387 = .ok (.iload_n 1, 1) := by decide +kernel
theorem dX7_send_388 : decode cX7_send 388 = .ok (.iaload, 1) := by decide +kernel
theorem dX7_send_389 : decode cX7_send 389 = .ok (.iconst 3, 1) := by decide +kernel
theorem dX7_send_390 : decode cX7_send 390 = .ok (.if_icmp .ne 17, 3) := by decide +kernel
theorem dX7_send_393 : decode cX7_send 393 = .ok (.aload_n 0, 1) := by decide +kernel
theorem dX7_send_394 : decode cX7_send 394 = .ok (.getfield 32, 3) := by decide +kernel
theorem dX7_send_397 : decode cX7_send 397 = .ok (.iload_n 1, 1) := by decide +kernel
theorem dX7_send_398 : decode cX7_send 398 = .ok (.iconst 2, 1) := by decide +kernel
theorem dX7_send_399 : decode cX7_send 399 = .ok (.iastore, 1) := by decide +kernel
theorem dX7_send_400 : decode cX7_send 400 = .ok (.aload_n 0, 1) := by decide +kernel
theorem dX7_send_401 : decode cX7_send 401 = .ok (.getfield 35, 3) := by decide +kernel
theorem dX7_send_404 : decode cX7_send 404 = .ok (.iload_n 1, 1) := by decide +kernel
theorem dX7_send_405 : decode cX7_send 405 = .ok (.iconst 0, 1) := by decide +kernel
theorem dX7_send_406 : decode cX7_send 406 = .ok (.iastore, 1) := by decide +kernel
theorem dX7_send_407 : decode cX7_send 407 = .ok (.aload_n 0, 1) := by decide +kernel
theorem dX7_send_408 : decode cX7_send 408 = .ok (.iload_n 1, 1) := by decide +kernel
theorem dX7_send_409 : decode cX7_send 409 = .ok (.iload_n 2, 1) := by decide +kernel
theorem dX7_send_410 : decode cX7_send 410 = .ok (.invokevirtual 150, 3) := by decide +kernel
theorem dX7_send_413 : decode cX7_send 413 = .ok (.aload_n 0, 1) := by decide +kernel
theorem dX7_send_414 : decode cX7_send 414 = .ok (.getfield 154, 3) := by decide +kernel
theorem dX7_send_417 : decode cX7_send 417 = .ok (.bipush 8, 2) := by decide +kernel
theorem dX7_send_419 : decode cX7_send 419 = .ok (.if_icmp .ne 9, 3) := by decide +kernel
theorem dX7_send_422 : decode cX7_send 422 = .ok (.iload 9, 2) := by decide +kernel
theorem dX7_send_424 : decode cX7_send 424 = .ok (.bipush 8, 2) := by decide +kernel
theorem dX7_send_426 : decode cX7_send 426 = .ok (.iadd, 1) := by decide +kernel
theorem dX7_send_427 : decode cX7_send 427 = .ok (.ireturn, 1) := by decide +kernel
theorem dX7_send_428 : decode cX7_send 428 = .ok (.aload_n 0, 1) := by decide +kernel
theorem dX7_send_429 : decode cX7_send 429 = .ok (.getfield 47, 3) := by decide +kernel
theorem dX7_send_432 : decode cX7_send 432 = .ok (.aload_n 0, 1) := by decide +kernel
theorem dX7_send_433 : decode cX7_send 433 = .ok (.getfield 154, 3) := by decide +kernel
theorem dX7_send_436 : decode cX7_send 436 = .ok (.aload_n 0, 1) := by decide +kernel
theorem dX7_send_437 : decode cX7_send 437 = .ok (.getfield 121, 3) := by decide +kernel
theorem dX7_send_440 : decode cX7_send 440 = .ok (.iastore, 1) := by decide +kernel
theorem dX7_send_441 : decode cX7_send 441 = .ok (.iconst 0, 1) := by decide +kernel
theorem dX7_send_442 : decode cX7_send 442 = .ok (.istore 10, 2) := by decide +kernel
theorem dX7_send_444 : decode cX7_send 444 = .ok (.iload 10, 2) := by decide +kernel
theorem dX7_send_446 : decode cX7_send 446 = .ok (.aload_n 0, 1) := by decide +kernel
theorem dX7_send_447 : decode cX7_send 447 = .ok (.getfield 121, 3) := by decide +kernel
theorem dX7_send_450 : decode cX7_send 450 = .ok (.if_icmp .ge 31, 3) := by decide +kernel
theorem dX7_send_453 : decode cX7_send 453 = .ok (.aload_n 0, 1) := by decide +kernel
theorem dX7_send_454 : decode cX7_send 454 = .ok (.getfield 50, 3) := by decide +kernel
theorem dX7_send_457 : decode cX7_send 457 = .ok (.bipush 20, 2) := by decide +kernel
theorem dX7_send_459 : decode cX7_send 459 = .ok (.aload_n 0, 1) := by decide +kernel
theorem dX7_send_460 : decode cX7_send 460 = .ok (.getfield 154, 3) := by decide +kernel
theorem dX7_send_463 : decode cX7_send 463 = .ok (.imul, 1) := by decide +kernel
theorem dX7_send_464 : decode cX7_send 464 = .ok (.iload 10, 2) := by decide +kernel
theorem dX7_send_466 : decode cX7_send 466 = .ok (.iadd, 1) := by decide +kernel
theorem dX7_send_467 : decode cX7_send 467 = .ok (.aload_n 0, 1) := by decide +kernel
theorem dX7_send_468 : decode cX7_send 468 = .ok (.getfield 89, 3) := by decide +kernel
theorem dX7_send_471 : decode cX7_send 471 = .ok (.iload 10, 2) := by decide +kernel
theorem dX7_send_473 : decode cX7_send 473 = .ok (.iaload, 1) := by decide +kernel
theorem dX7_send_474 : decode cX7_send 474 = .ok (.iastore, 1) := by decide +kernel
theorem dX7_send_475 : decode cX7_send 475 = .ok (.iinc 10 1, 3) := by decide +kernel
theorem dX7_send_478 : decode cX7_send 478 = .ok (.goto (-34), 3) := by decide +kernel
theorem dX7_send_481 : decode cX7_send 481 = .ok (.aload_n 0, 1) := by decide +kernel
theorem dX7_send_482 : decode cX7_send 482 = .ok (.dup, 1) := by decide +kernel
theorem dX7_send_483 : decode cX7_send 483 = .ok (.getfield 154, 3) := by decide +kernel
theorem dX7_send_486 : decode cX7_send 486 = .ok (.iconst 1, 1) := by decide +kernel
theorem dX7_send_487 : decode cX7_send 487 = .ok (.iadd, 1) := by decide +kernel
theorem dX7_send_488 : decode cX7_send 488 = .ok (.putfield 154, 3) := by decide +kernel
theorem dX7_send_491 : decode cX7_send 491 = .ok (.iload 9, 2) := by decide +kernel
theorem dX7_send_493 : decode cX7_send 493 = .ok (.ireturn, 1) := by decide +kernel
theorem dX7_noPacket_0 : decode cX7_noPacket 0 = .ok (.iload_n 1, 1) := by decide +kernel
theorem dX7_noPacket_1 : decode cX7_noPacket 1 = .ok (.ifCond .lt 11, 3) := by decide +kernel
theorem dX7_noPacket_4 : decode cX7_noPacket 4 = .ok (.iload_n 1, 1) := by decide +kernel
theorem dX7_noPacket_5 : decode cX7_noPacket 5 = .ok (.aload_n 0, 1) := by decide +kernel
theorem dX7_noPacket_6 : decode cX7_noPacket 6 = .ok (.getfield 154, 3) := by decide +kernel
theorem dX7_noPacket_9 : decode cX7_noPacket 9 = .ok (.if_icmp .lt 7, 3) := by decide +kernel
theorem dX7_noPacket_12 : decode cX7_noPacket 12 = .ok (.iconst 1, 1) := by decide +kernel
theorem dX7_noPacket_13 : decode cX7_noPacket 13 = .ok (.goto 4, 3) := by decide +kernel
theorem dX7_noPacket_16 : decode cX7_noPacket 16 = .ok (.iconst 0, 1) := by decide +kernel
theorem dX7_noPacket_17 : decode cX7_noPacket 17 = .ok (.ireturn, 1) := by decide +kernel
theorem dX7_noByte_0 : decode cX7_noByte 0 = .ok (.aload_n 0, 1) := by decide +kernel
theorem dX7_noByte_1 : decode cX7_noByte 1 = .ok (.iload_n 1, 1) := by decide +kernel
theorem dX7_noByte_2 : decode cX7_noByte 2 = .ok (.invokevirtual 157, 3) := by decide +kernel
theorem dX7_noByte_5 : decode cX7_noByte 5 = .ok (.ifCond .ne 17, 3) := by decide +kernel
theorem dX7_noByte_8 : decode cX7_noByte 8 = .ok (.iload_n 2, 1) := by decide +kernel
theorem dX7_noByte_9 : decode cX7_noByte 9 = .ok (.ifCond .lt 13, 3) := by decide +kernel
theorem dX7_noByte_12 : decode cX7_noByte 12 = .ok (.iload_n 2, 1) := by decide +kernel
theorem dX7_noByte_13 : decode cX7_noByte 13 = .ok (.aload_n 0, 1) := by decide +kernel
theorem dX7_noByte_14 : decode cX7_noByte 14 = .ok (.getfield 47, 3) := by decide +kernel
theorem dX7_noByte_17 : decode cX7_noByte 17 = .ok (.iload_n 1, 1) := by decide +kernel
theorem dX7_noByte_18 : decode cX7_noByte 18 = .ok (.iaload, 1) := by decide +kernel
theorem dX7_noByte_19 : decode cX7_noByte 19 = .ok (.if_icmp .lt 7, 3) := by decide +kernel
theorem dX7_noByte_22 : decode cX7_noByte 22 = .ok (.iconst 1, 1) := by decide +kernel
theorem dX7_noByte_23 : decode cX7_noByte 23 = .ok (.goto 4, 3) := by decide +kernel
theorem dX7_noByte_26 : decode cX7_noByte 26 = .ok (.iconst 0, 1) := by decide +kernel
theorem dX7_noByte_27 : decode cX7_noByte 27 = .ok (.ireturn, 1) := by decide +kernel
theorem dX7_line_0 : decode cX7_line 0 = .ok (.aload_n 0, 1) := by decide +kernel
theorem dX7_line_1 : decode cX7_line 1 = .ok (.iconst 0, 1) := by decide +kernel
theorem dX7_line_2 : decode cX7_line 2 = .ok (.putfield 92, 3) := by decide +kernel
theorem dX7_line_5 : decode cX7_line 5 = .ok (.aload_n 0, 1) := by decide +kernel
theorem dX7_line_6 : decode cX7_line 6 = .ok (.getfield 154, 3) := by decide +kernel
theorem dX7_line_9 : decode cX7_line 9 = .ok (.ireturn, 1) := by decide +kernel
theorem dX7_size_0 : decode cX7_size 0 = .ok (.aload_n 0, 1) := by decide +kernel
theorem dX7_size_1 : decode cX7_size 1 = .ok (.aload_n 0, 1) := by decide +kernel
theorem dX7_size_2 : decode cX7_size 2 = .ok (.iload_n 1, 1) := by decide +kernel
theorem dX7_size_3 : decode cX7_size 3 = .ok (.invokevirtual 157, 3) := by decide +kernel
theorem dX7_size_6 : decode cX7_size 6 = .ok (.ifCond .eq 7, 3) := by decide +kernel
theorem dX7_size_9 : decode cX7_size 9 = .ok (.iconst 1, 1) := by decide +kernel
theorem dX7_size_10 : decode cX7_size 10 = .ok (.goto 4, 3) := by decide +kernel
theorem dX7_size_13 : decode cX7_size 13 = .ok (.iconst 0, 1) := by decide +kernel
theorem dX7_size_14 : decode cX7_size 14 = .ok (.putfield 92, 3) := by decide +kernel
theorem dX7_size_17 : decode cX7_size 17 = .ok (.aload_n 0, 1) := by decide +kernel
theorem dX7_size_18 : decode cX7_size 18 = .ok (.getfield 92, 3) := by decide +kernel
theorem dX7_size_21 : decode cX7_size 21 = .ok (.ifCond .ne 12, 3) := by decide +kernel
theorem dX7_size_24 : decode cX7_size 24 = .ok (.aload_n 0, 1) := by decide +kernel
theorem dX7_size_25 : decode cX7_size 25 = .ok (.getfield 47, 3) := by decide +kernel
theorem dX7_size_28 : decode cX7_size 28 = .ok (.iload_n 1, 1) := by decide +kernel
theorem dX7_size_29 : decode cX7_size 29 = .ok (.iaload, 1) := by decide +kernel
theorem dX7_size_30 : decode cX7_size 30 = .ok (.goto 4, 3) := by decide +kernel
theorem dX7_size_33 : decode cX7_size 33 = .ok (.iconst 0, 1) := by decide +kernel
theorem dX7_size_34 : decode cX7_size 34 = .ok (.ireturn, 1) := by decide +kernel
theorem dX7_byteAt_0 : decode cX7_byteAt 0 = .ok (.aload_n 0, 1) := by decide +kernel
theorem dX7_byteAt_1 : decode cX7_byteAt 1 = .ok (.aload_n 0, 1) := by decide +kernel
theorem dX7_byteAt_2 : decode cX7_byteAt 2 = .ok (.iload_n 1, 1) := by decide +kernel
theorem dX7_byteAt_3 : decode cX7_byteAt 3 = .ok (.iload_n 2, 1) := by decide +kernel
theorem dX7_byteAt_4 : decode cX7_byteAt 4 = .ok (.invokevirtual 160, 3) := by decide +kernel
theorem dX7_byteAt_7 : decode cX7_byteAt 7 = .ok (.ifCond .eq 7, 3) := by decide +kernel
theorem dX7_byteAt_10 : decode cX7_byteAt 10 = .ok (.iconst 1, 1) := by decide +kernel
theorem dX7_byteAt_11 : decode cX7_byteAt 11 = .ok (.goto 4, 3) := by decide +kernel
theorem dX7_byteAt_14 : decode cX7_byteAt 14 = .ok (.iconst 0, 1) := by decide +kernel
theorem dX7_byteAt_15 : decode cX7_byteAt 15 = .ok (.putfield 92, 3) := by decide +kernel
theorem dX7_byteAt_18 : decode cX7_byteAt 18 = .ok (.aload_n 0, 1) := by decide +kernel
theorem dX7_byteAt_19 : decode cX7_byteAt 19 = .ok (.getfield 92, 3) := by decide +kernel
theorem dX7_byteAt_22 : decode cX7_byteAt 22 = .ok (.ifCond .ne 17, 3) := by decide +kernel
theorem dX7_byteAt_25 : decode cX7_byteAt 25 = .ok (.aload_n 0, 1) := by decide +kernel
theorem dX7_byteAt_26 : decode cX7_byteAt 26 = .ok (.getfield 50, 3) := by decide +kernel
theorem dX7_byteAt_29 : decode cX7_byteAt 29 = .ok (.bipush 20, 2) := by decide +kernel
theorem dX7_byteAt_31 : decode cX7_byteAt 31 = .ok (.iload_n 1, 1) := by decide +kernel
theorem dX7_byteAt_32 : decode cX7_byteAt 32 = .ok (.imul, 1) := by decide +kernel
theorem dX7_byteAt_33 : decode cX7_byteAt 33 = .ok (.iload_n 2, 1) := by decide +kernel
theorem dX7_byteAt_34 : decode cX7_byteAt 34 = .ok (.iadd, 1) := by decide +kernel
theorem dX7_byteAt_35 : decode cX7_byteAt 35 = .ok (.iaload, 1) := by decide +kernel
theorem dX7_byteAt_36 : decode cX7_byteAt 36 = .ok (.goto 4, 3) := by decide +kernel
theorem dX7_byteAt_39 : decode cX7_byteAt 39 = .ok (.iconst 0, 1) := by decide +kernel
theorem dX7_byteAt_40 : decode cX7_byteAt 40 = .ok (.ireturn, 1) := by decide +kernel
theorem dX7_spoil_0 : decode cX7_spoil 0 = .ok (.aload_n 0, 1) := by decide +kernel
theorem dX7_spoil_1 : decode cX7_spoil 1 = .ok (.aload_n 0, 1) := by decide +kernel
theorem dX7_spoil_2 : decode cX7_spoil 2 = .ok (.iload_n 1, 1) := by decide +kernel
theorem dX7_spoil_3 : decode cX7_spoil 3 = .ok (.iload_n 2, 1) := by decide +kernel
theorem dX7_spoil_4 : decode cX7_spoil 4 = .ok (.invokevirtual 160, 3) := by decide +kernel
theorem dX7_spoil_7 : decode cX7_spoil 7 = .ok (.ifCond .eq 7, 3) := by decide +kernel
theorem dX7_spoil_10 : decode cX7_spoil 10 = .ok (.iconst 1, 1) := by decide +kernel
theorem dX7_spoil_11 : decode cX7_spoil 11 = .ok (.goto 19, 3) := by decide +kernel
theorem dX7_spoil_14 : decode cX7_spoil 14 = .ok (.iload_n 3, 1) := by decide +kernel
theorem dX7_spoil_15 : decode cX7_spoil 15 = .ok (.ifCond .lt 10, 3) := by decide +kernel
theorem dX7_spoil_18 : decode cX7_spoil 18 = .ok (.iload_n 3, 1) := by decide +kernel
theorem dX7_spoil_19 : decode cX7_spoil 19 = .ok (.sipush 255, 3) := by decide +kernel
theorem dX7_spoil_22 : decode cX7_spoil 22 = .ok (.if_icmp .le 7, 3) := by decide +kernel
theorem dX7_spoil_25 : decode cX7_spoil 25 = .ok (.iconst 2, 1) := by decide +kernel
theorem dX7_spoil_26 : decode cX7_spoil 26 = .ok (.goto 4, 3) := by decide +kernel
theorem dX7_spoil_29 : decode cX7_spoil 29 = .ok (.iconst 0, 1) := by decide +kernel
theorem dX7_spoil_30 : decode cX7_spoil 30 = .ok (.putfield 92, 3) := by decide +kernel
theorem dX7_spoil_33 : decode cX7_spoil 33 = .ok (.aload_n 0, 1) := by decide +kernel
theorem dX7_spoil_34 : decode cX7_spoil 34 = .ok (.getfield 92, 3) := by decide +kernel
theorem dX7_spoil_37 : decode cX7_spoil 37 = .ok (.ifCond .ne 27, 3) := by decide +kernel
theorem dX7_spoil_40 : decode cX7_spoil 40 = .ok (.aload_n 0, 1) := by decide +kernel
theorem dX7_spoil_41 : decode cX7_spoil 41 = .ok (.getfield 50, 3) := by decide +kernel
theorem dX7_spoil_44 : decode cX7_spoil 44 = .ok (.bipush 20, 2) := by decide +kernel
theorem dX7_spoil_46 : decode cX7_spoil 46 = .ok (.iload_n 1, 1) := by decide +kernel
theorem dX7_spoil_47 : decode cX7_spoil 47 = .ok (.imul, 1) := by decide +kernel
theorem dX7_spoil_48 : decode cX7_spoil 48 = .ok (.iload_n 2, 1) := by decide +kernel
theorem dX7_spoil_49 : decode cX7_spoil 49 = .ok (.iadd, 1) := by decide +kernel
theorem dX7_spoil_50 : decode cX7_spoil 50 = .ok (.aload_n 0, 1) := by decide +kernel
theorem dX7_spoil_51 : decode cX7_spoil 51 = .ok (.getfield 50, 3) := by decide +kernel
theorem dX7_spoil_54 : decode cX7_spoil 54 = .ok (.bipush 20, 2) := by decide +kernel
theorem dX7_spoil_56 : decode cX7_spoil 56 = .ok (.iload_n 1, 1) := by decide +kernel
theorem dX7_spoil_57 : decode cX7_spoil 57 = .ok (.imul, 1) := by decide +kernel
theorem dX7_spoil_58 : decode cX7_spoil 58 = .ok (.iload_n 2, 1) := by decide +kernel
theorem dX7_spoil_59 : decode cX7_spoil 59 = .ok (.iadd, 1) := by decide +kernel
theorem dX7_spoil_60 : decode cX7_spoil 60 = .ok (.iaload, 1) := by decide +kernel
theorem dX7_spoil_61 : decode cX7_spoil 61 = .ok (.iload_n 3, 1) := by decide +kernel
theorem dX7_spoil_62 : decode cX7_spoil 62 = .ok (.ixor, 1) := by decide +kernel
theorem dX7_spoil_63 : decode cX7_spoil 63 = .ok (.iastore, 1) := by decide +kernel
theorem dX7_spoil_64 : decode cX7_spoil 64 = .ok (.return_, 1) := by decide +kernel
theorem dX7_off_0 : decode cX7_off 0 = .ok (.aload_n 0, 1) := by decide +kernel
theorem dX7_off_1 : decode cX7_off 1 = .ok (.dup, 1) := by decide +kernel
theorem dX7_off_2 : decode cX7_off 2 = .ok (.getfield 154, 3) := by decide +kernel
theorem dX7_off_5 : decode cX7_off 5 = .ok (.iconst 1, 1) := by decide +kernel
theorem dX7_off_6 : decode cX7_off 6 = .ok (.isub, 1) := by decide +kernel
theorem dX7_off_7 : decode cX7_off 7 = .ok (.putfield 154, 3) := by decide +kernel
theorem dX7_off_10 : decode cX7_off 10 = .ok (.iload_n 1, 1) := by decide +kernel
theorem dX7_off_11 : decode cX7_off 11 = .ok (.istore_n 2, 1) := by decide +kernel
theorem dX7_off_12 : decode cX7_off 12 = .ok (.iload_n 2, 1) := by decide +kernel
theorem dX7_off_13 : decode cX7_off 13 = .ok (.aload_n 0, 1) := by decide +kernel
theorem dX7_off_14 : decode cX7_off 14 = .ok (.getfield 154, 3) := by decide +kernel
theorem dX7_off_17 : decode cX7_off 17 = .ok (.if_icmp .ge 62, 3) := by decide +kernel
theorem dX7_off_20 : decode cX7_off 20 = .ok (.aload_n 0, 1) := by decide +kernel
theorem dX7_off_21 : decode cX7_off 21 = .ok (.getfield 47, 3) := by decide +kernel
theorem dX7_off_24 : decode cX7_off 24 = .ok (.iload_n 2, 1) := by decide +kernel
theorem dX7_off_25 : decode cX7_off 25 = .ok (.aload_n 0, 1) := by decide +kernel
theorem dX7_off_26 : decode cX7_off 26 = .ok (.getfield 47, 3) := by decide +kernel
theorem dX7_off_29 : decode cX7_off 29 = .ok (.iload_n 2, 1) := by decide +kernel
theorem dX7_off_30 : decode cX7_off 30 = .ok (.iconst 1, 1) := by decide +kernel
theorem dX7_off_31 : decode cX7_off 31 = .ok (.iadd, 1) := by decide +kernel
theorem dX7_off_32 : decode cX7_off 32 = .ok (.iaload, 1) := by decide +kernel
theorem dX7_off_33 : decode cX7_off 33 = .ok (.iastore, 1) := by decide +kernel
theorem dX7_off_34 : decode cX7_off 34 = .ok (.iconst 0, 1) := by decide +kernel
theorem dX7_off_35 : decode cX7_off 35 = .ok (.istore_n 3, 1) := by decide +kernel
theorem dX7_off_36 : decode cX7_off 36 = .ok (.iload_n 3, 1) := by decide +kernel
theorem dX7_off_37 : decode cX7_off 37 = .ok (.bipush 20, 2) := by decide +kernel
theorem dX7_off_39 : decode cX7_off 39 = .ok (.if_icmp .ge 34, 3) := by decide +kernel
theorem dX7_off_42 : decode cX7_off 42 = .ok (.aload_n 0, 1) := by decide +kernel
theorem dX7_off_43 : decode cX7_off 43 = .ok (.getfield 50, 3) := by decide +kernel
theorem dX7_off_46 : decode cX7_off 46 = .ok (.bipush 20, 2) := by decide +kernel
theorem dX7_off_48 : decode cX7_off 48 = .ok (.iload_n 2, 1) := by decide +kernel
theorem dX7_off_49 : decode cX7_off 49 = .ok (.imul, 1) := by decide +kernel
theorem dX7_off_50 : decode cX7_off 50 = .ok (.iload_n 3, 1) := by decide +kernel
theorem dX7_off_51 : decode cX7_off 51 = .ok (.iadd, 1) := by decide +kernel
theorem dX7_off_52 : decode cX7_off 52 = .ok (.aload_n 0, 1) := by decide +kernel
theorem dX7_off_53 : decode cX7_off 53 = .ok (.getfield 50, 3) := by decide +kernel
theorem dX7_off_56 : decode cX7_off 56 = .ok (.bipush 20, 2) := by decide +kernel
theorem dX7_off_58 : decode cX7_off 58 = .ok (.iload_n 2, 1) := by decide +kernel
theorem dX7_off_59 : decode cX7_off 59 = .ok (.imul, 1) := by decide +kernel
theorem dX7_off_60 : decode cX7_off 60 = .ok (.bipush 20, 2) := by decide +kernel
theorem dX7_off_62 : decode cX7_off 62 = .ok (.iadd, 1) := by decide +kernel
theorem dX7_off_63 : decode cX7_off 63 = .ok (.iload_n 3, 1) := by decide +kernel
theorem dX7_off_64 : decode cX7_off 64 = .ok (.iadd, 1) := by decide +kernel
theorem dX7_off_65 : decode cX7_off 65 = .ok (.iaload, 1) := by decide +kernel
theorem dX7_off_66 : decode cX7_off 66 = .ok (.iastore, 1) := by decide +kernel
theorem dX7_off_67 : decode cX7_off 67 = .ok (.iinc 3 1, 3) := by decide +kernel
theorem dX7_off_70 : decode cX7_off 70 = .ok (.goto (-34), 3) := by decide +kernel
theorem dX7_off_73 : decode cX7_off 73 = .ok (.iinc 2 1, 3) := by decide +kernel
theorem dX7_off_76 : decode cX7_off 76 = .ok (.goto (-64), 3) := by decide +kernel
theorem dX7_off_79 : decode cX7_off 79 = .ok (.return_, 1) := by decide +kernel
theorem dX7_lose_0 : decode cX7_lose 0 = .ok (.aload_n 0, 1) := by decide +kernel
theorem dX7_lose_1 : decode cX7_lose 1 = .ok (.aload_n 0, 1) := by decide +kernel
theorem dX7_lose_2 : decode cX7_lose 2 = .ok (.iload_n 1, 1) := by decide +kernel
theorem dX7_lose_3 : decode cX7_lose 3 = .ok (.invokevirtual 157, 3) := by decide +kernel
theorem dX7_lose_6 : decode cX7_lose 6 = .ok (.ifCond .eq 7, 3) := by decide +kernel
theorem dX7_lose_9 : decode cX7_lose 9 = .ok (.iconst 1, 1) := by decide +kernel
theorem dX7_lose_10 : decode cX7_lose 10 = .ok (.goto 4, 3) := by decide +kernel
theorem dX7_lose_13 : decode cX7_lose 13 = .ok (.iconst 0, 1) := by decide +kernel
theorem dX7_lose_14 : decode cX7_lose 14 = .ok (.putfield 92, 3) := by decide +kernel
theorem dX7_lose_17 : decode cX7_lose 17 = .ok (.aload_n 0, 1) := by decide +kernel
theorem dX7_lose_18 : decode cX7_lose 18 = .ok (.getfield 92, 3) := by decide +kernel
theorem dX7_lose_21 : decode cX7_lose 21 = .ok (.ifCond .ne 8, 3) := by decide +kernel
theorem dX7_lose_24 : decode cX7_lose 24 = .ok (.aload_n 0, 1) := by decide +kernel
theorem dX7_lose_25 : decode cX7_lose 25 = .ok (.iload_n 1, 1) := by decide +kernel
theorem dX7_lose_26 : decode cX7_lose 26 = .ok (.invokevirtual 164, 3) := by decide +kernel
theorem dX7_lose_29 : decode cX7_lose 29 = .ok (.return_, 1) := by decide +kernel
theorem dX7_kindOf_0 : decode cX7_kindOf 0 = .ok (.iload_n 1, 1) := by decide +kernel
theorem dX7_kindOf_1 : decode cX7_kindOf 1 = .ok (.sipush 128, 3) := by decide +kernel
theorem dX7_kindOf_4 : decode cX7_kindOf 4 = .ok (.if_icmp .ge 7, 3) := by decide +kernel
theorem dX7_kindOf_7 : decode cX7_kindOf 7 = .ok (.iconst 0, 1) := by decide +kernel
theorem dX7_kindOf_8 : decode cX7_kindOf 8 = .ok (.goto 48, 3) := by decide +kernel
theorem dX7_kindOf_11 : decode cX7_kindOf 11 = .ok (.iload_n 1, 1) := by decide +kernel
theorem dX7_kindOf_12 : decode cX7_kindOf 12 = .ok (.sipush 192, 3) := by decide +kernel
theorem dX7_kindOf_15 : decode cX7_kindOf 15 = .ok (.if_icmp .ge 7, 3) := by decide +kernel
theorem dX7_kindOf_18 : decode cX7_kindOf 18 = .ok (.iconst 1, 1) := by decide +kernel
theorem dX7_kindOf_19 : decode cX7_kindOf 19 = .ok (.goto 37, 3) := by decide +kernel
theorem dX7_kindOf_22 : decode cX7_kindOf 22 = .ok (.iload_n 1, 1) := by decide +kernel
theorem dX7_kindOf_23 : decode cX7_kindOf 23 = .ok (.sipush 224, 3) := by decide +kernel
theorem dX7_kindOf_26 : decode cX7_kindOf 26 = .ok (.if_icmp .ge 7, 3) := by decide +kernel
theorem dX7_kindOf_29 : decode cX7_kindOf 29 = .ok (.iconst 2, 1) := by decide +kernel
theorem dX7_kindOf_30 : decode cX7_kindOf 30 = .ok (.goto 26, 3) := by decide +kernel
theorem dX7_kindOf_33 : decode cX7_kindOf 33 = .ok (.iload_n 1, 1) := by decide +kernel
theorem dX7_kindOf_34 : decode cX7_kindOf 34 = .ok (.sipush 248, 3) := by decide +kernel
theorem dX7_kindOf_37 : decode cX7_kindOf 37 = .ok (.if_icmp .ne 7, 3) := by decide +kernel
theorem dX7_kindOf_40 : decode cX7_kindOf 40 = .ok (.iconst 3, 1) := by decide +kernel
theorem dX7_kindOf_41 : decode cX7_kindOf 41 = .ok (.goto 15, 3) := by decide +kernel
theorem dX7_kindOf_44 : decode cX7_kindOf 44 = .ok (.iload_n 1, 1) := by decide +kernel
theorem dX7_kindOf_45 : decode cX7_kindOf 45 = .ok (.sipush 253, 3) := by decide +kernel
theorem dX7_kindOf_48 : decode cX7_kindOf 48 = .ok (.if_icmp .ne 7, 3) := by decide +kernel
theorem dX7_kindOf_51 : decode cX7_kindOf 51 = .ok (.iconst 4, 1) := by decide +kernel
theorem dX7_kindOf_52 : decode cX7_kindOf 52 = .ok (.goto 4, 3) := by decide +kernel
theorem dX7_kindOf_55 : decode cX7_kindOf 55 = .ok (.iconst (-1), 1) := by decide +kernel
theorem dX7_kindOf_56 : decode cX7_kindOf 56 = .ok (.ireturn, 1) := by decide +kernel
theorem dX7_sizeOf_0 : decode cX7_sizeOf 0 = .ok (.iload_n 1, 1) := by decide +kernel
theorem dX7_sizeOf_1 : decode cX7_sizeOf 1 = .ok (.ifCond .ne 7, 3) := by decide +kernel
theorem dX7_sizeOf_4 : decode cX7_sizeOf 4 = .ok (.iconst 1, 1) := by decide +kernel
theorem dX7_sizeOf_5 : decode cX7_sizeOf 5 = .ok (.goto 33, 3) := by decide +kernel
theorem dX7_sizeOf_8 : decode cX7_sizeOf 8 = .ok (.iload_n 1, 1) := by decide +kernel
theorem dX7_sizeOf_9 : decode cX7_sizeOf 9 = .ok (.iconst 1, 1) := by decide +kernel
theorem dX7_sizeOf_10 : decode cX7_sizeOf 10 = .ok (.if_icmp .ne 7, 3) := by decide +kernel
theorem dX7_sizeOf_13 : decode cX7_sizeOf 13 = .ok (.iconst 2, 1) := by decide +kernel
theorem dX7_sizeOf_14 : decode cX7_sizeOf 14 = .ok (.goto 24, 3) := by decide +kernel
theorem dX7_sizeOf_17 : decode cX7_sizeOf 17 = .ok (.iload_n 1, 1) := by decide +kernel
theorem dX7_sizeOf_18 : decode cX7_sizeOf 18 = .ok (.iconst 2, 1) := by decide +kernel
theorem dX7_sizeOf_19 : decode cX7_sizeOf 19 = .ok (.if_icmp .ne 7, 3) := by decide +kernel
theorem dX7_sizeOf_22 : decode cX7_sizeOf 22 = .ok (.iconst 3, 1) := by decide +kernel
theorem dX7_sizeOf_23 : decode cX7_sizeOf 23 = .ok (.goto 15, 3) := by decide +kernel
theorem dX7_sizeOf_26 : decode cX7_sizeOf 26 = .ok (.iload_n 1, 1) := by decide +kernel
theorem dX7_sizeOf_27 : decode cX7_sizeOf 27 = .ok (.iconst 3, 1) := by decide +kernel
theorem dX7_sizeOf_28 : decode cX7_sizeOf 28 = .ok (.if_icmp .ne 8, 3) := by decide +kernel
theorem dX7_sizeOf_31 : decode cX7_sizeOf 31 = .ok (.bipush 11, 2) := by decide +kernel
theorem dX7_sizeOf_33 : decode cX7_sizeOf 33 = .ok (.goto 5, 3) := by decide +kernel
theorem dX7_sizeOf_36 : decode cX7_sizeOf 36 = .ok (.bipush 16, 2) := by decide +kernel
theorem dX7_sizeOf_38 : decode cX7_sizeOf 38 = .ok (.ireturn, 1) := by decide +kernel
theorem dX7_broken_0 : decode cX7_broken 0 = .ok (.iload_n 1, 1) := by decide +kernel
theorem dX7_broken_1 : decode cX7_broken 1 = .ok (.ifCond .lt 17, 3) := by decide +kernel
theorem dX7_broken_4 : decode cX7_broken 4 = .ok (.aload_n 0, 1) := by decide +kernel
theorem dX7_broken_5 : decode cX7_broken 5 = .ok (.getfield 121, 3) := by decide +kernel
theorem dX7_broken_8 : decode cX7_broken 8 = .ok (.iload_n 2, 1) := by decide +kernel
theorem dX7_broken_9 : decode cX7_broken 9 = .ok (.isub, 1) := by decide +kernel
theorem dX7_broken_10 : decode cX7_broken 10 = .ok (.aload_n 0, 1) := by decide +kernel
theorem dX7_broken_11 : decode cX7_broken 11 = .ok (.iload_n 1, 1) := by decide +kernel
theorem dX7_broken_12 : decode cX7_broken 12 = .ok (.invokevirtual 167, 3) := by decide +kernel
theorem dX7_broken_15 : decode cX7_broken 15 = .ok (.if_icmp .eq 5, 3) := by decide +kernel
theorem dX7_broken_18 : decode cX7_broken 18 = .ok (.iconst 1, 1) := by decide +kernel
theorem dX7_broken_19 : decode cX7_broken 19 = .ok (.ireturn, 1) := by decide +kernel
theorem dX7_broken_20 : decode cX7_broken 20 = .ok (.iload_n 1, 1) := by decide +kernel
theorem dX7_broken_21 : decode cX7_broken 21 = .ok (.iconst 2, 1) := by decide +kernel
theorem dX7_broken_22 : decode cX7_broken 22 = .ok (.if_icmp .ne 22, 3) := by decide +kernel
theorem dX7_broken_25 : decode cX7_broken 25 = .ok (.aload_n 0, 1) := by decide +kernel
theorem dX7_broken_26 : decode cX7_broken 26 = .ok (.getfield 89, 3) := by decide +kernel
theorem dX7_broken_29 : decode cX7_broken 29 = .ok (.iload_n 2, 1) := by decide +kernel
theorem dX7_broken_30 : decode cX7_broken 30 = .ok (.iconst 1, 1) := by decide +kernel
theorem dX7_broken_31 : decode cX7_broken 31 = .ok (.iadd, 1) := by decide +kernel
theorem dX7_broken_32 : decode cX7_broken 32 = .ok (.iaload, 1) := by decide +kernel
theorem dX7_broken_33 : decode cX7_broken 33 = .ok (.iconst 3, 1) := by decide +kernel
theorem dX7_broken_34 : decode cX7_broken 34 = .ok (.iand, 1) := by decide +kernel
theorem dX7_broken_35 : decode cX7_broken 35 = .ok (.ifCond .eq 7, 3) := by decide +kernel
theorem dX7_broken_38 : decode cX7_broken 38 = .ok (.iconst 1, 1) := by decide +kernel
theorem dX7_broken_39 : decode cX7_broken 39 = .ok (.goto 4, 3) := by decide +kernel
theorem dX7_broken_42 : decode cX7_broken 42 = .ok (.iconst 0, 1) := by decide +kernel
theorem dX7_broken_43 : decode cX7_broken 43 = .ok (.ireturn, 1) := by decide +kernel
theorem dX7_broken_44 : decode cX7_broken 44 = .ok (.iload_n 1, 1) := by decide +kernel
theorem dX7_broken_45 : decode cX7_broken 45 = .ok (.iconst 3, 1) := by decide +kernel
theorem dX7_broken_46 : decode cX7_broken 46 = .ok (.if_icmp .ne 23, 3) := by decide +kernel
theorem dX7_broken_49 : decode cX7_broken 49 = .ok (.aload_n 0, 1) := by decide +kernel
theorem dX7_broken_50 : decode cX7_broken 50 = .ok (.getfield 89, 3) := by decide +kernel
theorem dX7_broken_53 : decode cX7_broken 53 = .ok (.iload_n 2, 1) := by decide +kernel
theorem dX7_broken_54 : decode cX7_broken 54 = .ok (.iconst 1, 1) := by decide +kernel
theorem dX7_broken_55 : decode cX7_broken 55 = .ok (.iadd, 1) := by decide +kernel
theorem dX7_broken_56 : decode cX7_broken 56 = .ok (.iaload, 1) := by decide +kernel
theorem dX7_broken_57 : decode cX7_broken 57 = .ok (.bipush 127, 2) := by decide +kernel
theorem dX7_broken_59 : decode cX7_broken 59 = .ok (.iand, 1) := by decide +kernel
theorem dX7_broken_60 : decode cX7_broken 60 = .ok (.ifCond .eq 7, 3) := by decide +kernel
theorem dX7_broken_63 : decode cX7_broken 63 = .ok (.iconst 1, 1) := by decide +kernel
theorem dX7_broken_64 : decode cX7_broken 64 = .ok (.goto 4, 3) := by decide +kernel
theorem dX7_broken_67 : decode cX7_broken 67 = .ok (.iconst 0, 1) := by decide +kernel
theorem dX7_broken_68 : decode cX7_broken 68 = .ok (.ireturn, 1) := by decide +kernel
theorem dX7_broken_69 : decode cX7_broken 69 = .ok (.iload_n 1, 1) := by decide +kernel
theorem dX7_broken_70 : decode cX7_broken 70 = .ok (.iconst 4, 1) := by decide +kernel
theorem dX7_broken_71 : decode cX7_broken 71 = .ok (.if_icmp .ne 35, 3) := by decide +kernel
theorem dX7_broken_74 : decode cX7_broken 74 = .ok (.aload_n 0, 1) := by decide +kernel
theorem dX7_broken_75 : decode cX7_broken 75 = .ok (.getfield 89, 3) := by decide +kernel
theorem dX7_broken_78 : decode cX7_broken 78 = .ok (.iload_n 2, 1) := by decide +kernel
theorem dX7_broken_79 : decode cX7_broken 79 = .ok (.bipush 6, 2) := by decide +kernel
theorem dX7_broken_81 : decode cX7_broken 81 = .ok (.iadd, 1) := by decide +kernel
theorem dX7_broken_82 : decode cX7_broken 82 = .ok (.iaload, 1) := by decide +kernel
theorem dX7_broken_83 : decode cX7_broken 83 = .ok (.bipush 127, 2) := by decide +kernel
theorem dX7_broken_85 : decode cX7_broken 85 = .ok (.iand, 1) := by decide +kernel
theorem dX7_broken_86 : decode cX7_broken 86 = .ok (.ifCond .ne 16, 3) := by decide +kernel
theorem dX7_broken_89 : decode cX7_broken 89 = .ok (.aload_n 0, 1) := by decide +kernel
theorem dX7_broken_90 : decode cX7_broken 90 = .ok (.getfield 89, 3) := by decide +kernel
theorem dX7_broken_93 : decode cX7_broken 93 = .ok (.iload_n 2, 1) := by decide +kernel
theorem dX7_broken_94 : decode cX7_broken 94 = .ok (.iconst 3, 1) := by decide +kernel
theorem dX7_broken_95 : decode cX7_broken 95 = .ok (.iadd, 1) := by decide +kernel
theorem dX7_broken_96 : decode cX7_broken 96 = .ok (.iaload, 1) := by decide +kernel
theorem dX7_broken_97 : decode cX7_broken 97 = .ok (.bipush 127, 2) := by decide +kernel
theorem dX7_broken_99 : decode cX7_broken 99 = .ok (.if_icmp .le 7, 3) := by decide +kernel
theorem dX7_broken_102 : decode cX7_broken 102 = .ok (.iconst 1, 1) := by decide +kernel
theorem dX7_broken_103 : decode cX7_broken 103 = .ok (.goto 4, 3) := by decide +kernel
theorem dX7_broken_106 : decode cX7_broken 106 = .ok (.iconst 0, 1) := by decide +kernel
theorem dX7_broken_107 : decode cX7_broken 107 = .ok (.ireturn, 1) := by decide +kernel
end
section
theorem dX7_two_0 : decode cX7_two 0 = .ok (.sipush 256, 3) := by decide +kernel
theorem dX7_two_3 : decode cX7_two 3 = .ok (.aload_n 0, 1) := by decide +kernel
theorem dX7_two_4 : decode cX7_two 4 = .ok (.getfield 89, 3) := by decide +kernel
theorem dX7_two_7 : decode cX7_two 7 = .ok (.iload_n 1, 1) := by decide +kernel
theorem dX7_two_8 : decode cX7_two 8 = .ok (.iaload, 1) := by decide +kernel
theorem dX7_two_9 : decode cX7_two 9 = .ok (.imul, 1) := by decide +kernel
theorem dX7_two_10 : decode cX7_two 10 = .ok (.aload_n 0, 1) := by decide +kernel
theorem dX7_two_11 : decode cX7_two 11 = .ok (.getfield 89, 3) := by decide +kernel
theorem dX7_two_14 : decode cX7_two 14 = .ok (.iload_n 1, 1) := by decide +kernel
theorem dX7_two_15 : decode cX7_two 15 = .ok (.iconst 1, 1) := by decide +kernel
theorem dX7_two_16 : decode cX7_two 16 = .ok (.iadd, 1) := by decide +kernel
theorem dX7_two_17 : decode cX7_two 17 = .ok (.iaload, 1) := by decide +kernel
theorem dX7_two_18 : decode cX7_two 18 = .ok (.iadd, 1) := by decide +kernel
theorem dX7_two_19 : decode cX7_two 19 = .ok (.ireturn, 1) := by decide +kernel
theorem dX7_near_0 : decode cX7_near 0 = .ok (.iload_n 1, 1) := by decide +kernel
theorem dX7_near_1 : decode cX7_near 1 = .ok (.aload_n 0, 1) := by decide +kernel
theorem dX7_near_2 : decode cX7_near 2 = .ok (.iload_n 2, 1) := by decide +kernel
theorem dX7_near_3 : decode cX7_near 3 = .ok (.invokevirtual 114, 3) := by decide +kernel
theorem dX7_near_6 : decode cX7_near 6 = .ok (.isub, 1) := by decide +kernel
theorem dX7_near_7 : decode cX7_near 7 = .ok (.istore 4, 2) := by decide +kernel
theorem dX7_near_9 : decode cX7_near 9 = .ok (.iload_n 3, 1) := by decide +kernel
theorem dX7_near_10 : decode cX7_near 10 = .ok (.iload 4, 2) := by decide +kernel
theorem dX7_near_12 : decode cX7_near 12 = .ok (.isub, 1) := by decide +kernel
theorem dX7_near_13 : decode cX7_near 13 = .ok (.iconst 1, 1) := by decide +kernel
theorem dX7_near_14 : decode cX7_near 14 = .ok (.aload_n 0, 1) := by decide +kernel
theorem dX7_near_15 : decode cX7_near 15 = .ok (.iload_n 2, 1) := by decide +kernel
theorem dX7_near_16 : decode cX7_near 16 = .ok (.invokevirtual 118, 3) := by decide +kernel
theorem dX7_near_19 : decode cX7_near 19 = .ok (.ishl, 1) := by decide +kernel
theorem dX7_near_20 : decode cX7_near 20 = .ok (.iconst 1, 1) := by decide +kernel
theorem dX7_near_21 : decode cX7_near 21 = .ok (.isub, 1) := by decide +kernel
theorem dX7_near_22 : decode cX7_near 22 = .ok (.iand, 1) := by decide +kernel
theorem dX7_near_23 : decode cX7_near 23 = .ok (.istore 5, 2) := by decide +kernel
theorem dX7_near_25 : decode cX7_near 25 = .ok (.iload 4, 2) := by decide +kernel
theorem dX7_near_27 : decode cX7_near 27 = .ok (.iload 5, 2) := by decide +kernel
theorem dX7_near_29 : decode cX7_near 29 = .ok (.iadd, 1) := by decide +kernel
theorem dX7_near_30 : decode cX7_near 30 = .ok (.ldc 96, 2) := by decide +kernel
theorem dX7_near_32 : decode cX7_near 32 = .ok (.iand, 1) := by decide +kernel
theorem dX7_near_33 : decode cX7_near 33 = .ok (.ireturn, 1) := by decide +kernel
theorem dX7_fits_0 : decode cX7_fits 0 = .ok (.aload_n 0, 1) := by decide +kernel
theorem dX7_fits_1 : decode cX7_fits 1 = .ok (.aload_n 0, 1) := by decide +kernel
theorem dX7_fits_2 : decode cX7_fits 2 = .ok (.getfield 56, 3) := by decide +kernel
theorem dX7_fits_5 : decode cX7_fits 5 = .ok (.iload_n 1, 1) := by decide +kernel
theorem dX7_fits_6 : decode cX7_fits 6 = .ok (.iaload, 1) := by decide +kernel
theorem dX7_fits_7 : decode cX7_fits 7 = .ok (.aload_n 0, 1) := by decide +kernel
theorem dX7_fits_8 : decode cX7_fits 8 = .ok (.getfield 59, 3) := by decide +kernel
theorem dX7_fits_11 : decode cX7_fits 11 = .ok (.iload_n 1, 1) := by decide +kernel
theorem dX7_fits_12 : decode cX7_fits 12 = .ok (.iaload, 1) := by decide +kernel
theorem dX7_fits_13 : decode cX7_fits 13 = .ok (.iload 4, 2) := by decide +kernel
theorem dX7_fits_15 : decode cX7_fits 15 = .ok (.iload_n 3, 1) := by decide +kernel
theorem dX7_fits_16 : decode cX7_fits 16 = .ok (.aload_n 0, 1) := by decide +kernel
theorem dX7_fits_17 : decode cX7_fits 17 = .ok (.getfield 65, 3) := by decide +kernel
theorem dX7_fits_20 : decode cX7_fits 20 = .ok (.iload_n 1, 1) := by decide +kernel
theorem dX7_fits_21 : decode cX7_fits 21 = .ok (.iaload, 1) := by decide +kernel
theorem dX7_fits_22 : decode cX7_fits 22 = .ok (.iload_n 3, 1) := by decide +kernel
theorem dX7_fits_23 : decode cX7_fits 23 = .ok (.aload_n 0, 1) := by decide +kernel
theorem dX7_fits_24 : decode cX7_fits 24 = .ok (.getfield 62, 3) := by decide +kernel
theorem dX7_fits_27 : decode cX7_fits 27 = .ok (.iload_n 1, 1) := by decide +kernel
theorem dX7_fits_28 : decode cX7_fits 28 = .ok (.iaload, 1) := by decide +kernel
theorem dX7_fits_29 : decode cX7_fits 29 = .ok (.imul, 1) := by decide +kernel
theorem dX7_fits_30 : decode cX7_fits 30 = .ok (.iadd, 1) := by decide +kernel
theorem dX7_fits_31 : decode cX7_fits 31 = .ok (.iload_n 3, 1) := by decide +kernel
theorem dX7_fits_32 : decode cX7_fits 32 = .ok (.aload_n 0, 1) := by decide +kernel
theorem dX7_fits_33 : decode cX7_fits 33 = .ok (.getfield 68, 3) := by decide +kernel
theorem dX7_fits_36 : decode cX7_fits 36 = .ok (.iload_n 1, 1) := by decide +kernel
theorem dX7_fits_37 : decode cX7_fits 37 = .ok (.iaload, 1) := by decide +kernel
theorem dX7_fits_38 : decode cX7_fits 38 = .ok (.iadd, 1) := by decide +kernel
theorem dX7_fits_39 : decode cX7_fits 39 = .ok (.ldc 96, 2) := by decide +kernel
theorem dX7_fits_41 : decode cX7_fits 41 = .ok (.iand, 1) := by decide +kernel
theorem dX7_fits_42 : decode cX7_fits 42 = .ok (.invokevirtual 142, 3) := by decide +kernel
theorem dX7_fits_45 : decode cX7_fits 45 = .ok (.aload_n 0, 1) := by decide +kernel
theorem dX7_fits_46 : decode cX7_fits 46 = .ok (.iload_n 2, 1) := by decide +kernel
theorem dX7_fits_47 : decode cX7_fits 47 = .ok (.ifCond .ne 7, 3) := by decide +kernel
theorem dX7_fits_50 : decode cX7_fits 50 = .ok (.iconst 3, 1) := by decide +kernel
theorem dX7_fits_51 : decode cX7_fits 51 = .ok (.goto 15, 3) := by decide +kernel
theorem dX7_fits_54 : decode cX7_fits 54 = .ok (.iload_n 2, 1) := by decide +kernel
theorem dX7_fits_55 : decode cX7_fits 55 = .ok (.iconst 1, 1) := by decide +kernel
theorem dX7_fits_56 : decode cX7_fits 56 = .ok (.if_icmp .ne 8, 3) := by decide +kernel
theorem dX7_fits_59 : decode cX7_fits 59 = .ok (.bipush 7, 2) := by decide +kernel
theorem dX7_fits_61 : decode cX7_fits 61 = .ok (.goto 5, 3) := by decide +kernel
theorem dX7_fits_64 : decode cX7_fits 64 = .ok (.bipush 8, 2) := by decide +kernel
theorem dX7_fits_66 : decode cX7_fits 66 = .ok (.bipush 11, 2) := by decide +kernel
theorem dX7_fits_68 : decode cX7_fits 68 = .ok (.invokevirtual 128, 3) := by decide +kernel
theorem dX7_fits_71 : decode cX7_fits 71 = .ok (.iload 5, 2) := by decide +kernel
theorem dX7_fits_73 : decode cX7_fits 73 = .ok (.if_icmp .ne 7, 3) := by decide +kernel
theorem dX7_fits_76 : decode cX7_fits 76 = .ok (.iconst 1, 1) := by decide +kernel
theorem dX7_fits_77 : decode cX7_fits 77 = .ok (.goto 4, 3) := by decide +kernel
theorem dX7_fits_80 : decode cX7_fits 80 = .ok (.iconst 0, 1) := by decide +kernel
theorem dX7_fits_81 : decode cX7_fits 81 = .ok (.ireturn, 1) := by decide +kernel
theorem dX7_keep_0 : decode cX7_keep 0 = .ok (.aload_n 0, 1) := by decide +kernel
theorem dX7_keep_1 : decode cX7_keep 1 = .ok (.getfield 74, 3) := by decide +kernel
theorem dX7_keep_4 : decode cX7_keep 4 = .ok (.iload_n 1, 1) := by decide +kernel
theorem dX7_keep_5 : decode cX7_keep 5 = .ok (.aload_n 0, 1) := by decide +kernel
theorem dX7_keep_6 : decode cX7_keep 6 = .ok (.getfield 53, 3) := by decide +kernel
theorem dX7_keep_9 : decode cX7_keep 9 = .ok (.iload_n 1, 1) := by decide +kernel
theorem dX7_keep_10 : decode cX7_keep 10 = .ok (.iaload, 1) := by decide +kernel
theorem dX7_keep_11 : decode cX7_keep 11 = .ok (.ifCond .ne 7, 3) := by decide +kernel
theorem dX7_keep_14 : decode cX7_keep 14 = .ok (.iload_n 2, 1) := by decide +kernel
theorem dX7_keep_15 : decode cX7_keep 15 = .ok (.goto 9, 3) := by decide +kernel
theorem dX7_keep_18 : decode cX7_keep 18 = .ok (.aload_n 0, 1) := by decide +kernel
theorem dX7_keep_19 : decode cX7_keep 19 = .ok (.getfield 71, 3) := by decide +kernel
theorem dX7_keep_22 : decode cX7_keep 22 = .ok (.iload_n 1, 1) := by decide +kernel
theorem dX7_keep_23 : decode cX7_keep 23 = .ok (.iaload, 1) := by decide +kernel
theorem dX7_keep_24 : decode cX7_keep 24 = .ok (.iastore, 1) := by decide +kernel
theorem dX7_keep_25 : decode cX7_keep 25 = .ok (.aload_n 0, 1) := by decide +kernel
theorem dX7_keep_26 : decode cX7_keep 26 = .ok (.getfield 71, 3) := by decide +kernel
theorem dX7_keep_29 : decode cX7_keep 29 = .ok (.iload_n 1, 1) := by decide +kernel
theorem dX7_keep_30 : decode cX7_keep 30 = .ok (.iload_n 2, 1) := by decide +kernel
theorem dX7_keep_31 : decode cX7_keep 31 = .ok (.iastore, 1) := by decide +kernel
theorem dX7_keep_32 : decode cX7_keep 32 = .ok (.aload_n 0, 1) := by decide +kernel
theorem dX7_keep_33 : decode cX7_keep 33 = .ok (.getfield 77, 3) := by decide +kernel
theorem dX7_keep_36 : decode cX7_keep 36 = .ok (.iload_n 1, 1) := by decide +kernel
theorem dX7_keep_37 : decode cX7_keep 37 = .ok (.iconst 0, 1) := by decide +kernel
theorem dX7_keep_38 : decode cX7_keep 38 = .ok (.iastore, 1) := by decide +kernel
theorem dX7_keep_39 : decode cX7_keep 39 = .ok (.aload_n 0, 1) := by decide +kernel
theorem dX7_keep_40 : decode cX7_keep 40 = .ok (.getfield 83, 3) := by decide +kernel
theorem dX7_keep_43 : decode cX7_keep 43 = .ok (.bipush 6, 2) := by decide +kernel
theorem dX7_keep_45 : decode cX7_keep 45 = .ok (.dup2, 1) := by decide +kernel
theorem dX7_keep_46 : decode cX7_keep 46 = .ok (.iaload, 1) := by decide +kernel
theorem dX7_keep_47 : decode cX7_keep 47 = .ok (.iconst 1, 1) := by decide +kernel
theorem dX7_keep_48 : decode cX7_keep 48 = .ok (.iadd, 1) := by decide +kernel
theorem dX7_keep_49 : decode cX7_keep 49 = .ok (.iastore, 1) := by decide +kernel
theorem dX7_keep_50 : decode cX7_keep 50 = .ok (.iconst 0, 1) := by decide +kernel
theorem dX7_keep_51 : decode cX7_keep 51 = .ok (.istore_n 3, 1) := by decide +kernel
theorem dX7_keep_52 : decode cX7_keep 52 = .ok (.iload_n 3, 1) := by decide +kernel
theorem dX7_keep_53 : decode cX7_keep 53 = .ok (.bipush 11, 2) := by decide +kernel
theorem dX7_keep_55 : decode cX7_keep 55 = .ok (.if_icmp .ge 21, 3) := by decide +kernel
theorem dX7_keep_58 : decode cX7_keep 58 = .ok (.aload_n 0, 1) := by decide +kernel
theorem dX7_keep_59 : decode cX7_keep 59 = .ok (.getfield 80, 3) := by decide +kernel
theorem dX7_keep_62 : decode cX7_keep 62 = .ok (.iload_n 3, 1) := by decide +kernel
theorem dX7_keep_63 : decode cX7_keep 63 = .ok (.aload_n 0, 1) := by decide +kernel
theorem dX7_keep_64 : decode cX7_keep 64 = .ok (.getfield 86, 3) := by decide +kernel
theorem dX7_keep_67 : decode cX7_keep 67 = .ok (.iload_n 3, 1) := by decide +kernel
theorem dX7_keep_68 : decode cX7_keep 68 = .ok (.iaload, 1) := by decide +kernel
theorem dX7_keep_69 : decode cX7_keep 69 = .ok (.iastore, 1) := by decide +kernel
theorem dX7_keep_70 : decode cX7_keep 70 = .ok (.iinc 3 1, 3) := by decide +kernel
theorem dX7_keep_73 : decode cX7_keep 73 = .ok (.goto (-21), 3) := by decide +kernel
theorem dX7_keep_76 : decode cX7_keep 76 = .ok (.return_, 1) := by decide +kernel
theorem dX7_fail_0 : decode cX7_fail 0 = .ok (.aload_n 0, 1) := by decide +kernel
theorem dX7_fail_1 : decode cX7_fail 1 = .ok (.getfield 83, 3) := by decide +kernel
theorem dX7_fail_4 : decode cX7_fail 4 = .ok (.bipush 10, 2) := by decide +kernel
theorem dX7_fail_6 : decode cX7_fail 6 = .ok (.dup2, 1) := by decide +kernel
theorem dX7_fail_7 : decode cX7_fail 7 = .ok (.iaload, 1) := by decide +kernel
theorem dX7_fail_8 : decode cX7_fail 8 = .ok (.iconst 1, 1) := by decide +kernel
theorem dX7_fail_9 : decode cX7_fail 9 = .ok (.iadd, 1) := by decide +kernel
theorem dX7_fail_10 : decode cX7_fail 10 = .ok (.iastore, 1) := by decide +kernel
theorem dX7_fail_11 : decode cX7_fail 11 = .ok (.aload_n 0, 1) := by decide +kernel
theorem dX7_fail_12 : decode cX7_fail 12 = .ok (.getfield 77, 3) := by decide +kernel
theorem dX7_fail_15 : decode cX7_fail 15 = .ok (.iload_n 1, 1) := by decide +kernel
theorem dX7_fail_16 : decode cX7_fail 16 = .ok (.dup2, 1) := by decide +kernel
theorem dX7_fail_17 : decode cX7_fail 17 = .ok (.iaload, 1) := by decide +kernel
theorem dX7_fail_18 : decode cX7_fail 18 = .ok (.iconst 1, 1) := by decide +kernel
theorem dX7_fail_19 : decode cX7_fail 19 = .ok (.iadd, 1) := by decide +kernel
theorem dX7_fail_20 : decode cX7_fail 20 = .ok (.iastore, 1) := by decide +kernel
theorem dX7_fail_21 : decode cX7_fail 21 = .ok (.aload_n 0, 1) := by decide +kernel
theorem dX7_fail_22 : decode cX7_fail 22 = .ok (.getfield 77, 3) := by decide +kernel
theorem dX7_fail_25 : decode cX7_fail 25 = .ok (.iload_n 1, 1) := by decide +kernel
theorem dX7_fail_26 : decode cX7_fail 26 = .ok (.iaload, 1) := by decide +kernel
theorem dX7_fail_27 : decode cX7_fail 27 = .ok (.iconst 3, 1) := by decide +kernel
theorem dX7_fail_28 : decode cX7_fail 28 = .ok (.if_icmp .ne 37, 3) := by decide +kernel
theorem dX7_fail_31 : decode cX7_fail 31 = .ok (.aload_n 0, 1) := by decide +kernel
theorem dX7_fail_32 : decode cX7_fail 32 = .ok (.getfield 77, 3) := by decide +kernel
theorem dX7_fail_35 : decode cX7_fail 35 = .ok (.iload_n 1, 1) := by decide +kernel
theorem dX7_fail_36 : decode cX7_fail 36 = .ok (.iconst 0, 1) := by decide +kernel
theorem dX7_fail_37 : decode cX7_fail 37 = .ok (.iastore, 1) := by decide +kernel
theorem dX7_fail_38 : decode cX7_fail 38 = .ok (.aload_n 0, 1) := by decide +kernel
theorem dX7_fail_39 : decode cX7_fail 39 = .ok (.getfield 53, 3) := by decide +kernel
theorem dX7_fail_42 : decode cX7_fail 42 = .ok (.iload_n 1, 1) := by decide +kernel
theorem dX7_fail_43 : decode cX7_fail 43 = .ok (.aload_n 0, 1) := by decide +kernel
theorem dX7_fail_44 : decode cX7_fail 44 = .ok (.getfield 53, 3) := by decide +kernel
theorem dX7_fail_47 : decode cX7_fail 47 = .ok (.iload_n 1, 1) := by decide +kernel
theorem dX7_fail_48 : decode cX7_fail 48 = .ok (.iaload, 1) := by decide +kernel
theorem dX7_fail_49 : decode cX7_fail 49 = .ok (.ifCond .le 14, 3) := by decide +kernel
theorem dX7_fail_52 : decode cX7_fail 52 = .ok (.aload_n 0, 1) := by decide +kernel
theorem dX7_fail_53 : decode cX7_fail 53 = .ok (.getfield 53, 3) := by decide +kernel
theorem dX7_fail_56 : decode cX7_fail 56 = .ok (.iload_n 1, 1) := by decide +kernel
theorem dX7_fail_57 : decode cX7_fail 57 = .ok (.iaload, 1) := by decide +kernel
theorem dX7_fail_58 : decode cX7_fail 58 = .ok (.iconst 1, 1) := by decide +kernel
theorem dX7_fail_59 : decode cX7_fail 59 = .ok (.isub, 1) := by decide +kernel
theorem dX7_fail_60 : decode cX7_fail 60 = .ok (.goto 4, 3) := by decide +kernel
theorem dX7_fail_63 : decode cX7_fail 63 = .ok (.iconst 0, 1) := by decide +kernel
theorem dX7_fail_64 : decode cX7_fail 64 = .ok (.iastore, 1) := by decide +kernel
theorem dX7_fail_65 : decode cX7_fail 65 = .ok (.return_, 1) := by decide +kernel
theorem dX7_comeSmall_0 : decode cX7_comeSmall 0 = .ok (.iload_n 2, 1) := by decide +kernel
theorem dX7_comeSmall_1 : decode cX7_comeSmall 1 = .ok (.ifCond .ne 15, 3) := by decide +kernel
theorem dX7_comeSmall_4 : decode cX7_comeSmall 4 = .ok (.aload_n 0, 1) := by decide +kernel
theorem dX7_comeSmall_5 : decode cX7_comeSmall 5 = .ok (.getfield 89, 3) := by decide +kernel
theorem dX7_comeSmall_8 : decode cX7_comeSmall 8 = .ok (.iload_n 3, 1) := by decide +kernel
theorem dX7_comeSmall_9 : decode cX7_comeSmall 9 = .ok (.iaload, 1) := by decide +kernel
theorem dX7_comeSmall_10 : decode cX7_comeSmall 10 = .ok (.bipush 8, 2) := by decide +kernel
theorem dX7_comeSmall_12 : decode cX7_comeSmall 12 = .ok (.idiv, 1) := by decide +kernel
theorem dX7_comeSmall_13 : decode cX7_comeSmall 13 = .ok (.goto 44, 3) := by decide +kernel
theorem dX7_comeSmall_16 : decode cX7_comeSmall 16 = .ok (.iload_n 2, 1) := by decide +kernel
theorem dX7_comeSmall_17 : decode cX7_comeSmall 17 = .ok (.iconst 1, 1) := by decide +kernel
theorem dX7_comeSmall_18 : decode cX7_comeSmall 18 = .ok (.if_icmp .ne 15, 3) := by decide +kernel
theorem dX7_comeSmall_21 : decode cX7_comeSmall 21 = .ok (.aload_n 0, 1) := by decide +kernel
theorem dX7_comeSmall_22 : decode cX7_comeSmall 22 = .ok (.getfield 89, 3) := by decide +kernel
theorem dX7_comeSmall_25 : decode cX7_comeSmall 25 = .ok (.iload_n 3, 1) := by decide +kernel
theorem dX7_comeSmall_26 : decode cX7_comeSmall 26 = .ok (.iaload, 1) := by decide +kernel
theorem dX7_comeSmall_27 : decode cX7_comeSmall 27 = .ok (.bipush 64, 2) := by decide +kernel
theorem dX7_comeSmall_29 : decode cX7_comeSmall 29 = .ok (.irem, 1) := by decide +kernel
theorem dX7_comeSmall_30 : decode cX7_comeSmall 30 = .ok (.goto 27, 3) := by decide +kernel
theorem dX7_comeSmall_33 : decode cX7_comeSmall 33 = .ok (.aload_n 0, 1) := by decide +kernel
theorem dX7_comeSmall_34 : decode cX7_comeSmall 34 = .ok (.getfield 89, 3) := by decide +kernel
theorem dX7_comeSmall_37 : decode cX7_comeSmall 37 = .ok (.iload_n 3, 1) := by decide +kernel
theorem dX7_comeSmall_38 : decode cX7_comeSmall 38 = .ok (.iaload, 1) := by decide +kernel
theorem dX7_comeSmall_39 : decode cX7_comeSmall 39 = .ok (.bipush 32, 2) := by decide +kernel
theorem dX7_comeSmall_41 : decode cX7_comeSmall 41 = .ok (.irem, 1) := by decide +kernel
theorem dX7_comeSmall_42 : decode cX7_comeSmall 42 = .ok (.bipush 32, 2) := by decide +kernel
theorem dX7_comeSmall_44 : decode cX7_comeSmall 44 = .ok (.imul, 1) := by decide +kernel
theorem dX7_comeSmall_45 : decode cX7_comeSmall 45 = .ok (.aload_n 0, 1) := by decide +kernel
theorem dX7_comeSmall_46 : decode cX7_comeSmall 46 = .ok (.getfield 89, 3) := by decide +kernel
theorem dX7_comeSmall_49 : decode cX7_comeSmall 49 = .ok (.iload_n 3, 1) := by decide +kernel
theorem dX7_comeSmall_50 : decode cX7_comeSmall 50 = .ok (.iconst 1, 1) := by decide +kernel
theorem dX7_comeSmall_51 : decode cX7_comeSmall 51 = .ok (.iadd, 1) := by decide +kernel
theorem dX7_comeSmall_52 : decode cX7_comeSmall 52 = .ok (.iaload, 1) := by decide +kernel
theorem dX7_comeSmall_53 : decode cX7_comeSmall 53 = .ok (.bipush 8, 2) := by decide +kernel
theorem dX7_comeSmall_55 : decode cX7_comeSmall 55 = .ok (.idiv, 1) := by decide +kernel
theorem dX7_comeSmall_56 : decode cX7_comeSmall 56 = .ok (.iadd, 1) := by decide +kernel
theorem dX7_comeSmall_57 : decode cX7_comeSmall 57 = .ok (.istore 4, 2) := by decide +kernel
theorem dX7_comeSmall_59 : decode cX7_comeSmall 59 = .ok (.iload_n 2, 1) := by decide +kernel
theorem dX7_comeSmall_60 : decode cX7_comeSmall 60 = .ok (.iconst 1, 1) := by decide +kernel
theorem dX7_comeSmall_61 : decode cX7_comeSmall 61 = .ok (.if_icmp .ne 24, 3) := by decide +kernel
theorem dX7_comeSmall_64 : decode cX7_comeSmall 64 = .ok (.aload_n 0, 1) := by decide +kernel
theorem dX7_comeSmall_65 : decode cX7_comeSmall 65 = .ok (.getfield 89, 3) := by decide +kernel
theorem dX7_comeSmall_68 : decode cX7_comeSmall 68 = .ok (.iload_n 3, 1) := by decide +kernel
theorem dX7_comeSmall_69 : decode cX7_comeSmall 69 = .ok (.iconst 1, 1) := by decide +kernel
theorem dX7_comeSmall_70 : decode cX7_comeSmall 70 = .ok (.iadd, 1) := by decide +kernel
theorem dX7_comeSmall_71 : decode cX7_comeSmall 71 = .ok (.iaload, 1) := by decide +kernel
theorem dX7_comeSmall_72 : decode cX7_comeSmall 72 = .ok (.bipush 127, 2) := by decide +kernel
theorem dX7_comeSmall_74 : decode cX7_comeSmall 74 = .ok (.if_icmp .le 7, 3) := by decide +kernel
theorem dX7_comeSmall_77 : decode cX7_comeSmall 77 = .ok (.iconst 1, 1) := by decide +kernel
theorem dX7_comeSmall_78 : decode cX7_comeSmall 78 = .ok (.goto 30, 3) := by decide +kernel
theorem dX7_comeSmall_81 : decode cX7_comeSmall 81 = .ok (.iconst 0, 1) := by decide +kernel
theorem dX7_comeSmall_82 : decode cX7_comeSmall 82 = .ok (.goto 26, 3) := by decide +kernel
theorem dX7_comeSmall_85 : decode cX7_comeSmall 85 = .ok (.iload_n 2, 1) := by decide +kernel
theorem dX7_comeSmall_86 : decode cX7_comeSmall 86 = .ok (.iconst 2, 1) := by decide +kernel
theorem dX7_comeSmall_87 : decode cX7_comeSmall 87 = .ok (.if_icmp .ne 20, 3) := by decide +kernel
theorem dX7_comeSmall_90 : decode cX7_comeSmall 90 = .ok (.aload_n 0, 1) := by decide +kernel
theorem dX7_comeSmall_91 : decode cX7_comeSmall 91 = .ok (.getfield 89, 3) := by decide +kernel
theorem dX7_comeSmall_94 : decode cX7_comeSmall 94 = .ok (.iload_n 3, 1) := by decide +kernel
theorem dX7_comeSmall_95 : decode cX7_comeSmall 95 = .ok (.iconst 1, 1) := by decide +kernel
theorem dX7_comeSmall_96 : decode cX7_comeSmall 96 = .ok (.iadd, 1) := by decide +kernel
theorem dX7_comeSmall_97 : decode cX7_comeSmall 97 = .ok (.iaload, 1) := by decide +kernel
theorem dX7_comeSmall_98 : decode cX7_comeSmall 98 = .ok (.iconst 4, 1) := by decide +kernel
theorem dX7_comeSmall_99 : decode cX7_comeSmall 99 = .ok (.iand, 1) := by decide +kernel
theorem dX7_comeSmall_100 : decode cX7_comeSmall 100 = .ok (.ifCond .eq 7, 3) := by decide +kernel
theorem dX7_comeSmall_103 : decode cX7_comeSmall 103 = .ok (.iconst 1, 1) := by decide +kernel
theorem dX7_comeSmall_104 : decode cX7_comeSmall 104 = .ok (.goto 4, 3) := by decide +kernel
theorem dX7_comeSmall_107 : decode cX7_comeSmall 107 = .ok (.iconst 0, 1) := by decide +kernel
theorem dX7_comeSmall_108 : decode cX7_comeSmall 108 = .ok (.istore 5, 2) := by decide +kernel
theorem dX7_comeSmall_110 : decode cX7_comeSmall 110 = .ok (.iload_n 2, 1) := by decide +kernel
theorem dX7_comeSmall_111 : decode cX7_comeSmall 111 = .ok (.ifCond .ne 15, 3) := by decide +kernel
theorem dX7_comeSmall_114 : decode cX7_comeSmall 114 = .ok (.aload_n 0, 1) := by decide +kernel
theorem dX7_comeSmall_115 : decode cX7_comeSmall 115 = .ok (.getfield 89, 3) := by decide +kernel
theorem dX7_comeSmall_118 : decode cX7_comeSmall 118 = .ok (.iload_n 3, 1) := by decide +kernel
theorem dX7_comeSmall_119 : decode cX7_comeSmall 119 = .ok (.iaload, 1) := by decide +kernel
theorem dX7_comeSmall_120 : decode cX7_comeSmall 120 = .ok (.bipush 8, 2) := by decide +kernel
theorem dX7_comeSmall_122 : decode cX7_comeSmall 122 = .ok (.irem, 1) := by decide +kernel
theorem dX7_comeSmall_123 : decode cX7_comeSmall 123 = .ok (.goto 31, 3) := by decide +kernel
theorem dX7_comeSmall_126 : decode cX7_comeSmall 126 = .ok (.iload_n 2, 1) := by decide +kernel
theorem dX7_comeSmall_127 : decode cX7_comeSmall 127 = .ok (.iconst 1, 1) := by decide +kernel
theorem dX7_comeSmall_128 : decode cX7_comeSmall 128 = .ok (.if_icmp .ne 18, 3) := by decide +kernel
theorem dX7_comeSmall_131 : decode cX7_comeSmall 131 = .ok (.aload_n 0, 1) := by decide +kernel
theorem dX7_comeSmall_132 : decode cX7_comeSmall 132 = .ok (.getfield 89, 3) := by decide +kernel
theorem dX7_comeSmall_135 : decode cX7_comeSmall 135 = .ok (.iload_n 3, 1) := by decide +kernel
theorem dX7_comeSmall_136 : decode cX7_comeSmall 136 = .ok (.iconst 1, 1) := by decide +kernel
theorem dX7_comeSmall_137 : decode cX7_comeSmall 137 = .ok (.iadd, 1) := by decide +kernel
theorem dX7_comeSmall_138 : decode cX7_comeSmall 138 = .ok (.iaload, 1) := by decide +kernel
theorem dX7_comeSmall_139 : decode cX7_comeSmall 139 = .ok (.sipush 128, 3) := by decide +kernel
theorem dX7_comeSmall_142 : decode cX7_comeSmall 142 = .ok (.irem, 1) := by decide +kernel
theorem dX7_comeSmall_143 : decode cX7_comeSmall 143 = .ok (.goto 11, 3) := by decide +kernel
theorem dX7_comeSmall_146 : decode cX7_comeSmall 146 = .ok (.aload_n 0, 1) := by decide +kernel
theorem dX7_comeSmall_147 : decode cX7_comeSmall 147 = .ok (.getfield 89, 3) := by decide +kernel
theorem dX7_comeSmall_150 : decode cX7_comeSmall 150 = .ok (.iload_n 3, 1) := by decide +kernel
theorem dX7_comeSmall_151 : decode cX7_comeSmall 151 = .ok (.iconst 2, 1) := by decide +kernel
theorem dX7_comeSmall_152 : decode cX7_comeSmall 152 = .ok (.iadd, 1) := by decide +kernel
theorem dX7_comeSmall_153 : decode cX7_comeSmall 153 = .ok (.iaload, 1) := by decide +kernel
theorem dX7_comeSmall_154 : decode cX7_comeSmall 154 = .ok (.istore 6, 2) := by decide +kernel
theorem dX7_comeSmall_156 : decode cX7_comeSmall 156 = .ok (.aload_n 0, 1) := by decide +kernel
theorem dX7_comeSmall_157 : decode cX7_comeSmall 157 = .ok (.aload_n 0, 1) := by decide +kernel
theorem dX7_comeSmall_158 : decode cX7_comeSmall 158 = .ok (.getfield 71, 3) := by decide +kernel
theorem dX7_comeSmall_161 : decode cX7_comeSmall 161 = .ok (.iload_n 1, 1) := by decide +kernel
theorem dX7_comeSmall_162 : decode cX7_comeSmall 162 = .ok (.iaload, 1) := by decide +kernel
theorem dX7_comeSmall_163 : decode cX7_comeSmall 163 = .ok (.iload_n 2, 1) := by decide +kernel
theorem dX7_comeSmall_164 : decode cX7_comeSmall 164 = .ok (.iload 4, 2) := by decide +kernel
theorem dX7_comeSmall_166 : decode cX7_comeSmall 166 = .ok (.invokevirtual 170, 3) := by decide +kernel
theorem dX7_comeSmall_169 : decode cX7_comeSmall 169 = .ok (.istore 7, 2) := by decide +kernel
theorem dX7_comeSmall_171 : decode cX7_comeSmall 171 = .ok (.iconst 1, 1) := by decide +kernel
theorem dX7_comeSmall_172 : decode cX7_comeSmall 172 = .ok (.istore 8, 2) := by decide +kernel
theorem dX7_comeSmall_174 : decode cX7_comeSmall 174 = .ok (.aload_n 0, 1) := by decide +kernel
theorem dX7_comeSmall_175 : decode cX7_comeSmall 175 = .ok (.iload_n 1, 1) := by decide +kernel
theorem dX7_comeSmall_176 : decode cX7_comeSmall 176 = .ok (.iload_n 2, 1) := by decide +kernel
theorem dX7_comeSmall_177 : decode cX7_comeSmall 177 = .ok (.iload 7, 2) := by decide +kernel
theorem dX7_comeSmall_179 : decode cX7_comeSmall 179 = .ok (.iload 5, 2) := by decide +kernel
theorem dX7_comeSmall_181 : decode cX7_comeSmall 181 = .ok (.iload 6, 2) := by decide +kernel
theorem dX7_comeSmall_183 : decode cX7_comeSmall 183 = .ok (.invokevirtual 174, 3) := by decide +kernel
theorem dX7_comeSmall_186 : decode cX7_comeSmall 186 = .ok (.istore 9, 2) := by decide +kernel
theorem dX7_comeSmall_188 : decode cX7_comeSmall 188 = .ok (.iload 9, 2) := by decide +kernel
theorem dX7_comeSmall_190 : decode cX7_comeSmall 190 = .ok (.ifCond .ne 35, 3) := by decide +kernel
theorem dX7_comeSmall_193 : decode cX7_comeSmall 193 = .ok (.iconst 2, 1) := by decide +kernel
theorem dX7_comeSmall_194 : decode cX7_comeSmall 194 = .ok (.istore 8, 2) := by decide +kernel
theorem dX7_comeSmall_196 : decode cX7_comeSmall 196 = .ok (.iload 7, 2) := by decide +kernel
theorem dX7_comeSmall_198 : decode cX7_comeSmall 198 = .ok (.iconst 1, 1) := by decide +kernel
theorem dX7_comeSmall_199 : decode cX7_comeSmall 199 = .ok (.aload_n 0, 1) := by decide +kernel
theorem dX7_comeSmall_200 : decode cX7_comeSmall 200 = .ok (.iload_n 2, 1) := by decide +kernel
theorem dX7_comeSmall_201 : decode cX7_comeSmall 201 = .ok (.invokevirtual 118, 3) := by decide +kernel
theorem dX7_comeSmall_204 : decode cX7_comeSmall 204 = .ok (.ishl, 1) := by decide +kernel
theorem dX7_comeSmall_205 : decode cX7_comeSmall 205 = .ok (.iadd, 1) := by decide +kernel
theorem dX7_comeSmall_206 : decode cX7_comeSmall 206 = .ok (.ldc 96, 2) := by decide +kernel
theorem dX7_comeSmall_208 : decode cX7_comeSmall 208 = .ok (.iand, 1) := by decide +kernel
theorem dX7_comeSmall_209 : decode cX7_comeSmall 209 = .ok (.istore 7, 2) := by decide +kernel
theorem dX7_comeSmall_211 : decode cX7_comeSmall 211 = .ok (.aload_n 0, 1) := by decide +kernel
theorem dX7_comeSmall_212 : decode cX7_comeSmall 212 = .ok (.iload_n 1, 1) := by decide +kernel
theorem dX7_comeSmall_213 : decode cX7_comeSmall 213 = .ok (.iload_n 2, 1) := by decide +kernel
theorem dX7_comeSmall_214 : decode cX7_comeSmall 214 = .ok (.iload 7, 2) := by decide +kernel
theorem dX7_comeSmall_216 : decode cX7_comeSmall 216 = .ok (.iload 5, 2) := by decide +kernel
theorem dX7_comeSmall_218 : decode cX7_comeSmall 218 = .ok (.iload 6, 2) := by decide +kernel
theorem dX7_comeSmall_220 : decode cX7_comeSmall 220 = .ok (.invokevirtual 174, 3) := by decide +kernel
theorem dX7_comeSmall_223 : decode cX7_comeSmall 223 = .ok (.istore 9, 2) := by decide +kernel
theorem dX7_comeSmall_225 : decode cX7_comeSmall 225 = .ok (.iload 9, 2) := by decide +kernel
theorem dX7_comeSmall_227 : decode cX7_comeSmall 227 = .ok (.ifCond .ne 32, 3) := by decide +kernel
theorem dX7_comeSmall_230 : decode cX7_comeSmall 230 = .ok (.aload_n 0, 1) := by decide +kernel
theorem dX7_comeSmall_231 : decode cX7_comeSmall 231 = .ok (.aload_n 0, 1) := by decide +kernel
theorem dX7_comeSmall_232 : decode cX7_comeSmall 232 = .ok (.getfield 74, 3) := by decide +kernel
theorem dX7_comeSmall_235 : decode cX7_comeSmall 235 = .ok (.iload_n 1, 1) := by decide +kernel
theorem dX7_comeSmall_236 : decode cX7_comeSmall 236 = .ok (.iaload, 1) := by decide +kernel
theorem dX7_comeSmall_237 : decode cX7_comeSmall 237 = .ok (.iload_n 2, 1) := by decide +kernel
theorem dX7_comeSmall_238 : decode cX7_comeSmall 238 = .ok (.iload 4, 2) := by decide +kernel
theorem dX7_comeSmall_240 : decode cX7_comeSmall 240 = .ok (.invokevirtual 170, 3) := by decide +kernel
theorem dX7_comeSmall_243 : decode cX7_comeSmall 243 = .ok (.istore 7, 2) := by decide +kernel
theorem dX7_comeSmall_245 : decode cX7_comeSmall 245 = .ok (.aload_n 0, 1) := by decide +kernel
theorem dX7_comeSmall_246 : decode cX7_comeSmall 246 = .ok (.iload_n 1, 1) := by decide +kernel
theorem dX7_comeSmall_247 : decode cX7_comeSmall 247 = .ok (.iload_n 2, 1) := by decide +kernel
theorem dX7_comeSmall_248 : decode cX7_comeSmall 248 = .ok (.iload 7, 2) := by decide +kernel
theorem dX7_comeSmall_250 : decode cX7_comeSmall 250 = .ok (.iload 5, 2) := by decide +kernel
theorem dX7_comeSmall_252 : decode cX7_comeSmall 252 = .ok (.iload 6, 2) := by decide +kernel
theorem dX7_comeSmall_254 : decode cX7_comeSmall 254 = .ok (.invokevirtual 174, 3) := by decide +kernel
theorem dX7_comeSmall_257 : decode cX7_comeSmall 257 = .ok (.istore 9, 2) := by decide +kernel
theorem dX7_comeSmall_259 : decode cX7_comeSmall 259 = .ok (.iload 9, 2) := by decide +kernel
theorem dX7_comeSmall_261 : decode cX7_comeSmall 261 = .ok (.ifCond .eq 31, 3) := by decide +kernel
theorem dX7_comeSmall_264 : decode cX7_comeSmall 264 = .ok (.aload_n 0, 1) := by decide +kernel
theorem dX7_comeSmall_265 : decode cX7_comeSmall 265 = .ok (.iload_n 1, 1) := by decide +kernel
theorem dX7_comeSmall_266 : decode cX7_comeSmall 266 = .ok (.iload 7, 2) := by decide +kernel
theorem dX7_comeSmall_268 : decode cX7_comeSmall 268 = .ok (.invokevirtual 178, 3) := by decide +kernel
theorem dX7_comeSmall_271 : decode cX7_comeSmall 271 = .ok (.aload_n 0, 1) := by decide +kernel
theorem dX7_comeSmall_272 : decode cX7_comeSmall 272 = .ok (.getfield 83, 3) := by decide +kernel
theorem dX7_comeSmall_275 : decode cX7_comeSmall 275 = .ok (.bipush 7, 2) := by decide +kernel
theorem dX7_comeSmall_277 : decode cX7_comeSmall 277 = .ok (.dup2, 1) := by decide +kernel
theorem dX7_comeSmall_278 : decode cX7_comeSmall 278 = .ok (.iaload, 1) := by decide +kernel
theorem dX7_comeSmall_279 : decode cX7_comeSmall 279 = .ok (.iload 8, 2) := by decide +kernel
theorem dX7_comeSmall_281 : decode cX7_comeSmall 281 = .ok (.iconst 2, 1) := by decide +kernel
theorem dX7_comeSmall_282 : decode cX7_comeSmall 282 = .ok (.if_icmp .ne 7, 3) := by decide +kernel
theorem dX7_comeSmall_285 : decode cX7_comeSmall 285 = .ok (.iconst 1, 1) := by decide +kernel
theorem dX7_comeSmall_286 : decode cX7_comeSmall 286 = .ok (.goto 4, 3) := by decide +kernel
theorem dX7_comeSmall_289 : decode cX7_comeSmall 289 = .ok (.iconst 0, 1) := by decide +kernel
theorem dX7_comeSmall_290 : decode cX7_comeSmall 290 = .ok (.iadd, 1) := by decide +kernel
theorem dX7_comeSmall_291 : decode cX7_comeSmall 291 = .ok (.iastore, 1) := by decide +kernel
theorem dX7_comeSmall_292 : decode cX7_comeSmall 292 = .ok (.iload 9, 2) := by decide +kernel
theorem dX7_comeSmall_294 : decode cX7_comeSmall 294 = .ok (.ifCond .eq 8, 3) := by decide +kernel
theorem dX7_comeSmall_297 : decode cX7_comeSmall 297 = .ok (.iload 8, 2) := by decide +kernel
theorem dX7_comeSmall_299 : decode cX7_comeSmall 299 = .ok (.goto 4, 3) := by decide +kernel
theorem dX7_comeSmall_302 : decode cX7_comeSmall 302 = .ok (.iconst 0, 1) := by decide +kernel
theorem dX7_comeSmall_303 : decode cX7_comeSmall 303 = .ok (.ireturn, 1) := by decide +kernel
theorem dX7_comeWhole_0 : decode cX7_comeWhole 0 = .ok (.iload_n 2, 1) := by decide +kernel
theorem dX7_comeWhole_1 : decode cX7_comeWhole 1 = .ok (.iconst 4, 1) := by decide +kernel
theorem dX7_comeWhole_2 : decode cX7_comeWhole 2 = .ok (.if_icmp .ne 13, 3) := by decide +kernel
theorem dX7_comeWhole_5 : decode cX7_comeWhole 5 = .ok (.aload_n 0, 1) := by decide +kernel
theorem dX7_comeWhole_6 : decode cX7_comeWhole 6 = .ok (.iload_n 3, 1) := by decide +kernel
theorem dX7_comeWhole_7 : decode cX7_comeWhole 7 = .ok (.iconst 1, 1) := by decide +kernel
theorem dX7_comeWhole_8 : decode cX7_comeWhole 8 = .ok (.iadd, 1) := by decide +kernel
theorem dX7_comeWhole_9 : decode cX7_comeWhole 9 = .ok (.invokevirtual 181, 3) := by decide +kernel
theorem dX7_comeWhole_12 : decode cX7_comeWhole 12 = .ok (.goto 9, 3) := by decide +kernel
theorem dX7_comeWhole_15 : decode cX7_comeWhole 15 = .ok (.aload_n 0, 1) := by decide +kernel
theorem dX7_comeWhole_16 : decode cX7_comeWhole 16 = .ok (.getfield 56, 3) := by decide +kernel
theorem dX7_comeWhole_19 : decode cX7_comeWhole 19 = .ok (.iload_n 1, 1) := by decide +kernel
theorem dX7_comeWhole_20 : decode cX7_comeWhole 20 = .ok (.iaload, 1) := by decide +kernel
theorem dX7_comeWhole_21 : decode cX7_comeWhole 21 = .ok (.istore 4, 2) := by decide +kernel
theorem dX7_comeWhole_23 : decode cX7_comeWhole 23 = .ok (.iload_n 2, 1) := by decide +kernel
theorem dX7_comeWhole_24 : decode cX7_comeWhole 24 = .ok (.iconst 4, 1) := by decide +kernel
theorem dX7_comeWhole_25 : decode cX7_comeWhole 25 = .ok (.if_icmp .ne 14, 3) := by decide +kernel
theorem dX7_comeWhole_28 : decode cX7_comeWhole 28 = .ok (.aload_n 0, 1) := by decide +kernel
theorem dX7_comeWhole_29 : decode cX7_comeWhole 29 = .ok (.getfield 89, 3) := by decide +kernel
theorem dX7_comeWhole_32 : decode cX7_comeWhole 32 = .ok (.iload_n 3, 1) := by decide +kernel
theorem dX7_comeWhole_33 : decode cX7_comeWhole 33 = .ok (.iconst 3, 1) := by decide +kernel
theorem dX7_comeWhole_34 : decode cX7_comeWhole 34 = .ok (.iadd, 1) := by decide +kernel
theorem dX7_comeWhole_35 : decode cX7_comeWhole 35 = .ok (.iaload, 1) := by decide +kernel
theorem dX7_comeWhole_36 : decode cX7_comeWhole 36 = .ok (.goto 9, 3) := by decide +kernel
theorem dX7_comeWhole_39 : decode cX7_comeWhole 39 = .ok (.aload_n 0, 1) := by decide +kernel
theorem dX7_comeWhole_40 : decode cX7_comeWhole 40 = .ok (.getfield 59, 3) := by decide +kernel
theorem dX7_comeWhole_43 : decode cX7_comeWhole 43 = .ok (.iload_n 1, 1) := by decide +kernel
theorem dX7_comeWhole_44 : decode cX7_comeWhole 44 = .ok (.iaload, 1) := by decide +kernel
theorem dX7_comeWhole_45 : decode cX7_comeWhole 45 = .ok (.istore 5, 2) := by decide +kernel
theorem dX7_comeWhole_47 : decode cX7_comeWhole 47 = .ok (.iload_n 2, 1) := by decide +kernel
theorem dX7_comeWhole_48 : decode cX7_comeWhole 48 = .ok (.iconst 4, 1) := by decide +kernel
theorem dX7_comeWhole_49 : decode cX7_comeWhole 49 = .ok (.if_icmp .ne 13, 3) := by decide +kernel
theorem dX7_comeWhole_52 : decode cX7_comeWhole 52 = .ok (.aload_n 0, 1) := by decide +kernel
theorem dX7_comeWhole_53 : decode cX7_comeWhole 53 = .ok (.iload_n 3, 1) := by decide +kernel
theorem dX7_comeWhole_54 : decode cX7_comeWhole 54 = .ok (.iconst 4, 1) := by decide +kernel
theorem dX7_comeWhole_55 : decode cX7_comeWhole 55 = .ok (.iadd, 1) := by decide +kernel
theorem dX7_comeWhole_56 : decode cX7_comeWhole 56 = .ok (.invokevirtual 181, 3) := by decide +kernel
theorem dX7_comeWhole_59 : decode cX7_comeWhole 59 = .ok (.goto 9, 3) := by decide +kernel
theorem dX7_comeWhole_62 : decode cX7_comeWhole 62 = .ok (.aload_n 0, 1) := by decide +kernel
theorem dX7_comeWhole_63 : decode cX7_comeWhole 63 = .ok (.getfield 62, 3) := by decide +kernel
theorem dX7_comeWhole_66 : decode cX7_comeWhole 66 = .ok (.iload_n 1, 1) := by decide +kernel
theorem dX7_comeWhole_67 : decode cX7_comeWhole 67 = .ok (.iaload, 1) := by decide +kernel
theorem dX7_comeWhole_68 : decode cX7_comeWhole 68 = .ok (.istore 6, 2) := by decide +kernel
theorem dX7_comeWhole_70 : decode cX7_comeWhole 70 = .ok (.iload_n 2, 1) := by decide +kernel
theorem dX7_comeWhole_71 : decode cX7_comeWhole 71 = .ok (.iconst 4, 1) := by decide +kernel
theorem dX7_comeWhole_72 : decode cX7_comeWhole 72 = .ok (.if_icmp .ne 10, 3) := by decide +kernel
theorem dX7_comeWhole_75 : decode cX7_comeWhole 75 = .ok (.iload_n 3, 1) := by decide +kernel
theorem dX7_comeWhole_76 : decode cX7_comeWhole 76 = .ok (.bipush 6, 2) := by decide +kernel
theorem dX7_comeWhole_78 : decode cX7_comeWhole 78 = .ok (.iadd, 1) := by decide +kernel
theorem dX7_comeWhole_79 : decode cX7_comeWhole 79 = .ok (.goto 6, 3) := by decide +kernel
theorem dX7_comeWhole_82 : decode cX7_comeWhole 82 = .ok (.iload_n 3, 1) := by decide +kernel
theorem dX7_comeWhole_83 : decode cX7_comeWhole 83 = .ok (.iconst 1, 1) := by decide +kernel
theorem dX7_comeWhole_84 : decode cX7_comeWhole 84 = .ok (.iadd, 1) := by decide +kernel
theorem dX7_comeWhole_85 : decode cX7_comeWhole 85 = .ok (.istore 7, 2) := by decide +kernel
theorem dX7_comeWhole_87 : decode cX7_comeWhole 87 = .ok (.aload_n 0, 1) := by decide +kernel
theorem dX7_comeWhole_88 : decode cX7_comeWhole 88 = .ok (.iload 7, 2) := by decide +kernel
theorem dX7_comeWhole_90 : decode cX7_comeWhole 90 = .ok (.iconst 1, 1) := by decide +kernel
theorem dX7_comeWhole_91 : decode cX7_comeWhole 91 = .ok (.iadd, 1) := by decide +kernel
theorem dX7_comeWhole_92 : decode cX7_comeWhole 92 = .ok (.invokevirtual 181, 3) := by decide +kernel
theorem dX7_comeWhole_95 : decode cX7_comeWhole 95 = .ok (.istore 8, 2) := by decide +kernel
theorem dX7_comeWhole_97 : decode cX7_comeWhole 97 = .ok (.aload_n 0, 1) := by decide +kernel
theorem dX7_comeWhole_98 : decode cX7_comeWhole 98 = .ok (.iload 7, 2) := by decide +kernel
theorem dX7_comeWhole_100 : decode cX7_comeWhole 100 = .ok (.iconst 3, 1) := by decide +kernel
theorem dX7_comeWhole_101 : decode cX7_comeWhole 101 = .ok (.iadd, 1) := by decide +kernel
theorem dX7_comeWhole_102 : decode cX7_comeWhole 102 = .ok (.invokevirtual 181, 3) := by decide +kernel
theorem dX7_comeWhole_105 : decode cX7_comeWhole 105 = .ok (.bipush 16, 2) := by decide +kernel
theorem dX7_comeWhole_107 : decode cX7_comeWhole 107 = .ok (.ishl, 1) := by decide +kernel
theorem dX7_comeWhole_108 : decode cX7_comeWhole 108 = .ok (.aload_n 0, 1) := by decide +kernel
theorem dX7_comeWhole_109 : decode cX7_comeWhole 109 = .ok (.iload 7, 2) := by decide +kernel
theorem dX7_comeWhole_111 : decode cX7_comeWhole 111 = .ok (.iconst 5, 1) := by decide +kernel
theorem dX7_comeWhole_112 : decode cX7_comeWhole 112 = .ok (.iadd, 1) := by decide +kernel
theorem dX7_comeWhole_113 : decode cX7_comeWhole 113 = .ok (.invokevirtual 181, 3) := by decide +kernel
theorem dX7_comeWhole_116 : decode cX7_comeWhole 116 = .ok (.ior, 1) := by decide +kernel
theorem dX7_comeWhole_117 : decode cX7_comeWhole 117 = .ok (.istore 9, 2) := by decide +kernel
theorem dX7_comeWhole_119 : decode cX7_comeWhole 119 = .ok (.aload_n 0, 1) := by decide +kernel
theorem dX7_comeWhole_120 : decode cX7_comeWhole 120 = .ok (.iload 7, 2) := by decide +kernel
theorem dX7_comeWhole_122 : decode cX7_comeWhole 122 = .ok (.bipush 7, 2) := by decide +kernel
theorem dX7_comeWhole_124 : decode cX7_comeWhole 124 = .ok (.iadd, 1) := by decide +kernel
theorem dX7_comeWhole_125 : decode cX7_comeWhole 125 = .ok (.invokevirtual 181, 3) := by decide +kernel
theorem dX7_comeWhole_128 : decode cX7_comeWhole 128 = .ok (.istore 10, 2) := by decide +kernel
theorem dX7_comeWhole_130 : decode cX7_comeWhole 130 = .ok (.aload_n 0, 1) := by decide +kernel
theorem dX7_comeWhole_131 : decode cX7_comeWhole 131 = .ok (.iload 4, 2) := by decide +kernel
theorem dX7_comeWhole_133 : decode cX7_comeWhole 133 = .ok (.iload 5, 2) := by decide +kernel
theorem dX7_comeWhole_135 : decode cX7_comeWhole 135 = .ok (.aload_n 0, 1) := by decide +kernel
theorem dX7_comeWhole_136 : decode cX7_comeWhole 136 = .ok (.getfield 89, 3) := by decide +kernel
theorem dX7_comeWhole_139 : decode cX7_comeWhole 139 = .ok (.iload 7, 2) := by decide +kernel
theorem dX7_comeWhole_141 : decode cX7_comeWhole 141 = .ok (.iaload, 1) := by decide +kernel
theorem dX7_comeWhole_142 : decode cX7_comeWhole 142 = .ok (.bipush 127, 2) := by decide +kernel
theorem dX7_comeWhole_144 : decode cX7_comeWhole 144 = .ok (.if_icmp .le 7, 3) := by decide +kernel
theorem dX7_comeWhole_147 : decode cX7_comeWhole 147 = .ok (.iconst 1, 1) := by decide +kernel
theorem dX7_comeWhole_148 : decode cX7_comeWhole 148 = .ok (.goto 4, 3) := by decide +kernel
theorem dX7_comeWhole_151 : decode cX7_comeWhole 151 = .ok (.iconst 0, 1) := by decide +kernel
theorem dX7_comeWhole_152 : decode cX7_comeWhole 152 = .ok (.iload 8, 2) := by decide +kernel
theorem dX7_comeWhole_154 : decode cX7_comeWhole 154 = .ok (.iload 9, 2) := by decide +kernel
theorem dX7_comeWhole_156 : decode cX7_comeWhole 156 = .ok (.iload 10, 2) := by decide +kernel
theorem dX7_comeWhole_158 : decode cX7_comeWhole 158 = .ok (.invokevirtual 142, 3) := by decide +kernel
theorem dX7_comeWhole_161 : decode cX7_comeWhole 161 = .ok (.aload_n 0, 1) := by decide +kernel
theorem dX7_comeWhole_162 : decode cX7_comeWhole 162 = .ok (.getfield 86, 3) := by decide +kernel
theorem dX7_comeWhole_165 : decode cX7_comeWhole 165 = .ok (.bipush 11, 2) := by decide +kernel
theorem dX7_comeWhole_167 : decode cX7_comeWhole 167 = .ok (.iload 6, 2) := by decide +kernel
theorem dX7_comeWhole_169 : decode cX7_comeWhole 169 = .ok (.sipush 256, 3) := by decide +kernel
theorem dX7_comeWhole_172 : decode cX7_comeWhole 172 = .ok (.idiv, 1) := by decide +kernel
theorem dX7_comeWhole_173 : decode cX7_comeWhole 173 = .ok (.iastore, 1) := by decide +kernel
theorem dX7_comeWhole_174 : decode cX7_comeWhole 174 = .ok (.aload_n 0, 1) := by decide +kernel
theorem dX7_comeWhole_175 : decode cX7_comeWhole 175 = .ok (.getfield 86, 3) := by decide +kernel
theorem dX7_comeWhole_178 : decode cX7_comeWhole 178 = .ok (.bipush 12, 2) := by decide +kernel
theorem dX7_comeWhole_180 : decode cX7_comeWhole 180 = .ok (.iload 6, 2) := by decide +kernel
theorem dX7_comeWhole_182 : decode cX7_comeWhole 182 = .ok (.sipush 256, 3) := by decide +kernel
theorem dX7_comeWhole_185 : decode cX7_comeWhole 185 = .ok (.irem, 1) := by decide +kernel
theorem dX7_comeWhole_186 : decode cX7_comeWhole 186 = .ok (.iastore, 1) := by decide +kernel
theorem dX7_comeWhole_187 : decode cX7_comeWhole 187 = .ok (.aload_n 0, 1) := by decide +kernel
theorem dX7_comeWhole_188 : decode cX7_comeWhole 188 = .ok (.bipush 8, 2) := by decide +kernel
theorem dX7_comeWhole_190 : decode cX7_comeWhole 190 = .ok (.iload_n 2, 1) := by decide +kernel
theorem dX7_comeWhole_191 : decode cX7_comeWhole 191 = .ok (.iconst 4, 1) := by decide +kernel
theorem dX7_comeWhole_192 : decode cX7_comeWhole 192 = .ok (.if_icmp .ne 8, 3) := by decide +kernel
theorem dX7_comeWhole_195 : decode cX7_comeWhole 195 = .ok (.bipush 13, 2) := by decide +kernel
theorem dX7_comeWhole_197 : decode cX7_comeWhole 197 = .ok (.goto 5, 3) := by decide +kernel
theorem dX7_comeWhole_200 : decode cX7_comeWhole 200 = .ok (.bipush 11, 2) := by decide +kernel
theorem dX7_comeWhole_202 : decode cX7_comeWhole 202 = .ok (.invokevirtual 128, 3) := by decide +kernel
theorem dX7_comeWhole_205 : decode cX7_comeWhole 205 = .ok (.aload_n 0, 1) := by decide +kernel
theorem dX7_comeWhole_206 : decode cX7_comeWhole 206 = .ok (.getfield 89, 3) := by decide +kernel
theorem dX7_comeWhole_209 : decode cX7_comeWhole 209 = .ok (.iload 7, 2) := by decide +kernel
theorem dX7_comeWhole_211 : decode cX7_comeWhole 211 = .ok (.bipush 9, 2) := by decide +kernel
theorem dX7_comeWhole_213 : decode cX7_comeWhole 213 = .ok (.iadd, 1) := by decide +kernel
theorem dX7_comeWhole_214 : decode cX7_comeWhole 214 = .ok (.iaload, 1) := by decide +kernel
theorem dX7_comeWhole_215 : decode cX7_comeWhole 215 = .ok (.if_icmp .eq 5, 3) := by decide +kernel
theorem dX7_comeWhole_218 : decode cX7_comeWhole 218 = .ok (.iconst 0, 1) := by decide +kernel
theorem dX7_comeWhole_219 : decode cX7_comeWhole 219 = .ok (.ireturn, 1) := by decide +kernel
theorem dX7_comeWhole_220 : decode cX7_comeWhole 220 = .ok (.aload_n 0, 1) := by decide +kernel
theorem dX7_comeWhole_221 : decode cX7_comeWhole 221 = .ok (.getfield 56, 3) := by decide +kernel
theorem dX7_comeWhole_224 : decode cX7_comeWhole 224 = .ok (.iload_n 1, 1) := by decide +kernel
theorem dX7_comeWhole_225 : decode cX7_comeWhole 225 = .ok (.iload 4, 2) := by decide +kernel
theorem dX7_comeWhole_227 : decode cX7_comeWhole 227 = .ok (.iastore, 1) := by decide +kernel
theorem dX7_comeWhole_228 : decode cX7_comeWhole 228 = .ok (.aload_n 0, 1) := by decide +kernel
theorem dX7_comeWhole_229 : decode cX7_comeWhole 229 = .ok (.getfield 59, 3) := by decide +kernel
theorem dX7_comeWhole_232 : decode cX7_comeWhole 232 = .ok (.iload_n 1, 1) := by decide +kernel
theorem dX7_comeWhole_233 : decode cX7_comeWhole 233 = .ok (.iload 5, 2) := by decide +kernel
theorem dX7_comeWhole_235 : decode cX7_comeWhole 235 = .ok (.iastore, 1) := by decide +kernel
theorem dX7_comeWhole_236 : decode cX7_comeWhole 236 = .ok (.aload_n 0, 1) := by decide +kernel
theorem dX7_comeWhole_237 : decode cX7_comeWhole 237 = .ok (.getfield 62, 3) := by decide +kernel
theorem dX7_comeWhole_240 : decode cX7_comeWhole 240 = .ok (.iload_n 1, 1) := by decide +kernel
theorem dX7_comeWhole_241 : decode cX7_comeWhole 241 = .ok (.iload 6, 2) := by decide +kernel
theorem dX7_comeWhole_243 : decode cX7_comeWhole 243 = .ok (.iastore, 1) := by decide +kernel
theorem dX7_comeWhole_244 : decode cX7_comeWhole 244 = .ok (.aload_n 0, 1) := by decide +kernel
theorem dX7_comeWhole_245 : decode cX7_comeWhole 245 = .ok (.getfield 65, 3) := by decide +kernel
theorem dX7_comeWhole_248 : decode cX7_comeWhole 248 = .ok (.iload_n 1, 1) := by decide +kernel
theorem dX7_comeWhole_249 : decode cX7_comeWhole 249 = .ok (.iload 9, 2) := by decide +kernel
theorem dX7_comeWhole_251 : decode cX7_comeWhole 251 = .ok (.iload 8, 2) := by decide +kernel
theorem dX7_comeWhole_253 : decode cX7_comeWhole 253 = .ok (.iload 6, 2) := by decide +kernel
theorem dX7_comeWhole_255 : decode cX7_comeWhole 255 = .ok (.imul, 1) := by decide +kernel
theorem dX7_comeWhole_256 : decode cX7_comeWhole 256 = .ok (.isub, 1) := by decide +kernel
theorem dX7_comeWhole_257 : decode cX7_comeWhole 257 = .ok (.iastore, 1) := by decide +kernel
theorem dX7_comeWhole_258 : decode cX7_comeWhole 258 = .ok (.aload_n 0, 1) := by decide +kernel
theorem dX7_comeWhole_259 : decode cX7_comeWhole 259 = .ok (.getfield 68, 3) := by decide +kernel
theorem dX7_comeWhole_262 : decode cX7_comeWhole 262 = .ok (.iload_n 1, 1) := by decide +kernel
theorem dX7_comeWhole_263 : decode cX7_comeWhole 263 = .ok (.iload 10, 2) := by decide +kernel
theorem dX7_comeWhole_265 : decode cX7_comeWhole 265 = .ok (.iload 8, 2) := by decide +kernel
theorem dX7_comeWhole_267 : decode cX7_comeWhole 267 = .ok (.isub, 1) := by decide +kernel
theorem dX7_comeWhole_268 : decode cX7_comeWhole 268 = .ok (.ldc 96, 2) := by decide +kernel
theorem dX7_comeWhole_270 : decode cX7_comeWhole 270 = .ok (.iand, 1) := by decide +kernel
theorem dX7_comeWhole_271 : decode cX7_comeWhole 271 = .ok (.iastore, 1) := by decide +kernel
theorem dX7_comeWhole_272 : decode cX7_comeWhole 272 = .ok (.aload_n 0, 1) := by decide +kernel
theorem dX7_comeWhole_273 : decode cX7_comeWhole 273 = .ok (.iload_n 1, 1) := by decide +kernel
theorem dX7_comeWhole_274 : decode cX7_comeWhole 274 = .ok (.iload 8, 2) := by decide +kernel
theorem dX7_comeWhole_276 : decode cX7_comeWhole 276 = .ok (.invokevirtual 178, 3) := by decide +kernel
theorem dX7_comeWhole_279 : decode cX7_comeWhole 279 = .ok (.aload_n 0, 1) := by decide +kernel
theorem dX7_comeWhole_280 : decode cX7_comeWhole 280 = .ok (.getfield 53, 3) := by decide +kernel
theorem dX7_comeWhole_283 : decode cX7_comeWhole 283 = .ok (.iload_n 1, 1) := by decide +kernel
theorem dX7_comeWhole_284 : decode cX7_comeWhole 284 = .ok (.iconst 2, 1) := by decide +kernel
theorem dX7_comeWhole_285 : decode cX7_comeWhole 285 = .ok (.iastore, 1) := by decide +kernel
theorem dX7_comeWhole_286 : decode cX7_comeWhole 286 = .ok (.iconst 1, 1) := by decide +kernel
theorem dX7_comeWhole_287 : decode cX7_comeWhole 287 = .ok (.ireturn, 1) := by decide +kernel
theorem dX7_deliver_0 : decode cX7_deliver 0 = .ok (.aload_n 0, 1) := by decide +kernel
theorem dX7_deliver_1 : decode cX7_deliver 1 = .ok (.aload_n 0, 1) := by decide +kernel
theorem dX7_deliver_2 : decode cX7_deliver 2 = .ok (.iload_n 1, 1) := by decide +kernel
theorem dX7_deliver_3 : decode cX7_deliver 3 = .ok (.invokevirtual 157, 3) := by decide +kernel
theorem dX7_deliver_6 : decode cX7_deliver 6 = .ok (.ifCond .eq 7, 3) := by decide +kernel
theorem dX7_deliver_9 : decode cX7_deliver 9 = .ok (.iconst 1, 1) := by decide +kernel
theorem dX7_deliver_10 : decode cX7_deliver 10 = .ok (.goto 4, 3) := by decide +kernel
theorem dX7_deliver_13 : decode cX7_deliver 13 = .ok (.iconst 0, 1) := by decide +kernel
theorem dX7_deliver_14 : decode cX7_deliver 14 = .ok (.putfield 92, 3) := by decide +kernel
theorem dX7_deliver_17 : decode cX7_deliver 17 = .ok (.aload_n 0, 1) := by decide +kernel
theorem dX7_deliver_18 : decode cX7_deliver 18 = .ok (.getfield 92, 3) := by decide +kernel
theorem dX7_deliver_21 : decode cX7_deliver 21 = .ok (.ifCond .eq 5, 3) := by decide +kernel
theorem dX7_deliver_24 : decode cX7_deliver 24 = .ok (.iconst 0, 1) := by decide +kernel
theorem dX7_deliver_25 : decode cX7_deliver 25 = .ok (.ireturn, 1) := by decide +kernel
theorem dX7_deliver_26 : decode cX7_deliver 26 = .ok (.aload_n 0, 1) := by decide +kernel
theorem dX7_deliver_27 : decode cX7_deliver 27 = .ok (.aload_n 0, 1) := by decide +kernel
theorem dX7_deliver_28 : decode cX7_deliver 28 = .ok (.getfield 47, 3) := by decide +kernel
theorem dX7_deliver_31 : decode cX7_deliver 31 = .ok (.iload_n 1, 1) := by decide +kernel
theorem dX7_deliver_32 : decode cX7_deliver 32 = .ok (.iaload, 1) := by decide +kernel
theorem dX7_deliver_33 : decode cX7_deliver 33 = .ok (.putfield 121, 3) := by decide +kernel
theorem dX7_deliver_36 : decode cX7_deliver 36 = .ok (.iconst 0, 1) := by decide +kernel
theorem dX7_deliver_37 : decode cX7_deliver 37 = .ok (.istore_n 2, 1) := by decide +kernel
theorem dX7_deliver_38 : decode cX7_deliver 38 = .ok (.iload_n 2, 1) := by decide +kernel
theorem dX7_deliver_39 : decode cX7_deliver 39 = .ok (.aload_n 0, 1) := by decide +kernel
theorem dX7_deliver_40 : decode cX7_deliver 40 = .ok (.getfield 121, 3) := by decide +kernel
theorem dX7_deliver_43 : decode cX7_deliver 43 = .ok (.if_icmp .ge 26, 3) := by decide +kernel
theorem dX7_deliver_46 : decode cX7_deliver 46 = .ok (.aload_n 0, 1) := by decide +kernel
theorem dX7_deliver_47 : decode cX7_deliver 47 = .ok (.getfield 89, 3) := by decide +kernel
theorem dX7_deliver_50 : decode cX7_deliver 50 = .ok (.iload_n 2, 1) := by decide +kernel
theorem dX7_deliver_51 : decode cX7_deliver 51 = .ok (.aload_n 0, 1) := by decide +kernel
theorem dX7_deliver_52 : decode cX7_deliver 52 = .ok (.getfield 50, 3) := by decide +kernel
theorem dX7_deliver_55 : decode cX7_deliver 55 = .ok (.bipush 20, 2) := by decide +kernel
theorem dX7_deliver_57 : decode cX7_deliver 57 = .ok (.iload_n 1, 1) := by decide +kernel
theorem dX7_deliver_58 : decode cX7_deliver 58 = .ok (.imul, 1) := by decide +kernel
theorem dX7_deliver_59 : decode cX7_deliver 59 = .ok (.iload_n 2, 1) := by decide +kernel
theorem dX7_deliver_60 : decode cX7_deliver 60 = .ok (.iadd, 1) := by decide +kernel
theorem dX7_deliver_61 : decode cX7_deliver 61 = .ok (.iaload, 1) := by decide +kernel
theorem dX7_deliver_62 : decode cX7_deliver 62 = .ok (.iastore, 1) := by decide +kernel
theorem dX7_deliver_63 : decode cX7_deliver 63 = .ok (.iinc 2 1, 3) := by decide +kernel
theorem dX7_deliver_66 : decode cX7_deliver 66 = .ok (.goto (-28), 3) := by decide +kernel
theorem dX7_deliver_69 : decode cX7_deliver 69 = .ok (.aload_n 0, 1) := by decide +kernel
theorem dX7_deliver_70 : decode cX7_deliver 70 = .ok (.iload_n 1, 1) := by decide +kernel
theorem dX7_deliver_71 : decode cX7_deliver 71 = .ok (.invokevirtual 164, 3) := by decide +kernel
theorem dX7_deliver_74 : decode cX7_deliver 74 = .ok (.aload_n 0, 1) := by decide +kernel
theorem dX7_deliver_75 : decode cX7_deliver 75 = .ok (.getfield 89, 3) := by decide +kernel
theorem dX7_deliver_78 : decode cX7_deliver 78 = .ok (.iconst 0, 1) := by decide +kernel
theorem dX7_deliver_79 : decode cX7_deliver 79 = .ok (.iaload, 1) := by decide +kernel
theorem dX7_deliver_80 : decode cX7_deliver 80 = .ok (.sipush 224, 3) := by decide +kernel
theorem dX7_deliver_83 : decode cX7_deliver 83 = .ok (.if_icmp .le 19, 3) := by decide +kernel
theorem dX7_deliver_86 : decode cX7_deliver 86 = .ok (.aload_n 0, 1) := by decide +kernel
theorem dX7_deliver_87 : decode cX7_deliver 87 = .ok (.getfield 89, 3) := by decide +kernel
theorem dX7_deliver_90 : decode cX7_deliver 90 = .ok (.iconst 0, 1) := by decide +kernel
theorem dX7_deliver_91 : decode cX7_deliver 91 = .ok (.iaload, 1) := by decide +kernel
theorem dX7_deliver_92 : decode cX7_deliver 92 = .ok (.sipush 228, 3) := by decide +kernel
theorem dX7_deliver_95 : decode cX7_deliver 95 = .ok (.if_icmp .ge 7, 3) := by decide +kernel
theorem dX7_deliver_98 : decode cX7_deliver 98 = .ok (.iconst 1, 1) := by decide +kernel
theorem dX7_deliver_99 : decode cX7_deliver 99 = .ok (.goto 4, 3) := by decide +kernel
theorem dX7_deliver_102 : decode cX7_deliver 102 = .ok (.iconst 0, 1) := by decide +kernel
theorem dX7_deliver_103 : decode cX7_deliver 103 = .ok (.istore_n 2, 1) := by decide +kernel
theorem dX7_deliver_104 : decode cX7_deliver 104 = .ok (.iload_n 2, 1) := by decide +kernel
theorem dX7_deliver_105 : decode cX7_deliver 105 = .ok (.iconst 1, 1) := by decide +kernel
theorem dX7_deliver_106 : decode cX7_deliver 106 = .ok (.if_icmp .ne 16, 3) := by decide +kernel
theorem dX7_deliver_109 : decode cX7_deliver 109 = .ok (.aload_n 0, 1) := by decide +kernel
theorem dX7_deliver_110 : decode cX7_deliver 110 = .ok (.getfield 89, 3) := by decide +kernel
theorem dX7_deliver_113 : decode cX7_deliver 113 = .ok (.iconst 0, 1) := by decide +kernel
theorem dX7_deliver_114 : decode cX7_deliver 114 = .ok (.iaload, 1) := by decide +kernel
theorem dX7_deliver_115 : decode cX7_deliver 115 = .ok (.sipush 224, 3) := by decide +kernel
theorem dX7_deliver_118 : decode cX7_deliver 118 = .ok (.isub, 1) := by decide +kernel
theorem dX7_deliver_119 : decode cX7_deliver 119 = .ok (.goto 4, 3) := by decide +kernel
theorem dX7_deliver_122 : decode cX7_deliver 122 = .ok (.iconst 0, 1) := by decide +kernel
theorem dX7_deliver_123 : decode cX7_deliver 123 = .ok (.istore_n 3, 1) := by decide +kernel
theorem dX7_deliver_124 : decode cX7_deliver 124 = .ok (.iload_n 2, 1) := by decide +kernel
theorem dX7_deliver_125 : decode cX7_deliver 125 = .ok (.aload_n 0, 1) := by decide +kernel
theorem dX7_deliver_126 : decode cX7_deliver 126 = .ok (.getfield 121, 3) := by decide +kernel
theorem dX7_deliver_129 : decode cX7_deliver 129 = .ok (.if_icmp .ge 16, 3) := by decide +kernel
theorem dX7_deliver_132 : decode cX7_deliver 132 = .ok (.aload_n 0, 1) := by decide +kernel
theorem dX7_deliver_133 : decode cX7_deliver 133 = .ok (.aload_n 0, 1) := by decide +kernel
theorem dX7_deliver_134 : decode cX7_deliver 134 = .ok (.getfield 89, 3) := by decide +kernel
theorem dX7_deliver_137 : decode cX7_deliver 137 = .ok (.iload_n 2, 1) := by decide +kernel
theorem dX7_deliver_138 : decode cX7_deliver 138 = .ok (.iaload, 1) := by decide +kernel
theorem dX7_deliver_139 : decode cX7_deliver 139 = .ok (.invokevirtual 184, 3) := by decide +kernel
theorem dX7_deliver_142 : decode cX7_deliver 142 = .ok (.goto 4, 3) := by decide +kernel
theorem dX7_deliver_145 : decode cX7_deliver 145 = .ok (.iconst (-1), 1) := by decide +kernel
theorem dX7_deliver_146 : decode cX7_deliver 146 = .ok (.istore 4, 2) := by decide +kernel
theorem dX7_deliver_148 : decode cX7_deliver 148 = .ok (.aload_n 0, 1) := by decide +kernel
theorem dX7_deliver_149 : decode cX7_deliver 149 = .ok (.iload 4, 2) := by decide +kernel
theorem dX7_deliver_151 : decode cX7_deliver 151 = .ok (.iload_n 2, 1) := by decide +kernel
theorem dX7_deliver_152 : decode cX7_deliver 152 = .ok (.invokevirtual 187, 3) := by decide +kernel
theorem dX7_deliver_155 : decode cX7_deliver 155 = .ok (.ifCond .eq 21, 3) := by decide +kernel
theorem dX7_deliver_158 : decode cX7_deliver 158 = .ok (.aload_n 0, 1) := by decide +kernel
theorem dX7_deliver_159 : decode cX7_deliver 159 = .ok (.getfield 83, 3) := by decide +kernel
theorem dX7_deliver_162 : decode cX7_deliver 162 = .ok (.bipush 8, 2) := by decide +kernel
theorem dX7_deliver_164 : decode cX7_deliver 164 = .ok (.dup2, 1) := by decide +kernel
theorem dX7_deliver_165 : decode cX7_deliver 165 = .ok (.iaload, 1) := by decide +kernel
theorem dX7_deliver_166 : decode cX7_deliver 166 = .ok (.iconst 1, 1) := by decide +kernel
theorem dX7_deliver_167 : decode cX7_deliver 167 = .ok (.iadd, 1) := by decide +kernel
theorem dX7_deliver_168 : decode cX7_deliver 168 = .ok (.iastore, 1) := by decide +kernel
theorem dX7_deliver_169 : decode cX7_deliver 169 = .ok (.aload_n 0, 1) := by decide +kernel
theorem dX7_deliver_170 : decode cX7_deliver 170 = .ok (.iconst 2, 1) := by decide +kernel
theorem dX7_deliver_171 : decode cX7_deliver 171 = .ok (.putfield 92, 3) := by decide +kernel
theorem dX7_deliver_174 : decode cX7_deliver 174 = .ok (.iconst 0, 1) := by decide +kernel
theorem dX7_deliver_175 : decode cX7_deliver 175 = .ok (.ireturn, 1) := by decide +kernel
theorem dX7_deliver_176 : decode cX7_deliver 176 = .ok (.iload 4, 2) := by decide +kernel
theorem dX7_deliver_178 : decode cX7_deliver 178 = .ok (.iconst 3, 1) := by decide +kernel
theorem dX7_deliver_179 : decode cX7_deliver 179 = .ok (.if_icmp .ne 12, 3) := by decide +kernel
theorem dX7_deliver_182 : decode cX7_deliver 182 = .ok (.aload_n 0, 1) := by decide +kernel
theorem dX7_deliver_183 : decode cX7_deliver 183 = .ok (.getfield 53, 3) := by decide +kernel
theorem dX7_deliver_186 : decode cX7_deliver 186 = .ok (.iload_n 3, 1) := by decide +kernel
theorem dX7_deliver_187 : decode cX7_deliver 187 = .ok (.iaload, 1) := by decide +kernel
theorem dX7_deliver_188 : decode cX7_deliver 188 = .ok (.ifCond .eq 19, 3) := by decide +kernel
theorem dX7_deliver_191 : decode cX7_deliver 191 = .ok (.iload 4, 2) := by decide +kernel
theorem dX7_deliver_193 : decode cX7_deliver 193 = .ok (.iconst 3, 1) := by decide +kernel
theorem dX7_deliver_194 : decode cX7_deliver 194 = .ok (.if_icmp .ge 31, 3) := by decide +kernel
theorem dX7_deliver_197 : decode cX7_deliver 197 = .ok (.aload_n 0, 1) := by decide +kernel
theorem dX7_deliver_198 : decode cX7_deliver 198 = .ok (.getfield 53, 3) := by decide +kernel
theorem dX7_deliver_201 : decode cX7_deliver 201 = .ok (.iload_n 3, 1) := by decide +kernel
theorem dX7_deliver_202 : decode cX7_deliver 202 = .ok (.iaload, 1) := by decide +kernel
theorem dX7_deliver_203 : decode cX7_deliver 203 = .ok (.iconst 2, 1) := by decide +kernel
theorem dX7_deliver_204 : decode cX7_deliver 204 = .ok (.if_icmp .ge 21, 3) := by decide +kernel
theorem dX7_deliver_207 : decode cX7_deliver 207 = .ok (.aload_n 0, 1) := by decide +kernel
theorem dX7_deliver_208 : decode cX7_deliver 208 = .ok (.getfield 83, 3) := by decide +kernel
theorem dX7_deliver_211 : decode cX7_deliver 211 = .ok (.bipush 9, 2) := by decide +kernel
theorem dX7_deliver_213 : decode cX7_deliver 213 = .ok (.dup2, 1) := by decide +kernel
theorem dX7_deliver_214 : decode cX7_deliver 214 = .ok (.iaload, 1) := by decide +kernel
theorem dX7_deliver_215 : decode cX7_deliver 215 = .ok (.iconst 1, 1) := by decide +kernel
theorem dX7_deliver_216 : decode cX7_deliver 216 = .ok (.iadd, 1) := by decide +kernel
theorem dX7_deliver_217 : decode cX7_deliver 217 = .ok (.iastore, 1) := by decide +kernel
theorem dX7_deliver_218 : decode cX7_deliver 218 = .ok (.aload_n 0, 1) := by decide +kernel
theorem dX7_deliver_219 : decode cX7_deliver 219 = .ok (.iconst 3, 1) := by decide +kernel
theorem dX7_deliver_220 : decode cX7_deliver 220 = .ok (.putfield 92, 3) := by decide +kernel
theorem dX7_deliver_223 : decode cX7_deliver 223 = .ok (.iconst 0, 1) := by decide +kernel
theorem dX7_deliver_224 : decode cX7_deliver 224 = .ok (.ireturn, 1) := by decide +kernel
theorem dX7_deliver_225 : decode cX7_deliver 225 = .ok (.iload 4, 2) := by decide +kernel
theorem dX7_deliver_227 : decode cX7_deliver 227 = .ok (.iconst 3, 1) := by decide +kernel
theorem dX7_deliver_228 : decode cX7_deliver 228 = .ok (.if_icmp .ge 14, 3) := by decide +kernel
theorem dX7_deliver_231 : decode cX7_deliver 231 = .ok (.aload_n 0, 1) := by decide +kernel
theorem dX7_deliver_232 : decode cX7_deliver 232 = .ok (.iload_n 3, 1) := by decide +kernel
theorem dX7_deliver_233 : decode cX7_deliver 233 = .ok (.iload 4, 2) := by decide +kernel
theorem dX7_deliver_235 : decode cX7_deliver 235 = .ok (.iload_n 2, 1) := by decide +kernel
theorem dX7_deliver_236 : decode cX7_deliver 236 = .ok (.invokevirtual 190, 3) := by decide +kernel
theorem dX7_deliver_239 : decode cX7_deliver 239 = .ok (.goto 19, 3) := by decide +kernel
theorem dX7_deliver_242 : decode cX7_deliver 242 = .ok (.aload_n 0, 1) := by decide +kernel
theorem dX7_deliver_243 : decode cX7_deliver 243 = .ok (.iload_n 3, 1) := by decide +kernel
theorem dX7_deliver_244 : decode cX7_deliver 244 = .ok (.iload 4, 2) := by decide +kernel
theorem dX7_deliver_246 : decode cX7_deliver 246 = .ok (.iload_n 2, 1) := by decide +kernel
theorem dX7_deliver_247 : decode cX7_deliver 247 = .ok (.invokevirtual 193, 3) := by decide +kernel
theorem dX7_deliver_250 : decode cX7_deliver 250 = .ok (.ifCond .eq 7, 3) := by decide +kernel
theorem dX7_deliver_253 : decode cX7_deliver 253 = .ok (.iconst 1, 1) := by decide +kernel
theorem dX7_deliver_254 : decode cX7_deliver 254 = .ok (.goto 4, 3) := by decide +kernel
theorem dX7_deliver_257 : decode cX7_deliver 257 = .ok (.iconst 0, 1) := by decide +kernel
theorem dX7_deliver_258 : decode cX7_deliver 258 = .ok (.istore 5, 2) := by decide +kernel
theorem dX7_deliver_260 : decode cX7_deliver 260 = .ok (.iload 5, 2) := by decide +kernel
theorem dX7_deliver_262 : decode cX7_deliver 262 = .ok (.ifCond .ne 15, 3) := by decide +kernel
theorem dX7_deliver_265 : decode cX7_deliver 265 = .ok (.aload_n 0, 1) := by decide +kernel
theorem dX7_deliver_266 : decode cX7_deliver 266 = .ok (.iload_n 3, 1) := by decide +kernel
theorem dX7_deliver_267 : decode cX7_deliver 267 = .ok (.invokevirtual 196, 3) := by decide +kernel
theorem dX7_deliver_270 : decode cX7_deliver 270 = .ok (.aload_n 0, 1) := by decide +kernel
theorem dX7_deliver_271 : decode cX7_deliver 271 = .ok (.iconst 4, 1) := by decide +kernel
theorem dX7_deliver_272 : decode cX7_deliver 272 = .ok (.putfield 92, 3) := by decide +kernel
theorem dX7_deliver_275 : decode cX7_deliver 275 = .ok (.iconst 0, 1) := by decide +kernel
theorem dX7_deliver_276 : decode cX7_deliver 276 = .ok (.ireturn, 1) := by decide +kernel
theorem dX7_deliver_277 : decode cX7_deliver 277 = .ok (.iload_n 3, 1) := by decide +kernel
theorem dX7_deliver_278 : decode cX7_deliver 278 = .ok (.iload 5, 2) := by decide +kernel
theorem dX7_deliver_280 : decode cX7_deliver 280 = .ok (.iconst 2, 1) := by decide +kernel
theorem dX7_deliver_281 : decode cX7_deliver 281 = .ok (.if_icmp .ne 7, 3) := by decide +kernel
theorem dX7_deliver_284 : decode cX7_deliver 284 = .ok (.iconst 4, 1) := by decide +kernel
theorem dX7_deliver_285 : decode cX7_deliver 285 = .ok (.goto 4, 3) := by decide +kernel
theorem dX7_deliver_288 : decode cX7_deliver 288 = .ok (.iconst 0, 1) := by decide +kernel
theorem dX7_deliver_289 : decode cX7_deliver 289 = .ok (.iadd, 1) := by decide +kernel
theorem dX7_deliver_290 : decode cX7_deliver 290 = .ok (.ireturn, 1) := by decide +kernel
theorem dX7_made_0 : decode cX7_made 0 = .ok (.aload_n 0, 1) := by decide +kernel
theorem dX7_made_1 : decode cX7_made 1 = .ok (.iload_n 1, 1) := by decide +kernel
theorem dX7_made_2 : decode cX7_made 2 = .ok (.ifCond .lt 9, 3) := by decide +kernel
theorem dX7_made_5 : decode cX7_made 5 = .ok (.iload_n 1, 1) := by decide +kernel
theorem dX7_made_6 : decode cX7_made 6 = .ok (.bipush 10, 2) := by decide +kernel
theorem dX7_made_8 : decode cX7_made 8 = .ok (.if_icmp .le 7, 3) := by decide +kernel
theorem dX7_made_11 : decode cX7_made 11 = .ok (.iconst 1, 1) := by decide +kernel
theorem dX7_made_12 : decode cX7_made 12 = .ok (.goto 4, 3) := by decide +kernel
theorem dX7_made_15 : decode cX7_made 15 = .ok (.iconst 0, 1) := by decide +kernel
theorem dX7_made_16 : decode cX7_made 16 = .ok (.putfield 92, 3) := by decide +kernel
theorem dX7_made_19 : decode cX7_made 19 = .ok (.aload_n 0, 1) := by decide +kernel
theorem dX7_made_20 : decode cX7_made 20 = .ok (.getfield 92, 3) := by decide +kernel
theorem dX7_made_23 : decode cX7_made 23 = .ok (.ifCond .ne 12, 3) := by decide +kernel
theorem dX7_made_26 : decode cX7_made 26 = .ok (.aload_n 0, 1) := by decide +kernel
theorem dX7_made_27 : decode cX7_made 27 = .ok (.getfield 80, 3) := by decide +kernel
theorem dX7_made_30 : decode cX7_made 30 = .ok (.iload_n 1, 1) := by decide +kernel
theorem dX7_made_31 : decode cX7_made 31 = .ok (.iaload, 1) := by decide +kernel
theorem dX7_made_32 : decode cX7_made 32 = .ok (.goto 4, 3) := by decide +kernel
theorem dX7_made_35 : decode cX7_made 35 = .ok (.iconst 0, 1) := by decide +kernel
theorem dX7_made_36 : decode cX7_made 36 = .ok (.ireturn, 1) := by decide +kernel
theorem dX7_sender_0 : decode cX7_sender 0 = .ok (.aload_n 0, 1) := by decide +kernel
theorem dX7_sender_1 : decode cX7_sender 1 = .ok (.aload_n 0, 1) := by decide +kernel
theorem dX7_sender_2 : decode cX7_sender 2 = .ok (.iload_n 1, 1) := by decide +kernel
theorem dX7_sender_3 : decode cX7_sender 3 = .ok (.invokevirtual 97, 3) := by decide +kernel
theorem dX7_sender_6 : decode cX7_sender 6 = .ok (.ifCond .eq 7, 3) := by decide +kernel
theorem dX7_sender_9 : decode cX7_sender 9 = .ok (.iconst 1, 1) := by decide +kernel
theorem dX7_sender_10 : decode cX7_sender 10 = .ok (.goto 17, 3) := by decide +kernel
theorem dX7_sender_13 : decode cX7_sender 13 = .ok (.iload_n 2, 1) := by decide +kernel
theorem dX7_sender_14 : decode cX7_sender 14 = .ok (.ifCond .lt 8, 3) := by decide +kernel
theorem dX7_sender_17 : decode cX7_sender 17 = .ok (.iload_n 2, 1) := by decide +kernel
theorem dX7_sender_18 : decode cX7_sender 18 = .ok (.iconst 4, 1) := by decide +kernel
theorem dX7_sender_19 : decode cX7_sender 19 = .ok (.if_icmp .le 7, 3) := by decide +kernel
theorem dX7_sender_22 : decode cX7_sender 22 = .ok (.iconst 2, 1) := by decide +kernel
theorem dX7_sender_23 : decode cX7_sender 23 = .ok (.goto 4, 3) := by decide +kernel
theorem dX7_sender_26 : decode cX7_sender 26 = .ok (.iconst 0, 1) := by decide +kernel
theorem dX7_sender_27 : decode cX7_sender 27 = .ok (.putfield 92, 3) := by decide +kernel
theorem dX7_sender_30 : decode cX7_sender 30 = .ok (.aload_n 0, 1) := by decide +kernel
theorem dX7_sender_31 : decode cX7_sender 31 = .ok (.getfield 92, 3) := by decide +kernel
theorem dX7_sender_34 : decode cX7_sender 34 = .ok (.ifCond .eq 5, 3) := by decide +kernel
theorem dX7_sender_37 : decode cX7_sender 37 = .ok (.iconst 0, 1) := by decide +kernel
theorem dX7_sender_38 : decode cX7_sender 38 = .ok (.ireturn, 1) := by decide +kernel
theorem dX7_sender_39 : decode cX7_sender 39 = .ok (.iload_n 2, 1) := by decide +kernel
theorem dX7_sender_40 : decode cX7_sender 40 = .ok (.ifCond .ne 12, 3) := by decide +kernel
theorem dX7_sender_43 : decode cX7_sender 43 = .ok (.aload_n 0, 1) := by decide +kernel
theorem dX7_sender_44 : decode cX7_sender 44 = .ok (.getfield 32, 3) := by decide +kernel
theorem dX7_sender_47 : decode cX7_sender 47 = .ok (.iload_n 1, 1) := by decide +kernel
theorem dX7_sender_48 : decode cX7_sender 48 = .ok (.iaload, 1) := by decide +kernel
theorem dX7_sender_49 : decode cX7_sender 49 = .ok (.goto 51, 3) := by decide +kernel
theorem dX7_sender_52 : decode cX7_sender 52 = .ok (.iload_n 2, 1) := by decide +kernel
theorem dX7_sender_53 : decode cX7_sender 53 = .ok (.iconst 1, 1) := by decide +kernel
theorem dX7_sender_54 : decode cX7_sender 54 = .ok (.if_icmp .ne 12, 3) := by decide +kernel
theorem dX7_sender_57 : decode cX7_sender 57 = .ok (.aload_n 0, 1) := by decide +kernel
theorem dX7_sender_58 : decode cX7_sender 58 = .ok (.getfield 35, 3) := by decide +kernel
theorem dX7_sender_61 : decode cX7_sender 61 = .ok (.iload_n 1, 1) := by decide +kernel
theorem dX7_sender_62 : decode cX7_sender 62 = .ok (.iaload, 1) := by decide +kernel
theorem dX7_sender_63 : decode cX7_sender 63 = .ok (.goto 37, 3) := by decide +kernel
theorem dX7_sender_66 : decode cX7_sender 66 = .ok (.iload_n 2, 1) := by decide +kernel
theorem dX7_sender_67 : decode cX7_sender 67 = .ok (.iconst 2, 1) := by decide +kernel
theorem dX7_sender_68 : decode cX7_sender 68 = .ok (.if_icmp .ne 12, 3) := by decide +kernel
theorem dX7_sender_71 : decode cX7_sender 71 = .ok (.aload_n 0, 1) := by decide +kernel
theorem dX7_sender_72 : decode cX7_sender 72 = .ok (.getfield 38, 3) := by decide +kernel
theorem dX7_sender_75 : decode cX7_sender 75 = .ok (.iload_n 1, 1) := by decide +kernel
theorem dX7_sender_76 : decode cX7_sender 76 = .ok (.iaload, 1) := by decide +kernel
theorem dX7_sender_77 : decode cX7_sender 77 = .ok (.goto 23, 3) := by decide +kernel
theorem dX7_sender_80 : decode cX7_sender 80 = .ok (.iload_n 2, 1) := by decide +kernel
theorem dX7_sender_81 : decode cX7_sender 81 = .ok (.iconst 3, 1) := by decide +kernel
theorem dX7_sender_82 : decode cX7_sender 82 = .ok (.if_icmp .ne 12, 3) := by decide +kernel
theorem dX7_sender_85 : decode cX7_sender 85 = .ok (.aload_n 0, 1) := by decide +kernel
theorem dX7_sender_86 : decode cX7_sender 86 = .ok (.getfield 26, 3) := by decide +kernel
theorem dX7_sender_89 : decode cX7_sender 89 = .ok (.iload_n 1, 1) := by decide +kernel
theorem dX7_sender_90 : decode cX7_sender 90 = .ok (.iaload, 1) := by decide +kernel
theorem dX7_sender_91 : decode cX7_sender 91 = .ok (.goto 9, 3) := by decide +kernel
theorem dX7_sender_94 : decode cX7_sender 94 = .ok (.aload_n 0, 1) := by decide +kernel
theorem dX7_sender_95 : decode cX7_sender 95 = .ok (.getfield 29, 3) := by decide +kernel
theorem dX7_sender_98 : decode cX7_sender 98 = .ok (.iload_n 1, 1) := by decide +kernel
theorem dX7_sender_99 : decode cX7_sender 99 = .ok (.iaload, 1) := by decide +kernel
theorem dX7_sender_100 : decode cX7_sender 100 = .ok (.ireturn, 1) := by decide +kernel
theorem dX7_receiver_0 : decode cX7_receiver 0 = .ok (.aload_n 0, 1) := by decide +kernel
theorem dX7_receiver_1 : decode cX7_receiver 1 = .ok (.aload_n 0, 1) := by decide +kernel
theorem dX7_receiver_2 : decode cX7_receiver 2 = .ok (.iload_n 1, 1) := by decide +kernel
theorem dX7_receiver_3 : decode cX7_receiver 3 = .ok (.invokevirtual 97, 3) := by decide +kernel
theorem dX7_receiver_6 : decode cX7_receiver 6 = .ok (.ifCond .eq 7, 3) := by decide +kernel
theorem dX7_receiver_9 : decode cX7_receiver 9 = .ok (.iconst 1, 1) := by decide +kernel
theorem dX7_receiver_10 : decode cX7_receiver 10 = .ok (.goto 17, 3) := by decide +kernel
theorem dX7_receiver_13 : decode cX7_receiver 13 = .ok (.iload_n 2, 1) := by decide +kernel
theorem dX7_receiver_14 : decode cX7_receiver 14 = .ok (.ifCond .lt 8, 3) := by decide +kernel
theorem dX7_receiver_17 : decode cX7_receiver 17 = .ok (.iload_n 2, 1) := by decide +kernel
theorem dX7_receiver_18 : decode cX7_receiver 18 = .ok (.iconst 3, 1) := by decide +kernel
theorem dX7_receiver_19 : decode cX7_receiver 19 = .ok (.if_icmp .le 7, 3) := by decide +kernel
theorem dX7_receiver_22 : decode cX7_receiver 22 = .ok (.iconst 2, 1) := by decide +kernel
theorem dX7_receiver_23 : decode cX7_receiver 23 = .ok (.goto 4, 3) := by decide +kernel
theorem dX7_receiver_26 : decode cX7_receiver 26 = .ok (.iconst 0, 1) := by decide +kernel
theorem dX7_receiver_27 : decode cX7_receiver 27 = .ok (.putfield 92, 3) := by decide +kernel
theorem dX7_receiver_30 : decode cX7_receiver 30 = .ok (.aload_n 0, 1) := by decide +kernel
theorem dX7_receiver_31 : decode cX7_receiver 31 = .ok (.getfield 92, 3) := by decide +kernel
theorem dX7_receiver_34 : decode cX7_receiver 34 = .ok (.ifCond .eq 5, 3) := by decide +kernel
theorem dX7_receiver_37 : decode cX7_receiver 37 = .ok (.iconst 0, 1) := by decide +kernel
theorem dX7_receiver_38 : decode cX7_receiver 38 = .ok (.ireturn, 1) := by decide +kernel
theorem dX7_receiver_39 : decode cX7_receiver 39 = .ok (.iload_n 2, 1) := by decide +kernel
theorem dX7_receiver_40 : decode cX7_receiver 40 = .ok (.ifCond .ne 12, 3) := by decide +kernel
theorem dX7_receiver_43 : decode cX7_receiver 43 = .ok (.aload_n 0, 1) := by decide +kernel
theorem dX7_receiver_44 : decode cX7_receiver 44 = .ok (.getfield 53, 3) := by decide +kernel
theorem dX7_receiver_47 : decode cX7_receiver 47 = .ok (.iload_n 1, 1) := by decide +kernel
theorem dX7_receiver_48 : decode cX7_receiver 48 = .ok (.iaload, 1) := by decide +kernel
theorem dX7_receiver_49 : decode cX7_receiver 49 = .ok (.goto 37, 3) := by decide +kernel
theorem dX7_receiver_52 : decode cX7_receiver 52 = .ok (.iload_n 2, 1) := by decide +kernel
theorem dX7_receiver_53 : decode cX7_receiver 53 = .ok (.iconst 1, 1) := by decide +kernel
theorem dX7_receiver_54 : decode cX7_receiver 54 = .ok (.if_icmp .ne 12, 3) := by decide +kernel
theorem dX7_receiver_57 : decode cX7_receiver 57 = .ok (.aload_n 0, 1) := by decide +kernel
theorem dX7_receiver_58 : decode cX7_receiver 58 = .ok (.getfield 71, 3) := by decide +kernel
theorem dX7_receiver_61 : decode cX7_receiver 61 = .ok (.iload_n 1, 1) := by decide +kernel
theorem dX7_receiver_62 : decode cX7_receiver 62 = .ok (.iaload, 1) := by decide +kernel
theorem dX7_receiver_63 : decode cX7_receiver 63 = .ok (.goto 23, 3) := by decide +kernel
theorem dX7_receiver_66 : decode cX7_receiver 66 = .ok (.iload_n 2, 1) := by decide +kernel
theorem dX7_receiver_67 : decode cX7_receiver 67 = .ok (.iconst 2, 1) := by decide +kernel
theorem dX7_receiver_68 : decode cX7_receiver 68 = .ok (.if_icmp .ne 12, 3) := by decide +kernel
theorem dX7_receiver_71 : decode cX7_receiver 71 = .ok (.aload_n 0, 1) := by decide +kernel
theorem dX7_receiver_72 : decode cX7_receiver 72 = .ok (.getfield 74, 3) := by decide +kernel
theorem dX7_receiver_75 : decode cX7_receiver 75 = .ok (.iload_n 1, 1) := by decide +kernel
theorem dX7_receiver_76 : decode cX7_receiver 76 = .ok (.iaload, 1) := by decide +kernel
theorem dX7_receiver_77 : decode cX7_receiver 77 = .ok (.goto 9, 3) := by decide +kernel
theorem dX7_receiver_80 : decode cX7_receiver 80 = .ok (.aload_n 0, 1) := by decide +kernel
theorem dX7_receiver_81 : decode cX7_receiver 81 = .ok (.getfield 77, 3) := by decide +kernel
theorem dX7_receiver_84 : decode cX7_receiver 84 = .ok (.iload_n 1, 1) := by decide +kernel
theorem dX7_receiver_85 : decode cX7_receiver 85 = .ok (.iaload, 1) := by decide +kernel
theorem dX7_receiver_86 : decode cX7_receiver 86 = .ok (.ireturn, 1) := by decide +kernel
theorem dX7_count_0 : decode cX7_count 0 = .ok (.aload_n 0, 1) := by decide +kernel
theorem dX7_count_1 : decode cX7_count 1 = .ok (.iload_n 1, 1) := by decide +kernel
theorem dX7_count_2 : decode cX7_count 2 = .ok (.ifCond .lt 9, 3) := by decide +kernel
theorem dX7_count_5 : decode cX7_count 5 = .ok (.iload_n 1, 1) := by decide +kernel
theorem dX7_count_6 : decode cX7_count 6 = .ok (.bipush 10, 2) := by decide +kernel
theorem dX7_count_8 : decode cX7_count 8 = .ok (.if_icmp .le 7, 3) := by decide +kernel
theorem dX7_count_11 : decode cX7_count 11 = .ok (.iconst 1, 1) := by decide +kernel
theorem dX7_count_12 : decode cX7_count 12 = .ok (.goto 4, 3) := by decide +kernel
theorem dX7_count_15 : decode cX7_count 15 = .ok (.iconst 0, 1) := by decide +kernel
theorem dX7_count_16 : decode cX7_count 16 = .ok (.putfield 92, 3) := by decide +kernel
theorem dX7_count_19 : decode cX7_count 19 = .ok (.aload_n 0, 1) := by decide +kernel
theorem dX7_count_20 : decode cX7_count 20 = .ok (.getfield 92, 3) := by decide +kernel
theorem dX7_count_23 : decode cX7_count 23 = .ok (.ifCond .ne 12, 3) := by decide +kernel
theorem dX7_count_26 : decode cX7_count 26 = .ok (.aload_n 0, 1) := by decide +kernel
theorem dX7_count_27 : decode cX7_count 27 = .ok (.getfield 83, 3) := by decide +kernel
theorem dX7_count_30 : decode cX7_count 30 = .ok (.iload_n 1, 1) := by decide +kernel
theorem dX7_count_31 : decode cX7_count 31 = .ok (.iaload, 1) := by decide +kernel
theorem dX7_count_32 : decode cX7_count 32 = .ok (.goto 4, 3) := by decide +kernel
theorem dX7_count_35 : decode cX7_count 35 = .ok (.iconst 0, 1) := by decide +kernel
theorem dX7_count_36 : decode cX7_count 36 = .ok (.ireturn, 1) := by decide +kernel
theorem dL_stride_0 : decode cL_stride 0 = .ok (.aload_n 0, 1) := by decide +kernel
theorem dL_stride_1 : decode cL_stride 1 = .ok (.iload_n 1, 1) := by decide +kernel
theorem dL_stride_2 : decode cL_stride 2 = .ok (.iload_n 2, 1) := by decide +kernel
theorem dL_stride_3 : decode cL_stride 3 = .ok (.invokevirtual 7, 3) := by decide +kernel
theorem dL_stride_6 : decode cL_stride 6 = .ok (.goto 9, 3) := by decide +kernel
theorem dL_stride_9 : decode cL_stride 9 = .ok (.astore_n 3, 1) := by decide +kernel
theorem dL_stride_10 : decode cL_stride 10 = .ok (.iconst 1, 1) := by decide +kernel
theorem dL_stride_11 : decode cL_stride 11 = .ok (.ireturn, 1) := by decide +kernel
theorem dL_stride_12 : decode cL_stride 12 = .ok (.astore_n 3, 1) := by decide +kernel
theorem dL_stride_13 : decode cL_stride 13 = .ok (.iconst 2, 1) := by decide +kernel
theorem dL_stride_14 : decode cL_stride 14 = .ok (.ireturn, 1) := by decide +kernel
theorem dL_stride_15 : decode cL_stride 15 = .ok (.iconst 0, 1) := by decide +kernel
theorem dL_stride_16 : decode cL_stride 16 = .ok (.ireturn, 1) := by decide +kernel
theorem dL_head_0 : decode cL_head 0 = .ok (.aload_n 0, 1) := by decide +kernel
theorem dL_head_1 : decode cL_head 1 = .ok (.iload_n 1, 1) := by decide +kernel
theorem dL_head_2 : decode cL_head 2 = .ok (.iload_n 2, 1) := by decide +kernel
theorem dL_head_3 : decode cL_head 3 = .ok (.iload_n 3, 1) := by decide +kernel
theorem dL_head_4 : decode cL_head 4 = .ok (.invokevirtual 17, 3) := by decide +kernel
theorem dL_head_7 : decode cL_head 7 = .ok (.goto 7, 3) := by decide +kernel
theorem dL_head_10 : decode cL_head 10 = .ok (.astore 4, 2) := by decide +kernel
theorem dL_head_12 : decode cL_head 12 = .ok (.iconst 1, 1) := by decide +kernel
theorem dL_head_13 : decode cL_head 13 = .ok (.ireturn, 1) := by decide +kernel
theorem dL_head_14 : decode cL_head 14 = .ok (.iconst 0, 1) := by decide +kernel
theorem dL_head_15 : decode cL_head 15 = .ok (.ireturn, 1) := by decide +kernel
theorem dL_send_0 : decode cL_send 0 = .ok (.aload 5, 2) := by decide +kernel
theorem dL_send_2 : decode cL_send 2 = .ok (.iconst 0, 1) := by decide +kernel
theorem dL_send_3 : decode cL_send 3 = .ok (.aload_n 0, 1) := by decide +kernel
theorem dL_send_4 : decode cL_send 4 = .ok (.iload_n 1, 1) := by decide +kernel
theorem dL_send_5 : decode cL_send 5 = .ok (.iload_n 2, 1) := by decide +kernel
theorem dL_send_6 : decode cL_send 6 = .ok (.iload_n 3, 1) := by decide +kernel
theorem dL_send_7 : decode cL_send 7 = .ok (.iload 4, 2) := by decide +kernel
theorem dL_send_9 : decode cL_send 9 = .ok (.invokevirtual 21, 3) := by decide +kernel
theorem dL_send_12 : decode cL_send 12 = .ok (.i2l, 1) := by decide +kernel
theorem dL_send_13 : decode cL_send 13 = .ok (.lastore, 1) := by decide +kernel
theorem dL_send_14 : decode cL_send 14 = .ok (.goto 11, 3) := by decide +kernel
theorem dL_send_17 : decode cL_send 17 = .ok (.astore 6, 2) := by decide +kernel
theorem dL_send_19 : decode cL_send 19 = .ok (.iconst 1, 1) := by decide +kernel
theorem dL_send_20 : decode cL_send 20 = .ok (.ireturn, 1) := by decide +kernel
theorem dL_send_21 : decode cL_send 21 = .ok (.astore 6, 2) := by decide +kernel
theorem dL_send_23 : decode cL_send 23 = .ok (.iconst 2, 1) := by decide +kernel
theorem dL_send_24 : decode cL_send 24 = .ok (.ireturn, 1) := by decide +kernel
theorem dL_send_25 : decode cL_send 25 = .ok (.iconst 0, 1) := by decide +kernel
theorem dL_send_26 : decode cL_send 26 = .ok (.ireturn, 1) := by decide +kernel
theorem dL_size_0 : decode cL_size 0 = .ok (.aload_n 2, 1) := by decide +kernel
theorem dL_size_1 : decode cL_size 1 = .ok (.iconst 0, 1) := by decide +kernel
theorem dL_size_2 : decode cL_size 2 = .ok (.aload_n 0, 1) := by decide +kernel
theorem dL_size_3 : decode cL_size 3 = .ok (.iload_n 1, 1) := by decide +kernel
theorem dL_size_4 : decode cL_size 4 = .ok (.invokevirtual 25, 3) := by decide +kernel
theorem dL_size_7 : decode cL_size 7 = .ok (.i2l, 1) := by decide +kernel
theorem dL_size_8 : decode cL_size 8 = .ok (.lastore, 1) := by decide +kernel
theorem dL_size_9 : decode cL_size 9 = .ok (.goto 6, 3) := by decide +kernel
theorem dL_size_12 : decode cL_size 12 = .ok (.astore_n 3, 1) := by decide +kernel
theorem dL_size_13 : decode cL_size 13 = .ok (.iconst 1, 1) := by decide +kernel
theorem dL_size_14 : decode cL_size 14 = .ok (.ireturn, 1) := by decide +kernel
theorem dL_size_15 : decode cL_size 15 = .ok (.iconst 0, 1) := by decide +kernel
theorem dL_size_16 : decode cL_size 16 = .ok (.ireturn, 1) := by decide +kernel
theorem dL_byteAt_0 : decode cL_byteAt 0 = .ok (.aload_n 3, 1) := by decide +kernel
theorem dL_byteAt_1 : decode cL_byteAt 1 = .ok (.iconst 0, 1) := by decide +kernel
theorem dL_byteAt_2 : decode cL_byteAt 2 = .ok (.aload_n 0, 1) := by decide +kernel
theorem dL_byteAt_3 : decode cL_byteAt 3 = .ok (.iload_n 1, 1) := by decide +kernel
theorem dL_byteAt_4 : decode cL_byteAt 4 = .ok (.iload_n 2, 1) := by decide +kernel
theorem dL_byteAt_5 : decode cL_byteAt 5 = .ok (.invokevirtual 29, 3) := by decide +kernel
theorem dL_byteAt_8 : decode cL_byteAt 8 = .ok (.i2l, 1) := by decide +kernel
theorem dL_byteAt_9 : decode cL_byteAt 9 = .ok (.lastore, 1) := by decide +kernel
theorem dL_byteAt_10 : decode cL_byteAt 10 = .ok (.goto 7, 3) := by decide +kernel
theorem dL_byteAt_13 : decode cL_byteAt 13 = .ok (.astore 4, 2) := by decide +kernel
theorem dL_byteAt_15 : decode cL_byteAt 15 = .ok (.iconst 1, 1) := by decide +kernel
theorem dL_byteAt_16 : decode cL_byteAt 16 = .ok (.ireturn, 1) := by decide +kernel
theorem dL_byteAt_17 : decode cL_byteAt 17 = .ok (.iconst 0, 1) := by decide +kernel
theorem dL_byteAt_18 : decode cL_byteAt 18 = .ok (.ireturn, 1) := by decide +kernel
theorem dL_spoil_0 : decode cL_spoil 0 = .ok (.aload_n 0, 1) := by decide +kernel
theorem dL_spoil_1 : decode cL_spoil 1 = .ok (.iload_n 1, 1) := by decide +kernel
theorem dL_spoil_2 : decode cL_spoil 2 = .ok (.iload_n 2, 1) := by decide +kernel
theorem dL_spoil_3 : decode cL_spoil 3 = .ok (.iload_n 3, 1) := by decide +kernel
theorem dL_spoil_4 : decode cL_spoil 4 = .ok (.invokevirtual 33, 3) := by decide +kernel
theorem dL_spoil_7 : decode cL_spoil 7 = .ok (.goto 11, 3) := by decide +kernel
theorem dL_spoil_10 : decode cL_spoil 10 = .ok (.astore 4, 2) := by decide +kernel
theorem dL_spoil_12 : decode cL_spoil 12 = .ok (.iconst 1, 1) := by decide +kernel
theorem dL_spoil_13 : decode cL_spoil 13 = .ok (.ireturn, 1) := by decide +kernel
theorem dL_spoil_14 : decode cL_spoil 14 = .ok (.astore 4, 2) := by decide +kernel
theorem dL_spoil_16 : decode cL_spoil 16 = .ok (.iconst 2, 1) := by decide +kernel
theorem dL_spoil_17 : decode cL_spoil 17 = .ok (.ireturn, 1) := by decide +kernel
theorem dL_spoil_18 : decode cL_spoil 18 = .ok (.iconst 0, 1) := by decide +kernel
theorem dL_spoil_19 : decode cL_spoil 19 = .ok (.ireturn, 1) := by decide +kernel
theorem dL_lose_0 : decode cL_lose 0 = .ok (.aload_n 0, 1) := by decide +kernel
theorem dL_lose_1 : decode cL_lose 1 = .ok (.iload_n 1, 1) := by decide +kernel
theorem dL_lose_2 : decode cL_lose 2 = .ok (.invokevirtual 37, 3) := by decide +kernel
theorem dL_lose_5 : decode cL_lose 5 = .ok (.goto 6, 3) := by decide +kernel
theorem dL_lose_8 : decode cL_lose 8 = .ok (.astore_n 2, 1) := by decide +kernel
theorem dL_lose_9 : decode cL_lose 9 = .ok (.iconst 1, 1) := by decide +kernel
theorem dL_lose_10 : decode cL_lose 10 = .ok (.ireturn, 1) := by decide +kernel
theorem dL_lose_11 : decode cL_lose 11 = .ok (.iconst 0, 1) := by decide +kernel
theorem dL_lose_12 : decode cL_lose 12 = .ok (.ireturn, 1) := by decide +kernel
theorem dL_deliver_0 : decode cL_deliver 0 = .ok (.aload_n 2, 1) := by decide +kernel
theorem dL_deliver_1 : decode cL_deliver 1 = .ok (.iconst 0, 1) := by decide +kernel
theorem dL_deliver_2 : decode cL_deliver 2 = .ok (.aload_n 0, 1) := by decide +kernel
theorem dL_deliver_3 : decode cL_deliver 3 = .ok (.iload_n 1, 1) := by decide +kernel
theorem dL_deliver_4 : decode cL_deliver 4 = .ok (.invokevirtual 41, 3) := by decide +kernel
theorem dL_deliver_7 : decode cL_deliver 7 = .ok (.i2l, 1) := by decide +kernel
theorem dL_deliver_8 : decode cL_deliver 8 = .ok (.lastore, 1) := by decide +kernel
theorem dL_deliver_9 : decode cL_deliver 9 = .ok (.goto 15, 3) := by decide +kernel
theorem dL_deliver_12 : decode cL_deliver 12 = .ok (.astore_n 3, 1) := by decide +kernel
theorem dL_deliver_13 : decode cL_deliver 13 = .ok (.iconst 1, 1) := by decide +kernel
theorem dL_deliver_14 : decode cL_deliver 14 = .ok (.ireturn, 1) := by decide +kernel
theorem dL_deliver_15 : decode cL_deliver 15 = .ok (.astore_n 3, 1) := by decide +kernel
theorem dL_deliver_16 : decode cL_deliver 16 = .ok (.iconst 2, 1) := by decide +kernel
theorem dL_deliver_17 : decode cL_deliver 17 = .ok (.ireturn, 1) := by decide +kernel
theorem dL_deliver_18 : decode cL_deliver 18 = .ok (.astore_n 3, 1) := by decide +kernel
theorem dL_deliver_19 : decode cL_deliver 19 = .ok (.iconst 3, 1) := by decide +kernel
theorem dL_deliver_20 : decode cL_deliver 20 = .ok (.ireturn, 1) := by decide +kernel
theorem dL_deliver_21 : decode cL_deliver 21 = .ok (.astore_n 3, 1) := by decide +kernel
theorem dL_deliver_22 : decode cL_deliver 22 = .ok (.iconst 4, 1) := by decide +kernel
theorem dL_deliver_23 : decode cL_deliver 23 = .ok (.ireturn, 1) := by decide +kernel
theorem dL_deliver_24 : decode cL_deliver 24 = .ok (.iconst 0, 1) := by decide +kernel
theorem dL_deliver_25 : decode cL_deliver 25 = .ok (.ireturn, 1) := by decide +kernel
theorem dL_made_0 : decode cL_made 0 = .ok (.aload_n 2, 1) := by decide +kernel
theorem dL_made_1 : decode cL_made 1 = .ok (.iconst 0, 1) := by decide +kernel
theorem dL_made_2 : decode cL_made 2 = .ok (.aload_n 0, 1) := by decide +kernel
theorem dL_made_3 : decode cL_made 3 = .ok (.iload_n 1, 1) := by decide +kernel
theorem dL_made_4 : decode cL_made 4 = .ok (.invokevirtual 48, 3) := by decide +kernel
theorem dL_made_7 : decode cL_made 7 = .ok (.i2l, 1) := by decide +kernel
theorem dL_made_8 : decode cL_made 8 = .ok (.lastore, 1) := by decide +kernel
theorem dL_made_9 : decode cL_made 9 = .ok (.goto 6, 3) := by decide +kernel
theorem dL_made_12 : decode cL_made 12 = .ok (.astore_n 3, 1) := by decide +kernel
theorem dL_made_13 : decode cL_made 13 = .ok (.iconst 1, 1) := by decide +kernel
theorem dL_made_14 : decode cL_made 14 = .ok (.ireturn, 1) := by decide +kernel
theorem dL_made_15 : decode cL_made 15 = .ok (.iconst 0, 1) := by decide +kernel
theorem dL_made_16 : decode cL_made 16 = .ok (.ireturn, 1) := by decide +kernel
theorem dL_sender_0 : decode cL_sender 0 = .ok (.aload_n 3, 1) := by decide +kernel
theorem dL_sender_1 : decode cL_sender 1 = .ok (.iconst 0, 1) := by decide +kernel
theorem dL_sender_2 : decode cL_sender 2 = .ok (.aload_n 0, 1) := by decide +kernel
theorem dL_sender_3 : decode cL_sender 3 = .ok (.iload_n 1, 1) := by decide +kernel
theorem dL_sender_4 : decode cL_sender 4 = .ok (.iload_n 2, 1) := by decide +kernel
theorem dL_sender_5 : decode cL_sender 5 = .ok (.invokevirtual 51, 3) := by decide +kernel
theorem dL_sender_8 : decode cL_sender 8 = .ok (.i2l, 1) := by decide +kernel
theorem dL_sender_9 : decode cL_sender 9 = .ok (.lastore, 1) := by decide +kernel
theorem dL_sender_10 : decode cL_sender 10 = .ok (.goto 11, 3) := by decide +kernel
theorem dL_sender_13 : decode cL_sender 13 = .ok (.astore 4, 2) := by decide +kernel
theorem dL_sender_15 : decode cL_sender 15 = .ok (.iconst 1, 1) := by decide +kernel
theorem dL_sender_16 : decode cL_sender 16 = .ok (.ireturn, 1) := by decide +kernel
theorem dL_sender_17 : decode cL_sender 17 = .ok (.astore 4, 2) := by decide +kernel
theorem dL_sender_19 : decode cL_sender 19 = .ok (.iconst 2, 1) := by decide +kernel
theorem dL_sender_20 : decode cL_sender 20 = .ok (.ireturn, 1) := by decide +kernel
theorem dL_sender_21 : decode cL_sender 21 = .ok (.iconst 0, 1) := by decide +kernel
theorem dL_sender_22 : decode cL_sender 22 = .ok (.ireturn, 1) := by decide +kernel
end
section
theorem dL_receiver_0 : decode cL_receiver 0 = .ok (.aload_n 3, 1) := by decide +kernel
theorem dL_receiver_1 : decode cL_receiver 1 = .ok (.iconst 0, 1) := by decide +kernel
theorem dL_receiver_2 : decode cL_receiver 2 = .ok (.aload_n 0, 1) := by decide +kernel
theorem dL_receiver_3 : decode cL_receiver 3 = .ok (.iload_n 1, 1) := by decide +kernel
theorem dL_receiver_4 : decode cL_receiver 4 = .ok (.iload_n 2, 1) := by decide +kernel
theorem dL_receiver_5 : decode cL_receiver 5 = .ok (.invokevirtual 54, 3) := by decide +kernel
theorem dL_receiver_8 : decode cL_receiver 8 = .ok (.i2l, 1) := by decide +kernel
theorem dL_receiver_9 : decode cL_receiver 9 = .ok (.lastore, 1) := by decide +kernel
theorem dL_receiver_10 : decode cL_receiver 10 = .ok (.goto 11, 3) := by decide +kernel
theorem dL_receiver_13 : decode cL_receiver 13 = .ok (.astore 4, 2) := by decide +kernel
theorem dL_receiver_15 : decode cL_receiver 15 = .ok (.iconst 1, 1) := by decide +kernel
theorem dL_receiver_16 : decode cL_receiver 16 = .ok (.ireturn, 1) := by decide +kernel
theorem dL_receiver_17 : decode cL_receiver 17 = .ok (.astore 4, 2) := by decide +kernel
theorem dL_receiver_19 : decode cL_receiver 19 = .ok (.iconst 2, 1) := by decide +kernel
theorem dL_receiver_20 : decode cL_receiver 20 = .ok (.ireturn, 1) := by decide +kernel
theorem dL_receiver_21 : decode cL_receiver 21 = .ok (.iconst 0, 1) := by decide +kernel
theorem dL_receiver_22 : decode cL_receiver 22 = .ok (.ireturn, 1) := by decide +kernel
theorem dL_count_0 : decode cL_count 0 = .ok (.aload_n 2, 1) := by decide +kernel
theorem dL_count_1 : decode cL_count 1 = .ok (.iconst 0, 1) := by decide +kernel
theorem dL_count_2 : decode cL_count 2 = .ok (.aload_n 0, 1) := by decide +kernel
theorem dL_count_3 : decode cL_count 3 = .ok (.iload_n 1, 1) := by decide +kernel
theorem dL_count_4 : decode cL_count 4 = .ok (.invokevirtual 57, 3) := by decide +kernel
theorem dL_count_7 : decode cL_count 7 = .ok (.i2l, 1) := by decide +kernel
theorem dL_count_8 : decode cL_count 8 = .ok (.lastore, 1) := by decide +kernel
theorem dL_count_9 : decode cL_count 9 = .ok (.goto 6, 3) := by decide +kernel
theorem dL_count_12 : decode cL_count 12 = .ok (.astore_n 3, 1) := by decide +kernel
theorem dL_count_13 : decode cL_count 13 = .ok (.iconst 1, 1) := by decide +kernel
theorem dL_count_14 : decode cL_count 14 = .ok (.ireturn, 1) := by decide +kernel
theorem dL_count_15 : decode cL_count 15 = .ok (.iconst 0, 1) := by decide +kernel
theorem dL_count_16 : decode cL_count 16 = .ok (.ireturn, 1) := by decide +kernel
theorem dL_law_0 : decode cL_law 0 = .ok (.new 8, 3) := by decide +kernel
theorem dL_law_3 : decode cL_law 3 = .ok (.dup, 1) := by decide +kernel
theorem dL_law_4 : decode cL_law 4 = .ok (.invokespecial 60, 3) := by decide +kernel
theorem dL_law_7 : decode cL_law 7 = .ok (.astore_n 1, 1) := by decide +kernel
theorem dL_law_8 : decode cL_law 8 = .ok (.new 61, 3) := by decide +kernel
theorem dL_law_11 : decode cL_law 11 = .ok (.dup, 1) := by decide +kernel
theorem dL_law_12 : decode cL_law 12 = .ok (.invokespecial 63, 3) := by decide +kernel
theorem dL_law_15 : decode cL_law 15 = .ok (.astore_n 2, 1) := by decide +kernel
theorem dL_law_16 : decode cL_law 16 = .ok (.iconst 1, 1) := by decide +kernel
theorem dL_law_17 : decode cL_law 17 = .ok (.newarray .long, 2) := by decide +kernel
theorem dL_law_19 : decode cL_law 19 = .ok (.astore_n 3, 1) := by decide +kernel
theorem dL_law_20 : decode cL_law 20 = .ok (.iconst 0, 1) := by decide +kernel
theorem dL_law_21 : decode cL_law 21 = .ok (.istore 4, 2) := by decide +kernel
theorem dL_law_23 : decode cL_law 23 = .ok (.iload 4, 2) := by decide +kernel
theorem dL_law_25 : decode cL_law 25 = .ok (.aload_n 0, 1) := by decide +kernel
theorem dL_law_26 : decode cL_law 26 = .ok (.arraylength, 1) := by decide +kernel
theorem dL_law_27 : decode cL_law 27 = .ok (.iconst 5, 1) := by decide +kernel
theorem dL_law_28 : decode cL_law 28 = .ok (.isub, 1) := by decide +kernel
theorem dL_law_29 : decode cL_law 29 = .ok (.if_icmp .gt 834, 3) := by decide +kernel
theorem dL_law_32 : decode cL_law 32 = .ok (.aload_n 0, 1) := by decide +kernel
theorem dL_law_33 : decode cL_law 33 = .ok (.iload 4, 2) := by decide +kernel
theorem dL_law_35 : decode cL_law 35 = .ok (.iaload, 1) := by decide +kernel
theorem dL_law_36 : decode cL_law 36 = .ok (.bipush 15, 2) := by decide +kernel
theorem dL_law_38 : decode cL_law 38 = .ok (.iand, 1) := by decide +kernel
theorem dL_law_39 : decode cL_law 39 = .ok (.tableswitch 818 0 12 #[65, 113, 189, 281, 294, 350, 418, 478, 514, 570, 626, 694, 762], 65) := by decide +kernel
theorem dL_law_104 : decode cL_law 104 = .ok (.aload_n 1, 1) := by decide +kernel
theorem dL_law_105 : decode cL_law 105 = .ok (.aload_n 0, 1) := by decide +kernel
theorem dL_law_106 : decode cL_law 106 = .ok (.iload 4, 2) := by decide +kernel
theorem dL_law_108 : decode cL_law 108 = .ok (.iconst 1, 1) := by decide +kernel
theorem dL_law_109 : decode cL_law 109 = .ok (.iadd, 1) := by decide +kernel
theorem dL_law_110 : decode cL_law 110 = .ok (.iaload, 1) := by decide +kernel
theorem dL_law_111 : decode cL_law 111 = .ok (.aload_n 0, 1) := by decide +kernel
theorem dL_law_112 : decode cL_law 112 = .ok (.iload 4, 2) := by decide +kernel
theorem dL_law_114 : decode cL_law 114 = .ok (.iconst 2, 1) := by decide +kernel
theorem dL_law_115 : decode cL_law 115 = .ok (.iadd, 1) := by decide +kernel
theorem dL_law_116 : decode cL_law 116 = .ok (.iaload, 1) := by decide +kernel
theorem dL_law_117 : decode cL_law 117 = .ok (.invokestatic 64, 3) := by decide +kernel
theorem dL_law_120 : decode cL_law 120 = .ok (.istore 5, 2) := by decide +kernel
theorem dL_law_122 : decode cL_law 122 = .ok (.aload_n 2, 1) := by decide +kernel
theorem dL_law_123 : decode cL_law 123 = .ok (.aload_n 0, 1) := by decide +kernel
theorem dL_law_124 : decode cL_law 124 = .ok (.iload 4, 2) := by decide +kernel
theorem dL_law_126 : decode cL_law 126 = .ok (.iconst 1, 1) := by decide +kernel
theorem dL_law_127 : decode cL_law 127 = .ok (.iadd, 1) := by decide +kernel
theorem dL_law_128 : decode cL_law 128 = .ok (.iaload, 1) := by decide +kernel
theorem dL_law_129 : decode cL_law 129 = .ok (.aload_n 0, 1) := by decide +kernel
theorem dL_law_130 : decode cL_law 130 = .ok (.iload 4, 2) := by decide +kernel
theorem dL_law_132 : decode cL_law 132 = .ok (.iconst 2, 1) := by decide +kernel
theorem dL_law_133 : decode cL_law 133 = .ok (.iadd, 1) := by decide +kernel
theorem dL_law_134 : decode cL_law 134 = .ok (.iaload, 1) := by decide +kernel
theorem dL_law_135 : decode cL_law 135 = .ok (.invokevirtual 69, 3) := by decide +kernel
theorem dL_law_138 : decode cL_law 138 = .ok (.aload_n 2, 1) := by decide +kernel
theorem dL_law_139 : decode cL_law 139 = .ok (.invokevirtual 70, 3) := by decide +kernel
theorem dL_law_142 : decode cL_law 142 = .ok (.iload 5, 2) := by decide +kernel
theorem dL_law_144 : decode cL_law 144 = .ok (.if_icmp .eq 5, 3) := by decide +kernel
theorem dL_law_147 : decode cL_law 147 = .ok (.iconst 0, 1) := by decide +kernel
theorem dL_law_148 : decode cL_law 148 = .ok (.ireturn, 1) := by decide +kernel
theorem dL_law_149 : decode cL_law 149 = .ok (.goto 708, 3) := by decide +kernel
theorem dL_law_152 : decode cL_law 152 = .ok (.aload_n 1, 1) := by decide +kernel
theorem dL_law_153 : decode cL_law 153 = .ok (.aload_n 0, 1) := by decide +kernel
theorem dL_law_154 : decode cL_law 154 = .ok (.iload 4, 2) := by decide +kernel
theorem dL_law_156 : decode cL_law 156 = .ok (.iconst 1, 1) := by decide +kernel
theorem dL_law_157 : decode cL_law 157 = .ok (.iadd, 1) := by decide +kernel
theorem dL_law_158 : decode cL_law 158 = .ok (.iaload, 1) := by decide +kernel
theorem dL_law_159 : decode cL_law 159 = .ok (.aload_n 0, 1) := by decide +kernel
theorem dL_law_160 : decode cL_law 160 = .ok (.iload 4, 2) := by decide +kernel
theorem dL_law_162 : decode cL_law 162 = .ok (.iconst 2, 1) := by decide +kernel
theorem dL_law_163 : decode cL_law 163 = .ok (.iadd, 1) := by decide +kernel
theorem dL_law_164 : decode cL_law 164 = .ok (.iaload, 1) := by decide +kernel
theorem dL_law_165 : decode cL_law 165 = .ok (.aload_n 0, 1) := by decide +kernel
theorem dL_law_166 : decode cL_law 166 = .ok (.iload 4, 2) := by decide +kernel
theorem dL_law_168 : decode cL_law 168 = .ok (.iconst 3, 1) := by decide +kernel
theorem dL_law_169 : decode cL_law 169 = .ok (.iadd, 1) := by decide +kernel
theorem dL_law_170 : decode cL_law 170 = .ok (.iaload, 1) := by decide +kernel
theorem dL_law_171 : decode cL_law 171 = .ok (.ifCond .eq 7, 3) := by decide +kernel
theorem dL_law_174 : decode cL_law 174 = .ok (.iconst 1, 1) := by decide +kernel
theorem dL_law_175 : decode cL_law 175 = .ok (.goto 4, 3) := by decide +kernel
theorem dL_law_178 : decode cL_law 178 = .ok (.iconst 0, 1) := by decide +kernel
theorem dL_law_179 : decode cL_law 179 = .ok (.invokestatic 74, 3) := by decide +kernel
theorem dL_law_182 : decode cL_law 182 = .ok (.istore 5, 2) := by decide +kernel
theorem dL_law_184 : decode cL_law 184 = .ok (.aload_n 2, 1) := by decide +kernel
theorem dL_law_185 : decode cL_law 185 = .ok (.aload_n 0, 1) := by decide +kernel
theorem dL_law_186 : decode cL_law 186 = .ok (.iload 4, 2) := by decide +kernel
theorem dL_law_188 : decode cL_law 188 = .ok (.iconst 1, 1) := by decide +kernel
theorem dL_law_189 : decode cL_law 189 = .ok (.iadd, 1) := by decide +kernel
theorem dL_law_190 : decode cL_law 190 = .ok (.iaload, 1) := by decide +kernel
theorem dL_law_191 : decode cL_law 191 = .ok (.aload_n 0, 1) := by decide +kernel
theorem dL_law_192 : decode cL_law 192 = .ok (.iload 4, 2) := by decide +kernel
theorem dL_law_194 : decode cL_law 194 = .ok (.iconst 2, 1) := by decide +kernel
theorem dL_law_195 : decode cL_law 195 = .ok (.iadd, 1) := by decide +kernel
theorem dL_law_196 : decode cL_law 196 = .ok (.iaload, 1) := by decide +kernel
theorem dL_law_197 : decode cL_law 197 = .ok (.aload_n 0, 1) := by decide +kernel
theorem dL_law_198 : decode cL_law 198 = .ok (.iload 4, 2) := by decide +kernel
theorem dL_law_200 : decode cL_law 200 = .ok (.iconst 3, 1) := by decide +kernel
theorem dL_law_201 : decode cL_law 201 = .ok (.iadd, 1) := by decide +kernel
theorem dL_law_202 : decode cL_law 202 = .ok (.iaload, 1) := by decide +kernel
theorem dL_law_203 : decode cL_law 203 = .ok (.ifCond .eq 7, 3) := by decide +kernel
theorem dL_law_206 : decode cL_law 206 = .ok (.iconst 1, 1) := by decide +kernel
theorem dL_law_207 : decode cL_law 207 = .ok (.goto 4, 3) := by decide +kernel
theorem dL_law_210 : decode cL_law 210 = .ok (.iconst 0, 1) := by decide +kernel
theorem dL_law_211 : decode cL_law 211 = .ok (.invokevirtual 77, 3) := by decide +kernel
theorem dL_law_214 : decode cL_law 214 = .ok (.aload_n 2, 1) := by decide +kernel
theorem dL_law_215 : decode cL_law 215 = .ok (.invokevirtual 70, 3) := by decide +kernel
theorem dL_law_218 : decode cL_law 218 = .ok (.iload 5, 2) := by decide +kernel
theorem dL_law_220 : decode cL_law 220 = .ok (.if_icmp .eq 5, 3) := by decide +kernel
theorem dL_law_223 : decode cL_law 223 = .ok (.iconst 0, 1) := by decide +kernel
theorem dL_law_224 : decode cL_law 224 = .ok (.ireturn, 1) := by decide +kernel
theorem dL_law_225 : decode cL_law 225 = .ok (.goto 632, 3) := by decide +kernel
theorem dL_law_228 : decode cL_law 228 = .ok (.aload_n 1, 1) := by decide +kernel
theorem dL_law_229 : decode cL_law 229 = .ok (.aload_n 0, 1) := by decide +kernel
theorem dL_law_230 : decode cL_law 230 = .ok (.iload 4, 2) := by decide +kernel
theorem dL_law_232 : decode cL_law 232 = .ok (.iconst 1, 1) := by decide +kernel
theorem dL_law_233 : decode cL_law 233 = .ok (.iadd, 1) := by decide +kernel
theorem dL_law_234 : decode cL_law 234 = .ok (.iaload, 1) := by decide +kernel
theorem dL_law_235 : decode cL_law 235 = .ok (.aload_n 0, 1) := by decide +kernel
theorem dL_law_236 : decode cL_law 236 = .ok (.iload 4, 2) := by decide +kernel
theorem dL_law_238 : decode cL_law 238 = .ok (.iconst 2, 1) := by decide +kernel
theorem dL_law_239 : decode cL_law 239 = .ok (.iadd, 1) := by decide +kernel
theorem dL_law_240 : decode cL_law 240 = .ok (.iaload, 1) := by decide +kernel
theorem dL_law_241 : decode cL_law 241 = .ok (.aload_n 0, 1) := by decide +kernel
theorem dL_law_242 : decode cL_law 242 = .ok (.iload 4, 2) := by decide +kernel
theorem dL_law_244 : decode cL_law 244 = .ok (.iconst 3, 1) := by decide +kernel
theorem dL_law_245 : decode cL_law 245 = .ok (.iadd, 1) := by decide +kernel
theorem dL_law_246 : decode cL_law 246 = .ok (.iaload, 1) := by decide +kernel
theorem dL_law_247 : decode cL_law 247 = .ok (.aload_n 0, 1) := by decide +kernel
theorem dL_law_248 : decode cL_law 248 = .ok (.iload 4, 2) := by decide +kernel
theorem dL_law_250 : decode cL_law 250 = .ok (.iconst 4, 1) := by decide +kernel
theorem dL_law_251 : decode cL_law 251 = .ok (.iadd, 1) := by decide +kernel
theorem dL_law_252 : decode cL_law 252 = .ok (.iaload, 1) := by decide +kernel
theorem dL_law_253 : decode cL_law 253 = .ok (.aload_n 3, 1) := by decide +kernel
theorem dL_law_254 : decode cL_law 254 = .ok (.invokestatic 78, 3) := by decide +kernel
theorem dL_law_257 : decode cL_law 257 = .ok (.istore 5, 2) := by decide +kernel
theorem dL_law_259 : decode cL_law 259 = .ok (.aload_n 2, 1) := by decide +kernel
theorem dL_law_260 : decode cL_law 260 = .ok (.aload_n 0, 1) := by decide +kernel
theorem dL_law_261 : decode cL_law 261 = .ok (.iload 4, 2) := by decide +kernel
theorem dL_law_263 : decode cL_law 263 = .ok (.iconst 1, 1) := by decide +kernel
theorem dL_law_264 : decode cL_law 264 = .ok (.iadd, 1) := by decide +kernel
theorem dL_law_265 : decode cL_law 265 = .ok (.iaload, 1) := by decide +kernel
theorem dL_law_266 : decode cL_law 266 = .ok (.aload_n 0, 1) := by decide +kernel
theorem dL_law_267 : decode cL_law 267 = .ok (.iload 4, 2) := by decide +kernel
theorem dL_law_269 : decode cL_law 269 = .ok (.iconst 2, 1) := by decide +kernel
theorem dL_law_270 : decode cL_law 270 = .ok (.iadd, 1) := by decide +kernel
theorem dL_law_271 : decode cL_law 271 = .ok (.iaload, 1) := by decide +kernel
theorem dL_law_272 : decode cL_law 272 = .ok (.aload_n 0, 1) := by decide +kernel
theorem dL_law_273 : decode cL_law 273 = .ok (.iload 4, 2) := by decide +kernel
theorem dL_law_275 : decode cL_law 275 = .ok (.iconst 3, 1) := by decide +kernel
theorem dL_law_276 : decode cL_law 276 = .ok (.iadd, 1) := by decide +kernel
theorem dL_law_277 : decode cL_law 277 = .ok (.iaload, 1) := by decide +kernel
theorem dL_law_278 : decode cL_law 278 = .ok (.aload_n 0, 1) := by decide +kernel
theorem dL_law_279 : decode cL_law 279 = .ok (.iload 4, 2) := by decide +kernel
theorem dL_law_281 : decode cL_law 281 = .ok (.iconst 4, 1) := by decide +kernel
theorem dL_law_282 : decode cL_law 282 = .ok (.iadd, 1) := by decide +kernel
theorem dL_law_283 : decode cL_law 283 = .ok (.iaload, 1) := by decide +kernel
theorem dL_law_284 : decode cL_law 284 = .ok (.invokevirtual 81, 3) := by decide +kernel
theorem dL_law_287 : decode cL_law 287 = .ok (.istore 6, 2) := by decide +kernel
theorem dL_law_289 : decode cL_law 289 = .ok (.aload_n 2, 1) := by decide +kernel
theorem dL_law_290 : decode cL_law 290 = .ok (.invokevirtual 70, 3) := by decide +kernel
theorem dL_law_293 : decode cL_law 293 = .ok (.iload 5, 2) := by decide +kernel
theorem dL_law_295 : decode cL_law 295 = .ok (.if_icmp .eq 5, 3) := by decide +kernel
theorem dL_law_298 : decode cL_law 298 = .ok (.iconst 0, 1) := by decide +kernel
theorem dL_law_299 : decode cL_law 299 = .ok (.ireturn, 1) := by decide +kernel
theorem dL_law_300 : decode cL_law 300 = .ok (.iload 5, 2) := by decide +kernel
theorem dL_law_302 : decode cL_law 302 = .ok (.ifCond .ne 15, 3) := by decide +kernel
theorem dL_law_305 : decode cL_law 305 = .ok (.aload_n 3, 1) := by decide +kernel
theorem dL_law_306 : decode cL_law 306 = .ok (.iconst 0, 1) := by decide +kernel
theorem dL_law_307 : decode cL_law 307 = .ok (.laload, 1) := by decide +kernel
theorem dL_law_308 : decode cL_law 308 = .ok (.iload 6, 2) := by decide +kernel
theorem dL_law_310 : decode cL_law 310 = .ok (.i2l, 1) := by decide +kernel
theorem dL_law_311 : decode cL_law 311 = .ok (.lcmp, 1) := by decide +kernel
theorem dL_law_312 : decode cL_law 312 = .ok (.ifCond .eq 5, 3) := by decide +kernel
theorem dL_law_315 : decode cL_law 315 = .ok (.iconst 0, 1) := by decide +kernel
theorem dL_law_316 : decode cL_law 316 = .ok (.ireturn, 1) := by decide +kernel
theorem dL_law_317 : decode cL_law 317 = .ok (.goto 540, 3) := by decide +kernel
theorem dL_law_320 : decode cL_law 320 = .ok (.aload_n 1, 1) := by decide +kernel
theorem dL_law_321 : decode cL_law 321 = .ok (.invokevirtual 82, 3) := by decide +kernel
theorem dL_law_324 : decode cL_law 324 = .ok (.aload_n 2, 1) := by decide +kernel
theorem dL_law_325 : decode cL_law 325 = .ok (.invokevirtual 85, 3) := by decide +kernel
theorem dL_law_328 : decode cL_law 328 = .ok (.if_icmp .eq 529, 3) := by decide +kernel
theorem dL_law_331 : decode cL_law 331 = .ok (.iconst 0, 1) := by decide +kernel
theorem dL_law_332 : decode cL_law 332 = .ok (.ireturn, 1) := by decide +kernel
theorem dL_law_333 : decode cL_law 333 = .ok (.aload_n 1, 1) := by decide +kernel
theorem dL_law_334 : decode cL_law 334 = .ok (.aload_n 0, 1) := by decide +kernel
theorem dL_law_335 : decode cL_law 335 = .ok (.iload 4, 2) := by decide +kernel
theorem dL_law_337 : decode cL_law 337 = .ok (.iconst 1, 1) := by decide +kernel
theorem dL_law_338 : decode cL_law 338 = .ok (.iadd, 1) := by decide +kernel
theorem dL_law_339 : decode cL_law 339 = .ok (.iaload, 1) := by decide +kernel
theorem dL_law_340 : decode cL_law 340 = .ok (.aload_n 3, 1) := by decide +kernel
theorem dL_law_341 : decode cL_law 341 = .ok (.invokestatic 86, 3) := by decide +kernel
theorem dL_law_344 : decode cL_law 344 = .ok (.istore 5, 2) := by decide +kernel
theorem dL_law_346 : decode cL_law 346 = .ok (.aload_n 2, 1) := by decide +kernel
theorem dL_law_347 : decode cL_law 347 = .ok (.aload_n 0, 1) := by decide +kernel
theorem dL_law_348 : decode cL_law 348 = .ok (.iload 4, 2) := by decide +kernel
theorem dL_law_350 : decode cL_law 350 = .ok (.iconst 1, 1) := by decide +kernel
theorem dL_law_351 : decode cL_law 351 = .ok (.iadd, 1) := by decide +kernel
theorem dL_law_352 : decode cL_law 352 = .ok (.iaload, 1) := by decide +kernel
theorem dL_law_353 : decode cL_law 353 = .ok (.invokevirtual 89, 3) := by decide +kernel
theorem dL_law_356 : decode cL_law 356 = .ok (.istore 6, 2) := by decide +kernel
theorem dL_law_358 : decode cL_law 358 = .ok (.aload_n 2, 1) := by decide +kernel
theorem dL_law_359 : decode cL_law 359 = .ok (.invokevirtual 70, 3) := by decide +kernel
theorem dL_law_362 : decode cL_law 362 = .ok (.iload 5, 2) := by decide +kernel
theorem dL_law_364 : decode cL_law 364 = .ok (.if_icmp .eq 5, 3) := by decide +kernel
theorem dL_law_367 : decode cL_law 367 = .ok (.iconst 0, 1) := by decide +kernel
theorem dL_law_368 : decode cL_law 368 = .ok (.ireturn, 1) := by decide +kernel
theorem dL_law_369 : decode cL_law 369 = .ok (.iload 5, 2) := by decide +kernel
theorem dL_law_371 : decode cL_law 371 = .ok (.ifCond .ne 15, 3) := by decide +kernel
theorem dL_law_374 : decode cL_law 374 = .ok (.aload_n 3, 1) := by decide +kernel
theorem dL_law_375 : decode cL_law 375 = .ok (.iconst 0, 1) := by decide +kernel
theorem dL_law_376 : decode cL_law 376 = .ok (.laload, 1) := by decide +kernel
theorem dL_law_377 : decode cL_law 377 = .ok (.iload 6, 2) := by decide +kernel
theorem dL_law_379 : decode cL_law 379 = .ok (.i2l, 1) := by decide +kernel
theorem dL_law_380 : decode cL_law 380 = .ok (.lcmp, 1) := by decide +kernel
theorem dL_law_381 : decode cL_law 381 = .ok (.ifCond .eq 5, 3) := by decide +kernel
theorem dL_law_384 : decode cL_law 384 = .ok (.iconst 0, 1) := by decide +kernel
theorem dL_law_385 : decode cL_law 385 = .ok (.ireturn, 1) := by decide +kernel
theorem dL_law_386 : decode cL_law 386 = .ok (.goto 471, 3) := by decide +kernel
theorem dL_law_389 : decode cL_law 389 = .ok (.aload_n 1, 1) := by decide +kernel
theorem dL_law_390 : decode cL_law 390 = .ok (.aload_n 0, 1) := by decide +kernel
theorem dL_law_391 : decode cL_law 391 = .ok (.iload 4, 2) := by decide +kernel
theorem dL_law_393 : decode cL_law 393 = .ok (.iconst 1, 1) := by decide +kernel
theorem dL_law_394 : decode cL_law 394 = .ok (.iadd, 1) := by decide +kernel
theorem dL_law_395 : decode cL_law 395 = .ok (.iaload, 1) := by decide +kernel
theorem dL_law_396 : decode cL_law 396 = .ok (.aload_n 0, 1) := by decide +kernel
theorem dL_law_397 : decode cL_law 397 = .ok (.iload 4, 2) := by decide +kernel
theorem dL_law_399 : decode cL_law 399 = .ok (.iconst 2, 1) := by decide +kernel
theorem dL_law_400 : decode cL_law 400 = .ok (.iadd, 1) := by decide +kernel
theorem dL_law_401 : decode cL_law 401 = .ok (.iaload, 1) := by decide +kernel
theorem dL_law_402 : decode cL_law 402 = .ok (.aload_n 3, 1) := by decide +kernel
theorem dL_law_403 : decode cL_law 403 = .ok (.invokestatic 90, 3) := by decide +kernel
theorem dL_law_406 : decode cL_law 406 = .ok (.istore 5, 2) := by decide +kernel
theorem dL_law_408 : decode cL_law 408 = .ok (.aload_n 2, 1) := by decide +kernel
theorem dL_law_409 : decode cL_law 409 = .ok (.aload_n 0, 1) := by decide +kernel
theorem dL_law_410 : decode cL_law 410 = .ok (.iload 4, 2) := by decide +kernel
theorem dL_law_412 : decode cL_law 412 = .ok (.iconst 1, 1) := by decide +kernel
theorem dL_law_413 : decode cL_law 413 = .ok (.iadd, 1) := by decide +kernel
theorem dL_law_414 : decode cL_law 414 = .ok (.iaload, 1) := by decide +kernel
theorem dL_law_415 : decode cL_law 415 = .ok (.aload_n 0, 1) := by decide +kernel
theorem dL_law_416 : decode cL_law 416 = .ok (.iload 4, 2) := by decide +kernel
theorem dL_law_418 : decode cL_law 418 = .ok (.iconst 2, 1) := by decide +kernel
theorem dL_law_419 : decode cL_law 419 = .ok (.iadd, 1) := by decide +kernel
theorem dL_law_420 : decode cL_law 420 = .ok (.iaload, 1) := by decide +kernel
theorem dL_law_421 : decode cL_law 421 = .ok (.invokevirtual 93, 3) := by decide +kernel
theorem dL_law_424 : decode cL_law 424 = .ok (.istore 6, 2) := by decide +kernel
theorem dL_law_426 : decode cL_law 426 = .ok (.aload_n 2, 1) := by decide +kernel
theorem dL_law_427 : decode cL_law 427 = .ok (.invokevirtual 70, 3) := by decide +kernel
theorem dL_law_430 : decode cL_law 430 = .ok (.iload 5, 2) := by decide +kernel
theorem dL_law_432 : decode cL_law 432 = .ok (.if_icmp .eq 5, 3) := by decide +kernel
theorem dL_law_435 : decode cL_law 435 = .ok (.iconst 0, 1) := by decide +kernel
theorem dL_law_436 : decode cL_law 436 = .ok (.ireturn, 1) := by decide +kernel
theorem dL_law_437 : decode cL_law 437 = .ok (.iload 5, 2) := by decide +kernel
theorem dL_law_439 : decode cL_law 439 = .ok (.ifCond .ne 15, 3) := by decide +kernel
theorem dL_law_442 : decode cL_law 442 = .ok (.aload_n 3, 1) := by decide +kernel
theorem dL_law_443 : decode cL_law 443 = .ok (.iconst 0, 1) := by decide +kernel
theorem dL_law_444 : decode cL_law 444 = .ok (.laload, 1) := by decide +kernel
theorem dL_law_445 : decode cL_law 445 = .ok (.iload 6, 2) := by decide +kernel
theorem dL_law_447 : decode cL_law 447 = .ok (.i2l, 1) := by decide +kernel
theorem dL_law_448 : decode cL_law 448 = .ok (.lcmp, 1) := by decide +kernel
theorem dL_law_449 : decode cL_law 449 = .ok (.ifCond .eq 5, 3) := by decide +kernel
theorem dL_law_452 : decode cL_law 452 = .ok (.iconst 0, 1) := by decide +kernel
theorem dL_law_453 : decode cL_law 453 = .ok (.ireturn, 1) := by decide +kernel
theorem dL_law_454 : decode cL_law 454 = .ok (.goto 403, 3) := by decide +kernel
theorem dL_law_457 : decode cL_law 457 = .ok (.aload_n 1, 1) := by decide +kernel
theorem dL_law_458 : decode cL_law 458 = .ok (.aload_n 0, 1) := by decide +kernel
theorem dL_law_459 : decode cL_law 459 = .ok (.iload 4, 2) := by decide +kernel
theorem dL_law_461 : decode cL_law 461 = .ok (.iconst 1, 1) := by decide +kernel
theorem dL_law_462 : decode cL_law 462 = .ok (.iadd, 1) := by decide +kernel
theorem dL_law_463 : decode cL_law 463 = .ok (.iaload, 1) := by decide +kernel
theorem dL_law_464 : decode cL_law 464 = .ok (.aload_n 0, 1) := by decide +kernel
theorem dL_law_465 : decode cL_law 465 = .ok (.iload 4, 2) := by decide +kernel
theorem dL_law_467 : decode cL_law 467 = .ok (.iconst 2, 1) := by decide +kernel
theorem dL_law_468 : decode cL_law 468 = .ok (.iadd, 1) := by decide +kernel
theorem dL_law_469 : decode cL_law 469 = .ok (.iaload, 1) := by decide +kernel
theorem dL_law_470 : decode cL_law 470 = .ok (.aload_n 0, 1) := by decide +kernel
theorem dL_law_471 : decode cL_law 471 = .ok (.iload 4, 2) := by decide +kernel
theorem dL_law_473 : decode cL_law 473 = .ok (.iconst 3, 1) := by decide +kernel
theorem dL_law_474 : decode cL_law 474 = .ok (.iadd, 1) := by decide +kernel
theorem dL_law_475 : decode cL_law 475 = .ok (.iaload, 1) := by decide +kernel
theorem dL_law_476 : decode cL_law 476 = .ok (.invokestatic 94, 3) := by decide +kernel
theorem dL_law_479 : decode cL_law 479 = .ok (.istore 5, 2) := by decide +kernel
theorem dL_law_481 : decode cL_law 481 = .ok (.aload_n 2, 1) := by decide +kernel
theorem dL_law_482 : decode cL_law 482 = .ok (.aload_n 0, 1) := by decide +kernel
theorem dL_law_483 : decode cL_law 483 = .ok (.iload 4, 2) := by decide +kernel
theorem dL_law_485 : decode cL_law 485 = .ok (.iconst 1, 1) := by decide +kernel
theorem dL_law_486 : decode cL_law 486 = .ok (.iadd, 1) := by decide +kernel
theorem dL_law_487 : decode cL_law 487 = .ok (.iaload, 1) := by decide +kernel
theorem dL_law_488 : decode cL_law 488 = .ok (.aload_n 0, 1) := by decide +kernel
theorem dL_law_489 : decode cL_law 489 = .ok (.iload 4, 2) := by decide +kernel
theorem dL_law_491 : decode cL_law 491 = .ok (.iconst 2, 1) := by decide +kernel
theorem dL_law_492 : decode cL_law 492 = .ok (.iadd, 1) := by decide +kernel
theorem dL_law_493 : decode cL_law 493 = .ok (.iaload, 1) := by decide +kernel
theorem dL_law_494 : decode cL_law 494 = .ok (.aload_n 0, 1) := by decide +kernel
theorem dL_law_495 : decode cL_law 495 = .ok (.iload 4, 2) := by decide +kernel
theorem dL_law_497 : decode cL_law 497 = .ok (.iconst 3, 1) := by decide +kernel
theorem dL_law_498 : decode cL_law 498 = .ok (.iadd, 1) := by decide +kernel
theorem dL_law_499 : decode cL_law 499 = .ok (.iaload, 1) := by decide +kernel
theorem dL_law_500 : decode cL_law 500 = .ok (.invokevirtual 97, 3) := by decide +kernel
theorem dL_law_503 : decode cL_law 503 = .ok (.aload_n 2, 1) := by decide +kernel
theorem dL_law_504 : decode cL_law 504 = .ok (.invokevirtual 70, 3) := by decide +kernel
theorem dL_law_507 : decode cL_law 507 = .ok (.iload 5, 2) := by decide +kernel
theorem dL_law_509 : decode cL_law 509 = .ok (.if_icmp .eq 5, 3) := by decide +kernel
theorem dL_law_512 : decode cL_law 512 = .ok (.iconst 0, 1) := by decide +kernel
theorem dL_law_513 : decode cL_law 513 = .ok (.ireturn, 1) := by decide +kernel
theorem dL_law_514 : decode cL_law 514 = .ok (.goto 343, 3) := by decide +kernel
theorem dL_law_517 : decode cL_law 517 = .ok (.aload_n 1, 1) := by decide +kernel
theorem dL_law_518 : decode cL_law 518 = .ok (.aload_n 0, 1) := by decide +kernel
theorem dL_law_519 : decode cL_law 519 = .ok (.iload 4, 2) := by decide +kernel
theorem dL_law_521 : decode cL_law 521 = .ok (.iconst 1, 1) := by decide +kernel
theorem dL_law_522 : decode cL_law 522 = .ok (.iadd, 1) := by decide +kernel
theorem dL_law_523 : decode cL_law 523 = .ok (.iaload, 1) := by decide +kernel
theorem dL_law_524 : decode cL_law 524 = .ok (.invokestatic 98, 3) := by decide +kernel
theorem dL_law_527 : decode cL_law 527 = .ok (.istore 5, 2) := by decide +kernel
theorem dL_law_529 : decode cL_law 529 = .ok (.aload_n 2, 1) := by decide +kernel
theorem dL_law_530 : decode cL_law 530 = .ok (.aload_n 0, 1) := by decide +kernel
theorem dL_law_531 : decode cL_law 531 = .ok (.iload 4, 2) := by decide +kernel
theorem dL_law_533 : decode cL_law 533 = .ok (.iconst 1, 1) := by decide +kernel
theorem dL_law_534 : decode cL_law 534 = .ok (.iadd, 1) := by decide +kernel
theorem dL_law_535 : decode cL_law 535 = .ok (.iaload, 1) := by decide +kernel
theorem dL_law_536 : decode cL_law 536 = .ok (.invokevirtual 101, 3) := by decide +kernel
theorem dL_law_539 : decode cL_law 539 = .ok (.aload_n 2, 1) := by decide +kernel
theorem dL_law_540 : decode cL_law 540 = .ok (.invokevirtual 70, 3) := by decide +kernel
theorem dL_law_543 : decode cL_law 543 = .ok (.iload 5, 2) := by decide +kernel
theorem dL_law_545 : decode cL_law 545 = .ok (.if_icmp .eq 5, 3) := by decide +kernel
theorem dL_law_548 : decode cL_law 548 = .ok (.iconst 0, 1) := by decide +kernel
theorem dL_law_549 : decode cL_law 549 = .ok (.ireturn, 1) := by decide +kernel
theorem dL_law_550 : decode cL_law 550 = .ok (.goto 307, 3) := by decide +kernel
theorem dL_law_553 : decode cL_law 553 = .ok (.aload_n 1, 1) := by decide +kernel
theorem dL_law_554 : decode cL_law 554 = .ok (.aload_n 0, 1) := by decide +kernel
theorem dL_law_555 : decode cL_law 555 = .ok (.iload 4, 2) := by decide +kernel
theorem dL_law_557 : decode cL_law 557 = .ok (.iconst 1, 1) := by decide +kernel
theorem dL_law_558 : decode cL_law 558 = .ok (.iadd, 1) := by decide +kernel
theorem dL_law_559 : decode cL_law 559 = .ok (.iaload, 1) := by decide +kernel
theorem dL_law_560 : decode cL_law 560 = .ok (.aload_n 3, 1) := by decide +kernel
theorem dL_law_561 : decode cL_law 561 = .ok (.invokestatic 102, 3) := by decide +kernel
theorem dL_law_564 : decode cL_law 564 = .ok (.istore 5, 2) := by decide +kernel
theorem dL_law_566 : decode cL_law 566 = .ok (.aload_n 2, 1) := by decide +kernel
theorem dL_law_567 : decode cL_law 567 = .ok (.aload_n 0, 1) := by decide +kernel
theorem dL_law_568 : decode cL_law 568 = .ok (.iload 4, 2) := by decide +kernel
theorem dL_law_570 : decode cL_law 570 = .ok (.iconst 1, 1) := by decide +kernel
theorem dL_law_571 : decode cL_law 571 = .ok (.iadd, 1) := by decide +kernel
theorem dL_law_572 : decode cL_law 572 = .ok (.iaload, 1) := by decide +kernel
theorem dL_law_573 : decode cL_law 573 = .ok (.invokevirtual 104, 3) := by decide +kernel
theorem dL_law_576 : decode cL_law 576 = .ok (.istore 6, 2) := by decide +kernel
theorem dL_law_578 : decode cL_law 578 = .ok (.aload_n 2, 1) := by decide +kernel
theorem dL_law_579 : decode cL_law 579 = .ok (.invokevirtual 70, 3) := by decide +kernel
theorem dL_law_582 : decode cL_law 582 = .ok (.iload 5, 2) := by decide +kernel
theorem dL_law_584 : decode cL_law 584 = .ok (.if_icmp .eq 5, 3) := by decide +kernel
theorem dL_law_587 : decode cL_law 587 = .ok (.iconst 0, 1) := by decide +kernel
theorem dL_law_588 : decode cL_law 588 = .ok (.ireturn, 1) := by decide +kernel
theorem dL_law_589 : decode cL_law 589 = .ok (.iload 5, 2) := by decide +kernel
theorem dL_law_591 : decode cL_law 591 = .ok (.ifCond .ne 15, 3) := by decide +kernel
theorem dL_law_594 : decode cL_law 594 = .ok (.aload_n 3, 1) := by decide +kernel
theorem dL_law_595 : decode cL_law 595 = .ok (.iconst 0, 1) := by decide +kernel
theorem dL_law_596 : decode cL_law 596 = .ok (.laload, 1) := by decide +kernel
theorem dL_law_597 : decode cL_law 597 = .ok (.iload 6, 2) := by decide +kernel
theorem dL_law_599 : decode cL_law 599 = .ok (.i2l, 1) := by decide +kernel
theorem dL_law_600 : decode cL_law 600 = .ok (.lcmp, 1) := by decide +kernel
theorem dL_law_601 : decode cL_law 601 = .ok (.ifCond .eq 5, 3) := by decide +kernel
theorem dL_law_604 : decode cL_law 604 = .ok (.iconst 0, 1) := by decide +kernel
theorem dL_law_605 : decode cL_law 605 = .ok (.ireturn, 1) := by decide +kernel
theorem dL_law_606 : decode cL_law 606 = .ok (.goto 251, 3) := by decide +kernel
theorem dL_law_609 : decode cL_law 609 = .ok (.aload_n 1, 1) := by decide +kernel
theorem dL_law_610 : decode cL_law 610 = .ok (.aload_n 0, 1) := by decide +kernel
theorem dL_law_611 : decode cL_law 611 = .ok (.iload 4, 2) := by decide +kernel
theorem dL_law_613 : decode cL_law 613 = .ok (.iconst 1, 1) := by decide +kernel
theorem dL_law_614 : decode cL_law 614 = .ok (.iadd, 1) := by decide +kernel
theorem dL_law_615 : decode cL_law 615 = .ok (.iaload, 1) := by decide +kernel
theorem dL_law_616 : decode cL_law 616 = .ok (.aload_n 3, 1) := by decide +kernel
theorem dL_law_617 : decode cL_law 617 = .ok (.invokestatic 105, 3) := by decide +kernel
theorem dL_law_620 : decode cL_law 620 = .ok (.istore 5, 2) := by decide +kernel
theorem dL_law_622 : decode cL_law 622 = .ok (.aload_n 2, 1) := by decide +kernel
theorem dL_law_623 : decode cL_law 623 = .ok (.aload_n 0, 1) := by decide +kernel
theorem dL_law_624 : decode cL_law 624 = .ok (.iload 4, 2) := by decide +kernel
theorem dL_law_626 : decode cL_law 626 = .ok (.iconst 1, 1) := by decide +kernel
theorem dL_law_627 : decode cL_law 627 = .ok (.iadd, 1) := by decide +kernel
theorem dL_law_628 : decode cL_law 628 = .ok (.iaload, 1) := by decide +kernel
theorem dL_law_629 : decode cL_law 629 = .ok (.invokevirtual 107, 3) := by decide +kernel
theorem dL_law_632 : decode cL_law 632 = .ok (.istore 6, 2) := by decide +kernel
theorem dL_law_634 : decode cL_law 634 = .ok (.aload_n 2, 1) := by decide +kernel
theorem dL_law_635 : decode cL_law 635 = .ok (.invokevirtual 70, 3) := by decide +kernel
theorem dL_law_638 : decode cL_law 638 = .ok (.iload 5, 2) := by decide +kernel
theorem dL_law_640 : decode cL_law 640 = .ok (.if_icmp .eq 5, 3) := by decide +kernel
theorem dL_law_643 : decode cL_law 643 = .ok (.iconst 0, 1) := by decide +kernel
theorem dL_law_644 : decode cL_law 644 = .ok (.ireturn, 1) := by decide +kernel
theorem dL_law_645 : decode cL_law 645 = .ok (.iload 5, 2) := by decide +kernel
theorem dL_law_647 : decode cL_law 647 = .ok (.ifCond .ne 15, 3) := by decide +kernel
theorem dL_law_650 : decode cL_law 650 = .ok (.aload_n 3, 1) := by decide +kernel
theorem dL_law_651 : decode cL_law 651 = .ok (.iconst 0, 1) := by decide +kernel
theorem dL_law_652 : decode cL_law 652 = .ok (.laload, 1) := by decide +kernel
theorem dL_law_653 : decode cL_law 653 = .ok (.iload 6, 2) := by decide +kernel
theorem dL_law_655 : decode cL_law 655 = .ok (.i2l, 1) := by decide +kernel
theorem dL_law_656 : decode cL_law 656 = .ok (.lcmp, 1) := by decide +kernel
theorem dL_law_657 : decode cL_law 657 = .ok (.ifCond .eq 5, 3) := by decide +kernel
theorem dL_law_660 : decode cL_law 660 = .ok (.iconst 0, 1) := by decide +kernel
theorem dL_law_661 : decode cL_law 661 = .ok (.ireturn, 1) := by decide +kernel
theorem dL_law_662 : decode cL_law 662 = .ok (.goto 195, 3) := by decide +kernel
theorem dL_law_665 : decode cL_law 665 = .ok (.aload_n 1, 1) := by decide +kernel
theorem dL_law_666 : decode cL_law 666 = .ok (.aload_n 0, 1) := by decide +kernel
theorem dL_law_667 : decode cL_law 667 = .ok (.iload 4, 2) := by decide +kernel
theorem dL_law_669 : decode cL_law 669 = .ok (.iconst 1, 1) := by decide +kernel
theorem dL_law_670 : decode cL_law 670 = .ok (.iadd, 1) := by decide +kernel
theorem dL_law_671 : decode cL_law 671 = .ok (.iaload, 1) := by decide +kernel
theorem dL_law_672 : decode cL_law 672 = .ok (.aload_n 0, 1) := by decide +kernel
theorem dL_law_673 : decode cL_law 673 = .ok (.iload 4, 2) := by decide +kernel
theorem dL_law_675 : decode cL_law 675 = .ok (.iconst 2, 1) := by decide +kernel
theorem dL_law_676 : decode cL_law 676 = .ok (.iadd, 1) := by decide +kernel
theorem dL_law_677 : decode cL_law 677 = .ok (.iaload, 1) := by decide +kernel
theorem dL_law_678 : decode cL_law 678 = .ok (.aload_n 3, 1) := by decide +kernel
theorem dL_law_679 : decode cL_law 679 = .ok (.invokestatic 108, 3) := by decide +kernel
theorem dL_law_682 : decode cL_law 682 = .ok (.istore 5, 2) := by decide +kernel
theorem dL_law_684 : decode cL_law 684 = .ok (.aload_n 2, 1) := by decide +kernel
theorem dL_law_685 : decode cL_law 685 = .ok (.aload_n 0, 1) := by decide +kernel
theorem dL_law_686 : decode cL_law 686 = .ok (.iload 4, 2) := by decide +kernel
theorem dL_law_688 : decode cL_law 688 = .ok (.iconst 1, 1) := by decide +kernel
theorem dL_law_689 : decode cL_law 689 = .ok (.iadd, 1) := by decide +kernel
theorem dL_law_690 : decode cL_law 690 = .ok (.iaload, 1) := by decide +kernel
theorem dL_law_691 : decode cL_law 691 = .ok (.aload_n 0, 1) := by decide +kernel
theorem dL_law_692 : decode cL_law 692 = .ok (.iload 4, 2) := by decide +kernel
theorem dL_law_694 : decode cL_law 694 = .ok (.iconst 2, 1) := by decide +kernel
theorem dL_law_695 : decode cL_law 695 = .ok (.iadd, 1) := by decide +kernel
theorem dL_law_696 : decode cL_law 696 = .ok (.iaload, 1) := by decide +kernel
theorem dL_law_697 : decode cL_law 697 = .ok (.invokevirtual 110, 3) := by decide +kernel
theorem dL_law_700 : decode cL_law 700 = .ok (.istore 6, 2) := by decide +kernel
theorem dL_law_702 : decode cL_law 702 = .ok (.aload_n 2, 1) := by decide +kernel
theorem dL_law_703 : decode cL_law 703 = .ok (.invokevirtual 70, 3) := by decide +kernel
theorem dL_law_706 : decode cL_law 706 = .ok (.iload 5, 2) := by decide +kernel
theorem dL_law_708 : decode cL_law 708 = .ok (.if_icmp .eq 5, 3) := by decide +kernel
theorem dL_law_711 : decode cL_law 711 = .ok (.iconst 0, 1) := by decide +kernel
theorem dL_law_712 : decode cL_law 712 = .ok (.ireturn, 1) := by decide +kernel
theorem dL_law_713 : decode cL_law 713 = .ok (.iload 5, 2) := by decide +kernel
theorem dL_law_715 : decode cL_law 715 = .ok (.ifCond .ne 15, 3) := by decide +kernel
theorem dL_law_718 : decode cL_law 718 = .ok (.aload_n 3, 1) := by decide +kernel
theorem dL_law_719 : decode cL_law 719 = .ok (.iconst 0, 1) := by decide +kernel
theorem dL_law_720 : decode cL_law 720 = .ok (.laload, 1) := by decide +kernel
theorem dL_law_721 : decode cL_law 721 = .ok (.iload 6, 2) := by decide +kernel
theorem dL_law_723 : decode cL_law 723 = .ok (.i2l, 1) := by decide +kernel
theorem dL_law_724 : decode cL_law 724 = .ok (.lcmp, 1) := by decide +kernel
theorem dL_law_725 : decode cL_law 725 = .ok (.ifCond .eq 5, 3) := by decide +kernel
theorem dL_law_728 : decode cL_law 728 = .ok (.iconst 0, 1) := by decide +kernel
theorem dL_law_729 : decode cL_law 729 = .ok (.ireturn, 1) := by decide +kernel
theorem dL_law_730 : decode cL_law 730 = .ok (.goto 127, 3) := by decide +kernel
theorem dL_law_733 : decode cL_law 733 = .ok (.aload_n 1, 1) := by decide +kernel
theorem dL_law_734 : decode cL_law 734 = .ok (.aload_n 0, 1) := by decide +kernel
theorem dL_law_735 : decode cL_law 735 = .ok (.iload 4, 2) := by decide +kernel
theorem dL_law_737 : decode cL_law 737 = .ok (.iconst 1, 1) := by decide +kernel
theorem dL_law_738 : decode cL_law 738 = .ok (.iadd, 1) := by decide +kernel
theorem dL_law_739 : decode cL_law 739 = .ok (.iaload, 1) := by decide +kernel
theorem dL_law_740 : decode cL_law 740 = .ok (.aload_n 0, 1) := by decide +kernel
theorem dL_law_741 : decode cL_law 741 = .ok (.iload 4, 2) := by decide +kernel
theorem dL_law_743 : decode cL_law 743 = .ok (.iconst 2, 1) := by decide +kernel
theorem dL_law_744 : decode cL_law 744 = .ok (.iadd, 1) := by decide +kernel
theorem dL_law_745 : decode cL_law 745 = .ok (.iaload, 1) := by decide +kernel
theorem dL_law_746 : decode cL_law 746 = .ok (.aload_n 3, 1) := by decide +kernel
theorem dL_law_747 : decode cL_law 747 = .ok (.invokestatic 111, 3) := by decide +kernel
theorem dL_law_750 : decode cL_law 750 = .ok (.istore 5, 2) := by decide +kernel
theorem dL_law_752 : decode cL_law 752 = .ok (.aload_n 2, 1) := by decide +kernel
theorem dL_law_753 : decode cL_law 753 = .ok (.aload_n 0, 1) := by decide +kernel
theorem dL_law_754 : decode cL_law 754 = .ok (.iload 4, 2) := by decide +kernel
theorem dL_law_756 : decode cL_law 756 = .ok (.iconst 1, 1) := by decide +kernel
theorem dL_law_757 : decode cL_law 757 = .ok (.iadd, 1) := by decide +kernel
theorem dL_law_758 : decode cL_law 758 = .ok (.iaload, 1) := by decide +kernel
theorem dL_law_759 : decode cL_law 759 = .ok (.aload_n 0, 1) := by decide +kernel
theorem dL_law_760 : decode cL_law 760 = .ok (.iload 4, 2) := by decide +kernel
theorem dL_law_762 : decode cL_law 762 = .ok (.iconst 2, 1) := by decide +kernel
theorem dL_law_763 : decode cL_law 763 = .ok (.iadd, 1) := by decide +kernel
theorem dL_law_764 : decode cL_law 764 = .ok (.iaload, 1) := by decide +kernel
theorem dL_law_765 : decode cL_law 765 = .ok (.invokevirtual 113, 3) := by decide +kernel
theorem dL_law_768 : decode cL_law 768 = .ok (.istore 6, 2) := by decide +kernel
theorem dL_law_770 : decode cL_law 770 = .ok (.aload_n 2, 1) := by decide +kernel
theorem dL_law_771 : decode cL_law 771 = .ok (.invokevirtual 70, 3) := by decide +kernel
theorem dL_law_774 : decode cL_law 774 = .ok (.iload 5, 2) := by decide +kernel
theorem dL_law_776 : decode cL_law 776 = .ok (.if_icmp .eq 5, 3) := by decide +kernel
theorem dL_law_779 : decode cL_law 779 = .ok (.iconst 0, 1) := by decide +kernel
theorem dL_law_780 : decode cL_law 780 = .ok (.ireturn, 1) := by decide +kernel
theorem dL_law_781 : decode cL_law 781 = .ok (.iload 5, 2) := by decide +kernel
theorem dL_law_783 : decode cL_law 783 = .ok (.ifCond .ne 15, 3) := by decide +kernel
theorem dL_law_786 : decode cL_law 786 = .ok (.aload_n 3, 1) := by decide +kernel
theorem dL_law_787 : decode cL_law 787 = .ok (.iconst 0, 1) := by decide +kernel
theorem dL_law_788 : decode cL_law 788 = .ok (.laload, 1) := by decide +kernel
theorem dL_law_789 : decode cL_law 789 = .ok (.iload 6, 2) := by decide +kernel
theorem dL_law_791 : decode cL_law 791 = .ok (.i2l, 1) := by decide +kernel
theorem dL_law_792 : decode cL_law 792 = .ok (.lcmp, 1) := by decide +kernel
theorem dL_law_793 : decode cL_law 793 = .ok (.ifCond .eq 5, 3) := by decide +kernel
theorem dL_law_796 : decode cL_law 796 = .ok (.iconst 0, 1) := by decide +kernel
theorem dL_law_797 : decode cL_law 797 = .ok (.ireturn, 1) := by decide +kernel
theorem dL_law_798 : decode cL_law 798 = .ok (.goto 59, 3) := by decide +kernel
theorem dL_law_801 : decode cL_law 801 = .ok (.aload_n 1, 1) := by decide +kernel
theorem dL_law_802 : decode cL_law 802 = .ok (.aload_n 0, 1) := by decide +kernel
theorem dL_law_803 : decode cL_law 803 = .ok (.iload 4, 2) := by decide +kernel
theorem dL_law_805 : decode cL_law 805 = .ok (.iconst 1, 1) := by decide +kernel
theorem dL_law_806 : decode cL_law 806 = .ok (.iadd, 1) := by decide +kernel
theorem dL_law_807 : decode cL_law 807 = .ok (.iaload, 1) := by decide +kernel
theorem dL_law_808 : decode cL_law 808 = .ok (.aload_n 3, 1) := by decide +kernel
theorem dL_law_809 : decode cL_law 809 = .ok (.invokestatic 114, 3) := by decide +kernel
theorem dL_law_812 : decode cL_law 812 = .ok (.istore 5, 2) := by decide +kernel
theorem dL_law_814 : decode cL_law 814 = .ok (.aload_n 2, 1) := by decide +kernel
theorem dL_law_815 : decode cL_law 815 = .ok (.aload_n 0, 1) := by decide +kernel
theorem dL_law_816 : decode cL_law 816 = .ok (.iload 4, 2) := by decide +kernel
theorem dL_law_818 : decode cL_law 818 = .ok (.iconst 1, 1) := by decide +kernel
theorem dL_law_819 : decode cL_law 819 = .ok (.iadd, 1) := by decide +kernel
theorem dL_law_820 : decode cL_law 820 = .ok (.iaload, 1) := by decide +kernel
theorem dL_law_821 : decode cL_law 821 = .ok (.invokevirtual 116, 3) := by decide +kernel
theorem dL_law_824 : decode cL_law 824 = .ok (.istore 6, 2) := by decide +kernel
theorem dL_law_826 : decode cL_law 826 = .ok (.aload_n 2, 1) := by decide +kernel
theorem dL_law_827 : decode cL_law 827 = .ok (.invokevirtual 70, 3) := by decide +kernel
theorem dL_law_830 : decode cL_law 830 = .ok (.iload 5, 2) := by decide +kernel
theorem dL_law_832 : decode cL_law 832 = .ok (.if_icmp .eq 5, 3) := by decide +kernel
theorem dL_law_835 : decode cL_law 835 = .ok (.iconst 0, 1) := by decide +kernel
theorem dL_law_836 : decode cL_law 836 = .ok (.ireturn, 1) := by decide +kernel
theorem dL_law_837 : decode cL_law 837 = .ok (.iload 5, 2) := by decide +kernel
theorem dL_law_839 : decode cL_law 839 = .ok (.ifCond .ne 15, 3) := by decide +kernel
theorem dL_law_842 : decode cL_law 842 = .ok (.aload_n 3, 1) := by decide +kernel
theorem dL_law_843 : decode cL_law 843 = .ok (.iconst 0, 1) := by decide +kernel
theorem dL_law_844 : decode cL_law 844 = .ok (.laload, 1) := by decide +kernel
theorem dL_law_845 : decode cL_law 845 = .ok (.iload 6, 2) := by decide +kernel
theorem dL_law_847 : decode cL_law 847 = .ok (.i2l, 1) := by decide +kernel
theorem dL_law_848 : decode cL_law 848 = .ok (.lcmp, 1) := by decide +kernel
theorem dL_law_849 : decode cL_law 849 = .ok (.ifCond .eq 5, 3) := by decide +kernel
theorem dL_law_852 : decode cL_law 852 = .ok (.iconst 0, 1) := by decide +kernel
theorem dL_law_853 : decode cL_law 853 = .ok (.ireturn, 1) := by decide +kernel
theorem dL_law_854 : decode cL_law 854 = .ok (.goto 3, 3) := by decide +kernel
theorem dL_law_857 : decode cL_law 857 = .ok (.iinc 4 5, 3) := by decide +kernel
theorem dL_law_860 : decode cL_law 860 = .ok (.goto (-837), 3) := by decide +kernel
theorem dL_law_863 : decode cL_law 863 = .ok (.iconst 1, 1) := by decide +kernel
theorem dL_law_864 : decode cL_law 864 = .ok (.ireturn, 1) := by decide +kernel
end
section
/-! ===== memories: what stands in place k of cell i; a pointer is the number of a cell ===== -/
abbrev hs_M : Type := Nat → Nat → Int32
def hs_U (S : hs_M) (i k : Nat) (x : Int32) : hs_M := fun a b => if a = i ∧ b = k then x else S a b
theorem hs_U_row (S : hs_M) (i k : Nat) (x : Int32) : hs_U S i k x i = upd (S i) k x := by
  funext b
  simp [hs_U, upd]
theorem hs_U_ne (S : hs_M) {i a : Nat} (k : Nat) (x : Int32) (h : a ≠ i) : hs_U S i k x a = S a := by
  funext b
  simp [hs_U, h]
/-- the kind of a cell: 0 .. 7 an object of a class, 8 .. 15 an array -/
def hs_K (i : Nat) : Nat := if i = 0 then 6 else if i < 4 then 1 else if i = 4 then 2 else if i = 5 then 10 else if i < 15 then 3 else if i < 24 then 8 else if i = 24 then 12 else if i < 29 then 5 else if i < 33 then 0 else if i < 37 then 8 else if i = 37 then 11 else if i < 42 then 4 else if i < 46 then 0 else if i = 46 then 8 else if i = 47 then 13 else if i < 100 then 99 else if i = 100 then 7 else if i = 102 then 15 else if i < 128 then 14 else 99
/-- how long an array is -/
def hs_N (i : Nat) : Nat := if i = 5 then 9 else if i < 24 then 17 else if i < 46 then 4 else if i = 46 then 11 else if i = 47 then 1 else if i = 112 then 16 else if i = 113 then 8 else if i = 114 then 160 else if i = 124 then 11 else if i = 125 then 11 else if i = 126 then 13 else if i = 127 then 20 else 4
/-- how many fields an object has -/
def hs_nf (kd : Nat) : Nat := if kd = 0 then 5 else if kd = 1 then 6 else if kd = 2 then 2 else if kd = 3 then 5 else if kd = 4 then 5 else if kd = 5 then 8 else if kd = 6 then 7 else 33
/-- a field's sort: 0 a number, 1 a pointer that the memory holds, o + 2 the cell o further on -/
def hs_rk (kd k : Nat) : Nat :=
  if kd = 2 then (if k = 0 then 3 else 0) else if kd = 3 then (if k = 0 then 11 else 0) else if kd = 4 then (if k = 0 then 6 else 0) else if kd = 5 then (if k = 0 then 6 else if k = 6 then 10 else 0)
  else if kd = 6 then (if k = 0 then 3 else if k = 1 then 6 else if k = 2 then 26 else if k = 3 then 39 else if k = 4 then 48 else 1)
  else if kd = 7 then (if k < 4 then 0 else if k < 16 then k - 1 else if k = 16 then 0 else if k < 31 then k - 2 else if k = 31 then 0 else k - 3) else 0
def hs_v (q : Nat → Nat) (S : hs_M) (kd i k : Nat) : Value := if hs_rk kd k = 0 then .int (S i k) else if hs_rk kd k = 1 then .ref (q (S i k).toNatClampNeg) else .ref (q (i + (hs_rk kd k - 2)))
def hs_ar (q : Nat → Nat) (S : hs_M) (kd i : Nat) : (Nat → Int32) ⊕ (Nat → Int64) ⊕ (Nat → UInt32) ⊕ (Nat → UInt64) ⊕ (Nat → Option Nat) :=
  if kd = 10 then .inr (.inr (.inr (.inr (fun j => some (q (S i j).toNatClampNeg))))) else if kd = 11 then .inr (.inr (.inr (.inr (fun j => some (q (38 + j)))))) else if kd = 12 then .inr (.inr (.inr (.inr (fun j => some (q (25 + j)))))) else if kd = 13 then .inr (.inl (fun j => (S i j).toInt64)) else .inl (S i)
def hs_e (q : Nat → Nat) (cy : Nat → ClassId) (S : hs_M) (i : Nat) : va_E :=
  if hs_K i < 8 then .inr (hs_K i + 2, (List.range (hs_nf (hs_K i))).map (hs_v q S (hs_K i) i)) else .inl (cy (hs_K i), hs_N i, hs_ar q S (hs_K i) i)
/-- the world of a kind: 0 the class's, 1 the reference's -/
def hs_wk (kd : Nat) : Nat := if kd = 7 then 1 else if kd = 14 then 1 else if kd = 15 then 1 else if kd = 99 then 2 else 0
def hs_bs (wd : Nat) : Nat := if wd = 0 then 0 else 100
def hs_nn (wd : Nat) : Nat := if wd = 0 then 48 else 28
def hs_ws (q : Nat → Nat) (cy : Nat → ClassId) (wd : Nat) (S : hs_M) : va_W := (List.range (hs_nn wd)).map (fun p => (q (hs_bs wd + p), hs_e q cy S (hs_bs wd + p)))
def hs_tys (cy : Nat → ClassId) : List (ClassId × FieldType) := [(cy 8, .int), (cy 10, .object RX3), (cy 11, .object RX4), (cy 12, .object RX5), (cy 13, .long), (cy 14, .int), (cy 15, .boolean)]
theorem hs_Kdec (P : Nat → Nat → Prop) (h : ∀ i, i < 128 → P i (hs_K i)) (h2 : ∀ i, P i 99) (i : Nat) : P i (hs_K i) := by
  by_cases hi : i < 128
  · exact h i hi
  · have e : hs_K i = 99 := by
      unfold hs_K
      repeat (first | rw [if_neg (show ¬ _ by omega)] | rfl)
    rw [e]
    exact h2 i
theorem hs_inw0 : ∀ i : Nat, hs_wk (hs_K i) = 0 → i < 48 := hs_Kdec (fun i k => hs_wk k = 0 → i < 48) (by decide +kernel) (fun i h => absurd h (by decide))
theorem hs_inw1 : ∀ i : Nat, hs_wk (hs_K i) = 1 → 100 ≤ i ∧ i < 128 := hs_Kdec (fun i k => hs_wk k = 1 → 100 ≤ i ∧ i < 128) (by decide +kernel) (fun i h => absurd h (by decide))
theorem hs_inw {i wd : Nat} (hw : hs_wk (hs_K i) = wd) (h1 : wd ≤ 1) : hs_bs wd ≤ i ∧ i < hs_bs wd + hs_nn wd := by
  rcases (show wd = 0 ∨ wd = 1 by omega) with rfl | rfl
  · have := hs_inw0 i hw
    simp [hs_bs, hs_nn]
    exact this
  · have := hs_inw1 i hw
    simp [hs_bs, hs_nn]
    exact this
theorem hs_at {q : Nat → Nat} {cy : Nat → ClassId} {S : hs_M} {wd i : Nat} (h : hs_bs wd ≤ i ∧ i < hs_bs wd + hs_nn wd) : (hs_ws q cy wd S)[i - hs_bs wd]? = some (q i, hs_e q cy S i) := by
  have e : hs_bs wd + (i - hs_bs wd) = i := by omega
  unfold hs_ws
  rw [List.getElem?_map, List.getElem?_range (by omega)]
  simp only [Option.map_some]
  rw [e]
theorem hs_atL {q : Nat → Nat} {cy : Nat → ClassId} {S : hs_M} {wd p : Nat} {x : Nat × va_E} (h : (hs_ws q cy wd S)[p]? = some x) : p < hs_nn wd ∧ x = (q (hs_bs wd + p), hs_e q cy S (hs_bs wd + p)) := by
  unfold hs_ws at h
  rw [List.getElem?_map] at h
  by_cases hp : p < hs_nn wd
  · rw [List.getElem?_range hp] at h
    exact ⟨hp, (Option.some.inj h).symm⟩
  · rw [List.getElem?_eq_none (by rw [List.length_range]; omega)] at h
    cases h
theorem hs_v_c {q : Nat → Nat} {S S' : hs_M} {i : Nat} (h : S' i = S i) (kd : Nat) : hs_v q S' kd i = hs_v q S kd i := by
  funext k
  simp only [hs_v, h]
theorem hs_e_c {q : Nat → Nat} {cy : Nat → ClassId} {S S' : hs_M} {i : Nat} (h : S' i = S i) : hs_e q cy S' i = hs_e q cy S i := by
  simp only [hs_e, hs_v_c h, hs_ar, h]
theorem hs_setw {q : Nat → Nat} {cy : Nat → ClassId} {S S' : hs_M} {wd i : Nat} (h : hs_bs wd ≤ i ∧ i < hs_bs wd + hs_nn wd) (ho : ∀ j, j ≠ i → S' j = S j) {e : va_E} (he : hs_e q cy S' i = e) : (hs_ws q cy wd S).set (i - hs_bs wd) (q i, e) = hs_ws q cy wd S' := by
  apply List.ext_getElem?
  intro n
  by_cases hn : n = i - hs_bs wd
  · subst hn
    have hl := (List.getElem?_eq_some_iff.mp (hs_at (q := q) (cy := cy) (S := S) h)).1
    rw [List.getElem?_set_self hl, hs_at h, he]
  · rw [List.getElem?_set_ne (Ne.symm hn)]
    unfold hs_ws
    rw [List.getElem?_map, List.getElem?_map]
    by_cases hp : n < hs_nn wd
    · rw [List.getElem?_range hp]
      simp only [Option.map_some]
      rw [hs_e_c (ho (hs_bs wd + n) (by omega))]
    · rw [List.getElem?_eq_none (by rw [List.length_range]; omega)]
      rfl
theorem hs_Dmv {q : Nat → Nat} {cy : Nat → ClassId} {S S' : hs_M} {wd : Nat} {A : Nat → Prop} (h : va_D A (hs_ws q cy wd S)) : va_D A (hs_ws q cy wd S') := by
  have key : ∀ (k : Nat) (x : Nat × va_E), (hs_ws q cy wd S')[k]? = some x → (hs_ws q cy wd S)[k]? = some (x.1, hs_e q cy S (hs_bs wd + k)) := by
    intro k x hk
    obtain ⟨h1, rfl⟩ := hs_atL hk
    have h2 := hs_at (q := q) (cy := cy) (S := S) (wd := wd) (i := hs_bs wd + k) (by omega)
    rw [show hs_bs wd + k - hs_bs wd = k by omega] at h2
    exact h2
  exact ⟨fun i j x y hi hj hxy => h.1 i j _ _ (key i x hi) (key j y hj) hxy, fun k x hk => h.2 k (x.1, hs_e q cy S (hs_bs wd + k)) (key k x hk)⟩
theorem hs_Amv {q : Nat → Nat} {cy : Nat → ClassId} {S S' : hs_M} {wd sz a : Nat} (h : va_A (hs_ws q cy wd S) sz a) : va_A (hs_ws q cy wd S') sz a := by
  rcases h with ⟨k, e, h⟩ | h
  · obtain ⟨h1, h3⟩ := hs_atL h
    have h2 := hs_at (q := q) (cy := cy) (S := S') (wd := wd) (i := hs_bs wd + k) (by omega)
    rw [show hs_bs wd + k - hs_bs wd = k by omega] at h2
    refine Or.inl ⟨k, hs_e q cy S' (hs_bs wd + k), ?_⟩
    rw [h2, (Prod.mk.inj h3).1]
  · exact Or.inr h
theorem hs_e_o {q : Nat → Nat} {cy : Nat → ClassId} {S : hs_M} {i kd : Nat} (hk : hs_K i = kd) (h8 : kd < 8) : hs_e q cy S i = .inr (kd + 2, (List.range (hs_nf kd)).map (hs_v q S kd i)) := by
  subst hk
  unfold hs_e
  rw [if_pos h8]
theorem hs_e_a {q : Nat → Nat} {cy : Nat → ClassId} {S : hs_M} {i kd : Nat} (hk : hs_K i = kd) (h8 : ¬ kd < 8) : hs_e q cy S i = .inl (cy kd, hs_N i, hs_ar q S kd i) := by
  subst hk
  unfold hs_e
  rw [if_neg h8]
theorem hs_fs {q : Nat → Nat} {S : hs_M} {kd i k : Nat} (hk : k < hs_nf kd) : ((List.range (hs_nf kd)).map (hs_v q S kd i))[k]? = some (hs_v q S kd i k) := by
  rw [List.getElem?_map, List.getElem?_range hk]
  rfl
theorem hs_fsl {q : Nat → Nat} {S : hs_M} {kd i : Nat} : ((List.range (hs_nf kd)).map (hs_v q S kd i)).length = hs_nf kd := by simp
theorem hs_fset {q : Nat → Nat} {S : hs_M} {kd i k : Nat} {x : Int32} {v : Value} (hk : k < hs_nf kd) (hv : hs_v q (hs_U S i k x) kd i k = v) : ((List.range (hs_nf kd)).map (hs_v q S kd i)).set k v = (List.range (hs_nf kd)).map (hs_v q (hs_U S i k x) kd i) := by
  apply List.ext_getElem?
  intro n
  by_cases hn : n = k
  · subst hn
    rw [List.getElem?_set_self (by rw [hs_fsl]; exact hk), hs_fs hk, hv]
  · rw [List.getElem?_set_ne (Ne.symm hn)]
    by_cases hp : n < hs_nf kd
    · rw [hs_fs hp, hs_fs hp]
      have e : hs_U S i k x i n = S i n := by simp [hs_U, hn]
      simp only [hs_v, e]
    · rw [List.getElem?_eq_none (by rw [hs_fsl]; omega), List.getElem?_eq_none (by rw [hs_fsl]; omega)]
/-! statics: rows that nobody writes -/
def hs_sf (j : Nat) : String := if j = 0 then "PACKET_BYTES" else if j = 1 then "SUM_AT_FIRST" else if j = 2 then "SUM_CHANGE" else if j = 3 then "LOW_BITS" else "STEPS_BACK"
def hs_sl (j : Nat) : List Int32 := if j = 0 then [1, 2, 3, 11, 16] else if j = 1 then [7, 127, 255, 255, 255] else if j = 2 then [6, 121, 224, 224, 224] else if j = 3 then [15, 63, 1023] else [1, 3, 31]
def hs_sn (j : Nat) : Nat := if j < 3 then 5 else 3
def hs_sv (j k : Nat) : Int32 := (hs_sl j).getD k 0
def hs_St (tb : Nat → Nat) (A : Nat → Prop) (U : State) (H : Heap) : Prop := ∀ j, j < 5 → va_Z "HeaderSqueeze" (hs_sf j) "[I" (.ref (tb j)) A U H ∧ va_T .int (tb j) (hs_sn j) (fun k => .int (hs_sv j k)) A U H
theorem hs_St_go {tb : Nat → Nat} {A B : Nat → Prop} {u U : State} {H H1 : Heap} (h : hs_St tb A u H) (hvm : u.vm.Alike U.vm) (hAB : ∀ a, B a → A a) (hq : ∀ a : Nat, a < H.size → ¬ A a → H1[a]? = H[a]?) : hs_St tb B U H1 := fun j hj =>
  ⟨(va_Z.moved hvm ((h j hj).1.kept hq)).narrow hAB, (va_T.moved hvm ((h j hj).2.kept hq)).narrow hAB⟩
/-- the statics as a nest mate reads them -/
def hs_nl : List (String × Nat × String) := [(RX5, 82, "STEPS_BACK"), (RX5, 86, "LOW_BITS"), (RX1, 35, "SUM_AT_FIRST"), (RX1, 39, "SUM_CHANGE"), (RX3, 25, "LOW_BITS"), (RX3, 76, "PACKET_BYTES"), (RX4, 98, "STEPS_BACK"), (RX4, 90, "LOW_BITS"), (RX3, 86, "SUM_AT_FIRST")]
def hs_Nw (U : State) : Prop := ∀ x ∈ hs_nl, va_Nw (.fieldLinkNest x.1 x.2.1 "HeaderSqueeze" x.2.2 "[I" "HeaderSqueeze") U
theorem hs_Nw_go {s U : State} (hW : s.WarmedH U.vm) (h : hs_Nw s) : hs_Nw U := fun x hx => va_Nw.warmF hW (h x hx)
/-! ===== the guards of a denotation ===== -/
def hs_l {α β : Type} (v : α) (f : α → β) : β := f v
def hs_ix {ρ : Type} (x : Int32) (n : Nat) (G : Option ρ) : Option ρ := if x < 0 ∨ n ≤ x.toNatClampNeg then none else G
def hs_kg {ρ : Type} (i kd : Nat) (G : Option ρ) : Option ρ := if hs_K i = kd then G else none
def hs_bg {ρ : Type} (x : Int32) (G : Option ρ) : Option ρ := if x = 0 ∨ x = 1 then G else none
def hs_ushr (x y : Int32) : Int32 := (x.toUInt32 >>> (y.toUInt32 &&& Int32.toUInt32 31)).toInt32
def hs_rem (x y : Int32) : Int32 := x - x / y * y
def hs_min (x y : Int32) : Int32 := if y < x then y else x
def hs_max (x y : Int32) : Int32 := if x < y then y else x
theorem hs_ix_s {ρ : Type} {x : Int32} {n : Nat} {G : Option ρ} {res : ρ} (h : hs_ix x n G = some res) : vp_in x n ∧ G = some res := by
  unfold hs_ix at h
  by_cases hc : x < 0 ∨ n ≤ x.toNatClampNeg
  · rw [if_pos hc] at h
    cases h
  · rw [if_neg hc] at h
    exact ⟨hc, h⟩
theorem hs_kg_s {ρ : Type} {i kd : Nat} {G : Option ρ} {res : ρ} (h : hs_kg i kd G = some res) : hs_K i = kd ∧ G = some res := by
  unfold hs_kg at h
  by_cases hc : hs_K i = kd
  · rw [if_pos hc] at h
    exact ⟨hc, h⟩
  · rw [if_neg hc] at h
    cases h
theorem hs_bg_s {ρ : Type} {x : Int32} {G : Option ρ} {res : ρ} (h : hs_bg x G = some res) : (x = 0 ∨ x = 1) ∧ G = some res := by
  unfold hs_bg at h
  by_cases hc : x = 0 ∨ x = 1
  · rw [if_pos hc] at h
    exact ⟨hc, h⟩
  · rw [if_neg hc] at h
    cases h
theorem hs_if_s {ρ : Type} {c : Prop} [Decidable c] {A B : Option ρ} {res : ρ} (h : (if c then A else B) = some res) : (c ∧ A = some res) ∨ (¬ c ∧ B = some res) := by
  by_cases hc : c
  · rw [if_pos hc] at h
    exact Or.inl ⟨hc, h⟩
  · rw [if_neg hc] at h
    exact Or.inr ⟨hc, h⟩
theorem hs_bd_s {α ρ : Type} {o : Option α} {G : α → Option ρ} {res : ρ} (h : o.bind G = some res) : ∃ a, o = some a ∧ G a = some res := by
  cases o with
  | none => cases h
  | some a => exact ⟨a, rfl, h⟩
/-! ===== a walk's standing ===== -/
abbrev hs_T : Type := (Program × Launch × Env × Room × State × MethodId) × (Array Value × List Frame × Method × Code) × (va_G × (Nat → ClassId) × (Nat → Nat) × (Nat → Nat)) × (Nat × (Nat → Prop) × (State → Prop))
abbrev hs_s (X : hs_T) : State := X.1.2.2.2.2.1
abbrev hs_m (X : hs_T) : MethodId := X.1.2.2.2.2.2
abbrev hs_a (X : hs_T) : Array Value := X.2.1.1
abbrev hs_q (X : hs_T) : Nat → Nat := X.2.2.1.2.2.1
abbrev hs_cy (X : hs_T) : Nat → ClassId := X.2.2.1.2.1
abbrev hs_D (X : hs_T) : va_G := X.2.2.1.1
abbrev hs_tbl (X : hs_T) : Nat → Nat := X.2.2.1.2.2.2
abbrev hs_wd (X : hs_T) : Nat := X.2.2.2.1
abbrev hs_A (X : hs_T) : Nat → Prop := X.2.2.2.2.1
abbrev hs_Q (X : hs_T) : State → Prop := X.2.2.2.2.2
abbrev hs_W (X : hs_T) (H : Heap) (locs : List Loc) (g : JFrame) : Prop := W X.1.1 X.1.2.1 X.1.2.2.1 X.1.2.2.2.1 (hs_s X) (hs_m X) (hs_a X) X.2.1.2.1 X.2.1.2.2.1 X.2.1.2.2.2 H locs 0 0 (hs_Q X) g
def hs_Z (X : hs_T) (nL : Nat) (S : hs_M) (lv : List (Nat × Value)) (st : List Value) (pc : Nat) : Prop := ∀ (H : Heap) (locs : List Loc) (ls : Array Slot), va_P (hs_D X) vwCl (hs_ws (hs_q X) (hs_cy X) (hs_wd X) S) H → va_S (hs_A X) (hs_s X).heap H locs → lv_has ls nL lv → hs_W X H locs (F0 (hs_m X) pc ls st)
def hs_rm (h : Nat) : Room := { frames := h, cells := 0, slots := 0, locals := 64 * h }
def hs_tb : List Cond := lw_tbl.filter goodWord
theorem hs_w1 {k : Nat} {w : Cond} (h : tables_1[k]? = some w) (g : goodWord w = true) : w ∈ hs_tb := List.mem_filter.mpr ⟨List.mem_append_right _ (List.mem_of_getElem? h), g⟩
theorem hs_w2 {k : Nat} {w : Cond} (h : (k2_sels lw_privs)[k]? = some w) (g : goodWord w = true) : w ∈ hs_tb := List.mem_filter.mpr ⟨List.mem_append_left _ (List.mem_of_getElem? h), g⟩
theorem hs_w3 {ws : List Cond} (h : ∀ w ∈ ws, w ∈ lw_tbl) (g : ws.all goodWord = true) : ∀ w ∈ ws, w ∈ hs_tb := fun w hw => List.mem_filter.mpr ⟨h w hw, List.all_eq_true.mp g w hw⟩
def hs_C (X : hs_T) (wd : Nat) (own : String) (cc : ByteArray) (nL hh : Nat) : Prop :=
  X.1.1.tables.exec = Jvm.exec ∧ X.2.1.2.2.2.code = cc ∧ X.2.1.2.2.2.maxLocals = nL ∧ (hs_s X).vm.findClass own = some (hs_m X).cls ∧ (∀ w ∈ hs_tb, w.before (hs_a X) (hs_s X) = true) ∧ (hh ≤ X.1.2.2.2.1.frames ∧ 64 * hh ≤ X.1.2.2.2.1.locals) ∧ hs_wd X = wd ∧ wd ≤ 1 ∧ va_K (hs_D X) vwCl (hs_tys (hs_cy X)) (hs_s X) ∧ (∀ S : hs_M, va_D (hs_A X) (hs_ws (hs_q X) (hs_cy X) wd S)) ∧ (∀ a : Nat, (hs_s X).heap.size ≤ a → hs_A X a) ∧ hs_St (hs_tbl X) (hs_A X) (hs_s X) (hs_s X).heap ∧ hs_Nw (hs_s X)
end
section
/-! ===== rows: an instruction each, over memories ===== -/
section HSR
variable {X : hs_T} {wd nL hh pc : Nat} {own : String} {cc : ByteArray} {S : hs_M} {lv : List (Nat × Value)} {st : List Value}
theorem hs_iconst (C : hs_C X wd own cc nL hh) {n : Int} {v : Int32} (hd : decode cc pc = .ok (.iconst n, 1)) (hv : Int32.ofInt n = v) (k : hs_Z X nL S lv (.int v :: st) (pc + 1)) : hs_Z X nL S lv st pc :=
  fun H locs ls hP hS hl => lv_iconst C.1 C.2.1 hd hv (k H locs ls hP hS hl)
theorem hs_bipush (C : hs_C X wd own cc nL hh) {n : Int} {v : Int32} (hd : decode cc pc = .ok (.bipush n, 2)) (hv : (Int8.ofInt n).toInt32 = v) (k : hs_Z X nL S lv (.int v :: st) (pc + 2)) : hs_Z X nL S lv st pc :=
  fun H locs ls hP hS hl => lv_bipush C.1 C.2.1 hd hv (k H locs ls hP hS hl)
theorem hs_sipush (C : hs_C X wd own cc nL hh) {n : Int} {v : Int32} (hd : decode cc pc = .ok (.sipush n, 3)) (hv : (Int16.ofInt n).toInt32 = v) (k : hs_Z X nL S lv (.int v :: st) (pc + 3)) : hs_Z X nL S lv st pc :=
  fun H locs ls hP hS hl => lv_sipush C.1 C.2.1 hd hv (k H locs ls hP hS hl)
theorem hs_ldc (C : hs_C X wd own cc nL hh) {idx : Nat} {v : Int32} (w : Jvm.Cond.constant own idx v ∈ hs_tb) (hd : decode cc pc = .ok (.ldc idx, 2)) (k : hs_Z X nL S lv (.int v :: st) (pc + 2)) : hs_Z X nL S lv st pc :=
  fun H locs ls hP hS hl => lv_ldc C.1 C.2.1 C.2.2.2.1 (C.2.2.2.2.1 _ w) hd (k H locs ls hP hS hl)
theorem hs_iload_n (C : hs_C X wd own cc nL hh) {j : Fin 4} {i : Nat} {x : Int32} (hd : decode cc pc = .ok (.iload_n j, 1)) (p : Nat) (hi : (j : Nat) = i) (hp : lv[p]? = some (i, .int x)) (k : hs_Z X nL S lv (.int x :: st) (pc + 1)) : hs_Z X nL S lv st pc :=
  fun H locs ls hP hS hl => lv_iload_n C.1 C.2.1 hd hi (lv_at hl p hp) (k H locs ls hP hS hl)
theorem hs_iload (C : hs_C X wd own cc nL hh) {i : Nat} {x : Int32} (hd : decode cc pc = .ok (.iload i, 2)) (p : Nat) (hp : lv[p]? = some (i, .int x)) (k : hs_Z X nL S lv (.int x :: st) (pc + 2)) : hs_Z X nL S lv st pc :=
  fun H locs ls hP hS hl => lv_iload C.1 C.2.1 hd (lv_at hl p hp) (k H locs ls hP hS hl)
theorem hs_aload_n (C : hs_C X wd own cc nL hh) {j : Fin 4} {i x : Nat} (hd : decode cc pc = .ok (.aload_n j, 1)) (p : Nat) (hi : (j : Nat) = i) (hp : lv[p]? = some (i, .ref x)) (k : hs_Z X nL S lv (.ref x :: st) (pc + 1)) : hs_Z X nL S lv st pc :=
  fun H locs ls hP hS hl => lv_aload_n C.1 C.2.1 hd hi (lv_at hl p hp) (k H locs ls hP hS hl)
theorem hs_aload (C : hs_C X wd own cc nL hh) {i x : Nat} (hd : decode cc pc = .ok (.aload i, 2)) (p : Nat) (hp : lv[p]? = some (i, .ref x)) (k : hs_Z X nL S lv (.ref x :: st) (pc + 2)) : hs_Z X nL S lv st pc :=
  fun H locs ls hP hS hl => lv_aload C.1 C.2.1 hd (lv_at hl p hp) (k H locs ls hP hS hl)
theorem hs_istore_n (C : hs_C X wd own cc nL hh) {j : Fin 4} {i : Nat} {x : Int32} {lv' : List (Nat × Value)} (hd : decode cc pc = .ok (.istore_n j, 1)) (hi : (j : Nat) = i) (hn : i < nL) (hl' : (i, Value.int x) :: lv.filter (fun q => !(q.1 == i) && !(q.1 + 1 == i && q.2.category == 2)) = lv') (k : hs_Z X nL S lv' st (pc + 1)) : hs_Z X nL S lv (.int x :: st) pc :=
  fun H locs ls hP hS hl => lv_istore_n C.1 C.2.1 hd hi hl hn hl' (fun ls' h' => k H locs ls' hP hS h')
theorem hs_istore (C : hs_C X wd own cc nL hh) {i : Nat} {x : Int32} {lv' : List (Nat × Value)} (hd : decode cc pc = .ok (.istore i, 2)) (hn : i < nL) (hl' : (i, Value.int x) :: lv.filter (fun q => !(q.1 == i) && !(q.1 + 1 == i && q.2.category == 2)) = lv') (k : hs_Z X nL S lv' st (pc + 2)) : hs_Z X nL S lv (.int x :: st) pc :=
  fun H locs ls hP hS hl => lv_istore C.1 C.2.1 hd hl hn hl' (fun ls' h' => k H locs ls' hP hS h')
theorem hs_astore_n (C : hs_C X wd own cc nL hh) {j : Fin 4} {i x : Nat} {lv' : List (Nat × Value)} (hd : decode cc pc = .ok (.astore_n j, 1)) (hi : (j : Nat) = i) (hn : i < nL) (hl' : (i, Value.ref x) :: lv.filter (fun q => !(q.1 == i) && !(q.1 + 1 == i && q.2.category == 2)) = lv') (k : hs_Z X nL S lv' st (pc + 1)) : hs_Z X nL S lv (.ref x :: st) pc :=
  fun H locs ls hP hS hl => lv_astore_n C.1 C.2.1 hd hi hl hn hl' (fun ls' h' => k H locs ls' hP hS h')
theorem hs_astore (C : hs_C X wd own cc nL hh) {i x : Nat} {lv' : List (Nat × Value)} (hd : decode cc pc = .ok (.astore i, 2)) (hn : i < nL) (hl' : (i, Value.ref x) :: lv.filter (fun q => !(q.1 == i) && !(q.1 + 1 == i && q.2.category == 2)) = lv') (k : hs_Z X nL S lv' st (pc + 2)) : hs_Z X nL S lv (.ref x :: st) pc :=
  fun H locs ls hP hS hl => lv_astore C.1 C.2.1 hd hl hn hl' (fun ls' h' => k H locs ls' hP hS h')
theorem hs_iinc (C : hs_C X wd own cc nL hh) {i : Nat} {n : Int} {x v : Int32} {lv' : List (Nat × Value)} (hd : decode cc pc = .ok (.iinc i n, 3)) (p : Nat) (hp : lv[p]? = some (i, .int x)) (hv : x + Int32.ofInt n = v) (hn : i < nL) (hl' : (i, Value.int v) :: lv.filter (fun q => !(q.1 == i) && !(q.1 + 1 == i && q.2.category == 2)) = lv') (k : hs_Z X nL S lv' st (pc + 3)) : hs_Z X nL S lv st pc :=
  fun H locs ls hP hS hl => lv_iinc C.1 C.2.1 hd hl hp hv hn hl' (fun ls' h' => k H locs ls' hP hS h')
theorem hs_iinc' (c : Int32) (C : hs_C X wd own cc nL hh) {i : Nat} {n : Int} {x : Int32} (hd : decode cc pc = .ok (.iinc i n, 3)) (p : Nat) (hp : lv[p]? = some (i, .int x)) (hv : Int32.ofInt n = c) (hn : i < nL) {ρ : Type} {G : Int32 → Option ρ} {res : ρ} (h : hs_l (x + c) G = some res) (k : ∀ y : Int32, G y = some res → hs_Z X nL S ((i, Value.int y) :: lv.filter (fun q => !(q.1 == i) && !(q.1 + 1 == i && q.2.category == 2))) st (pc + 3)) : hs_Z X nL S lv st pc :=
  fun H locs ls hP hS hl => lv_iinc C.1 C.2.1 hd hl hp (show x + Int32.ofInt n = x + c by rw [hv]) hn rfl (fun ls' h' => k (x + c) h H locs ls' hP hS h')
theorem hs_sub {lv' : List (Nat × Value)} (ks : List Nat) (hk : lv_pick lv ks = lv') (k : hs_Z X nL S lv' st pc) : hs_Z X nL S lv st pc :=
  fun H locs ls hP hS hl => k H locs ls hP hS (lv_sub hl ks hk)
theorem hs_iadd (C : hs_C X wd own cc nL hh) {x y : Int32} (hd : decode cc pc = .ok (.iadd, 1)) (k : hs_Z X nL S lv (.int (x + y) :: st) (pc + 1)) : hs_Z X nL S lv (.int y :: .int x :: st) pc :=
  fun H locs ls hP hS hl => lv_iadd C.1 C.2.1 hd (k H locs ls hP hS hl)
theorem hs_isub (C : hs_C X wd own cc nL hh) {x y : Int32} (hd : decode cc pc = .ok (.isub, 1)) (k : hs_Z X nL S lv (.int (x - y) :: st) (pc + 1)) : hs_Z X nL S lv (.int y :: .int x :: st) pc :=
  fun H locs ls hP hS hl => lv_isub C.1 C.2.1 hd (k H locs ls hP hS hl)
theorem hs_imul (C : hs_C X wd own cc nL hh) {x y : Int32} (hd : decode cc pc = .ok (.imul, 1)) (k : hs_Z X nL S lv (.int (x * y) :: st) (pc + 1)) : hs_Z X nL S lv (.int y :: .int x :: st) pc :=
  fun H locs ls hP hS hl => lv_imul C.1 C.2.1 hd (k H locs ls hP hS hl)
theorem hs_idiv (C : hs_C X wd own cc nL hh) {x y : Int32} (hd : decode cc pc = .ok (.idiv, 1)) (hy : ¬ y = 0) (k : hs_Z X nL S lv (.int (x / y) :: st) (pc + 1)) : hs_Z X nL S lv (.int y :: .int x :: st) pc :=
  fun H locs ls hP hS hl => lv_idiv C.1 C.2.1 hd hy (k H locs ls hP hS hl)
theorem hs_irem (C : hs_C X wd own cc nL hh) {x y : Int32} (hd : decode cc pc = .ok (.irem, 1)) (hy : ¬ y = 0) (k : hs_Z X nL S lv (.int (hs_rem x y) :: st) (pc + 1)) : hs_Z X nL S lv (.int y :: .int x :: st) pc :=
  fun H locs ls hP hS hl => lv_irem C.1 C.2.1 hd hy (k H locs ls hP hS hl)
theorem hs_iand (C : hs_C X wd own cc nL hh) {x y : Int32} (hd : decode cc pc = .ok (.iand, 1)) (k : hs_Z X nL S lv (.int (x &&& y) :: st) (pc + 1)) : hs_Z X nL S lv (.int y :: .int x :: st) pc :=
  fun H locs ls hP hS hl => lv_iand C.1 C.2.1 hd (k H locs ls hP hS hl)
theorem hs_ior (C : hs_C X wd own cc nL hh) {x y : Int32} (hd : decode cc pc = .ok (.ior, 1)) (k : hs_Z X nL S lv (.int (x ||| y) :: st) (pc + 1)) : hs_Z X nL S lv (.int y :: .int x :: st) pc :=
  fun H locs ls hP hS hl => lv_ior C.1 C.2.1 hd (k H locs ls hP hS hl)
theorem hs_ixor (C : hs_C X wd own cc nL hh) {x y : Int32} (hd : decode cc pc = .ok (.ixor, 1)) (k : hs_Z X nL S lv (.int (x ^^^ y) :: st) (pc + 1)) : hs_Z X nL S lv (.int y :: .int x :: st) pc :=
  fun H locs ls hP hS hl => lv_ixor C.1 C.2.1 hd (k H locs ls hP hS hl)
theorem hs_ishl (C : hs_C X wd own cc nL hh) {x y : Int32} (hd : decode cc pc = .ok (.ishl, 1)) (k : hs_Z X nL S lv (.int (x <<< (y &&& 31)) :: st) (pc + 1)) : hs_Z X nL S lv (.int y :: .int x :: st) pc :=
  fun H locs ls hP hS hl => lv_ishl C.1 C.2.1 hd (k H locs ls hP hS hl)
theorem hs_ishr (C : hs_C X wd own cc nL hh) {x y : Int32} (hd : decode cc pc = .ok (.ishr, 1)) (k : hs_Z X nL S lv (.int (x >>> (y &&& 31)) :: st) (pc + 1)) : hs_Z X nL S lv (.int y :: .int x :: st) pc :=
  fun H locs ls hP hS hl => lv_ishr C.1 C.2.1 hd (k H locs ls hP hS hl)
theorem hs_iushr (C : hs_C X wd own cc nL hh) {x y : Int32} (hd : decode cc pc = .ok (.iushr, 1)) (k : hs_Z X nL S lv (.int (hs_ushr x y) :: st) (pc + 1)) : hs_Z X nL S lv (.int y :: .int x :: st) pc :=
  fun H locs ls hP hS hl => lv_iushr C.1 C.2.1 hd rfl (k H locs ls hP hS hl)
theorem hs_dup (C : hs_C X wd own cc nL hh) {v : Value} (hd : decode cc pc = .ok (.dup, 1)) (hv : v.category = 1) (k : hs_Z X nL S lv (v :: v :: st) (pc + 1)) : hs_Z X nL S lv (v :: st) pc :=
  fun H locs ls hP hS hl => lv_dup C.1 C.2.1 hd hv (k H locs ls hP hS hl)
theorem hs_dup2 (C : hs_C X wd own cc nL hh) {v w : Value} (hd : decode cc pc = .ok (.dup2, 1)) (hv : v.category = 1) (hw : w.category = 1) (k : hs_Z X nL S lv (v :: w :: v :: w :: st) (pc + 1)) : hs_Z X nL S lv (v :: w :: st) pc :=
  fun H locs ls hP hS hl => lv_dup2_11 C.1 C.2.1 hd hv hw (k H locs ls hP hS hl)
theorem hs_pop (C : hs_C X wd own cc nL hh) {v : Value} (hd : decode cc pc = .ok (.pop, 1)) (hv : v.category = 1) (k : hs_Z X nL S lv st (pc + 1)) : hs_Z X nL S lv (v :: st) pc :=
  fun H locs ls hP hS hl => lv_pop C.1 C.2.1 hd hv (k H locs ls hP hS hl)
theorem hs_goto (C : hs_C X wd own cc nL hh) {off : Int} {tgt : Nat} (hd : decode cc pc = .ok (.goto off, 3)) (ht : (pc : Int) + off = (tgt : Int)) (k : hs_Z X nL S lv st tgt) : hs_Z X nL S lv st pc :=
  fun H locs ls hP hS hl => lv_goto C.1 C.2.1 hd ht (k H locs ls hP hS hl)
theorem hs_top {ρ : Type} {v : Int32} {G : Int32 → Option ρ} {res : ρ} (h : hs_l v G = some res) (k : ∀ y : Int32, G y = some res → hs_Z X nL S lv (.int y :: st) pc) : hs_Z X nL S lv (.int v :: st) pc := k v h
theorem hs_topr {ρ : Type} {v : Nat} {G : Nat → Option ρ} {res : ρ} (h : hs_l v G = some res) (k : ∀ y : Nat, G y = some res → hs_Z X nL S lv (.ref (hs_q X y) :: st) pc) : hs_Z X nL S lv (.ref (hs_q X v) :: st) pc := k v h
/-! branches -/
section HSB
variable {ρ : Type} {A B : Option ρ} {res : ρ} {off : Int} {tgt : Nat} {x y : Int32}
theorem hs_if_eq (C : hs_C X wd own cc nL hh) (hd : decode cc pc = .ok (.ifCond .eq off, 3)) (ht : (pc : Int) + off = (tgt : Int)) (h : (if x = 0 then A else B) = some res) (kt : A = some res → hs_Z X nL S lv st tgt) (kf : B = some res → hs_Z X nL S lv st (pc + 3)) : hs_Z X nL S lv (.int x :: st) pc :=
  fun H locs ls hP hS hl => lv_if_eq C.1 C.2.1 hd ht (fun c => kt (by rw [if_pos c] at h; exact h) H locs ls hP hS hl) (fun c => kf (by rw [if_neg c] at h; exact h) H locs ls hP hS hl)
theorem hs_if_ne (C : hs_C X wd own cc nL hh) (hd : decode cc pc = .ok (.ifCond .ne off, 3)) (ht : (pc : Int) + off = (tgt : Int)) (h : (if x = 0 then B else A) = some res) (kt : A = some res → hs_Z X nL S lv st tgt) (kf : B = some res → hs_Z X nL S lv st (pc + 3)) : hs_Z X nL S lv (.int x :: st) pc :=
  fun H locs ls hP hS hl => lv_if_ne C.1 C.2.1 hd ht (fun c => kt (by rw [if_neg c] at h; exact h) H locs ls hP hS hl) (fun c => kf (by rw [if_pos c] at h; exact h) H locs ls hP hS hl)
theorem hs_if_lt (C : hs_C X wd own cc nL hh) (hd : decode cc pc = .ok (.ifCond .lt off, 3)) (ht : (pc : Int) + off = (tgt : Int)) (h : (if x < 0 then A else B) = some res) (kt : A = some res → hs_Z X nL S lv st tgt) (kf : B = some res → hs_Z X nL S lv st (pc + 3)) : hs_Z X nL S lv (.int x :: st) pc :=
  fun H locs ls hP hS hl => lv_if_lt C.1 C.2.1 hd ht (fun c => kt (by rw [if_pos c] at h; exact h) H locs ls hP hS hl) (fun c => kf (by rw [if_neg c] at h; exact h) H locs ls hP hS hl)
theorem hs_if_le (C : hs_C X wd own cc nL hh) (hd : decode cc pc = .ok (.ifCond .le off, 3)) (ht : (pc : Int) + off = (tgt : Int)) (h : (if x ≤ 0 then A else B) = some res) (kt : A = some res → hs_Z X nL S lv st tgt) (kf : B = some res → hs_Z X nL S lv st (pc + 3)) : hs_Z X nL S lv (.int x :: st) pc :=
  fun H locs ls hP hS hl => lv_if_le C.1 C.2.1 hd ht (fun c => kt (by rw [if_pos c] at h; exact h) H locs ls hP hS hl) (fun c => kf (by rw [if_neg c] at h; exact h) H locs ls hP hS hl)
theorem hs_if_ge (C : hs_C X wd own cc nL hh) (hd : decode cc pc = .ok (.ifCond .ge off, 3)) (ht : (pc : Int) + off = (tgt : Int)) (h : (if 0 ≤ x then A else B) = some res) (kt : A = some res → hs_Z X nL S lv st tgt) (kf : B = some res → hs_Z X nL S lv st (pc + 3)) : hs_Z X nL S lv (.int x :: st) pc :=
  fun H locs ls hP hS hl => lv_if_ge C.1 C.2.1 hd ht (fun c => kt (by rw [if_pos c] at h; exact h) H locs ls hP hS hl) (fun c => kf (by rw [if_neg c] at h; exact h) H locs ls hP hS hl)
theorem hs_if_gt (C : hs_C X wd own cc nL hh) (hd : decode cc pc = .ok (.ifCond .gt off, 3)) (ht : (pc : Int) + off = (tgt : Int)) (h : (if 0 < x then A else B) = some res) (kt : A = some res → hs_Z X nL S lv st tgt) (kf : B = some res → hs_Z X nL S lv st (pc + 3)) : hs_Z X nL S lv (.int x :: st) pc :=
  fun H locs ls hP hS hl => lv_if_gt C.1 C.2.1 hd ht (fun c => kt (by rw [if_pos c] at h; exact h) H locs ls hP hS hl) (fun c => kf (by rw [if_neg c] at h; exact h) H locs ls hP hS hl)
theorem hs_icmp_eq (C : hs_C X wd own cc nL hh) (hd : decode cc pc = .ok (.if_icmp .eq off, 3)) (ht : (pc : Int) + off = (tgt : Int)) (h : (if x = y then A else B) = some res) (kt : A = some res → hs_Z X nL S lv st tgt) (kf : B = some res → hs_Z X nL S lv st (pc + 3)) : hs_Z X nL S lv (.int y :: .int x :: st) pc :=
  fun H locs ls hP hS hl => lv_icmp_eq C.1 C.2.1 hd ht (fun c => kt (by rw [if_pos c] at h; exact h) H locs ls hP hS hl) (fun c => kf (by rw [if_neg c] at h; exact h) H locs ls hP hS hl)
theorem hs_icmp_ne (C : hs_C X wd own cc nL hh) (hd : decode cc pc = .ok (.if_icmp .ne off, 3)) (ht : (pc : Int) + off = (tgt : Int)) (h : (if x = y then B else A) = some res) (kt : A = some res → hs_Z X nL S lv st tgt) (kf : B = some res → hs_Z X nL S lv st (pc + 3)) : hs_Z X nL S lv (.int y :: .int x :: st) pc :=
  fun H locs ls hP hS hl => lv_icmp_ne C.1 C.2.1 hd ht (fun c => kt (by rw [if_neg c] at h; exact h) H locs ls hP hS hl) (fun c => kf (by rw [if_pos c] at h; exact h) H locs ls hP hS hl)
theorem hs_icmp_lt (C : hs_C X wd own cc nL hh) (hd : decode cc pc = .ok (.if_icmp .lt off, 3)) (ht : (pc : Int) + off = (tgt : Int)) (h : (if x < y then A else B) = some res) (kt : A = some res → hs_Z X nL S lv st tgt) (kf : B = some res → hs_Z X nL S lv st (pc + 3)) : hs_Z X nL S lv (.int y :: .int x :: st) pc :=
  fun H locs ls hP hS hl => lv_icmp_lt C.1 C.2.1 hd ht (fun c => kt (by rw [if_pos c] at h; exact h) H locs ls hP hS hl) (fun c => kf (by rw [if_neg c] at h; exact h) H locs ls hP hS hl)
theorem hs_icmp_le (C : hs_C X wd own cc nL hh) (hd : decode cc pc = .ok (.if_icmp .le off, 3)) (ht : (pc : Int) + off = (tgt : Int)) (h : (if x ≤ y then A else B) = some res) (kt : A = some res → hs_Z X nL S lv st tgt) (kf : B = some res → hs_Z X nL S lv st (pc + 3)) : hs_Z X nL S lv (.int y :: .int x :: st) pc :=
  fun H locs ls hP hS hl => lv_icmp_le C.1 C.2.1 hd ht (fun c => kt (by rw [if_pos c] at h; exact h) H locs ls hP hS hl) (fun c => kf (by rw [if_neg c] at h; exact h) H locs ls hP hS hl)
theorem hs_icmp_ge (C : hs_C X wd own cc nL hh) (hd : decode cc pc = .ok (.if_icmp .ge off, 3)) (ht : (pc : Int) + off = (tgt : Int)) (h : (if y ≤ x then A else B) = some res) (kt : A = some res → hs_Z X nL S lv st tgt) (kf : B = some res → hs_Z X nL S lv st (pc + 3)) : hs_Z X nL S lv (.int y :: .int x :: st) pc :=
  fun H locs ls hP hS hl => lv_icmp_ge C.1 C.2.1 hd ht (fun c => kt (by rw [if_pos c] at h; exact h) H locs ls hP hS hl) (fun c => kf (by rw [if_neg c] at h; exact h) H locs ls hP hS hl)
theorem hs_icmp_gt (C : hs_C X wd own cc nL hh) (hd : decode cc pc = .ok (.if_icmp .gt off, 3)) (ht : (pc : Int) + off = (tgt : Int)) (h : (if y < x then A else B) = some res) (kt : A = some res → hs_Z X nL S lv st tgt) (kf : B = some res → hs_Z X nL S lv st (pc + 3)) : hs_Z X nL S lv (.int y :: .int x :: st) pc :=
  fun H locs ls hP hS hl => lv_icmp_gt C.1 C.2.1 hd ht (fun c => kt (by rw [if_pos c] at h; exact h) H locs ls hP hS hl) (fun c => kf (by rw [if_neg c] at h; exact h) H locs ls hP hS hl)
end HSB
theorem hs_lookup (C : hs_C X wd own cc nL hh) {dflt : Int} {ps : Array (Int × Int)} {len : Nat} {x : Int32} {off : Int} {tgt : Nat} (hd : decode cc pc = .ok (.lookupswitch dflt ps, len)) (hp : (ps.toList.zip (ps.toList.drop 1)).all (fun (a, next) => a.1 < next.1) = true) (ho : Op.lookupswitch.offset ps.toList dflt x.toInt = off) (ht : (pc : Int) + off = (tgt : Int)) (k : hs_Z X nL S lv st tgt) : hs_Z X nL S lv (.int x :: st) pc :=
  fun H locs ls hP hS hl => lv_lookup C.1 C.2.1 hd hp ho ht (k H locs ls hP hS hl)
theorem hs_tableIn (C : hs_C X wd own cc nL hh) {dflt lo hi : Int} {offs : Array Int} {len : Nat} {x : Int32} {off : Int} {tgt : Nat} (hd : decode cc pc = .ok (.tableswitch dflt lo hi offs, len)) (h1 : ¬ x.toInt < lo) (h2 : ¬ hi < x.toInt) (ho : offs[(x.toInt - lo).toNat]? = some off) (ht : (pc : Int) + off = (tgt : Int)) (k : hs_Z X nL S lv st tgt) : hs_Z X nL S lv (.int x :: st) pc :=
  fun H locs ls hP hS hl => lv_tableIn C.1 C.2.1 hd h1 h2 ho ht (k H locs ls hP hS hl)
theorem hs_tableOut (C : hs_C X wd own cc nL hh) {dflt lo hi : Int} {offs : Array Int} {len : Nat} {x : Int32} {tgt : Nat} (hd : decode cc pc = .ok (.tableswitch dflt lo hi offs, len)) (h1 : x.toInt < lo ∨ hi < x.toInt) (ht : (pc : Int) + dflt = (tgt : Int)) (k : hs_Z X nL S lv st tgt) : hs_Z X nL S lv (.int x :: st) pc :=
  fun H locs ls hP hS hl => lv_tableOut C.1 C.2.1 hd h1 ht (k H locs ls hP hS hl)
/-! fields -/
section HSF
variable {kd i k idx N : Nat} {Cn : String} {T : u_T}
theorem hs_get (C : hs_C X wd own cc nL hh) (hc : vwCl[kd + 2]? = some (Cn, T, N)) (hin : ∀ w ∈ u_ws Cn T N, w ∈ hs_tb) (hN : N = hs_nf kd) (h8 : kd < 8) (hw : hs_wk kd = wd) (hkN : k < N) (w : Jvm.Cond.fieldLink own idx (T k).1 (T k).2.1 (T k).2.2.1 ∈ hs_tb) {v : Value} (hk : hs_K i = kd) (hv : hs_v (hs_q X) S kd i k = v) (hd : decode cc pc = .ok (.getfield idx, 3)) (kk : hs_Z X nL S lv (v :: st) (pc + 3)) : hs_Z X nL S lv (.ref (hs_q X i) :: st) pc := by
  intro H locs ls hP hS hl
  obtain ⟨c1, c2, c3, c4, c5, c6, c7, c8, c9, c10⟩ := C
  subst c7
  have hiw := hs_inw (by rw [hk]; exact hw) c8
  have he := hs_at (q := hs_q X) (cy := hs_cy X) (S := S) hiw
  rw [hs_e_o hk h8] at he
  exact va_get (D := hs_D X) (v := v) c1 c2 c5 hin c4 c9 hP _ he hc k hkN (c5 _ w) (fun _ h9 => h9) (by rw [hs_fs (hN ▸ hkN), hv]) hd (kk H locs ls hP hS hl)
theorem hs_put (C : hs_C X wd own cc nL hh) (ty0 : Nat → FieldType) (hty : ∀ k, k < N → parseFieldDescriptor (T k).2.2.1 = some (ty0 k)) (hnm : ∀ a, a < N → ∀ b, b < N → a ≠ b → (T a).2.1 ≠ (T b).2.1) (hc : vwCl[kd + 2]? = some (Cn, T, N)) (hin : ∀ w ∈ u_ws Cn T N, w ∈ hs_tb) (hN : N = hs_nf kd) (h8 : kd < 8) (hw : hs_wk kd = wd) (hkN : k < N) (hfin : (T k).2.2.2 = false) (w : Jvm.Cond.fieldLink own idx (T k).1 (T k).2.1 (T k).2.2.1 ∈ hs_tb) {v : Value} {x : Int32} (hk : hs_K i = kd) (hn : narrow (ty0 k) v = v) (hfit : fits (ty0 k) v = true) (hv : hs_v (hs_q X) (hs_U S i k x) kd i k = v) {ρ : Type} {G : hs_M → Option ρ} {res : ρ} (h : hs_l (hs_U S i k x) G = some res) (hd : decode cc pc = .ok (.putfield idx, 3)) (kk : ∀ S1 : hs_M, G S1 = some res → hs_Z X nL S1 lv st (pc + 3)) : hs_Z X nL S lv (v :: .ref (hs_q X i) :: st) pc := by
  intro H locs ls hP hS hl
  obtain ⟨c1, c2, c3, c4, c5, c6, c7, c8, c9, c10, c11, c12, c13⟩ := C
  subst c7
  have hiw := hs_inw (by rw [hk]; exact hw) c8
  have he := hs_at (q := hs_q X) (cy := hs_cy X) (S := S) hiw
  rw [hs_e_o hk h8] at he
  refine va_put (D := hs_D X) (v := v) (ty := ty0 k) c1 c2 c5 hin ty0 hty hnm c4 c9 hP (c10 S) hS _ he hc k hkN (c5 _ w) (fun _ h9 => h9) hfin (hty k hkN) hn hfit (by rw [hs_fsl, ← hN]; exact hkN) hd (fun H1 locs1 hP1 _ hS1 => ?_)
  rw [hs_fset (hN ▸ hkN) hv, hs_setw (S' := hs_U S i k x) hiw (fun j hj => hs_U_ne S k x hj) (hs_e_o hk h8)] at hP1
  exact kk (hs_U S i k x) h H1 locs1 ls hP1 hS1 hl
end HSF
/-! arrays -/
section HSA
variable {kd i : Nat} {x y : Int32} {ρ : Type} {res : ρ}
theorem hs_ald (C : hs_C X wd own cc nL hh) (hkd : kd = 8 ∨ kd = 14) (hw : hs_wk kd = wd) (hk : hs_K i = kd) {G : Option ρ} (h : hs_ix x (hs_N i) G = some res) (hd : decode cc pc = .ok (.iaload, 1)) (kk : G = some res → hs_Z X nL S lv (.int (S i x.toNatClampNeg) :: st) (pc + 1)) : hs_Z X nL S lv (.int x :: .ref (hs_q X i) :: st) pc := by
  intro H locs ls hP hS hl
  obtain ⟨c1, c2, c3, c4, c5, c6, c7, c8, c9, c10⟩ := C
  subst c7
  obtain ⟨hx, h⟩ := hs_ix_s h
  have hiw := hs_inw (by rw [hk]; exact hw) c8
  have he := hs_at (q := hs_q X) (cy := hs_cy X) (S := S) hiw
  rcases hkd with rfl | rfl
  · rw [hs_e_a hk (by decide)] at he
    exact va_iald (f := S i) c1 c2 c9 hP _ 0 he rfl hx hd (kk h H locs ls hP hS hl)
  · rw [hs_e_a hk (by decide)] at he
    exact va_iald (f := S i) c1 c2 c9 hP _ 5 he rfl hx hd (kk h H locs ls hP hS hl)
theorem hs_ast (C : hs_C X wd own cc nL hh) (hkd : kd = 8 ∨ kd = 14) (hw : hs_wk kd = wd) (hk : hs_K i = kd) {G : hs_M → Option ρ} (h : hs_ix x (hs_N i) (hs_l (hs_U S i x.toNatClampNeg y) G) = some res) (hd : decode cc pc = .ok (.iastore, 1)) (kk : ∀ S1 : hs_M, G S1 = some res → hs_Z X nL S1 lv st (pc + 1)) : hs_Z X nL S lv (.int y :: .int x :: .ref (hs_q X i) :: st) pc := by
  intro H locs ls hP hS hl
  obtain ⟨c1, c2, c3, c4, c5, c6, c7, c8, c9, c10, c11, c12, c13⟩ := C
  subst c7
  obtain ⟨hx, h⟩ := hs_ix_s h
  have hiw := hs_inw (by rw [hk]; exact hw) c8
  have he := hs_at (q := hs_q X) (cy := hs_cy X) (S := S) hiw
  have he' : hs_e (hs_q X) (hs_cy X) (hs_U S i x.toNatClampNeg y) i = .inl (hs_cy X kd, hs_N i, .inl (upd (S i) x.toNatClampNeg y)) := by
    rw [hs_e_a hk (by omega)]
    rcases hkd with rfl | rfl <;> simp [hs_ar, hs_U_row]
  rcases hkd with rfl | rfl
  · rw [hs_e_a hk (by decide)] at he
    refine va_iast (f := S i) c1 c2 c9 hP (c10 S) hS _ 0 he rfl hx hd (fun H1 locs1 hP1 _ hS1 => ?_)
    rw [hs_setw (S' := hs_U S i x.toNatClampNeg y) hiw (fun j hj => hs_U_ne S _ y hj) he'] at hP1
    exact kk _ h H1 locs1 ls hP1 hS1 hl
  · rw [hs_e_a hk (by decide)] at he
    refine va_iast (f := S i) c1 c2 c9 hP (c10 S) hS _ 5 he rfl hx hd (fun H1 locs1 hP1 _ hS1 => ?_)
    rw [hs_setw (S' := hs_U S i x.toNatClampNeg y) hiw (fun j hj => hs_U_ne S _ y hj) he'] at hP1
    exact kk _ h H1 locs1 ls hP1 hS1 hl
theorem hs_zld (C : hs_C X wd own cc nL hh) (hw : wd = 1) (hk : hs_K i = 15) {G : Option ρ} (h : hs_ix x (hs_N i) G = some res) (hd : decode cc pc = .ok (.baload, 1)) (kk : G = some res → hs_Z X nL S lv (.int (S i x.toNatClampNeg) :: st) (pc + 1)) : hs_Z X nL S lv (.int x :: .ref (hs_q X i) :: st) pc := by
  intro H locs ls hP hS hl
  obtain ⟨c1, c2, c3, c4, c5, c6, c7, c8, c9, c10⟩ := C
  subst c7
  obtain ⟨hx, h⟩ := hs_ix_s h
  have hiw := hs_inw (by rw [hk]; exact hw.symm) c8
  have he := hs_at (q := hs_q X) (cy := hs_cy X) (S := S) hiw
  rw [hs_e_a hk (by decide)] at he
  exact va_zald (f := S i) c1 c2 c9 hP _ 6 he rfl hx hd (kk h H locs ls hP hS hl)
theorem hs_zst (C : hs_C X wd own cc nL hh) (hw : wd = 1) (hk : hs_K i = 15) {G : hs_M → Option ρ} (h : hs_ix x (hs_N i) (hs_bg y (hs_l (hs_U S i x.toNatClampNeg y) G)) = some res) (hd : decode cc pc = .ok (.bastore, 1)) (kk : ∀ S1 : hs_M, G S1 = some res → hs_Z X nL S1 lv st (pc + 1)) : hs_Z X nL S lv (.int y :: .int x :: .ref (hs_q X i) :: st) pc := by
  intro H locs ls hP hS hl
  obtain ⟨c1, c2, c3, c4, c5, c6, c7, c8, c9, c10, c11, c12, c13⟩ := C
  subst c7
  obtain ⟨hx, h⟩ := hs_ix_s h
  obtain ⟨hy, h⟩ := hs_bg_s h
  have hn : vp_nar .boolean y = y := by rcases hy with rfl | rfl <;> rfl
  have hiw := hs_inw (by rw [hk]; exact hw.symm) c8
  have he := hs_at (q := hs_q X) (cy := hs_cy X) (S := S) hiw
  have he' : hs_e (hs_q X) (hs_cy X) (hs_U S i x.toNatClampNeg y) i = .inl (hs_cy X 15, hs_N i, .inl (upd (S i) x.toNatClampNeg y)) := by
    rw [hs_e_a hk (by decide)]
    simp [hs_ar, hs_U_row]
  rw [hs_e_a hk (by decide)] at he
  refine va_zast (f := S i) c1 c2 c9 hP (c10 S) hS _ 6 he rfl hx hd (fun H1 locs1 hP1 _ hS1 => ?_)
  rw [hn, hs_setw (S' := hs_U S i x.toNatClampNeg y) hiw (fun j hj => hs_U_ne S _ y hj) he'] at hP1
  exact kk _ h H1 locs1 ls hP1 hS1 hl
theorem hs_rld (C : hs_C X wd own cc nL hh) (hw : wd = 0) {tgt t0 : Nat} {Cn : String} {f : Nat → Option Nat} (ht : (hs_tys (hs_cy X))[t0]? = some (hs_cy X kd, .object Cn)) (hk : hs_K i = kd) (hw0 : hs_wk kd = 0) (h8 : ¬ kd < 8) (hf : hs_ar (hs_q X) S kd i = .inr (.inr (.inr (.inr f)))) (hft : f x.toNatClampNeg = some (hs_q X tgt)) {G : Option ρ} (h : hs_ix x (hs_N i) G = some res) (hd : decode cc pc = .ok (.aaload, 1)) (kk : G = some res → hs_Z X nL S lv (.ref (hs_q X tgt) :: st) (pc + 1)) : hs_Z X nL S lv (.int x :: .ref (hs_q X i) :: st) pc := by
  intro H locs ls hP hS hl
  obtain ⟨c1, c2, c3, c4, c5, c6, c7, c8, c9, c10⟩ := C
  subst c7
  obtain ⟨hx, h⟩ := hs_ix_s h
  have hiw := hs_inw (by rw [hk, hw0]; exact hw.symm) c8
  have he := hs_at (q := hs_q X) (cy := hs_cy X) (S := S) hiw
  rw [hs_e_a hk h8, hf] at he
  refine va_aldq (f := f) c1 c2 c9 hP _ t0 he ht hx hd ?_
  rw [hft]
  exact kk h H locs ls hP hS hl
/-- a packet's cell into the line's rows -/
theorem hs_rst (C : hs_C X wd own cc nL hh) (hw : wd = 0) {j : Nat} (hk : hs_K i = 10) (hj : hs_K j = 3) {G : hs_M → Option ρ} (h : hs_ix x (hs_N i) (hs_l (hs_U S i x.toNatClampNeg (nI j)) G) = some res) (hd : decode cc pc = .ok (.aastore, 1)) (kk : ∀ S1 : hs_M, G S1 = some res → hs_Z X nL S1 lv st (pc + 1)) : hs_Z X nL S lv (.ref (hs_q X j) :: .int x :: .ref (hs_q X i) :: st) pc := by
  intro H locs ls hP hS hl
  obtain ⟨c1, c2, c3, c4, c5, c6, c7, c8, c9, c10, c11, c12, c13⟩ := C
  subst c7
  obtain ⟨hx, h⟩ := hs_ix_s h
  have hiw := hs_inw (by rw [hk]; exact hw.symm) c8
  have hjw := hs_inw (by rw [hj]; exact hw.symm) c8
  have hj48 : j < 48 := hs_inw0 j (by rw [hj]; rfl)
  have he := hs_at (q := hs_q X) (cy := hs_cy X) (S := S) hiw
  have hv := hs_at (q := hs_q X) (cy := hs_cy X) (S := S) hjw
  have he' : hs_e (hs_q X) (hs_cy X) (hs_U S i x.toNatClampNeg (nI j)) i = .inl (hs_cy X 10, hs_N i, .inr (.inr (.inr (.inr (va_up (fun j => some (hs_q X (S i j).toNatClampNeg)) x.toNatClampNeg (some (hs_q X j))))))) := by
    rw [hs_e_a hk (by decide)]
    simp only [hs_ar, if_pos]
    congr 7
    funext b
    by_cases hb : b = x.toNatClampNeg
    · subst hb
      simp [hs_U, va_up, nI_clamp (show j < 2 ^ 31 by omega)]
    · simp [hs_U, va_up, hb]
  rw [hs_e_a hk (by decide)] at he
  rw [hs_e_o hj (by decide)] at hv
  refine va_astq (f := fun j => some (hs_q X (S i j).toNatClampNeg)) (r := (RX3, TX3, 5)) c1 c2 c9 hP (c10 S) hS _ 1 _ 5 he rfl hv rfl hx hd (fun H1 locs1 hP1 _ hS1 => ?_)
  rw [hs_setw (S' := hs_U S i x.toNatClampNeg (nI j)) hiw (fun j hj => hs_U_ne S _ _ hj) he'] at hP1
  exact kk _ h H1 locs1 ls hP1 hS1 hl
end HSA
/-! statics -/
theorem hs_gets (C : hs_C X wd own cc nL hh) {j idx : Nat} (hj : j < 5) {nm : String} (hnm : hs_sf j = nm) (w : (own, idx, nm) ∈ hs_nl) (hd : decode cc pc = .ok (.getstatic idx, 3)) (kk : hs_Z X nL S lv (.ref (hs_tbl X j) :: st) (pc + 3)) : hs_Z X nL S lv st pc := by
  intro H locs ls hP hS hl
  obtain ⟨c1, c2, c3, c4, c5, c6, c7, c8, c9, c10, c11, c12, c13⟩ := C
  subst hnm
  exact va_getsN c1 c2 (c12 j hj).1 hS c4 (va_Nw.use rfl (c13 _ w)) (fun _ h9 => h9) hd (kk H locs ls hP hS hl)
theorem hs_sld (C : hs_C X wd own cc nL hh) {j : Nat} {x : Int32} (hj : j < 5) {ρ : Type} {res : ρ} {G : Option ρ} (h : hs_ix x (hs_sn j) G = some res) (hd : decode cc pc = .ok (.iaload, 1)) (kk : G = some res → hs_Z X nL S lv (.int (hs_sv j x.toNatClampNeg) :: st) (pc + 1)) : hs_Z X nL S lv (.int x :: .ref (hs_tbl X j) :: st) pc := by
  intro H locs ls hP hS hl
  obtain ⟨c1, c2, c3, c4, c5, c6, c7, c8, c9, c10, c11, c12, c13⟩ := C
  obtain ⟨hx, h⟩ := hs_ix_s h
  exact va_ti c1 c2 (c12 j hj).2 hS hx rfl hd (kk h H locs ls hP hS hl)
end HSR
end
section
/-! ===== contracts over memories, and calls ===== -/
def hs_w (y : MethodName) (b : ByteArray) (n : Nat) (ret : Option FieldType) : List Cond := .code y b n ret :: hs_tb
def hs_Pre (D : va_G) (cy : Nat → ClassId) (q tb : Nat → Nat) (wd : Nat) (S : hs_M) (sz : Nat) : State → Prop := fun U => U.heap.size = sz ∧ va_P D vwCl (hs_ws q cy wd S) U.heap ∧ va_K D vwCl (hs_tys cy) U ∧ va_D (fun _ => True) (hs_ws q cy wd S) ∧ hs_St tb (va_A (hs_ws q cy wd S) sz) U U.heap ∧ hs_Nw U
def hs_Qc (D : va_G) (cy : Nat → ClassId) (q : Nat → Nat) (wd : Nat) (A : Nat → Prop) (ov : Option Value) (S : hs_M) : Array Value → State → Outcome → State → Prop := fun _ st oc t => oc = .returned ov ∧ va_P D vwCl (hs_ws q cy wd S) t.heap ∧ va_F A st t
/-- a method's contract: from every state that holds the memory S it returns ov and the state holds S' -/
def hs_met (wd : Nat) (y : MethodName) (b : ByteArray) (n : Nat) (ret : Option FieldType) (h : Nat) (args : (Nat → Nat) → List Value) (S : hs_M) (ov : (Nat → Nat) → Option Value) (S' : hs_M) : Prop :=
  ∀ (l : Launch) (D : va_G) (cy : Nat → ClassId) (q tb : Nat → Nat) (sz : Nat), Met l y (hs_w y b n ret) (hs_rm h) (va_Pc (args q) (hs_Pre D cy q tb wd S sz)) (hs_Qc D cy q wd (va_A (hs_ws q cy wd S) sz) (ov q) S') 0 0 (va_A (hs_ws q cy wd S) sz)
theorem hs_mk0 {wd : Nat} {y : MethodName} {b : ByteArray} {n : Nat} {ret : Option FieldType} {hh : Nat} {args : (Nat → Nat) → List Value} {S : hs_M} {ov : (Nat → Nat) → Option Value} {S' : hs_M} (hy : plainName y.cls = true) (hwd : wd ≤ 1) (hlen : ∀ q, (lg_sl (args q)).length ≤ n)
    (body : ∀ X : hs_T, hs_C X wd y.cls b n hh → hs_Q X = MQ X.2.1.2.1 (hs_Qc (hs_D X) (hs_cy X) (hs_q X) wd (hs_A X) (ov (hs_q X)) S') (hs_a X) (hs_s X) 0 0 (hs_A X) → X.2.1.2.2.1.sig.returnType = ret → X.2.1.2.2.1.locks = false → hs_Z X n S (lv_args 0 (args (hs_q X))) [] 0) : hs_met wd y b n ret hh args S ov S' := by
  intro l D cy q tb sz
  refine Met.ofW (cc := b) (maxL := n) (ret := ret) hy rfl ?_
  intro p e s m args' below meth c s₁ B hml hv
  obtain ⟨rfl, hsz, hP, hK, hD0, hSt, hNw⟩ := hv
  subst hsz
  have hts := atoms_spec (ws := hs_w y b n ret) B.pre
  have hD := hD0.self (sz := s.heap.size)
  have Z := body ((p, l, e, (headSpec (hs_w y b n ret) (hs_rm hh)).room, s, m), ((args q).toArray, below, meth, c), (D, cy, q, tb), (wd, va_A (hs_ws q cy wd S) s.heap.size, MQ below (hs_Qc D cy q wd (va_A (hs_ws q cy wd S) s.heap.size) (ov q) S') (args q).toArray s 0 0 (va_A (hs_ws q cy wd S) s.heap.size)))
    ⟨B.exec, B.bytes, hml, findClass_of_methodNamed B.named, fun w h => hts w (List.mem_cons_of_mem _ h), ⟨Nat.le_refl _, Nat.le_refl _⟩, rfl, hwd, hK, fun S2 => hs_Dmv hD, fun a h => Or.inr h, hSt, hNw⟩ rfl B.returns B.notSynchronized
  rw [lg_entry_eq]
  exact Z s.heap [] _ hP va_S.rf (lv_entry (args q) (hlen q))
/-! ends -/
def hs_FI (X : hs_T) (cc : ByteArray) (res : Int32 × hs_M) : Prop := ∀ (H : Heap) (locs : List Loc) (ls : Array Slot) (pc : Nat), va_P (hs_D X) vwCl (hs_ws (hs_q X) (hs_cy X) (hs_wd X) res.2) H → va_S (hs_A X) (hs_s X).heap H locs → decode cc pc = .ok (.ireturn, 1) → hs_W X H locs (F0 (hs_m X) pc ls [.int res.1])
def hs_FB (X : hs_T) (cc : ByteArray) (res : Int32 × hs_M) : Prop := (res.1 = 0 ∨ res.1 = 1) → hs_FI X cc res
def hs_FV (X : hs_T) (cc : ByteArray) (res : hs_M) : Prop := ∀ (H : Heap) (locs : List Loc) (ls : Array Slot) (pc : Nat), va_P (hs_D X) vwCl (hs_ws (hs_q X) (hs_cy X) (hs_wd X) res) H → va_S (hs_A X) (hs_s X).heap H locs → decode cc pc = .ok (.return_, 1) → hs_W X H locs (F0 (hs_m X) pc ls [])
def hs_FR (X : hs_T) (cc : ByteArray) (res : Nat × hs_M) : Prop := ∀ (H : Heap) (locs : List Loc) (ls : Array Slot) (pc : Nat), va_P (hs_D X) vwCl (hs_ws (hs_q X) (hs_cy X) (hs_wd X) res.2) H → va_S (hs_A X) (hs_s X).heap H locs → decode cc pc = .ok (.areturn, 1) → hs_W X H locs (F0 (hs_m X) pc ls [.ref (hs_q X res.1)])
section HSE
variable {X : hs_T} {wd nL hh pc : Nat} {own : String} {cc : ByteArray} {S : hs_M} {lv : List (Nat × Value)}
theorem hs_ireti (C : hs_C X wd own cc nL hh) {res : Int32 × hs_M} (hf : hs_FI X cc res) {x : Int32} (h : some (x, S) = some res) (hd : decode cc pc = .ok (.ireturn, 1)) : hs_Z X nL S lv [.int x] pc := by
  cases h
  exact fun H locs ls hP hS _ => hf H locs ls pc hP hS hd
theorem hs_iretb (C : hs_C X wd own cc nL hh) {res : Int32 × hs_M} (hf : hs_FB X cc res) {x : Int32} (h : hs_bg x (some (x, S)) = some res) (hd : decode cc pc = .ok (.ireturn, 1)) : hs_Z X nL S lv [.int x] pc := by
  obtain ⟨hx, h⟩ := hs_bg_s h
  cases h
  exact fun H locs ls hP hS _ => hf hx H locs ls pc hP hS hd
theorem hs_vret (C : hs_C X wd own cc nL hh) {res : hs_M} (hf : hs_FV X cc res) (h : some S = some res) (hd : decode cc pc = .ok (.return_, 1)) : hs_Z X nL S lv [] pc := by
  cases h
  exact fun H locs ls hP hS _ => hf H locs ls pc hP hS hd
theorem hs_aret (C : hs_C X wd own cc nL hh) {res : Nat × hs_M} (hf : hs_FR X cc res) {i : Nat} (h : some (i, S) = some res) (hd : decode cc pc = .ok (.areturn, 1)) : hs_Z X nL S lv [.ref (hs_q X i)] pc := by
  cases h
  exact fun H locs ls hP hS _ => hf H locs ls pc hP hS hd
end HSE
section HSM
variable {wd n hh : Nat} {y : MethodName} {b : ByteArray} {args : (Nat → Nat) → List Value} {S : hs_M}
theorem hs_mkI {res : Int32 × hs_M} (hy : plainName y.cls = true) (hwd : wd ≤ 1) (hlen : ∀ q, (lg_sl (args q)).length ≤ n) (body : ∀ X : hs_T, hs_C X wd y.cls b n hh → hs_FI X b res → hs_Z X n S (lv_args 0 (args (hs_q X))) [] 0) : hs_met wd y b n (some .int) hh args S (fun _ => some (.int res.1)) res.2 := by
  refine hs_mk0 hy hwd hlen fun X C hQ hr hlocks => body X C fun H locs ls pc hP hS hd => ?_
  have hwdX := C.2.2.2.2.2.2.1
  show W _ _ _ _ _ _ _ _ _ _ _ _ _ _ (hs_Q X) _
  rw [hQ]
  exact W.iret C.1 C.2.1 hr (fun t ht _ => ⟨rfl, by rw [ht, ← hwdX]; exact hP, hS.F ht⟩) hS.2.2 hd
theorem hs_mkB {res : Int32 × hs_M} (hy : plainName y.cls = true) (hwd : wd ≤ 1) (hlen : ∀ q, (lg_sl (args q)).length ≤ n) (body : ∀ X : hs_T, hs_C X wd y.cls b n hh → hs_FB X b res → hs_Z X n S (lv_args 0 (args (hs_q X))) [] 0) : hs_met wd y b n (some .boolean) hh args S (fun _ => some (.int res.1)) res.2 := by
  refine hs_mk0 hy hwd hlen fun X C hQ hr hlocks => body X C fun hx H locs ls pc hP hS hd => ?_
  have hwdX := C.2.2.2.2.2.2.1
  have hn : narrow .boolean (.int res.1) = .int res.1 := by rcases hx with e | e <;> rw [e] <;> rfl
  show W _ _ _ _ _ _ _ _ _ _ _ _ _ _ (hs_Q X) _
  rw [hQ]
  exact W.zret C.1 C.2.1 hr hn (fun t ht _ => ⟨rfl, by rw [ht, ← hwdX]; exact hP, hS.F ht⟩) hS.2.2 hd
theorem hs_mkV {res : hs_M} (hy : plainName y.cls = true) (hwd : wd ≤ 1) (hlen : ∀ q, (lg_sl (args q)).length ≤ n) (body : ∀ X : hs_T, hs_C X wd y.cls b n hh → hs_FV X b res → hs_Z X n S (lv_args 0 (args (hs_q X))) [] 0) : hs_met wd y b n none hh args S (fun _ => none) res := by
  refine hs_mk0 hy hwd hlen fun X C hQ hr hlocks => body X C fun H locs ls pc hP hS hd => ?_
  have hwdX := C.2.2.2.2.2.2.1
  show W _ _ _ _ _ _ _ _ _ _ _ _ _ _ (hs_Q X) _
  rw [hQ]
  exact W.vret C.1 C.2.1 hr (fun t ht _ => ⟨rfl, by rw [ht, ← hwdX]; exact hP, hS.F ht⟩) hS.2.2 hd
theorem hs_mkR {res : Nat × hs_M} {cn : String} (hy : plainName y.cls = true) (hwd : wd ≤ 1) (hlen : ∀ q, (lg_sl (args q)).length ≤ n) (body : ∀ X : hs_T, hs_C X wd y.cls b n hh → hs_FR X b res → hs_Z X n S (lv_args 0 (args (hs_q X))) [] 0) : hs_met wd y b n (some (.object cn)) hh args S (fun q => some (.ref (q res.1))) res.2 := by
  refine hs_mk0 hy hwd hlen fun X C hQ hr hlocks => body X C fun H locs ls pc hP hS hd => ?_
  have hwdX := C.2.2.2.2.2.2.1
  show W _ _ _ _ _ _ _ _ _ _ _ _ _ _ (hs_Q X) _
  rw [hQ]
  exact W.aret C.1 C.2.1 hr (Or.inl ⟨cn, rfl⟩) (Or.inr ⟨_, rfl⟩) (fun t ht _ => ⟨rfl, by rw [ht, ← hwdX]; exact hP, hS.F ht⟩) hS.2.2 hd
end HSM
section HSL
variable {X : hs_T} {wd nL hh pc : Nat} {own : String} {cc : ByteArray} {S : hs_M} {lv : List (Nat × Value)} {st : List Value}
theorem hs_Ain (C : hs_C X wd own cc nL hh) {H : Heap} {locs : List Loc} (hS : va_S (hs_A X) (hs_s X).heap H locs) (S : hs_M) : ∀ a, va_A (hs_ws (hs_q X) (hs_cy X) wd S) H.size a → hs_A X a := by
  intro a h
  rcases h with ⟨k, e, h⟩ | h
  · exact (C.2.2.2.2.2.2.2.2.2.1 S).2 k _ h
  · exact C.2.2.2.2.2.2.2.2.2.2.1 a (Nat.le_trans hS.1 h)
theorem hs_back (C : hs_C X wd own cc nL hh) {S' : hs_M} {ov : Option Value} {a : Array Value} {st0 : List Value} {H : Heap} {locs : List Loc} {ls : Array Slot}
    (hrun : va_Run X.1.1 X.1.2.1 X.1.2.2.1 X.1.2.2.2.1 (hs_s X) (hs_m X) (hs_a X) X.2.1.2.1 X.2.1.2.2.1 X.2.1.2.2.2 H locs 0 0 0 0 (F0 (hs_m X) pc ls st0) st ((hs_Qc (hs_D X) (hs_cy X) (hs_q X) wd (va_A (hs_ws (hs_q X) (hs_cy X) wd S) H.size) ov S') a) (va_A (hs_ws (hs_q X) (hs_cy X) wd S) H.size))
    (hS : va_S (hs_A X) (hs_s X).heap H locs) (hl : lv_has ls nL lv) (kk : hs_Z X nL S' lv (ov.toList ++ st) (pc + 3)) : hs_W X H locs (F0 (hs_m X) pc ls st0) := by
  intro T hT X0
  obtain ⟨v, st₀, t, T', L, h0, X', hL, e1, e2, ⟨hv, hp, hz, hk⟩, st⟩ := hrun T hT X0
  cases hv
  rw [h0] at hz hk
  have hA := hs_Ain C hS S
  have hwdX := C.2.2.2.2.2.2.1
  obtain ⟨t2, a1, b1⟩ := kk T'.heap (locs ++ L) ls (by rw [e1, hwdX]; exact hp)
    ⟨Nat.le_trans hS.1 (by rw [e1]; exact hz), fun q h1 h2 => by rw [e1, hk q (Nat.lt_of_lt_of_le h1 hS.1) (fun z => h2 (hA q z))]; exact hS.2.1 q h1 h2, fun q hq => by
      rcases List.mem_append.mp hq with h | h
      · exact hS.2.2 q h
      · exact hA _ (hL q h)⟩ hl T' rfl X'
  exact ⟨t2, st t2 a1, b1⟩
theorem hs_preO (C : hs_C X wd own cc nL hh) {H : Heap} {locs : List Loc} (hP : va_P (hs_D X) vwCl (hs_ws (hs_q X) (hs_cy X) (hs_wd X) S) H) (hS : va_S (hs_A X) (hs_s X).heap H locs) {U : State} (hU : U.heap = H) (hW : (hs_s X).WarmedH U.vm) : hs_Pre (hs_D X) (hs_cy X) (hs_q X) (hs_tbl X) wd S H.size U := by
  have hA := hs_Ain C hS S
  obtain ⟨c1, c2, c3, c4, c5, c6, c7, c8, c9, c10, c11, c12, c13⟩ := C
  subst c7
  exact ⟨by rw [hU], by rw [hU]; exact hP, va_K.moved hW.alike c9, (c10 S).weaken (fun _ _ _ _ => trivial), by rw [hU]; exact hs_St_go c12 hW.alike hA (fun a h1 h2 => hS.2.1 a h1 h2), hs_Nw_go hW c13⟩
theorem hs_blind {D : va_G} {cy : Nat → ClassId} {q tb : Nat → Nat} {wd sz : Nat} {S : hs_M} {av : List Value} : FrameBlind (va_Pc av (hs_Pre D cy q tb wd S sz)) := by
  intro a U g mk h
  obtain ⟨h0, h1, h2, h3, h4, h5, h6⟩ := h
  exact ⟨h0, h1, h2, va_K.moved (u := U) (U := U.calling g mk a) (Vm.Alike.refl U.vm) h3, h4, hs_St_go h5 (U := U.calling g mk a) (Vm.Alike.refl U.vm) (fun _ h => h) (fun _ _ _ => rfl), fun x hx => va_Nw.same rfl (rfl : U.vm = (U.calling g mk a).vm) (h6 x hx)⟩
theorem hs_callB (C : hs_C X wd own cc nL hh) {y : MethodName} {b : ByteArray} {n : Nat} {ret : Option FieldType} {h idx k : Nat} (w1 : Jvm.Cond.methodLink own idx y ∈ hs_tb) (w4 : Jvm.Cond.initialized y.cls ∈ hs_tb) (w5 : Jvm.Cond.code y b n ret ∈ hs_tb) (hdd : (parseMethodDescriptor y.desc).map (fun d => d.parameters.length) = some k) (hmh : y.cls ≠ "java/lang/invoke/MethodHandle" ∧ y.cls ≠ "java/lang/invoke/VarHandle") (hh1 : h < hh) (hn : n ≤ 45) : CallB X.1.2.2.2.1 (hs_s X) (hs_a X) own idx y b n ret (hs_w y b n ret) (hs_rm h) 0 0 k := by
  obtain ⟨c1, c2, c3, c4, c5, c6, c7⟩ := C
  have hG : GoodIn hs_tb (hs_w y b n ret) := by
    intro w hw
    have hm : w ∈ hs_tb := by
      rcases List.mem_cons.mp hw with rfl | hw
      · exact w5
      · exact hw
    exact ⟨hm, good_of_word (List.mem_filter.mp hm).2⟩
  refine callB_of k c5 hG rfl rfl rfl (c5 _ w4) (c5 _ w1) ⟨hmh.1, hmh.2, hdd⟩ ?_
  obtain ⟨c61, c62⟩ := c6
  show h + 1 ≤ _ ∧ 8 + (n + 11) + 64 * h ≤ _
  omega
theorem hs_callV (C : hs_C X wd own cc nL hh) {y : MethodName} {b : ByteArray} {n : Nat} {ret : Option FieldType} {h idx kd i N : Nat} {T : u_T} {args : (Nat → Nat) → List Value} {ov : (Nat → Nat) → Option Value} {As st0 : List Value} {S' : hs_M}
    (w1 : Jvm.Cond.methodLink own idx y ∈ hs_tb) (w2 : Jvm.Cond.instanceMethod y ∈ hs_tb) (w3 : Jvm.Cond.selects y.cls y y ∈ hs_tb) (w4 : Jvm.Cond.initialized y.cls ∈ hs_tb) (w5 : Jvm.Cond.code y b n ret ∈ hs_tb) (hmh : y.cls ≠ "java/lang/invoke/MethodHandle" ∧ y.cls ≠ "java/lang/invoke/VarHandle") (hn : n ≤ 45) (hc : vwCl[kd + 2]? = some (y.cls, T, N)) (h8 : kd < 8) (hw : hs_wk kd = wd)
    (hM : hs_met wd y b n ret h args S ov S') (ha : args (hs_q X) = .ref (hs_q X i) :: As) (hst : st0 = As.reverse ++ .ref (hs_q X i) :: st) {na : Nat} (hdd : (parseMethodDescriptor y.desc).map (fun d => d.parameters.length) = some na) (hna : As.length = na) (hk : hs_K i = kd) (hh1 : h < hh) (hrest : (st.map fun v => v.category).sum ≤ 8) (hd : decode cc pc = .ok (.invokevirtual idx, 3)) (kk : hs_Z X nL S' lv ((ov (hs_q X)).toList ++ st) (pc + 3)) : hs_Z X nL S lv st0 pc := by
  intro H locs ls hP hS hl
  have hB := hs_callB C w1 w4 w5 hdd hmh hh1 hn
  have hpre := fun (U : State) (hU : U.heap = H) (hW : (hs_s X).WarmedH U.vm) => hs_preO C hP hS hU hW
  have CC := C
  obtain ⟨c1, c2, c3, c4, c5, c6, c7, c8, c9, c10, c11, c12, c13⟩ := C
  have hiw := hs_inw (by rw [hk]; exact hw) c8
  have he := hs_at (q := hs_q X) (cy := hs_cy X) (S := S) hiw
  rw [hs_e_o hk h8, ← c7] at he
  have hrec := va_recv (ci := kd + 2) c9 hP hc he
  refine hs_back CC (a := (Value.ref (hs_q X i) :: As).toArray) (va_runV (As := As) (rest := st) ⟨c1, c2, c3, c4, c5⟩ (hM X.1.2.1 (hs_D X) (hs_cy X) (hs_q X) (hs_tbl X) H.size) ⟨hB, c5 _ w2, c5 _ w3⟩ ⟨hs_blind, hrec, fun U hU hW => ⟨by rw [ha], hpre U hU hW⟩⟩ rfl hna hl.1 hst (lv_room hrest) hd ⟨Nat.zero_le _, Nat.zero_le _⟩) hS hl kk
theorem hs_callS (C : hs_C X wd own cc nL hh) {y : MethodName} {b : ByteArray} {n : Nat} {ret : Option FieldType} {h idx : Nat} {args : (Nat → Nat) → List Value} {ov : (Nat → Nat) → Option Value} {As st0 : List Value} {S' : hs_M}
    (w1 : Jvm.Cond.methodLink own idx y ∈ hs_tb) (w2 : Jvm.Cond.static y ∈ hs_tb) (w4 : Jvm.Cond.initialized y.cls ∈ hs_tb) (w5 : Jvm.Cond.code y b n ret ∈ hs_tb) (hmh : y.cls ≠ "java/lang/invoke/MethodHandle" ∧ y.cls ≠ "java/lang/invoke/VarHandle") (hn : n ≤ 45)
    (hM : hs_met wd y b n ret h args S ov S') (ha : args (hs_q X) = As) (hst : st0 = As.reverse ++ st) {na : Nat} (hdd : (parseMethodDescriptor y.desc).map (fun d => d.parameters.length) = some na) (hna : As.length = na) (hh1 : h < hh) (hrest : (st.map fun v => v.category).sum ≤ 8) (hd : decode cc pc = .ok (.invokestatic idx, 3)) (kk : hs_Z X nL S' lv ((ov (hs_q X)).toList ++ st) (pc + 3)) : hs_Z X nL S lv st0 pc := by
  intro H locs ls hP hS hl
  have hB := hs_callB C w1 w4 w5 hdd hmh hh1 hn
  have hpre := fun (U : State) (hU : U.heap = H) (hW : (hs_s X).WarmedH U.vm) => hs_preO C hP hS hU hW
  have CC := C
  obtain ⟨c1, c2, c3, c4, c5, c6, c7, c8, c9, c10, c11, c12, c13⟩ := C
  refine hs_back CC (a := As.toArray) (va_runS (As := As) (rest := st) ⟨c1, c2, c3, c4, c5⟩ (hM X.1.2.1 (hs_D X) (hs_cy X) (hs_q X) (hs_tbl X) H.size) ⟨hB, c5 _ w2⟩ ⟨hs_blind, fun U hU hW => ⟨by rw [ha], hpre U hU hW⟩⟩ rfl hna hl.1 hst (lv_room hrest) hd ⟨Nat.zero_le _, Nat.zero_le _⟩) hS hl kk
theorem hs_cmin (C : hs_C X wd own cc nL hh) {idx : Nat} {x y : Int32} (w1 : Jvm.Cond.methodLink own idx Lib.Math.min.name ∈ hs_tb) (w2 : Jvm.Cond.static Lib.Math.min.name ∈ hs_tb) (w3 : Jvm.Cond.initialized "java/lang/Math" ∈ hs_tb) (w4 : Jvm.Cond.code Lib.Math.min.name Lib.Math.min.code 2 (some .int) ∈ hs_tb) (hh1 : 0 < hh) (hrest : (st.map fun v => v.category).sum ≤ 8) (hd : decode cc pc = .ok (.invokestatic idx, 3)) (kk : hs_Z X nL S lv (.int (hs_min x y) :: st) (pc + 3)) : hs_Z X nL S lv (.int y :: .int x :: st) pc := by
  intro H locs ls hP hS hl
  obtain ⟨c1, c2, c3, c4, c5, ⟨c61, c62⟩, c7⟩ := C
  refine va_mmin c1 c2 (by rw [c3]; exact hl.1.symm) c4 (c5 _ w1) (c5 _ w2) (c5 _ w3) (c5 _ w4) (by omega) (by omega) (Nat.zero_le _) (Nat.zero_le _) hd (kk H locs ls hP hS hl)
theorem hs_cmax (C : hs_C X wd own cc nL hh) {idx : Nat} {x y : Int32} (w1 : Jvm.Cond.methodLink own idx Lib.Math.max.name ∈ hs_tb) (w2 : Jvm.Cond.static Lib.Math.max.name ∈ hs_tb) (w3 : Jvm.Cond.initialized "java/lang/Math" ∈ hs_tb) (w4 : Jvm.Cond.code Lib.Math.max.name Lib.Math.max.code 2 (some .int) ∈ hs_tb) (hh1 : 0 < hh) (hrest : (st.map fun v => v.category).sum ≤ 8) (hd : decode cc pc = .ok (.invokestatic idx, 3)) (kk : hs_Z X nL S lv (.int (hs_max x y) :: st) (pc + 3)) : hs_Z X nL S lv (.int y :: .int x :: st) pc := by
  intro H locs ls hP hS hl
  obtain ⟨c1, c2, c3, c4, c5, ⟨c61, c62⟩, c7⟩ := C
  refine va_mmax c1 c2 (by rw [c3]; exact hl.1.symm) c4 (c5 _ w1) (c5 _ w2) (c5 _ w3) (c5 _ w4) (by omega) (by omega) (Nat.zero_le _) (Nat.zero_le _) hd (kk H locs ls hP hS hl)
end HSL
/-! denotations of calls; kinds of cells that lie at a fixed distance -/
def hs_b2 {α ρ : Type} (o : Option (α × hs_M)) (G : α → hs_M → Option ρ) : Option ρ := o.bind (fun r => G r.1 r.2)
def hs_b1 {ρ : Type} (o : Option hs_M) (G : hs_M → Option ρ) : Option ρ := o.bind G
theorem hs_b2_s {α ρ : Type} {o : Option (α × hs_M)} {G : α → hs_M → Option ρ} {res : ρ} (h : hs_b2 o G = some res) : ∃ (x : α) (S1 : hs_M), o = some (x, S1) ∧ G x S1 = some res := by
  obtain ⟨⟨x, S1⟩, h1, h2⟩ := hs_bd_s h
  exact ⟨x, S1, h1, h2⟩
theorem hs_b1_s {ρ : Type} {o : Option hs_M} {G : hs_M → Option ρ} {res : ρ} (h : hs_b1 o G = some res) : ∃ S1 : hs_M, o = some S1 ∧ G S1 = some res := hs_bd_s h
def hs_fuel : Nat := 40
theorem hs_vU0 {q : Nat → Nat} {S : hs_M} {kd i k : Nat} {x : Int32} (hr : hs_rk kd k = 0) : hs_v q (hs_U S i k x) kd i k = .int x := by simp [hs_v, hr, hs_U]
theorem hs_vU1 {q : Nat → Nat} {S : hs_M} {kd i k j : Nat} (hr : hs_rk kd k = 1) (hj : j < 2 ^ 31) : hs_v q (hs_U S i k (nI j)) kd i k = .ref (q j) := by simp [hs_v, hr, hs_U, nI_clamp hj]
theorem hs_k30 {i : Nat} (h : hs_K i = 3) : hs_K (i + 9) = 8 := hs_Kdec (fun i k => k = 3 → hs_K (i + 9) = 8) (by decide +kernel) (fun i h => absurd h (by decide)) i h
theorem hs_k40 {i : Nat} (h : hs_K i = 4) : hs_K (i + 4) = 0 := hs_Kdec (fun i k => k = 4 → hs_K (i + 4) = 0) (by decide +kernel) (fun i h => absurd h (by decide)) i h
theorem hs_k50 {i : Nat} (h : hs_K i = 5) : hs_K (i + 4) = 0 := hs_Kdec (fun i k => k = 5 → hs_K (i + 4) = 0) (by decide +kernel) (fun i h => absurd h (by decide)) i h
theorem hs_k56 {i : Nat} (h : hs_K i = 5) : hs_K (i + 8) = 8 := hs_Kdec (fun i k => k = 5 → hs_K (i + 8) = 8) (by decide +kernel) (fun i h => absurd h (by decide)) i h
theorem hs_kh {i : Nat} (h : hs_K i = 1) : i < 2 ^ 31 := hs_Kdec (fun i k => k = 1 → i < 2 ^ 31) (by decide +kernel) (fun i h => absurd h (by decide)) i h
theorem hs_k12 {x : Int32} (h : vp_in x (hs_N 24)) : hs_K (25 + x.toNatClampNeg) = 5 := by
  have h4 : x.toNatClampNeg < 4 := Nat.not_le.mp fun q => h (Or.inr q)
  generalize x.toNatClampNeg = n at h4
  exact (show ∀ n, n < 4 → hs_K (25 + n) = 5 by decide +kernel) n h4
theorem hs_k11 {x : Int32} (h : vp_in x (hs_N 37)) : hs_K (38 + x.toNatClampNeg) = 4 := by
  have h4 : x.toNatClampNeg < 4 := Nat.not_le.mp fun q => h (Or.inr q)
  generalize x.toNatClampNeg = n at h4
  exact (show ∀ n, n < 4 → hs_K (38 + n) = 4 by decide +kernel) n h4
end
section
theorem hi0 : ∀ w ∈ u_ws RX0 TX0 5, w ∈ hs_tb := hs_w3 inX0 (by decide +kernel)
theorem hi1 : ∀ w ∈ u_ws RX1 TX1 6, w ∈ hs_tb := hs_w3 inX1 (by decide +kernel)
theorem hi2 : ∀ w ∈ u_ws RX2 TX2 2, w ∈ hs_tb := hs_w3 inX2 (by decide +kernel)
theorem hi3 : ∀ w ∈ u_ws RX3 TX3 5, w ∈ hs_tb := hs_w3 inX3 (by decide +kernel)
theorem hi4 : ∀ w ∈ u_ws RX4 TX4 5, w ∈ hs_tb := hs_w3 inX4 (by decide +kernel)
theorem hi5 : ∀ w ∈ u_ws RX5 TX5 8, w ∈ hs_tb := hs_w3 inX5 (by decide +kernel)
theorem hi6 : ∀ w ∈ u_ws RX6 TX6 7, w ∈ hs_tb := hs_w3 inX6 (by decide +kernel)
theorem hi7 : ∀ w ∈ u_ws RX7 TX7 33, w ∈ hs_tb := hs_w3 inX7 (by decide +kernel)
theorem ww_0 : Cond.fieldLink RX0 9 "HeaderSqueeze$Context" "address" "I" ∈ hs_tb := hs_w1 (k := 134) (by decide +kernel) (by decide +kernel)
theorem ww_1 : Cond.fieldLink RX0 15 "HeaderSqueeze$Head" "address" "I" ∈ hs_tb := hs_w1 (k := 33) (by decide +kernel) (by decide +kernel)
theorem ww_2 : Cond.fieldLink RX0 18 "HeaderSqueeze$Context" "type" "I" ∈ hs_tb := hs_w1 (k := 136) (by decide +kernel) (by decide +kernel)
theorem ww_3 : Cond.fieldLink RX0 21 "HeaderSqueeze$Head" "type" "I" ∈ hs_tb := hs_w1 (k := 38) (by decide +kernel) (by decide +kernel)
theorem ww_4 : Cond.fieldLink RX0 43 "HeaderSqueeze$Head" "number" "I" ∈ hs_tb := hs_w1 (k := 53) (by decide +kernel) (by decide +kernel)
theorem ww_5 : Cond.fieldLink RX0 26 "HeaderSqueeze$Context" "phase" "I" ∈ hs_tb := hs_w1 (k := 141) (by decide +kernel) (by decide +kernel)
theorem ww_6 : Cond.fieldLink RX0 29 "HeaderSqueeze$Context" "stride" "I" ∈ hs_tb := hs_w1 (k := 139) (by decide +kernel) (by decide +kernel)
theorem ww_7 : Cond.fieldLink RX0 46 "HeaderSqueeze$Head" "time" "I" ∈ hs_tb := hs_w1 (k := 56) (by decide +kernel) (by decide +kernel)
theorem ww_8 : Cond.fieldLink RX0 36 "HeaderSqueeze$Context" "offset" "I" ∈ hs_tb := hs_w1 (k := 143) (by decide +kernel) (by decide +kernel)
theorem ww_9 : Cond.constant RX0 49 (65535) ∈ hs_tb := hs_w1 (k := 405) (by decide +kernel) (by decide +kernel)
theorem ww_10 : Cond.fieldLink RX0 50 "HeaderSqueeze$Head" "id" "I" ∈ hs_tb := hs_w1 (k := 60) (by decide +kernel) (by decide +kernel)
theorem ww_11 : Cond.methodLink RX0 32 yX0_phaseOf ∈ hs_tb := hs_w1 (k := 399) (by decide +kernel) (by decide +kernel)
theorem ww_12 : Cond.initialized RX0 ∈ hs_tb := hs_w1 (k := 6) (by decide +kernel) (by decide +kernel)
theorem ww_13 : Cond.code yX0_phaseOf cX0_phaseOf 2 (some .int) ∈ hs_tb := hs_w1 (k := 401) (by decide +kernel) (by decide +kernel)
theorem ww_14 : Cond.static yX0_phaseOf ∈ hs_tb := hs_w1 (k := 400) (by decide +kernel) (by decide +kernel)
theorem ww_15 : Cond.methodLink RX0 39 yX0_offsetOf ∈ hs_tb := hs_w1 (k := 402) (by decide +kernel) (by decide +kernel)
theorem ww_16 : Cond.code yX0_offsetOf cX0_offsetOf 1 (some .int) ∈ hs_tb := hs_w1 (k := 404) (by decide +kernel) (by decide +kernel)
theorem ww_17 : Cond.static yX0_offsetOf ∈ hs_tb := hs_w1 (k := 403) (by decide +kernel) (by decide +kernel)
theorem ww_18 : Cond.methodLink RX0 22 yX0_isOf ∈ hs_tb := hs_w1 (k := 398) (by decide +kernel) (by decide +kernel)
theorem ww_19 : Cond.code yX0_isOf cX0_isOf 2 (some .boolean) ∈ hs_tb := hs_w1 (k := 389) (by decide +kernel) (by decide +kernel)
theorem ww_20 : Cond.instanceMethod yX0_isOf ∈ hs_tb := hs_w1 (k := 387) (by decide +kernel) (by decide +kernel)
theorem ww_21 : Cond.selects RX0 yX0_isOf yX0_isOf ∈ hs_tb := hs_w1 (k := 388) (by decide +kernel) (by decide +kernel)
theorem ww_22 : Cond.fieldLink RX1 31 "HeaderSqueeze$Head" "mark" "Z" ∈ hs_tb := hs_w1 (k := 44) (by decide +kernel) (by decide +kernel)
theorem ww_23 : Cond.fieldLink RX1 9 "HeaderSqueeze$Head" "address" "I" ∈ hs_tb := hs_w1 (k := 34) (by decide +kernel) (by decide +kernel)
theorem ww_24 : Cond.fieldLink RX1 15 "HeaderSqueeze$Head" "type" "I" ∈ hs_tb := hs_w1 (k := 39) (by decide +kernel) (by decide +kernel)
theorem ww_25 : Cond.methodLink RX1 18 yX1_markBit ∈ hs_tb := hs_w1 (k := 446) (by decide +kernel) (by decide +kernel)
theorem ww_26 : Cond.initialized RX1 ∈ hs_tb := hs_w1 (k := 2) (by decide +kernel) (by decide +kernel)
theorem ww_27 : Cond.code yX1_markBit cX1_markBit 1 (some .int) ∈ hs_tb := hs_w1 (k := 449) (by decide +kernel) (by decide +kernel)
theorem ww_28 : Cond.instanceMethod yX1_markBit ∈ hs_tb := hs_w1 (k := 447) (by decide +kernel) (by decide +kernel)
theorem ww_29 : Cond.selects RX1 yX1_markBit yX1_markBit ∈ hs_tb := hs_w1 (k := 448) (by decide +kernel) (by decide +kernel)
theorem ww_30 : Cond.fieldLink RX1 22 "HeaderSqueeze$Head" "number" "I" ∈ hs_tb := hs_w1 (k := 49) (by decide +kernel) (by decide +kernel)
theorem ww_31 : Cond.fieldLink RX1 25 "HeaderSqueeze$Head" "time" "I" ∈ hs_tb := hs_w1 (k := 54) (by decide +kernel) (by decide +kernel)
theorem ww_32 : Cond.fieldLink RX1 28 "HeaderSqueeze$Head" "id" "I" ∈ hs_tb := hs_w1 (k := 58) (by decide +kernel) (by decide +kernel)
theorem ww_33 : Cond.methodLink RX1 46 yX1_sumBehind ∈ hs_tb := hs_w1 (k := 450) (by decide +kernel) (by decide +kernel)
theorem ww_34 : Cond.code yX1_sumBehind cX1_sumBehind 6 (some .int) ∈ hs_tb := hs_w1 (k := 452) (by decide +kernel) (by decide +kernel)
theorem ww_35 : Cond.static yX1_sumBehind ∈ hs_tb := hs_w1 (k := 451) (by decide +kernel) (by decide +kernel)
theorem ww_36 : Cond.methodLink RX1 42 yX1_part ∈ hs_tb := hs_w1 (k := 442) (by decide +kernel) (by decide +kernel)
theorem ww_37 : Cond.code yX1_part cX1_part 2 (some .int) ∈ hs_tb := hs_w1 (k := 445) (by decide +kernel) (by decide +kernel)
theorem ww_38 : Cond.instanceMethod yX1_part ∈ hs_tb := hs_w1 (k := 443) (by decide +kernel) (by decide +kernel)
theorem ww_39 : Cond.selects RX1 yX1_part yX1_part ∈ hs_tb := hs_w1 (k := 444) (by decide +kernel) (by decide +kernel)
theorem ww_40 : Cond.fieldLink RX2 18 "HeaderSqueeze$Line" "packets" "I" ∈ hs_tb := hs_w1 (k := 112) (by decide +kernel) (by decide +kernel)
theorem ww_41 : Cond.fieldLink RX2 11 "HeaderSqueeze$Line" "rows" "[LHeaderSqueeze$Packet;" ∈ hs_tb := hs_w1 (k := 110) (by decide +kernel) (by decide +kernel)
theorem ww_42 : Cond.fieldLink RX3 9 "HeaderSqueeze$Packet" "bytes" "[I" ∈ hs_tb := hs_w1 (k := 88) (by decide +kernel) (by decide +kernel)
theorem ww_43 : Cond.fieldLink RX3 63 "HeaderSqueeze$Packet" "start" "I" ∈ hs_tb := hs_w1 (k := 97) (by decide +kernel) (by decide +kernel)
theorem ww_44 : Cond.fieldLink RX3 28 "HeaderSqueeze$Packet" "length" "I" ∈ hs_tb := hs_w1 (k := 90) (by decide +kernel) (by decide +kernel)
theorem ww_45 : Cond.fieldLink RX3 69 "HeaderSqueeze$Packet" "kind" "I" ∈ hs_tb := hs_w1 (k := 95) (by decide +kernel) (by decide +kernel)
theorem ww_46 : Cond.methodLink RX3 79 yX3_own ∈ hs_tb := hs_w1 (k := 551) (by decide +kernel) (by decide +kernel)
theorem ww_47 : Cond.initialized RX3 ∈ hs_tb := hs_w1 (k := 4) (by decide +kernel) (by decide +kernel)
theorem ww_48 : Cond.code yX3_own cX3_own 2 (some .int) ∈ hs_tb := hs_w1 (k := 554) (by decide +kernel) (by decide +kernel)
theorem ww_49 : Cond.instanceMethod yX3_own ∈ hs_tb := hs_w1 (k := 553) (by decide +kernel) (by decide +kernel)
theorem ww_50 : Cond.selects RX3 yX3_own yX3_own ∈ hs_tb := hs_w2 (k := 10) (by decide +kernel) (by decide +kernel)
theorem ww_51 : Cond.methodLink RX3 82 yX3_isNoMark ∈ hs_tb := hs_w1 (k := 555) (by decide +kernel) (by decide +kernel)
theorem ww_52 : Cond.code yX3_isNoMark cX3_isNoMark 1 (some .boolean) ∈ hs_tb := hs_w1 (k := 557) (by decide +kernel) (by decide +kernel)
theorem ww_53 : Cond.static yX3_isNoMark ∈ hs_tb := hs_w1 (k := 556) (by decide +kernel) (by decide +kernel)
theorem ww_54 : Cond.methodLink RX3 31 yX3_put ∈ hs_tb := hs_w1 (k := 454) (by decide +kernel) (by decide +kernel)
theorem ww_55 : Cond.code yX3_put cX3_put 2 none ∈ hs_tb := hs_w1 (k := 457) (by decide +kernel) (by decide +kernel)
theorem ww_56 : Cond.instanceMethod yX3_put ∈ hs_tb := hs_w1 (k := 456) (by decide +kernel) (by decide +kernel)
theorem ww_57 : Cond.selects RX3 yX3_put yX3_put ∈ hs_tb := hs_w2 (k := 4) (by decide +kernel) (by decide +kernel)
theorem ww_58 : Cond.methodLink RX3 56 yX1_part ∈ hs_tb := hs_w1 (k := 463) (by decide +kernel) (by decide +kernel)
theorem ww_59 : Cond.methodLink RX3 35 yX1_markBit ∈ hs_tb := hs_w1 (k := 458) (by decide +kernel) (by decide +kernel)
theorem ww_60 : Cond.methodLink RX3 72 yX3_isMisshapen ∈ hs_tb := hs_w1 (k := 545) (by decide +kernel) (by decide +kernel)
theorem ww_61 : Cond.code yX3_isMisshapen cX3_isMisshapen 1 (some .boolean) ∈ hs_tb := hs_w1 (k := 548) (by decide +kernel) (by decide +kernel)
theorem ww_62 : Cond.instanceMethod yX3_isMisshapen ∈ hs_tb := hs_w1 (k := 547) (by decide +kernel) (by decide +kernel)
theorem ww_63 : Cond.selects RX3 yX3_isMisshapen yX3_isMisshapen ∈ hs_tb := hs_w2 (k := 9) (by decide +kernel) (by decide +kernel)
theorem ww_64 : Cond.methodLink RX3 66 yX3_kindTold ∈ hs_tb := hs_w1 (k := 542) (by decide +kernel) (by decide +kernel)
theorem ww_65 : Cond.code yX3_kindTold cX3_kindTold 1 (some .int) ∈ hs_tb := hs_w1 (k := 544) (by decide +kernel) (by decide +kernel)
theorem ww_66 : Cond.static yX3_kindTold ∈ hs_tb := hs_w1 (k := 543) (by decide +kernel) (by decide +kernel)
theorem ww_67 : Cond.fieldLink RX3 60 "HeaderSqueeze$Packet" "flow" "I" ∈ hs_tb := hs_w1 (k := 92) (by decide +kernel) (by decide +kernel)
theorem ww_68 : Cond.methodLink RX3 89 yX3_ownTwo ∈ hs_tb := hs_w1 (k := 621) (by decide +kernel) (by decide +kernel)
theorem ww_69 : Cond.code yX3_ownTwo cX3_ownTwo 2 (some .int) ∈ hs_tb := hs_w1 (k := 624) (by decide +kernel) (by decide +kernel)
theorem ww_70 : Cond.instanceMethod yX3_ownTwo ∈ hs_tb := hs_w1 (k := 623) (by decide +kernel) (by decide +kernel)
theorem ww_71 : Cond.selects RX3 yX3_ownTwo yX3_ownTwo ∈ hs_tb := hs_w2 (k := 14) (by decide +kernel) (by decide +kernel)
theorem ww_72 : Cond.fieldLink RX3 47 "HeaderSqueeze$Head" "address" "I" ∈ hs_tb := hs_w1 (k := 35) (by decide +kernel) (by decide +kernel)
theorem ww_73 : Cond.fieldLink RX3 53 "HeaderSqueeze$Head" "type" "I" ∈ hs_tb := hs_w1 (k := 40) (by decide +kernel) (by decide +kernel)
theorem ww_74 : Cond.fieldLink RX3 39 "HeaderSqueeze$Head" "mark" "Z" ∈ hs_tb := hs_w1 (k := 43) (by decide +kernel) (by decide +kernel)
theorem ww_75 : Cond.fieldLink RX3 21 "HeaderSqueeze$Head" "number" "I" ∈ hs_tb := hs_w1 (k := 48) (by decide +kernel) (by decide +kernel)
theorem ww_76 : Cond.constant RX3 92 (65536) ∈ hs_tb := hs_w1 (k := 633) (by decide +kernel) (by decide +kernel)
theorem ww_77 : Cond.fieldLink RX3 93 "HeaderSqueeze$Head" "time" "I" ∈ hs_tb := hs_w1 (k := 57) (by decide +kernel) (by decide +kernel)
theorem ww_78 : Cond.fieldLink RX3 96 "HeaderSqueeze$Head" "id" "I" ∈ hs_tb := hs_w1 (k := 61) (by decide +kernel) (by decide +kernel)
theorem ww_79 : Cond.methodLink RX3 43 yX3_putMoving ∈ hs_tb := hs_w1 (k := 459) (by decide +kernel) (by decide +kernel)
theorem ww_80 : Cond.code yX3_putMoving cX3_putMoving 4 none ∈ hs_tb := hs_w1 (k := 462) (by decide +kernel) (by decide +kernel)
theorem ww_81 : Cond.instanceMethod yX3_putMoving ∈ hs_tb := hs_w1 (k := 461) (by decide +kernel) (by decide +kernel)
theorem ww_82 : Cond.selects RX3 yX3_putMoving yX3_putMoving ∈ hs_tb := hs_w2 (k := 5) (by decide +kernel) (by decide +kernel)
theorem ww_83 : Cond.methodLink RX3 50 yX3_putTwo ∈ hs_tb := hs_w1 (k := 464) (by decide +kernel) (by decide +kernel)
theorem ww_84 : Cond.code yX3_putTwo cX3_putTwo 2 none ∈ hs_tb := hs_w1 (k := 467) (by decide +kernel) (by decide +kernel)
theorem ww_85 : Cond.instanceMethod yX3_putTwo ∈ hs_tb := hs_w1 (k := 466) (by decide +kernel) (by decide +kernel)
theorem ww_86 : Cond.selects RX3 yX3_putTwo yX3_putTwo ∈ hs_tb := hs_w2 (k := 6) (by decide +kernel) (by decide +kernel)
theorem ww_87 : Cond.methodLink RX3 15 yX1_sumFor ∈ hs_tb := hs_w1 (k := 434) (by decide +kernel) (by decide +kernel)
theorem ww_88 : Cond.code yX1_sumFor cX1_sumFor 6 (some .int) ∈ hs_tb := hs_w1 (k := 437) (by decide +kernel) (by decide +kernel)
theorem ww_89 : Cond.instanceMethod yX1_sumFor ∈ hs_tb := hs_w1 (k := 435) (by decide +kernel) (by decide +kernel)
theorem ww_90 : Cond.selects RX1 yX1_sumFor yX1_sumFor ∈ hs_tb := hs_w1 (k := 436) (by decide +kernel) (by decide +kernel)
theorem ww_91 : Cond.fieldLink RX4 12 "HeaderSqueeze$Receiver" "context" "LHeaderSqueeze$Context;" ∈ hs_tb := hs_w1 (k := 193) (by decide +kernel) (by decide +kernel)
theorem ww_92 : Cond.methodLink RX4 104 yX0_complete ∈ hs_tb := hs_w1 (k := 599) (by decide +kernel) (by decide +kernel)
theorem ww_93 : Cond.code yX0_complete cX0_complete 3 none ∈ hs_tb := hs_w1 (k := 602) (by decide +kernel) (by decide +kernel)
theorem ww_94 : Cond.instanceMethod yX0_complete ∈ hs_tb := hs_w1 (k := 600) (by decide +kernel) (by decide +kernel)
theorem ww_95 : Cond.selects RX0 yX0_complete yX0_complete ∈ hs_tb := hs_w1 (k := 601) (by decide +kernel) (by decide +kernel)
theorem ww_96 : Cond.methodLink RX4 107 yX3_markTold ∈ hs_tb := hs_w1 (k := 603) (by decide +kernel) (by decide +kernel)
theorem ww_97 : Cond.code yX3_markTold cX3_markTold 1 (some .boolean) ∈ hs_tb := hs_w1 (k := 606) (by decide +kernel) (by decide +kernel)
theorem ww_98 : Cond.instanceMethod yX3_markTold ∈ hs_tb := hs_w1 (k := 604) (by decide +kernel) (by decide +kernel)
theorem ww_99 : Cond.selects RX3 yX3_markTold yX3_markTold ∈ hs_tb := hs_w1 (k := 605) (by decide +kernel) (by decide +kernel)
theorem ww_100 : Cond.fieldLink RX4 111 "HeaderSqueeze$Head" "mark" "Z" ∈ hs_tb := hs_w1 (k := 47) (by decide +kernel) (by decide +kernel)
theorem ww_101 : Cond.fieldLink RX4 22 "HeaderSqueeze$Packet" "kind" "I" ∈ hs_tb := hs_w1 (k := 94) (by decide +kernel) (by decide +kernel)
theorem ww_102 : Cond.fieldLink RX4 46 "HeaderSqueeze$Context" "stride" "I" ∈ hs_tb := hs_w1 (k := 140) (by decide +kernel) (by decide +kernel)
theorem ww_103 : Cond.methodLink RX4 68 yX1_sumFor ∈ hs_tb := hs_w1 (k := 607) (by decide +kernel) (by decide +kernel)
theorem ww_104 : Cond.methodLink RX4 72 yX3_sumTold ∈ hs_tb := hs_w1 (k := 608) (by decide +kernel) (by decide +kernel)
theorem ww_105 : Cond.code yX3_sumTold cX3_sumTold 1 (some .int) ∈ hs_tb := hs_w1 (k := 611) (by decide +kernel) (by decide +kernel)
theorem ww_106 : Cond.instanceMethod yX3_sumTold ∈ hs_tb := hs_w1 (k := 609) (by decide +kernel) (by decide +kernel)
theorem ww_107 : Cond.selects RX3 yX3_sumTold yX3_sumTold ∈ hs_tb := hs_w1 (k := 610) (by decide +kernel) (by decide +kernel)
theorem ww_108 : Cond.fieldLink RX4 18 "HeaderSqueeze$Receiver" "level" "I" ∈ hs_tb := hs_w1 (k := 194) (by decide +kernel) (by decide +kernel)
theorem ww_109 : Cond.methodLink RX4 65 yX3_readMoving ∈ hs_tb := hs_w1 (k := 629) (by decide +kernel) (by decide +kernel)
theorem ww_110 : Cond.code yX3_readMoving cX3_readMoving 3 none ∈ hs_tb := hs_w1 (k := 632) (by decide +kernel) (by decide +kernel)
theorem ww_111 : Cond.instanceMethod yX3_readMoving ∈ hs_tb := hs_w1 (k := 630) (by decide +kernel) (by decide +kernel)
theorem ww_112 : Cond.selects RX3 yX3_readMoving yX3_readMoving ∈ hs_tb := hs_w1 (k := 631) (by decide +kernel) (by decide +kernel)
theorem ww_113 : Cond.methodLink RX4 75 yX0_follow ∈ hs_tb := hs_w1 (k := 634) (by decide +kernel) (by decide +kernel)
theorem ww_114 : Cond.code yX0_follow cX0_follow 3 none ∈ hs_tb := hs_w1 (k := 409) (by decide +kernel) (by decide +kernel)
theorem ww_115 : Cond.instanceMethod yX0_follow ∈ hs_tb := hs_w1 (k := 407) (by decide +kernel) (by decide +kernel)
theorem ww_116 : Cond.selects RX0 yX0_follow yX0_follow ∈ hs_tb := hs_w1 (k := 408) (by decide +kernel) (by decide +kernel)
theorem ww_117 : Cond.fieldLink RX4 57 "HeaderSqueeze$Context" "address" "I" ∈ hs_tb := hs_w1 (k := 135) (by decide +kernel) (by decide +kernel)
theorem ww_118 : Cond.fieldLink RX4 60 "HeaderSqueeze$Head" "address" "I" ∈ hs_tb := hs_w1 (k := 37) (by decide +kernel) (by decide +kernel)
theorem ww_119 : Cond.fieldLink RX4 61 "HeaderSqueeze$Context" "type" "I" ∈ hs_tb := hs_w1 (k := 137) (by decide +kernel) (by decide +kernel)
theorem ww_120 : Cond.fieldLink RX4 64 "HeaderSqueeze$Head" "type" "I" ∈ hs_tb := hs_w1 (k := 42) (by decide +kernel) (by decide +kernel)
theorem ww_121 : Cond.methodLink RX4 49 yX3_strideTold ∈ hs_tb := hs_w1 (k := 617) (by decide +kernel) (by decide +kernel)
theorem ww_122 : Cond.code yX3_strideTold cX3_strideTold 1 (some .int) ∈ hs_tb := hs_w1 (k := 620) (by decide +kernel) (by decide +kernel)
theorem ww_123 : Cond.instanceMethod yX3_strideTold ∈ hs_tb := hs_w1 (k := 618) (by decide +kernel) (by decide +kernel)
theorem ww_124 : Cond.selects RX3 yX3_strideTold yX3_strideTold ∈ hs_tb := hs_w1 (k := 619) (by decide +kernel) (by decide +kernel)
theorem ww_125 : Cond.methodLink RX4 53 yX3_readFixed ∈ hs_tb := hs_w1 (k := 625) (by decide +kernel) (by decide +kernel)
theorem ww_126 : Cond.code yX3_readFixed cX3_readFixed 2 none ∈ hs_tb := hs_w1 (k := 628) (by decide +kernel) (by decide +kernel)
theorem ww_127 : Cond.instanceMethod yX3_readFixed ∈ hs_tb := hs_w1 (k := 626) (by decide +kernel) (by decide +kernel)
theorem ww_128 : Cond.selects RX3 yX3_readFixed yX3_readFixed ∈ hs_tb := hs_w1 (k := 627) (by decide +kernel) (by decide +kernel)
theorem ww_129 : Cond.methodLink RX4 101 yX3_lowTold ∈ hs_tb := hs_w1 (k := 589) (by decide +kernel) (by decide +kernel)
theorem ww_130 : Cond.code yX3_lowTold cX3_lowTold 1 (some .int) ∈ hs_tb := hs_w1 (k := 592) (by decide +kernel) (by decide +kernel)
theorem ww_131 : Cond.instanceMethod yX3_lowTold ∈ hs_tb := hs_w1 (k := 590) (by decide +kernel) (by decide +kernel)
theorem ww_132 : Cond.selects RX3 yX3_lowTold yX3_lowTold ∈ hs_tb := hs_w1 (k := 591) (by decide +kernel) (by decide +kernel)
theorem ww_133 : Cond.constant RX4 94 (65535) ∈ hs_tb := hs_w1 (k := 594) (by decide +kernel) (by decide +kernel)
theorem ww_134 : Cond.fieldLink RX4 79 "HeaderSqueeze$Receiver" "last" "I" ∈ hs_tb := hs_w1 (k := 196) (by decide +kernel) (by decide +kernel)
theorem ww_135 : Cond.methodLink RX4 82 yX4_numberNear ∈ hs_tb := hs_w1 (k := 585) (by decide +kernel) (by decide +kernel)
theorem ww_136 : Cond.initialized RX4 ∈ hs_tb := hs_w1 (k := 7) (by decide +kernel) (by decide +kernel)
theorem ww_137 : Cond.code yX4_numberNear cX4_numberNear 4 (some .int) ∈ hs_tb := hs_w1 (k := 587) (by decide +kernel) (by decide +kernel)
theorem ww_138 : Cond.static yX4_numberNear ∈ hs_tb := hs_w1 (k := 586) (by decide +kernel) (by decide +kernel)
theorem ww_139 : Cond.methodLink RX4 86 yX4_fits ∈ hs_tb := hs_w1 (k := 595) (by decide +kernel) (by decide +kernel)
theorem ww_140 : Cond.code yX4_fits cX4_fits 4 (some .boolean) ∈ hs_tb := hs_w1 (k := 598) (by decide +kernel) (by decide +kernel)
theorem ww_141 : Cond.instanceMethod yX4_fits ∈ hs_tb := hs_w1 (k := 597) (by decide +kernel) (by decide +kernel)
theorem ww_142 : Cond.selects RX4 yX4_fits yX4_fits ∈ hs_tb := hs_w2 (k := 12) (by decide +kernel) (by decide +kernel)
theorem ww_143 : Cond.fieldLink RX4 95 "HeaderSqueeze$Receiver" "former" "I" ∈ hs_tb := hs_w1 (k := 198) (by decide +kernel) (by decide +kernel)
theorem ww_144 : Cond.fieldLink RX4 115 "HeaderSqueeze$Receiver" "failures" "I" ∈ hs_tb := hs_w1 (k := 200) (by decide +kernel) (by decide +kernel)
theorem ww_145 : Cond.methodLink RX4 118 Lib.Math.max.name ∈ hs_tb := hs_w1 (k := 639) (by decide +kernel) (by decide +kernel)
theorem ww_146 : Cond.static Lib.Math.max.name ∈ hs_tb := hs_w1 (k := 640) (by decide +kernel) (by decide +kernel)
theorem ww_147 : Cond.initialized "java/lang/Math" ∈ hs_tb := hs_w1 (k := 16) (by decide +kernel) (by decide +kernel)
theorem ww_148 : Cond.code Lib.Math.max.name Lib.Math.max.code 2 (some .int) ∈ hs_tb := hs_w1 (k := 641) (by decide +kernel) (by decide +kernel)
theorem ww_149 : Cond.fieldLink RX4 37 "HeaderSqueeze$Head" "number" "I" ∈ hs_tb := hs_w1 (k := 50) (by decide +kernel) (by decide +kernel)
theorem ww_150 : Cond.methodLink RX4 42 yX4_noteMade ∈ hs_tb := hs_w1 (k := 642) (by decide +kernel) (by decide +kernel)
theorem ww_151 : Cond.code yX4_noteMade cX4_noteMade 2 none ∈ hs_tb := hs_w1 (k := 645) (by decide +kernel) (by decide +kernel)
theorem ww_152 : Cond.instanceMethod yX4_noteMade ∈ hs_tb := hs_w1 (k := 644) (by decide +kernel) (by decide +kernel)
theorem ww_153 : Cond.selects RX4 yX4_noteMade yX4_noteMade ∈ hs_tb := hs_w2 (k := 16) (by decide +kernel) (by decide +kernel)
theorem ww_154 : Cond.methodLink RX4 34 yX4_noteFailure ∈ hs_tb := hs_w1 (k := 635) (by decide +kernel) (by decide +kernel)
theorem ww_155 : Cond.code yX4_noteFailure cX4_noteFailure 1 none ∈ hs_tb := hs_w1 (k := 638) (by decide +kernel) (by decide +kernel)
theorem ww_156 : Cond.instanceMethod yX4_noteFailure ∈ hs_tb := hs_w1 (k := 637) (by decide +kernel) (by decide +kernel)
theorem ww_157 : Cond.selects RX4 yX4_noteFailure yX4_noteFailure ∈ hs_tb := hs_w2 (k := 15) (by decide +kernel) (by decide +kernel)
theorem ww_158 : Cond.methodLink RX4 31 yX4_makeMoving ∈ hs_tb := hs_w1 (k := 613) (by decide +kernel) (by decide +kernel)
theorem ww_159 : Cond.code yX4_makeMoving cX4_makeMoving 4 (some .int) ∈ hs_tb := hs_w1 (k := 616) (by decide +kernel) (by decide +kernel)
theorem ww_160 : Cond.instanceMethod yX4_makeMoving ∈ hs_tb := hs_w1 (k := 615) (by decide +kernel) (by decide +kernel)
theorem ww_161 : Cond.selects RX4 yX4_makeMoving yX4_makeMoving ∈ hs_tb := hs_w2 (k := 13) (by decide +kernel) (by decide +kernel)
theorem ww_162 : Cond.methodLink RX4 27 yX4_makeSmall ∈ hs_tb := hs_w1 (k := 581) (by decide +kernel) (by decide +kernel)
theorem ww_163 : Cond.code yX4_makeSmall cX4_makeSmall 6 (some .int) ∈ hs_tb := hs_w1 (k := 584) (by decide +kernel) (by decide +kernel)
theorem ww_164 : Cond.instanceMethod yX4_makeSmall ∈ hs_tb := hs_w1 (k := 583) (by decide +kernel) (by decide +kernel)
theorem ww_165 : Cond.selects RX4 yX4_makeSmall yX4_makeSmall ∈ hs_tb := hs_w2 (k := 11) (by decide +kernel) (by decide +kernel)
theorem ww_166 : Cond.fieldLink RX5 47 "HeaderSqueeze$Sender" "state" "I" ∈ hs_tb := hs_w1 (k := 160) (by decide +kernel) (by decide +kernel)
theorem ww_167 : Cond.fieldLink RX5 61 "HeaderSqueeze$Sender" "sentInState" "I" ∈ hs_tb := hs_w1 (k := 162) (by decide +kernel) (by decide +kernel)
theorem ww_168 : Cond.fieldLink RX5 18 "HeaderSqueeze$Sender" "numbers" "[I" ∈ hs_tb := hs_w1 (k := 167) (by decide +kernel) (by decide +kernel)
theorem ww_169 : Cond.constant RX5 85 (65535) ∈ hs_tb := hs_w1 (k := 423) (by decide +kernel) (by decide +kernel)
theorem ww_170 : Cond.fieldLink RX5 58 "HeaderSqueeze$Sender" "numbersSent" "I" ∈ hs_tb := hs_w1 (k := 168) (by decide +kernel) (by decide +kernel)
theorem ww_171 : Cond.methodLink RX5 76 Lib.Math.min.name ∈ hs_tb := hs_w1 (k := 418) (by decide +kernel) (by decide +kernel)
theorem ww_172 : Cond.static Lib.Math.min.name ∈ hs_tb := hs_w1 (k := 419) (by decide +kernel) (by decide +kernel)
theorem ww_173 : Cond.code Lib.Math.min.name Lib.Math.min.code 2 (some .int) ∈ hs_tb := hs_w1 (k := 420) (by decide +kernel) (by decide +kernel)
theorem ww_174 : Cond.fieldLink RX5 69 "HeaderSqueeze$Head" "number" "I" ∈ hs_tb := hs_w1 (k := 52) (by decide +kernel) (by decide +kernel)
theorem ww_175 : Cond.methodLink RX5 72 yX5_isEnough ∈ hs_tb := hs_w1 (k := 414) (by decide +kernel) (by decide +kernel)
theorem ww_176 : Cond.initialized RX5 ∈ hs_tb := hs_w1 (k := 5) (by decide +kernel) (by decide +kernel)
theorem ww_177 : Cond.code yX5_isEnough cX5_isEnough 6 (some .boolean) ∈ hs_tb := hs_w1 (k := 417) (by decide +kernel) (by decide +kernel)
theorem ww_178 : Cond.instanceMethod yX5_isEnough ∈ hs_tb := hs_w1 (k := 416) (by decide +kernel) (by decide +kernel)
theorem ww_179 : Cond.selects RX5 yX5_isEnough yX5_isEnough ∈ hs_tb := hs_w2 (k := 3) (by decide +kernel) (by decide +kernel)
theorem ww_180 : Cond.fieldLink RX5 64 "HeaderSqueeze$Head" "mark" "Z" ∈ hs_tb := hs_w1 (k := 46) (by decide +kernel) (by decide +kernel)
theorem ww_181 : Cond.fieldLink RX5 12 "HeaderSqueeze$Sender" "context" "LHeaderSqueeze$Context;" ∈ hs_tb := hs_w1 (k := 156) (by decide +kernel) (by decide +kernel)
theorem ww_182 : Cond.fieldLink RX5 34 "HeaderSqueeze$Sender" "wishedStride" "I" ∈ hs_tb := hs_w1 (k := 158) (by decide +kernel) (by decide +kernel)
theorem ww_183 : Cond.methodLink RX5 50 yX0_follow ∈ hs_tb := hs_w1 (k := 406) (by decide +kernel) (by decide +kernel)
theorem ww_184 : Cond.fieldLink RX5 22 "HeaderSqueeze$Sender" "hasContext" "Z" ∈ hs_tb := hs_w1 (k := 166) (by decide +kernel) (by decide +kernel)
theorem ww_185 : Cond.methodLink RX5 54 yX5_smallestKind ∈ hs_tb := hs_w1 (k := 410) (by decide +kernel) (by decide +kernel)
theorem ww_186 : Cond.code yX5_smallestKind cX5_smallestKind 2 (some .int) ∈ hs_tb := hs_w1 (k := 413) (by decide +kernel) (by decide +kernel)
theorem ww_187 : Cond.instanceMethod yX5_smallestKind ∈ hs_tb := hs_w1 (k := 412) (by decide +kernel) (by decide +kernel)
theorem ww_188 : Cond.selects RX5 yX5_smallestKind yX5_smallestKind ∈ hs_tb := hs_w2 (k := 2) (by decide +kernel) (by decide +kernel)
theorem ww_189 : Cond.methodLink RX5 40 yX5_enter ∈ hs_tb := hs_w1 (k := 390) (by decide +kernel) (by decide +kernel)
theorem ww_190 : Cond.code yX5_enter cX5_enter 2 none ∈ hs_tb := hs_w1 (k := 393) (by decide +kernel) (by decide +kernel)
theorem ww_191 : Cond.instanceMethod yX5_enter ∈ hs_tb := hs_w1 (k := 392) (by decide +kernel) (by decide +kernel)
theorem ww_192 : Cond.selects RX5 yX5_enter yX5_enter ∈ hs_tb := hs_w2 (k := 1) (by decide +kernel) (by decide +kernel)
theorem ww_193 : Cond.methodLink RX5 26 yX0_isOf ∈ hs_tb := hs_w1 (k := 386) (by decide +kernel) (by decide +kernel)
theorem ww_194 : Cond.fieldLink RX5 30 "HeaderSqueeze$Context" "stride" "I" ∈ hs_tb := hs_w1 (k := 138) (by decide +kernel) (by decide +kernel)
theorem ww_195 : Cond.fieldLink RX5 37 "HeaderSqueeze$Sender" "age" "I" ∈ hs_tb := hs_w1 (k := 164) (by decide +kernel) (by decide +kernel)
theorem ww_196 : Cond.methodLink RX5 44 yX0_goesAlong ∈ hs_tb := hs_w1 (k := 394) (by decide +kernel) (by decide +kernel)
theorem ww_197 : Cond.code yX0_goesAlong cX0_goesAlong 2 (some .boolean) ∈ hs_tb := hs_w1 (k := 397) (by decide +kernel) (by decide +kernel)
theorem ww_198 : Cond.instanceMethod yX0_goesAlong ∈ hs_tb := hs_w1 (k := 395) (by decide +kernel) (by decide +kernel)
theorem ww_199 : Cond.selects RX0 yX0_goesAlong yX0_goesAlong ∈ hs_tb := hs_w1 (k := 396) (by decide +kernel) (by decide +kernel)
theorem ww_200 : Cond.fieldLink RX6 19 "HeaderSqueeze" "onTheWay" "LHeaderSqueeze$Line;" ∈ hs_tb := hs_w1 (k := 214) (by decide +kernel) (by decide +kernel)
theorem ww_201 : Cond.fieldLink RX6 108 "HeaderSqueeze$Line" "packets" "I" ∈ hs_tb := hs_w1 (k := 113) (by decide +kernel) (by decide +kernel)
theorem ww_202 : Cond.fieldLink RX6 114 "HeaderSqueeze$Line" "rows" "[LHeaderSqueeze$Packet;" ∈ hs_tb := hs_w1 (k := 111) (by decide +kernel) (by decide +kernel)
theorem ww_203 : Cond.fieldLink RX6 101 "HeaderSqueeze$Packet" "length" "I" ∈ hs_tb := hs_w1 (k := 91) (by decide +kernel) (by decide +kernel)
theorem ww_204 : Cond.methodLink RX6 111 yX6_isNoPacket ∈ hs_tb := hs_w1 (k := 483) (by decide +kernel) (by decide +kernel)
theorem ww_205 : Cond.initialized RX6 ∈ hs_tb := hs_w1 (k := 1) (by decide +kernel) (by decide +kernel)
theorem ww_206 : Cond.code yX6_isNoPacket cX6_isNoPacket 2 (some .boolean) ∈ hs_tb := hs_w1 (k := 486) (by decide +kernel) (by decide +kernel)
theorem ww_207 : Cond.instanceMethod yX6_isNoPacket ∈ hs_tb := hs_w1 (k := 485) (by decide +kernel) (by decide +kernel)
theorem ww_208 : Cond.selects RX6 yX6_isNoPacket yX6_isNoPacket ∈ hs_tb := hs_w2 (k := 7) (by decide +kernel) (by decide +kernel)
theorem ww_209 : Cond.methodLink RX6 118 yX6_isNoByte ∈ hs_tb := hs_w1 (k := 494) (by decide +kernel) (by decide +kernel)
theorem ww_210 : Cond.code yX6_isNoByte cX6_isNoByte 3 (some .boolean) ∈ hs_tb := hs_w1 (k := 497) (by decide +kernel) (by decide +kernel)
theorem ww_211 : Cond.instanceMethod yX6_isNoByte ∈ hs_tb := hs_w1 (k := 496) (by decide +kernel) (by decide +kernel)
theorem ww_212 : Cond.selects RX6 yX6_isNoByte yX6_isNoByte ∈ hs_tb := hs_w2 (k := 8) (by decide +kernel) (by decide +kernel)
theorem ww_213 : Cond.fieldLink RX6 122 "HeaderSqueeze$Packet" "bytes" "[I" ∈ hs_tb := hs_w1 (k := 89) (by decide +kernel) (by decide +kernel)
theorem ww_214 : Cond.fieldLink RX6 35 "HeaderSqueeze" "counts" "[I" ∈ hs_tb := hs_w1 (k := 217) (by decide +kernel) (by decide +kernel)
theorem ww_215 : Cond.fieldLink RX6 39 "HeaderSqueeze" "latest" "LHeaderSqueeze$Head;" ∈ hs_tb := hs_w1 (k := 218) (by decide +kernel) (by decide +kernel)
theorem ww_216 : Cond.fieldLink RX6 42 "HeaderSqueeze" "trial" "LHeaderSqueeze$Head;" ∈ hs_tb := hs_w1 (k := 219) (by decide +kernel) (by decide +kernel)
theorem ww_217 : Cond.methodLink RX6 125 yX2_takeOff ∈ hs_tb := hs_w1 (k := 512) (by decide +kernel) (by decide +kernel)
theorem ww_218 : Cond.initialized RX2 ∈ hs_tb := hs_w1 (k := 3) (by decide +kernel) (by decide +kernel)
theorem ww_219 : Cond.code yX2_takeOff cX2_takeOff 4 (some (.object "HeaderSqueeze$Packet")) ∈ hs_tb := hs_w1 (k := 515) (by decide +kernel) (by decide +kernel)
theorem ww_220 : Cond.instanceMethod yX2_takeOff ∈ hs_tb := hs_w1 (k := 513) (by decide +kernel) (by decide +kernel)
theorem ww_221 : Cond.selects RX2 yX2_takeOff yX2_takeOff ∈ hs_tb := hs_w1 (k := 514) (by decide +kernel) (by decide +kernel)
theorem ww_222 : Cond.methodLink RX6 129 yX3_read ∈ hs_tb := hs_w1 (k := 538) (by decide +kernel) (by decide +kernel)
theorem ww_223 : Cond.code yX3_read cX3_read 2 none ∈ hs_tb := hs_w1 (k := 541) (by decide +kernel) (by decide +kernel)
theorem ww_224 : Cond.instanceMethod yX3_read ∈ hs_tb := hs_w1 (k := 539) (by decide +kernel) (by decide +kernel)
theorem ww_225 : Cond.selects RX3 yX3_read yX3_read ∈ hs_tb := hs_w1 (k := 540) (by decide +kernel) (by decide +kernel)
theorem ww_226 : Cond.fieldLink RX6 132 "HeaderSqueeze$Packet" "kind" "I" ∈ hs_tb := hs_w1 (k := 96) (by decide +kernel) (by decide +kernel)
theorem ww_227 : Cond.fieldLink RX6 31 "HeaderSqueeze" "receivers" "[LHeaderSqueeze$Receiver;" ∈ hs_tb := hs_w1 (k := 216) (by decide +kernel) (by decide +kernel)
theorem ww_228 : Cond.fieldLink RX6 135 "HeaderSqueeze$Packet" "flow" "I" ∈ hs_tb := hs_w1 (k := 93) (by decide +kernel) (by decide +kernel)
theorem ww_229 : Cond.methodLink RX6 138 yX4_hasUseFor ∈ hs_tb := hs_w1 (k := 558) (by decide +kernel) (by decide +kernel)
theorem ww_230 : Cond.code yX4_hasUseFor cX4_hasUseFor 2 (some .boolean) ∈ hs_tb := hs_w1 (k := 561) (by decide +kernel) (by decide +kernel)
theorem ww_231 : Cond.instanceMethod yX4_hasUseFor ∈ hs_tb := hs_w1 (k := 559) (by decide +kernel) (by decide +kernel)
theorem ww_232 : Cond.selects RX4 yX4_hasUseFor yX4_hasUseFor ∈ hs_tb := hs_w1 (k := 560) (by decide +kernel) (by decide +kernel)
theorem ww_233 : Cond.methodLink RX6 144 yX4_take ∈ hs_tb := hs_w1 (k := 577) (by decide +kernel) (by decide +kernel)
theorem ww_234 : Cond.code yX4_take cX4_take 4 (some .int) ∈ hs_tb := hs_w1 (k := 580) (by decide +kernel) (by decide +kernel)
theorem ww_235 : Cond.instanceMethod yX4_take ∈ hs_tb := hs_w1 (k := 578) (by decide +kernel) (by decide +kernel)
theorem ww_236 : Cond.selects RX4 yX4_take yX4_take ∈ hs_tb := hs_w1 (k := 579) (by decide +kernel) (by decide +kernel)
theorem ww_237 : Cond.methodLink RX6 151 yX6_keepTrial ∈ hs_tb := hs_w1 (k := 651) (by decide +kernel) (by decide +kernel)
theorem ww_238 : Cond.code yX6_keepTrial cX6_keepTrial 2 none ∈ hs_tb := hs_w1 (k := 654) (by decide +kernel) (by decide +kernel)
theorem ww_239 : Cond.instanceMethod yX6_keepTrial ∈ hs_tb := hs_w1 (k := 653) (by decide +kernel) (by decide +kernel)
theorem ww_240 : Cond.selects RX6 yX6_keepTrial yX6_keepTrial ∈ hs_tb := hs_w2 (k := 17) (by decide +kernel) (by decide +kernel)
theorem ww_241 : Cond.constant RX6 191 (65535) ∈ hs_tb := hs_w1 (k := 352) (by decide +kernel) (by decide +kernel)
theorem ww_242 : Cond.methodLink RX6 54 yX6_isNotInTwoBytes ∈ hs_tb := hs_w1 (k := 349) (by decide +kernel) (by decide +kernel)
theorem ww_243 : Cond.code yX6_isNotInTwoBytes cX6_isNotInTwoBytes 1 (some .boolean) ∈ hs_tb := hs_w1 (k := 351) (by decide +kernel) (by decide +kernel)
theorem ww_244 : Cond.static yX6_isNotInTwoBytes ∈ hs_tb := hs_w1 (k := 350) (by decide +kernel) (by decide +kernel)
theorem ww_245 : Cond.fieldLink RX6 10 "HeaderSqueeze" "next" "LHeaderSqueeze$Head;" ∈ hs_tb := hs_w1 (k := 213) (by decide +kernel) (by decide +kernel)
theorem ww_246 : Cond.fieldLink RX6 64 "HeaderSqueeze$Head" "address" "I" ∈ hs_tb := hs_w1 (k := 36) (by decide +kernel) (by decide +kernel)
theorem ww_247 : Cond.fieldLink RX6 67 "HeaderSqueeze$Head" "type" "I" ∈ hs_tb := hs_w1 (k := 41) (by decide +kernel) (by decide +kernel)
theorem ww_248 : Cond.fieldLink RX6 70 "HeaderSqueeze$Head" "mark" "Z" ∈ hs_tb := hs_w1 (k := 45) (by decide +kernel) (by decide +kernel)
theorem ww_249 : Cond.methodLink RX6 154 yX1_part ∈ hs_tb := hs_w1 (k := 662) (by decide +kernel) (by decide +kernel)
theorem ww_250 : Cond.methodLink RX6 47 yX6_isNoFlow ∈ hs_tb := hs_w1 (k := 325) (by decide +kernel) (by decide +kernel)
theorem ww_251 : Cond.code yX6_isNoFlow cX6_isNoFlow 1 (some .boolean) ∈ hs_tb := hs_w1 (k := 327) (by decide +kernel) (by decide +kernel)
theorem ww_252 : Cond.static yX6_isNoFlow ∈ hs_tb := hs_w1 (k := 326) (by decide +kernel) (by decide +kernel)
theorem ww_253 : Cond.fieldLink RX6 179 "HeaderSqueeze$Receiver" "level" "I" ∈ hs_tb := hs_w1 (k := 195) (by decide +kernel) (by decide +kernel)
theorem ww_254 : Cond.fieldLink RX6 182 "HeaderSqueeze$Receiver" "last" "I" ∈ hs_tb := hs_w1 (k := 197) (by decide +kernel) (by decide +kernel)
theorem ww_255 : Cond.fieldLink RX6 185 "HeaderSqueeze$Receiver" "former" "I" ∈ hs_tb := hs_w1 (k := 199) (by decide +kernel) (by decide +kernel)
theorem ww_256 : Cond.fieldLink RX6 188 "HeaderSqueeze$Receiver" "failures" "I" ∈ hs_tb := hs_w1 (k := 201) (by decide +kernel) (by decide +kernel)
theorem ww_257 : Cond.fieldLink RX6 74 "HeaderSqueeze$Head" "number" "I" ∈ hs_tb := hs_w1 (k := 51) (by decide +kernel) (by decide +kernel)
theorem ww_258 : Cond.fieldLink RX6 77 "HeaderSqueeze$Head" "time" "I" ∈ hs_tb := hs_w1 (k := 55) (by decide +kernel) (by decide +kernel)
theorem ww_259 : Cond.fieldLink RX6 80 "HeaderSqueeze$Head" "id" "I" ∈ hs_tb := hs_w1 (k := 59) (by decide +kernel) (by decide +kernel)
theorem ww_260 : Cond.fieldLink RX6 25 "HeaderSqueeze" "senders" "[LHeaderSqueeze$Sender;" ∈ hs_tb := hs_w1 (k := 215) (by decide +kernel) (by decide +kernel)
theorem ww_261 : Cond.methodLink RX6 83 yX5_chooseKind ∈ hs_tb := hs_w1 (k := 382) (by decide +kernel) (by decide +kernel)
theorem ww_262 : Cond.code yX5_chooseKind cX5_chooseKind 2 (some .int) ∈ hs_tb := hs_w1 (k := 385) (by decide +kernel) (by decide +kernel)
theorem ww_263 : Cond.instanceMethod yX5_chooseKind ∈ hs_tb := hs_w1 (k := 383) (by decide +kernel) (by decide +kernel)
theorem ww_264 : Cond.selects RX5 yX5_chooseKind yX5_chooseKind ∈ hs_tb := hs_w1 (k := 384) (by decide +kernel) (by decide +kernel)
theorem ww_265 : Cond.methodLink RX6 87 yX2_rowBehind ∈ hs_tb := hs_w1 (k := 426) (by decide +kernel) (by decide +kernel)
theorem ww_266 : Cond.code yX2_rowBehind cX2_rowBehind 1 (some (.object "HeaderSqueeze$Packet")) ∈ hs_tb := hs_w1 (k := 429) (by decide +kernel) (by decide +kernel)
theorem ww_267 : Cond.instanceMethod yX2_rowBehind ∈ hs_tb := hs_w1 (k := 427) (by decide +kernel) (by decide +kernel)
theorem ww_268 : Cond.selects RX2 yX2_rowBehind yX2_rowBehind ∈ hs_tb := hs_w1 (k := 428) (by decide +kernel) (by decide +kernel)
theorem ww_269 : Cond.fieldLink RX6 60 "HeaderSqueeze$Sender" "wishedStride" "I" ∈ hs_tb := hs_w1 (k := 159) (by decide +kernel) (by decide +kernel)
theorem ww_270 : Cond.methodLink RX6 91 yX3_write ∈ hs_tb := hs_w1 (k := 430) (by decide +kernel) (by decide +kernel)
theorem ww_271 : Cond.code yX3_write cX3_write 7 none ∈ hs_tb := hs_w1 (k := 433) (by decide +kernel) (by decide +kernel)
theorem ww_272 : Cond.instanceMethod yX3_write ∈ hs_tb := hs_w1 (k := 431) (by decide +kernel) (by decide +kernel)
theorem ww_273 : Cond.selects RX3 yX3_write yX3_write ∈ hs_tb := hs_w1 (k := 432) (by decide +kernel) (by decide +kernel)
theorem ww_274 : Cond.methodLink RX6 97 yX5_noteSent ∈ hs_tb := hs_w1 (k := 468) (by decide +kernel) (by decide +kernel)
theorem ww_275 : Cond.code yX5_noteSent cX5_noteSent 3 none ∈ hs_tb := hs_w1 (k := 471) (by decide +kernel) (by decide +kernel)
theorem ww_276 : Cond.instanceMethod yX5_noteSent ∈ hs_tb := hs_w1 (k := 469) (by decide +kernel) (by decide +kernel)
theorem ww_277 : Cond.selects RX5 yX5_noteSent yX5_noteSent ∈ hs_tb := hs_w1 (k := 470) (by decide +kernel) (by decide +kernel)
theorem ww_278 : Cond.methodLink RX6 104 yX2_addRowBehind ∈ hs_tb := hs_w1 (k := 472) (by decide +kernel) (by decide +kernel)
theorem ww_279 : Cond.code yX2_addRowBehind cX2_addRowBehind 1 (some .boolean) ∈ hs_tb := hs_w1 (k := 475) (by decide +kernel) (by decide +kernel)
theorem ww_280 : Cond.instanceMethod yX2_addRowBehind ∈ hs_tb := hs_w1 (k := 473) (by decide +kernel) (by decide +kernel)
theorem ww_281 : Cond.selects RX2 yX2_addRowBehind yX2_addRowBehind ∈ hs_tb := hs_w1 (k := 474) (by decide +kernel) (by decide +kernel)
theorem ww_282 : Cond.fieldLink RX6 158 "HeaderSqueeze$Sender" "state" "I" ∈ hs_tb := hs_w1 (k := 161) (by decide +kernel) (by decide +kernel)
theorem ww_283 : Cond.fieldLink RX6 161 "HeaderSqueeze$Sender" "sentInState" "I" ∈ hs_tb := hs_w1 (k := 163) (by decide +kernel) (by decide +kernel)
theorem ww_284 : Cond.fieldLink RX6 164 "HeaderSqueeze$Sender" "age" "I" ∈ hs_tb := hs_w1 (k := 165) (by decide +kernel) (by decide +kernel)
theorem ww_285 : Cond.fieldLink RX6 167 "HeaderSqueeze$Sender" "context" "LHeaderSqueeze$Context;" ∈ hs_tb := hs_w1 (k := 157) (by decide +kernel) (by decide +kernel)
theorem ww_286 : Cond.fieldLink RX6 171 "HeaderSqueeze$Context" "phase" "I" ∈ hs_tb := hs_w1 (k := 142) (by decide +kernel) (by decide +kernel)
theorem ww_287 : Cond.fieldLink RX6 176 "HeaderSqueeze$Context" "offset" "I" ∈ hs_tb := hs_w1 (k := 144) (by decide +kernel) (by decide +kernel)
theorem ww_288 : Cond.fieldLink RX7 121 "HeaderSqueezeModel" "length" "I" ∈ hs_tb := hs_w1 (k := 721) (by decide +kernel) (by decide +kernel)
theorem ww_289 : Cond.methodLink RX7 167 yX7_sizeOf ∈ hs_tb := hs_w1 (k := 900) (by decide +kernel) (by decide +kernel)
theorem ww_290 : Cond.initialized RX7 ∈ hs_tb := hs_w1 (k := 8) (by decide +kernel) (by decide +kernel)
theorem ww_291 : Cond.code yX7_sizeOf cX7_sizeOf 2 (some .int) ∈ hs_tb := hs_w1 (k := 903) (by decide +kernel) (by decide +kernel)
theorem ww_292 : Cond.instanceMethod yX7_sizeOf ∈ hs_tb := hs_w1 (k := 902) (by decide +kernel) (by decide +kernel)
theorem ww_293 : Cond.selects RX7 yX7_sizeOf yX7_sizeOf ∈ hs_tb := hs_w2 (k := 35) (by decide +kernel) (by decide +kernel)
theorem ww_294 : Cond.fieldLink RX7 89 "HeaderSqueezeModel" "packet" "[I" ∈ hs_tb := hs_w1 (k := 722) (by decide +kernel) (by decide +kernel)
theorem ww_295 : Cond.fieldLink RX7 154 "HeaderSqueezeModel" "packets" "I" ∈ hs_tb := hs_w1 (k := 706) (by decide +kernel) (by decide +kernel)
theorem ww_296 : Cond.methodLink RX7 157 yX7_noPacket ∈ hs_tb := hs_w1 (k := 864) (by decide +kernel) (by decide +kernel)
theorem ww_297 : Cond.code yX7_noPacket cX7_noPacket 2 (some .boolean) ∈ hs_tb := hs_w1 (k := 867) (by decide +kernel) (by decide +kernel)
theorem ww_298 : Cond.instanceMethod yX7_noPacket ∈ hs_tb := hs_w1 (k := 866) (by decide +kernel) (by decide +kernel)
theorem ww_299 : Cond.selects RX7 yX7_noPacket yX7_noPacket ∈ hs_tb := hs_w2 (k := 30) (by decide +kernel) (by decide +kernel)
theorem ww_300 : Cond.fieldLink RX7 47 "HeaderSqueezeModel" "sizes" "[I" ∈ hs_tb := hs_w1 (k := 707) (by decide +kernel) (by decide +kernel)
theorem ww_301 : Cond.fieldLink RX7 92 "HeaderSqueezeModel" "thrown" "I" ∈ hs_tb := hs_w1 (k := 690) (by decide +kernel) (by decide +kernel)
theorem ww_302 : Cond.fieldLink RX7 50 "HeaderSqueezeModel" "bytes" "[I" ∈ hs_tb := hs_w1 (k := 708) (by decide +kernel) (by decide +kernel)
theorem ww_303 : Cond.methodLink RX7 160 yX7_noByte ∈ hs_tb := hs_w1 (k := 872) (by decide +kernel) (by decide +kernel)
theorem ww_304 : Cond.code yX7_noByte cX7_noByte 3 (some .boolean) ∈ hs_tb := hs_w1 (k := 875) (by decide +kernel) (by decide +kernel)
theorem ww_305 : Cond.instanceMethod yX7_noByte ∈ hs_tb := hs_w1 (k := 874) (by decide +kernel) (by decide +kernel)
theorem ww_306 : Cond.selects RX7 yX7_noByte yX7_noByte ∈ hs_tb := hs_w2 (k := 31) (by decide +kernel) (by decide +kernel)
theorem ww_307 : Cond.fieldLink RX7 41 "HeaderSqueezeModel" "known" "[I" ∈ hs_tb := hs_w1 (k := 704) (by decide +kernel) (by decide +kernel)
theorem ww_308 : Cond.fieldLink RX7 44 "HeaderSqueezeModel" "numbers" "[I" ∈ hs_tb := hs_w1 (k := 705) (by decide +kernel) (by decide +kernel)
theorem ww_309 : Cond.methodLink RX7 114 yX7_backOf ∈ hs_tb := hs_w1 (k := 824) (by decide +kernel) (by decide +kernel)
theorem ww_310 : Cond.code yX7_backOf cX7_backOf 2 (some .int) ∈ hs_tb := hs_w1 (k := 827) (by decide +kernel) (by decide +kernel)
theorem ww_311 : Cond.instanceMethod yX7_backOf ∈ hs_tb := hs_w1 (k := 826) (by decide +kernel) (by decide +kernel)
theorem ww_312 : Cond.selects RX7 yX7_backOf yX7_backOf ∈ hs_tb := hs_w2 (k := 22) (by decide +kernel) (by decide +kernel)
theorem ww_313 : Cond.constant RX7 96 (65535) ∈ hs_tb := hs_w1 (k := 807) (by decide +kernel) (by decide +kernel)
theorem ww_314 : Cond.methodLink RX7 118 yX7_bitsOf ∈ hs_tb := hs_w1 (k := 828) (by decide +kernel) (by decide +kernel)
theorem ww_315 : Cond.code yX7_bitsOf cX7_bitsOf 2 (some .int) ∈ hs_tb := hs_w1 (k := 831) (by decide +kernel) (by decide +kernel)
theorem ww_316 : Cond.instanceMethod yX7_bitsOf ∈ hs_tb := hs_w1 (k := 830) (by decide +kernel) (by decide +kernel)
theorem ww_317 : Cond.selects RX7 yX7_bitsOf yX7_bitsOf ∈ hs_tb := hs_w2 (k := 23) (by decide +kernel) (by decide +kernel)
theorem ww_318 : Cond.methodLink RX7 135 yX7_enough ∈ hs_tb := hs_w1 (k := 820) (by decide +kernel) (by decide +kernel)
theorem ww_319 : Cond.code yX7_enough cX7_enough 7 (some .boolean) ∈ hs_tb := hs_w1 (k := 823) (by decide +kernel) (by decide +kernel)
theorem ww_320 : Cond.instanceMethod yX7_enough ∈ hs_tb := hs_w1 (k := 822) (by decide +kernel) (by decide +kernel)
theorem ww_321 : Cond.selects RX7 yX7_enough yX7_enough ∈ hs_tb := hs_w2 (k := 21) (by decide +kernel) (by decide +kernel)
theorem ww_322 : Cond.fieldLink RX7 32 "HeaderSqueezeModel" "state" "[I" ∈ hs_tb := hs_w1 (k := 701) (by decide +kernel) (by decide +kernel)
theorem ww_323 : Cond.fieldLink RX7 110 "HeaderSqueezeModel" "mark" "Z" ∈ hs_tb := hs_w1 (k := 693) (by decide +kernel) (by decide +kernel)
theorem ww_324 : Cond.fieldLink RX7 86 "HeaderSqueezeModel" "head" "[I" ∈ hs_tb := hs_w1 (k := 720) (by decide +kernel) (by decide +kernel)
theorem ww_325 : Cond.methodLink RX7 128 yX7_sum ∈ hs_tb := hs_w1 (k := 844) (by decide +kernel) (by decide +kernel)
theorem ww_326 : Cond.code yX7_sum cX7_sum 8 (some .int) ∈ hs_tb := hs_w1 (k := 847) (by decide +kernel) (by decide +kernel)
theorem ww_327 : Cond.instanceMethod yX7_sum ∈ hs_tb := hs_w1 (k := 846) (by decide +kernel) (by decide +kernel)
theorem ww_328 : Cond.selects RX7 yX7_sum yX7_sum ∈ hs_tb := hs_w2 (k := 27) (by decide +kernel) (by decide +kernel)
theorem ww_329 : Cond.fieldLink RX7 56 "HeaderSqueezeModel" "getAddress" "[I" ∈ hs_tb := hs_w1 (k := 710) (by decide +kernel) (by decide +kernel)
theorem ww_330 : Cond.fieldLink RX7 59 "HeaderSqueezeModel" "getType" "[I" ∈ hs_tb := hs_w1 (k := 711) (by decide +kernel) (by decide +kernel)
theorem ww_331 : Cond.fieldLink RX7 65 "HeaderSqueezeModel" "getPhase" "[I" ∈ hs_tb := hs_w1 (k := 713) (by decide +kernel) (by decide +kernel)
theorem ww_332 : Cond.fieldLink RX7 62 "HeaderSqueezeModel" "getStride" "[I" ∈ hs_tb := hs_w1 (k := 712) (by decide +kernel) (by decide +kernel)
theorem ww_333 : Cond.fieldLink RX7 68 "HeaderSqueezeModel" "getOffset" "[I" ∈ hs_tb := hs_w1 (k := 714) (by decide +kernel) (by decide +kernel)
theorem ww_334 : Cond.methodLink RX7 142 yX7_fill ∈ hs_tb := hs_w1 (k := 832) (by decide +kernel) (by decide +kernel)
theorem ww_335 : Cond.code yX7_fill cX7_fill 8 none ∈ hs_tb := hs_w1 (k := 835) (by decide +kernel) (by decide +kernel)
theorem ww_336 : Cond.instanceMethod yX7_fill ∈ hs_tb := hs_w1 (k := 834) (by decide +kernel) (by decide +kernel)
theorem ww_337 : Cond.selects RX7 yX7_fill yX7_fill ∈ hs_tb := hs_w2 (k := 24) (by decide +kernel) (by decide +kernel)
theorem ww_338 : Cond.fieldLink RX7 80 "HeaderSqueezeModel" "made" "[I" ∈ hs_tb := hs_w1 (k := 718) (by decide +kernel) (by decide +kernel)
theorem ww_339 : Cond.fieldLink RX7 71 "HeaderSqueezeModel" "last" "[I" ∈ hs_tb := hs_w1 (k := 715) (by decide +kernel) (by decide +kernel)
theorem ww_340 : Cond.fieldLink RX7 77 "HeaderSqueezeModel" "failed" "[I" ∈ hs_tb := hs_w1 (k := 717) (by decide +kernel) (by decide +kernel)
theorem ww_341 : Cond.fieldLink RX7 83 "HeaderSqueezeModel" "counts" "[I" ∈ hs_tb := hs_w1 (k := 719) (by decide +kernel) (by decide +kernel)
theorem ww_342 : Cond.fieldLink RX7 74 "HeaderSqueezeModel" "former" "[I" ∈ hs_tb := hs_w1 (k := 716) (by decide +kernel) (by decide +kernel)
theorem ww_343 : Cond.fieldLink RX7 53 "HeaderSqueezeModel" "level" "[I" ∈ hs_tb := hs_w1 (k := 709) (by decide +kernel) (by decide +kernel)
theorem ww_344 : Cond.methodLink RX7 178 yX7_keep ∈ hs_tb := hs_w1 (k := 916) (by decide +kernel) (by decide +kernel)
theorem ww_345 : Cond.code yX7_keep cX7_keep 4 none ∈ hs_tb := hs_w1 (k := 919) (by decide +kernel) (by decide +kernel)
theorem ww_346 : Cond.instanceMethod yX7_keep ∈ hs_tb := hs_w1 (k := 918) (by decide +kernel) (by decide +kernel)
theorem ww_347 : Cond.selects RX7 yX7_keep yX7_keep ∈ hs_tb := hs_w2 (k := 39) (by decide +kernel) (by decide +kernel)
theorem ww_348 : Cond.methodLink RX7 170 yX7_near ∈ hs_tb := hs_w1 (k := 908) (by decide +kernel) (by decide +kernel)
theorem ww_349 : Cond.code yX7_near cX7_near 6 (some .int) ∈ hs_tb := hs_w1 (k := 911) (by decide +kernel) (by decide +kernel)
theorem ww_350 : Cond.instanceMethod yX7_near ∈ hs_tb := hs_w1 (k := 910) (by decide +kernel) (by decide +kernel)
theorem ww_351 : Cond.selects RX7 yX7_near yX7_near ∈ hs_tb := hs_w2 (k := 37) (by decide +kernel) (by decide +kernel)
theorem ww_352 : Cond.methodLink RX7 174 yX7_fits ∈ hs_tb := hs_w1 (k := 912) (by decide +kernel) (by decide +kernel)
theorem ww_353 : Cond.code yX7_fits cX7_fits 6 (some .boolean) ∈ hs_tb := hs_w1 (k := 915) (by decide +kernel) (by decide +kernel)
theorem ww_354 : Cond.instanceMethod yX7_fits ∈ hs_tb := hs_w1 (k := 914) (by decide +kernel) (by decide +kernel)
theorem ww_355 : Cond.selects RX7 yX7_fits yX7_fits ∈ hs_tb := hs_w2 (k := 38) (by decide +kernel) (by decide +kernel)
theorem ww_356 : Cond.methodLink RX7 181 yX7_two ∈ hs_tb := hs_w1 (k := 924) (by decide +kernel) (by decide +kernel)
theorem ww_357 : Cond.code yX7_two cX7_two 2 (some .int) ∈ hs_tb := hs_w1 (k := 927) (by decide +kernel) (by decide +kernel)
theorem ww_358 : Cond.instanceMethod yX7_two ∈ hs_tb := hs_w1 (k := 926) (by decide +kernel) (by decide +kernel)
theorem ww_359 : Cond.selects RX7 yX7_two yX7_two ∈ hs_tb := hs_w2 (k := 41) (by decide +kernel) (by decide +kernel)
theorem ww_360 : Cond.methodLink RX7 196 yX7_fail ∈ hs_tb := hs_w1 (k := 928) (by decide +kernel) (by decide +kernel)
theorem ww_361 : Cond.code yX7_fail cX7_fail 2 none ∈ hs_tb := hs_w1 (k := 931) (by decide +kernel) (by decide +kernel)
theorem ww_362 : Cond.instanceMethod yX7_fail ∈ hs_tb := hs_w1 (k := 930) (by decide +kernel) (by decide +kernel)
theorem ww_363 : Cond.selects RX7 yX7_fail yX7_fail ∈ hs_tb := hs_w2 (k := 42) (by decide +kernel) (by decide +kernel)
theorem ww_364 : Cond.methodLink RX7 193 yX7_comeWhole ∈ hs_tb := hs_w1 (k := 920) (by decide +kernel) (by decide +kernel)
theorem ww_365 : Cond.code yX7_comeWhole cX7_comeWhole 11 (some .boolean) ∈ hs_tb := hs_w1 (k := 923) (by decide +kernel) (by decide +kernel)
theorem ww_366 : Cond.instanceMethod yX7_comeWhole ∈ hs_tb := hs_w1 (k := 922) (by decide +kernel) (by decide +kernel)
theorem ww_367 : Cond.selects RX7 yX7_comeWhole yX7_comeWhole ∈ hs_tb := hs_w2 (k := 40) (by decide +kernel) (by decide +kernel)
theorem ww_368 : Cond.methodLink RX7 190 yX7_comeSmall ∈ hs_tb := hs_w1 (k := 904) (by decide +kernel) (by decide +kernel)
theorem ww_369 : Cond.code yX7_comeSmall cX7_comeSmall 10 (some .int) ∈ hs_tb := hs_w1 (k := 907) (by decide +kernel) (by decide +kernel)
theorem ww_370 : Cond.instanceMethod yX7_comeSmall ∈ hs_tb := hs_w1 (k := 906) (by decide +kernel) (by decide +kernel)
theorem ww_371 : Cond.selects RX7 yX7_comeSmall yX7_comeSmall ∈ hs_tb := hs_w2 (k := 36) (by decide +kernel) (by decide +kernel)
theorem ww_372 : Cond.methodLink RX7 187 yX7_broken ∈ hs_tb := hs_w1 (k := 896) (by decide +kernel) (by decide +kernel)
theorem ww_373 : Cond.code yX7_broken cX7_broken 3 (some .boolean) ∈ hs_tb := hs_w1 (k := 899) (by decide +kernel) (by decide +kernel)
theorem ww_374 : Cond.instanceMethod yX7_broken ∈ hs_tb := hs_w1 (k := 898) (by decide +kernel) (by decide +kernel)
theorem ww_375 : Cond.selects RX7 yX7_broken yX7_broken ∈ hs_tb := hs_w2 (k := 34) (by decide +kernel) (by decide +kernel)
theorem ww_376 : Cond.methodLink RX7 184 yX7_kindOf ∈ hs_tb := hs_w1 (k := 892) (by decide +kernel) (by decide +kernel)
theorem ww_377 : Cond.code yX7_kindOf cX7_kindOf 2 (some .int) ∈ hs_tb := hs_w1 (k := 895) (by decide +kernel) (by decide +kernel)
theorem ww_378 : Cond.instanceMethod yX7_kindOf ∈ hs_tb := hs_w1 (k := 894) (by decide +kernel) (by decide +kernel)
theorem ww_379 : Cond.selects RX7 yX7_kindOf yX7_kindOf ∈ hs_tb := hs_w2 (k := 33) (by decide +kernel) (by decide +kernel)
theorem ww_380 : Cond.methodLink RX7 164 yX7_off ∈ hs_tb := hs_w1 (k := 884) (by decide +kernel) (by decide +kernel)
theorem ww_381 : Cond.code yX7_off cX7_off 4 none ∈ hs_tb := hs_w1 (k := 887) (by decide +kernel) (by decide +kernel)
theorem ww_382 : Cond.instanceMethod yX7_off ∈ hs_tb := hs_w1 (k := 886) (by decide +kernel) (by decide +kernel)
theorem ww_383 : Cond.selects RX7 yX7_off yX7_off ∈ hs_tb := hs_w2 (k := 32) (by decide +kernel) (by decide +kernel)
theorem ww_384 : Cond.fieldLink RX7 104 "HeaderSqueezeModel" "address" "I" ∈ hs_tb := hs_w1 (k := 691) (by decide +kernel) (by decide +kernel)
theorem ww_385 : Cond.fieldLink RX7 107 "HeaderSqueezeModel" "type" "I" ∈ hs_tb := hs_w1 (k := 692) (by decide +kernel) (by decide +kernel)
theorem ww_386 : Cond.methodLink RX7 101 yX7_outside ∈ hs_tb := hs_w1 (k := 803) (by decide +kernel) (by decide +kernel)
theorem ww_387 : Cond.code yX7_outside cX7_outside 2 (some .boolean) ∈ hs_tb := hs_w1 (k := 806) (by decide +kernel) (by decide +kernel)
theorem ww_388 : Cond.instanceMethod yX7_outside ∈ hs_tb := hs_w1 (k := 805) (by decide +kernel) (by decide +kernel)
theorem ww_389 : Cond.selects RX7 yX7_outside yX7_outside ∈ hs_tb := hs_w2 (k := 19) (by decide +kernel) (by decide +kernel)
theorem ww_390 : Cond.methodLink RX7 124 yX7_put ∈ hs_tb := hs_w1 (k := 840) (by decide +kernel) (by decide +kernel)
theorem ww_391 : Cond.code yX7_put cX7_put 2 none ∈ hs_tb := hs_w1 (k := 843) (by decide +kernel) (by decide +kernel)
theorem ww_392 : Cond.instanceMethod yX7_put ∈ hs_tb := hs_w1 (k := 842) (by decide +kernel) (by decide +kernel)
theorem ww_393 : Cond.selects RX7 yX7_put yX7_put ∈ hs_tb := hs_w2 (k := 26) (by decide +kernel) (by decide +kernel)
theorem ww_394 : Cond.methodLink RX7 97 yX7_noFlow ∈ hs_tb := hs_w1 (k := 799) (by decide +kernel) (by decide +kernel)
theorem ww_395 : Cond.code yX7_noFlow cX7_noFlow 2 (some .boolean) ∈ hs_tb := hs_w1 (k := 802) (by decide +kernel) (by decide +kernel)
theorem ww_396 : Cond.instanceMethod yX7_noFlow ∈ hs_tb := hs_w1 (k := 801) (by decide +kernel) (by decide +kernel)
theorem ww_397 : Cond.selects RX7 yX7_noFlow yX7_noFlow ∈ hs_tb := hs_w2 (k := 18) (by decide +kernel) (by decide +kernel)
theorem ww_398 : Cond.fieldLink RX7 7 "HeaderSqueezeModel" "wished" "[I" ∈ hs_tb := hs_w1 (k := 694) (by decide +kernel) (by decide +kernel)
theorem ww_399 : Cond.methodLink RX7 132 yX7_putRest ∈ hs_tb := hs_w1 (k := 848) (by decide +kernel) (by decide +kernel)
theorem ww_400 : Cond.code yX7_putRest cX7_putRest 3 none ∈ hs_tb := hs_w1 (k := 851) (by decide +kernel) (by decide +kernel)
theorem ww_401 : Cond.instanceMethod yX7_putRest ∈ hs_tb := hs_w1 (k := 850) (by decide +kernel) (by decide +kernel)
theorem ww_402 : Cond.selects RX7 yX7_putRest yX7_putRest ∈ hs_tb := hs_w2 (k := 28) (by decide +kernel) (by decide +kernel)
theorem ww_403 : Cond.methodLink RX7 150 yX7_note ∈ hs_tb := hs_w1 (k := 852) (by decide +kernel) (by decide +kernel)
theorem ww_404 : Cond.code yX7_note cX7_note 4 none ∈ hs_tb := hs_w1 (k := 855) (by decide +kernel) (by decide +kernel)
theorem ww_405 : Cond.instanceMethod yX7_note ∈ hs_tb := hs_w1 (k := 854) (by decide +kernel) (by decide +kernel)
theorem ww_406 : Cond.selects RX7 yX7_note yX7_note ∈ hs_tb := hs_w2 (k := 29) (by decide +kernel) (by decide +kernel)
theorem ww_407 : Cond.fieldLink RX7 35 "HeaderSqueezeModel" "sent" "[I" ∈ hs_tb := hs_w1 (k := 702) (by decide +kernel) (by decide +kernel)
theorem ww_408 : Cond.fieldLink RX7 13 "HeaderSqueezeModel" "has" "[Z" ∈ hs_tb := hs_w1 (k := 695) (by decide +kernel) (by decide +kernel)
theorem ww_409 : Cond.fieldLink RX7 17 "HeaderSqueezeModel" "sendAddress" "[I" ∈ hs_tb := hs_w1 (k := 696) (by decide +kernel) (by decide +kernel)
theorem ww_410 : Cond.fieldLink RX7 20 "HeaderSqueezeModel" "sendType" "[I" ∈ hs_tb := hs_w1 (k := 697) (by decide +kernel) (by decide +kernel)
theorem ww_411 : Cond.fieldLink RX7 23 "HeaderSqueezeModel" "sendStride" "[I" ∈ hs_tb := hs_w1 (k := 698) (by decide +kernel) (by decide +kernel)
theorem ww_412 : Cond.fieldLink RX7 26 "HeaderSqueezeModel" "sendPhase" "[I" ∈ hs_tb := hs_w1 (k := 699) (by decide +kernel) (by decide +kernel)
theorem ww_413 : Cond.fieldLink RX7 29 "HeaderSqueezeModel" "sendOffset" "[I" ∈ hs_tb := hs_w1 (k := 700) (by decide +kernel) (by decide +kernel)
theorem ww_414 : Cond.methodLink RX7 139 yX7_choose ∈ hs_tb := hs_w1 (k := 816) (by decide +kernel) (by decide +kernel)
theorem ww_415 : Cond.code yX7_choose cX7_choose 3 (some .int) ∈ hs_tb := hs_w1 (k := 819) (by decide +kernel) (by decide +kernel)
theorem ww_416 : Cond.instanceMethod yX7_choose ∈ hs_tb := hs_w1 (k := 818) (by decide +kernel) (by decide +kernel)
theorem ww_417 : Cond.selects RX7 yX7_choose yX7_choose ∈ hs_tb := hs_w2 (k := 20) (by decide +kernel) (by decide +kernel)
theorem ww_418 : Cond.methodLink RX7 146 yX7_write ∈ hs_tb := hs_w1 (k := 836) (by decide +kernel) (by decide +kernel)
theorem ww_419 : Cond.code yX7_write cX7_write 4 none ∈ hs_tb := hs_w1 (k := 839) (by decide +kernel) (by decide +kernel)
theorem ww_420 : Cond.instanceMethod yX7_write ∈ hs_tb := hs_w1 (k := 838) (by decide +kernel) (by decide +kernel)
theorem ww_421 : Cond.selects RX7 yX7_write yX7_write ∈ hs_tb := hs_w2 (k := 25) (by decide +kernel) (by decide +kernel)
theorem ww_422 : Cond.fieldLink RX7 38 "HeaderSqueezeModel" "age" "[I" ∈ hs_tb := hs_w1 (k := 703) (by decide +kernel) (by decide +kernel)
end
section
theorem gf_X0_9 {X : hs_T} {nL hh pc : Nat} {cc : ByteArray} {S : hs_M} {lv : List (Nat × Value)} {st : List Value} (C : hs_C X 0 RX0 cc nL hh) {i : Nat} (hk : hs_K i = 0) (hd : decode cc pc = .ok (.getfield 9, 3)) (kk : hs_Z X nL S lv (.int (S i 0) :: st) (pc + 3)) : hs_Z X nL S lv (.ref (hs_q X i) :: st) pc := hs_get (kd := 0) (k := 0) (N := 5) C rfl hi0 rfl (by decide) rfl (by decide) ww_0 hk rfl hd kk
theorem pf_X0_15 {X : hs_T} {nL hh pc : Nat} {cc : ByteArray} {S : hs_M} {lv : List (Nat × Value)} {st : List Value} (C : hs_C X 0 RX0 cc nL hh) {i : Nat} (hk : hs_K i = 1) {x : Int32} {ρ : Type} {G : hs_M → Option ρ} {res : ρ} (h : hs_l (hs_U S i 0 x) G = some res) (hd : decode cc pc = .ok (.putfield 15, 3)) (kk : ∀ S1 : hs_M, G S1 = some res → hs_Z X nL S1 lv st (pc + 3)) : hs_Z X nL S lv (.int x :: .ref (hs_q X i) :: st) pc := hs_put (kd := 1) (k := 0) (N := 6) C tyX1 tyX1_ok nmX1 rfl hi1 rfl (by decide) rfl (by decide) rfl ww_1 hk rfl rfl (hs_vU0 rfl) h hd kk
theorem gf_X0_18 {X : hs_T} {nL hh pc : Nat} {cc : ByteArray} {S : hs_M} {lv : List (Nat × Value)} {st : List Value} (C : hs_C X 0 RX0 cc nL hh) {i : Nat} (hk : hs_K i = 0) (hd : decode cc pc = .ok (.getfield 18, 3)) (kk : hs_Z X nL S lv (.int (S i 1) :: st) (pc + 3)) : hs_Z X nL S lv (.ref (hs_q X i) :: st) pc := hs_get (kd := 0) (k := 1) (N := 5) C rfl hi0 rfl (by decide) rfl (by decide) ww_2 hk rfl hd kk
theorem pf_X0_21 {X : hs_T} {nL hh pc : Nat} {cc : ByteArray} {S : hs_M} {lv : List (Nat × Value)} {st : List Value} (C : hs_C X 0 RX0 cc nL hh) {i : Nat} (hk : hs_K i = 1) {x : Int32} {ρ : Type} {G : hs_M → Option ρ} {res : ρ} (h : hs_l (hs_U S i 1 x) G = some res) (hd : decode cc pc = .ok (.putfield 21, 3)) (kk : ∀ S1 : hs_M, G S1 = some res → hs_Z X nL S1 lv st (pc + 3)) : hs_Z X nL S lv (.int x :: .ref (hs_q X i) :: st) pc := hs_put (kd := 1) (k := 1) (N := 6) C tyX1 tyX1_ok nmX1 rfl hi1 rfl (by decide) rfl (by decide) rfl ww_3 hk rfl rfl (hs_vU0 rfl) h hd kk
theorem pf_X0_43 {X : hs_T} {nL hh pc : Nat} {cc : ByteArray} {S : hs_M} {lv : List (Nat × Value)} {st : List Value} (C : hs_C X 0 RX0 cc nL hh) {i : Nat} (hk : hs_K i = 1) {x : Int32} {ρ : Type} {G : hs_M → Option ρ} {res : ρ} (h : hs_l (hs_U S i 3 x) G = some res) (hd : decode cc pc = .ok (.putfield 43, 3)) (kk : ∀ S1 : hs_M, G S1 = some res → hs_Z X nL S1 lv st (pc + 3)) : hs_Z X nL S lv (.int x :: .ref (hs_q X i) :: st) pc := hs_put (kd := 1) (k := 3) (N := 6) C tyX1 tyX1_ok nmX1 rfl hi1 rfl (by decide) rfl (by decide) rfl ww_4 hk rfl rfl (hs_vU0 rfl) h hd kk
theorem gf_X0_26 {X : hs_T} {nL hh pc : Nat} {cc : ByteArray} {S : hs_M} {lv : List (Nat × Value)} {st : List Value} (C : hs_C X 0 RX0 cc nL hh) {i : Nat} (hk : hs_K i = 0) (hd : decode cc pc = .ok (.getfield 26, 3)) (kk : hs_Z X nL S lv (.int (S i 3) :: st) (pc + 3)) : hs_Z X nL S lv (.ref (hs_q X i) :: st) pc := hs_get (kd := 0) (k := 3) (N := 5) C rfl hi0 rfl (by decide) rfl (by decide) ww_5 hk rfl hd kk
theorem gf_X0_29 {X : hs_T} {nL hh pc : Nat} {cc : ByteArray} {S : hs_M} {lv : List (Nat × Value)} {st : List Value} (C : hs_C X 0 RX0 cc nL hh) {i : Nat} (hk : hs_K i = 0) (hd : decode cc pc = .ok (.getfield 29, 3)) (kk : hs_Z X nL S lv (.int (S i 2) :: st) (pc + 3)) : hs_Z X nL S lv (.ref (hs_q X i) :: st) pc := hs_get (kd := 0) (k := 2) (N := 5) C rfl hi0 rfl (by decide) rfl (by decide) ww_6 hk rfl hd kk
theorem pf_X0_46 {X : hs_T} {nL hh pc : Nat} {cc : ByteArray} {S : hs_M} {lv : List (Nat × Value)} {st : List Value} (C : hs_C X 0 RX0 cc nL hh) {i : Nat} (hk : hs_K i = 1) {x : Int32} {ρ : Type} {G : hs_M → Option ρ} {res : ρ} (h : hs_l (hs_U S i 4 x) G = some res) (hd : decode cc pc = .ok (.putfield 46, 3)) (kk : ∀ S1 : hs_M, G S1 = some res → hs_Z X nL S1 lv st (pc + 3)) : hs_Z X nL S lv (.int x :: .ref (hs_q X i) :: st) pc := hs_put (kd := 1) (k := 4) (N := 6) C tyX1 tyX1_ok nmX1 rfl hi1 rfl (by decide) rfl (by decide) rfl ww_7 hk rfl rfl (hs_vU0 rfl) h hd kk
theorem gf_X0_36 {X : hs_T} {nL hh pc : Nat} {cc : ByteArray} {S : hs_M} {lv : List (Nat × Value)} {st : List Value} (C : hs_C X 0 RX0 cc nL hh) {i : Nat} (hk : hs_K i = 0) (hd : decode cc pc = .ok (.getfield 36, 3)) (kk : hs_Z X nL S lv (.int (S i 4) :: st) (pc + 3)) : hs_Z X nL S lv (.ref (hs_q X i) :: st) pc := hs_get (kd := 0) (k := 4) (N := 5) C rfl hi0 rfl (by decide) rfl (by decide) ww_8 hk rfl hd kk
theorem pf_X0_50 {X : hs_T} {nL hh pc : Nat} {cc : ByteArray} {S : hs_M} {lv : List (Nat × Value)} {st : List Value} (C : hs_C X 0 RX0 cc nL hh) {i : Nat} (hk : hs_K i = 1) {x : Int32} {ρ : Type} {G : hs_M → Option ρ} {res : ρ} (h : hs_l (hs_U S i 5 x) G = some res) (hd : decode cc pc = .ok (.putfield 50, 3)) (kk : ∀ S1 : hs_M, G S1 = some res → hs_Z X nL S1 lv st (pc + 3)) : hs_Z X nL S lv (.int x :: .ref (hs_q X i) :: st) pc := hs_put (kd := 1) (k := 5) (N := 6) C tyX1 tyX1_ok nmX1 rfl hi1 rfl (by decide) rfl (by decide) rfl ww_10 hk rfl rfl (hs_vU0 rfl) h hd kk
theorem gf_X0_46 {X : hs_T} {nL hh pc : Nat} {cc : ByteArray} {S : hs_M} {lv : List (Nat × Value)} {st : List Value} (C : hs_C X 0 RX0 cc nL hh) {i : Nat} (hk : hs_K i = 1) (hd : decode cc pc = .ok (.getfield 46, 3)) (kk : hs_Z X nL S lv (.int (S i 4) :: st) (pc + 3)) : hs_Z X nL S lv (.ref (hs_q X i) :: st) pc := hs_get (kd := 1) (k := 4) (N := 6) C rfl hi1 rfl (by decide) rfl (by decide) ww_7 hk rfl hd kk
theorem gf_X0_43 {X : hs_T} {nL hh pc : Nat} {cc : ByteArray} {S : hs_M} {lv : List (Nat × Value)} {st : List Value} (C : hs_C X 0 RX0 cc nL hh) {i : Nat} (hk : hs_K i = 1) (hd : decode cc pc = .ok (.getfield 43, 3)) (kk : hs_Z X nL S lv (.int (S i 3) :: st) (pc + 3)) : hs_Z X nL S lv (.ref (hs_q X i) :: st) pc := hs_get (kd := 1) (k := 3) (N := 6) C rfl hi1 rfl (by decide) rfl (by decide) ww_4 hk rfl hd kk
theorem gf_X0_50 {X : hs_T} {nL hh pc : Nat} {cc : ByteArray} {S : hs_M} {lv : List (Nat × Value)} {st : List Value} (C : hs_C X 0 RX0 cc nL hh) {i : Nat} (hk : hs_K i = 1) (hd : decode cc pc = .ok (.getfield 50, 3)) (kk : hs_Z X nL S lv (.int (S i 5) :: st) (pc + 3)) : hs_Z X nL S lv (.ref (hs_q X i) :: st) pc := hs_get (kd := 1) (k := 5) (N := 6) C rfl hi1 rfl (by decide) rfl (by decide) ww_10 hk rfl hd kk
theorem gf_X0_15 {X : hs_T} {nL hh pc : Nat} {cc : ByteArray} {S : hs_M} {lv : List (Nat × Value)} {st : List Value} (C : hs_C X 0 RX0 cc nL hh) {i : Nat} (hk : hs_K i = 1) (hd : decode cc pc = .ok (.getfield 15, 3)) (kk : hs_Z X nL S lv (.int (S i 0) :: st) (pc + 3)) : hs_Z X nL S lv (.ref (hs_q X i) :: st) pc := hs_get (kd := 1) (k := 0) (N := 6) C rfl hi1 rfl (by decide) rfl (by decide) ww_1 hk rfl hd kk
theorem pf_X0_9 {X : hs_T} {nL hh pc : Nat} {cc : ByteArray} {S : hs_M} {lv : List (Nat × Value)} {st : List Value} (C : hs_C X 0 RX0 cc nL hh) {i : Nat} (hk : hs_K i = 0) {x : Int32} {ρ : Type} {G : hs_M → Option ρ} {res : ρ} (h : hs_l (hs_U S i 0 x) G = some res) (hd : decode cc pc = .ok (.putfield 9, 3)) (kk : ∀ S1 : hs_M, G S1 = some res → hs_Z X nL S1 lv st (pc + 3)) : hs_Z X nL S lv (.int x :: .ref (hs_q X i) :: st) pc := hs_put (kd := 0) (k := 0) (N := 5) C tyX0 tyX0_ok nmX0 rfl hi0 rfl (by decide) rfl (by decide) rfl ww_0 hk rfl rfl (hs_vU0 rfl) h hd kk
theorem gf_X0_21 {X : hs_T} {nL hh pc : Nat} {cc : ByteArray} {S : hs_M} {lv : List (Nat × Value)} {st : List Value} (C : hs_C X 0 RX0 cc nL hh) {i : Nat} (hk : hs_K i = 1) (hd : decode cc pc = .ok (.getfield 21, 3)) (kk : hs_Z X nL S lv (.int (S i 1) :: st) (pc + 3)) : hs_Z X nL S lv (.ref (hs_q X i) :: st) pc := hs_get (kd := 1) (k := 1) (N := 6) C rfl hi1 rfl (by decide) rfl (by decide) ww_3 hk rfl hd kk
theorem pf_X0_18 {X : hs_T} {nL hh pc : Nat} {cc : ByteArray} {S : hs_M} {lv : List (Nat × Value)} {st : List Value} (C : hs_C X 0 RX0 cc nL hh) {i : Nat} (hk : hs_K i = 0) {x : Int32} {ρ : Type} {G : hs_M → Option ρ} {res : ρ} (h : hs_l (hs_U S i 1 x) G = some res) (hd : decode cc pc = .ok (.putfield 18, 3)) (kk : ∀ S1 : hs_M, G S1 = some res → hs_Z X nL S1 lv st (pc + 3)) : hs_Z X nL S lv (.int x :: .ref (hs_q X i) :: st) pc := hs_put (kd := 0) (k := 1) (N := 5) C tyX0 tyX0_ok nmX0 rfl hi0 rfl (by decide) rfl (by decide) rfl ww_2 hk rfl rfl (hs_vU0 rfl) h hd kk
theorem pf_X0_29 {X : hs_T} {nL hh pc : Nat} {cc : ByteArray} {S : hs_M} {lv : List (Nat × Value)} {st : List Value} (C : hs_C X 0 RX0 cc nL hh) {i : Nat} (hk : hs_K i = 0) {x : Int32} {ρ : Type} {G : hs_M → Option ρ} {res : ρ} (h : hs_l (hs_U S i 2 x) G = some res) (hd : decode cc pc = .ok (.putfield 29, 3)) (kk : ∀ S1 : hs_M, G S1 = some res → hs_Z X nL S1 lv st (pc + 3)) : hs_Z X nL S lv (.int x :: .ref (hs_q X i) :: st) pc := hs_put (kd := 0) (k := 2) (N := 5) C tyX0 tyX0_ok nmX0 rfl hi0 rfl (by decide) rfl (by decide) rfl ww_6 hk rfl rfl (hs_vU0 rfl) h hd kk
theorem cs_X0_32 {X : hs_T} {nL hh pc : Nat} {cc : ByteArray} {S : hs_M} {lv : List (Nat × Value)} {st : List Value} (C : hs_C X 0 RX0 cc nL hh) {i0 : Nat} {a1 : Int32} {r : Int32} {S' : hs_M} (hM : hs_met 0 yX0_phaseOf cX0_phaseOf 2 (some .int) 0 (fun q => [.ref (q i0), .int a1]) S (fun q => some (.int r)) S') (hh1 : 0 < hh) (hrest : (st.map fun v => v.category).sum ≤ 8) (hd : decode cc pc = .ok (.invokestatic 32, 3)) (kk : hs_Z X nL S' lv (.int r :: st) (pc + 3)) : hs_Z X nL S lv (.int a1 :: .ref (hs_q X i0) :: st) pc := hs_callS (na := 2) C ww_11 ww_14 ww_12 ww_13 (by decide +kernel) (by decide) hM rfl rfl (by decide +kernel) rfl hh1 hrest hd kk
theorem pf_X0_26 {X : hs_T} {nL hh pc : Nat} {cc : ByteArray} {S : hs_M} {lv : List (Nat × Value)} {st : List Value} (C : hs_C X 0 RX0 cc nL hh) {i : Nat} (hk : hs_K i = 0) {x : Int32} {ρ : Type} {G : hs_M → Option ρ} {res : ρ} (h : hs_l (hs_U S i 3 x) G = some res) (hd : decode cc pc = .ok (.putfield 26, 3)) (kk : ∀ S1 : hs_M, G S1 = some res → hs_Z X nL S1 lv st (pc + 3)) : hs_Z X nL S lv (.int x :: .ref (hs_q X i) :: st) pc := hs_put (kd := 0) (k := 3) (N := 5) C tyX0 tyX0_ok nmX0 rfl hi0 rfl (by decide) rfl (by decide) rfl ww_5 hk rfl rfl (hs_vU0 rfl) h hd kk
theorem cs_X0_39 {X : hs_T} {nL hh pc : Nat} {cc : ByteArray} {S : hs_M} {lv : List (Nat × Value)} {st : List Value} (C : hs_C X 0 RX0 cc nL hh) {i0 : Nat} {r : Int32} {S' : hs_M} (hM : hs_met 0 yX0_offsetOf cX0_offsetOf 1 (some .int) 0 (fun q => [.ref (q i0)]) S (fun q => some (.int r)) S') (hh1 : 0 < hh) (hrest : (st.map fun v => v.category).sum ≤ 8) (hd : decode cc pc = .ok (.invokestatic 39, 3)) (kk : hs_Z X nL S' lv (.int r :: st) (pc + 3)) : hs_Z X nL S lv (.ref (hs_q X i0) :: st) pc := hs_callS (na := 1) C ww_15 ww_17 ww_12 ww_16 (by decide +kernel) (by decide) hM rfl rfl (by decide +kernel) rfl hh1 hrest hd kk
theorem pf_X0_36 {X : hs_T} {nL hh pc : Nat} {cc : ByteArray} {S : hs_M} {lv : List (Nat × Value)} {st : List Value} (C : hs_C X 0 RX0 cc nL hh) {i : Nat} (hk : hs_K i = 0) {x : Int32} {ρ : Type} {G : hs_M → Option ρ} {res : ρ} (h : hs_l (hs_U S i 4 x) G = some res) (hd : decode cc pc = .ok (.putfield 36, 3)) (kk : ∀ S1 : hs_M, G S1 = some res → hs_Z X nL S1 lv st (pc + 3)) : hs_Z X nL S lv (.int x :: .ref (hs_q X i) :: st) pc := hs_put (kd := 0) (k := 4) (N := 5) C tyX0 tyX0_ok nmX0 rfl hi0 rfl (by decide) rfl (by decide) rfl ww_8 hk rfl rfl (hs_vU0 rfl) h hd kk
theorem cs_X0_22 {X : hs_T} {nL hh pc : Nat} {cc : ByteArray} {S : hs_M} {lv : List (Nat × Value)} {st : List Value} (C : hs_C X 0 RX0 cc nL hh) {i0 : Nat} {i1 : Nat} {r : Int32} {S' : hs_M} (hk : hs_K i0 = 0) (hM : hs_met 0 yX0_isOf cX0_isOf 2 (some .boolean) 0 (fun q => [.ref (q i0), .ref (q i1)]) S (fun q => some (.int r)) S') (hh1 : 0 < hh) (hrest : (st.map fun v => v.category).sum ≤ 8) (hd : decode cc pc = .ok (.invokevirtual 22, 3)) (kk : hs_Z X nL S' lv (.int r :: st) (pc + 3)) : hs_Z X nL S lv (.ref (hs_q X i1) :: .ref (hs_q X i0) :: st) pc := hs_callV (i := i0) (kd := 0) (na := 1) C ww_18 ww_20 ww_21 ww_12 ww_19 (by decide +kernel) (by decide) rfl (by decide) rfl hM rfl rfl (by decide +kernel) rfl hk hh1 hrest hd kk
theorem gf_X1_31 {X : hs_T} {nL hh pc : Nat} {cc : ByteArray} {S : hs_M} {lv : List (Nat × Value)} {st : List Value} (C : hs_C X 0 RX1 cc nL hh) {i : Nat} (hk : hs_K i = 1) (hd : decode cc pc = .ok (.getfield 31, 3)) (kk : hs_Z X nL S lv (.int (S i 2) :: st) (pc + 3)) : hs_Z X nL S lv (.ref (hs_q X i) :: st) pc := hs_get (kd := 1) (k := 2) (N := 6) C rfl hi1 rfl (by decide) rfl (by decide) ww_22 hk rfl hd kk
theorem gf_X1_9 {X : hs_T} {nL hh pc : Nat} {cc : ByteArray} {S : hs_M} {lv : List (Nat × Value)} {st : List Value} (C : hs_C X 0 RX1 cc nL hh) {i : Nat} (hk : hs_K i = 1) (hd : decode cc pc = .ok (.getfield 9, 3)) (kk : hs_Z X nL S lv (.int (S i 0) :: st) (pc + 3)) : hs_Z X nL S lv (.ref (hs_q X i) :: st) pc := hs_get (kd := 1) (k := 0) (N := 6) C rfl hi1 rfl (by decide) rfl (by decide) ww_23 hk rfl hd kk
theorem gf_X1_15 {X : hs_T} {nL hh pc : Nat} {cc : ByteArray} {S : hs_M} {lv : List (Nat × Value)} {st : List Value} (C : hs_C X 0 RX1 cc nL hh) {i : Nat} (hk : hs_K i = 1) (hd : decode cc pc = .ok (.getfield 15, 3)) (kk : hs_Z X nL S lv (.int (S i 1) :: st) (pc + 3)) : hs_Z X nL S lv (.ref (hs_q X i) :: st) pc := hs_get (kd := 1) (k := 1) (N := 6) C rfl hi1 rfl (by decide) rfl (by decide) ww_24 hk rfl hd kk
theorem cs_X1_18 {X : hs_T} {nL hh pc : Nat} {cc : ByteArray} {S : hs_M} {lv : List (Nat × Value)} {st : List Value} (C : hs_C X 0 RX1 cc nL hh) {i0 : Nat} {r : Int32} {S' : hs_M} (hk : hs_K i0 = 1) (hM : hs_met 0 yX1_markBit cX1_markBit 1 (some .int) 0 (fun q => [.ref (q i0)]) S (fun q => some (.int r)) S') (hh1 : 0 < hh) (hrest : (st.map fun v => v.category).sum ≤ 8) (hd : decode cc pc = .ok (.invokevirtual 18, 3)) (kk : hs_Z X nL S' lv (.int r :: st) (pc + 3)) : hs_Z X nL S lv (.ref (hs_q X i0) :: st) pc := hs_callV (i := i0) (kd := 1) (na := 0) C ww_25 ww_28 ww_29 ww_26 ww_27 (by decide +kernel) (by decide) rfl (by decide) rfl hM rfl rfl (by decide +kernel) rfl hk hh1 hrest hd kk
theorem gf_X1_22 {X : hs_T} {nL hh pc : Nat} {cc : ByteArray} {S : hs_M} {lv : List (Nat × Value)} {st : List Value} (C : hs_C X 0 RX1 cc nL hh) {i : Nat} (hk : hs_K i = 1) (hd : decode cc pc = .ok (.getfield 22, 3)) (kk : hs_Z X nL S lv (.int (S i 3) :: st) (pc + 3)) : hs_Z X nL S lv (.ref (hs_q X i) :: st) pc := hs_get (kd := 1) (k := 3) (N := 6) C rfl hi1 rfl (by decide) rfl (by decide) ww_30 hk rfl hd kk
theorem gf_X1_25 {X : hs_T} {nL hh pc : Nat} {cc : ByteArray} {S : hs_M} {lv : List (Nat × Value)} {st : List Value} (C : hs_C X 0 RX1 cc nL hh) {i : Nat} (hk : hs_K i = 1) (hd : decode cc pc = .ok (.getfield 25, 3)) (kk : hs_Z X nL S lv (.int (S i 4) :: st) (pc + 3)) : hs_Z X nL S lv (.ref (hs_q X i) :: st) pc := hs_get (kd := 1) (k := 4) (N := 6) C rfl hi1 rfl (by decide) rfl (by decide) ww_31 hk rfl hd kk
theorem gf_X1_28 {X : hs_T} {nL hh pc : Nat} {cc : ByteArray} {S : hs_M} {lv : List (Nat × Value)} {st : List Value} (C : hs_C X 0 RX1 cc nL hh) {i : Nat} (hk : hs_K i = 1) (hd : decode cc pc = .ok (.getfield 28, 3)) (kk : hs_Z X nL S lv (.int (S i 5) :: st) (pc + 3)) : hs_Z X nL S lv (.ref (hs_q X i) :: st) pc := hs_get (kd := 1) (k := 5) (N := 6) C rfl hi1 rfl (by decide) rfl (by decide) ww_32 hk rfl hd kk
theorem cs_X1_46 {X : hs_T} {nL hh pc : Nat} {cc : ByteArray} {S : hs_M} {lv : List (Nat × Value)} {st : List Value} (C : hs_C X 0 RX1 cc nL hh) {a0 : Int32} {a1 : Int32} {a2 : Int32} {r : Int32} {S' : hs_M} (hM : hs_met 0 yX1_sumBehind cX1_sumBehind 6 (some .int) 0 (fun q => [.int a0, .int a1, .int a2]) S (fun q => some (.int r)) S') (hh1 : 0 < hh) (hrest : (st.map fun v => v.category).sum ≤ 8) (hd : decode cc pc = .ok (.invokestatic 46, 3)) (kk : hs_Z X nL S' lv (.int r :: st) (pc + 3)) : hs_Z X nL S lv (.int a2 :: .int a1 :: .int a0 :: st) pc := hs_callS (na := 3) C ww_33 ww_35 ww_26 ww_34 (by decide +kernel) (by decide) hM rfl rfl (by decide +kernel) rfl hh1 hrest hd kk
theorem cs_X1_42 {X : hs_T} {nL hh pc : Nat} {cc : ByteArray} {S : hs_M} {lv : List (Nat × Value)} {st : List Value} (C : hs_C X 0 RX1 cc nL hh) {i0 : Nat} {a1 : Int32} {r : Int32} {S' : hs_M} (hk : hs_K i0 = 1) (hM : hs_met 0 yX1_part cX1_part 2 (some .int) 1 (fun q => [.ref (q i0), .int a1]) S (fun q => some (.int r)) S') (hh1 : 1 < hh) (hrest : (st.map fun v => v.category).sum ≤ 8) (hd : decode cc pc = .ok (.invokevirtual 42, 3)) (kk : hs_Z X nL S' lv (.int r :: st) (pc + 3)) : hs_Z X nL S lv (.int a1 :: .ref (hs_q X i0) :: st) pc := hs_callV (i := i0) (kd := 1) (na := 1) C ww_36 ww_38 ww_39 ww_26 ww_37 (by decide +kernel) (by decide) rfl (by decide) rfl hM rfl rfl (by decide +kernel) rfl hk hh1 hrest hd kk
theorem gf_X2_18 {X : hs_T} {nL hh pc : Nat} {cc : ByteArray} {S : hs_M} {lv : List (Nat × Value)} {st : List Value} (C : hs_C X 0 RX2 cc nL hh) (hd : decode cc pc = .ok (.getfield 18, 3)) (kk : hs_Z X nL S lv (.int (S 4 1) :: st) (pc + 3)) : hs_Z X nL S lv (.ref (hs_q X 4) :: st) pc := hs_get (kd := 2) (k := 1) (N := 2) C rfl hi2 rfl (by decide) rfl (by decide) ww_40 (show hs_K 4 = 2 by decide +kernel) rfl hd kk
theorem pf_X2_18 {X : hs_T} {nL hh pc : Nat} {cc : ByteArray} {S : hs_M} {lv : List (Nat × Value)} {st : List Value} (C : hs_C X 0 RX2 cc nL hh) {x : Int32} {ρ : Type} {G : hs_M → Option ρ} {res : ρ} (h : hs_l (hs_U S 4 1 x) G = some res) (hd : decode cc pc = .ok (.putfield 18, 3)) (kk : ∀ S1 : hs_M, G S1 = some res → hs_Z X nL S1 lv st (pc + 3)) : hs_Z X nL S lv (.int x :: .ref (hs_q X 4) :: st) pc := hs_put (kd := 2) (k := 1) (N := 2) C tyX2 tyX2_ok nmX2 rfl hi2 rfl (by decide) rfl (by decide) rfl ww_40 (show hs_K 4 = 2 by decide +kernel) rfl rfl (hs_vU0 rfl) h hd kk
theorem gf_X2_11 {X : hs_T} {nL hh pc : Nat} {cc : ByteArray} {S : hs_M} {lv : List (Nat × Value)} {st : List Value} (C : hs_C X 0 RX2 cc nL hh) (hd : decode cc pc = .ok (.getfield 11, 3)) (kk : hs_Z X nL S lv (.ref (hs_q X 5) :: st) (pc + 3)) : hs_Z X nL S lv (.ref (hs_q X 4) :: st) pc := hs_get (kd := 2) (k := 0) (N := 2) C rfl hi2 rfl (by decide) rfl (by decide) ww_41 (show hs_K 4 = 2 by decide +kernel) rfl hd kk
theorem gf_X3_9 {X : hs_T} {nL hh pc : Nat} {cc : ByteArray} {S : hs_M} {lv : List (Nat × Value)} {st : List Value} (C : hs_C X 0 RX3 cc nL hh) {i : Nat} (hk : hs_K i = 3) (hd : decode cc pc = .ok (.getfield 9, 3)) (kk : hs_Z X nL S lv (.ref (hs_q X (i + 9)) :: st) (pc + 3)) : hs_Z X nL S lv (.ref (hs_q X i) :: st) pc := hs_get (kd := 3) (k := 0) (N := 5) C rfl hi3 rfl (by decide) rfl (by decide) ww_42 hk rfl hd kk
theorem gf_X3_63 {X : hs_T} {nL hh pc : Nat} {cc : ByteArray} {S : hs_M} {lv : List (Nat × Value)} {st : List Value} (C : hs_C X 0 RX3 cc nL hh) {i : Nat} (hk : hs_K i = 3) (hd : decode cc pc = .ok (.getfield 63, 3)) (kk : hs_Z X nL S lv (.int (S i 4) :: st) (pc + 3)) : hs_Z X nL S lv (.ref (hs_q X i) :: st) pc := hs_get (kd := 3) (k := 4) (N := 5) C rfl hi3 rfl (by decide) rfl (by decide) ww_43 hk rfl hd kk
theorem gf_X3_28 {X : hs_T} {nL hh pc : Nat} {cc : ByteArray} {S : hs_M} {lv : List (Nat × Value)} {st : List Value} (C : hs_C X 0 RX3 cc nL hh) {i : Nat} (hk : hs_K i = 3) (hd : decode cc pc = .ok (.getfield 28, 3)) (kk : hs_Z X nL S lv (.int (S i 1) :: st) (pc + 3)) : hs_Z X nL S lv (.ref (hs_q X i) :: st) pc := hs_get (kd := 3) (k := 1) (N := 5) C rfl hi3 rfl (by decide) rfl (by decide) ww_44 hk rfl hd kk
theorem gf_X3_69 {X : hs_T} {nL hh pc : Nat} {cc : ByteArray} {S : hs_M} {lv : List (Nat × Value)} {st : List Value} (C : hs_C X 0 RX3 cc nL hh) {i : Nat} (hk : hs_K i = 3) (hd : decode cc pc = .ok (.getfield 69, 3)) (kk : hs_Z X nL S lv (.int (S i 3) :: st) (pc + 3)) : hs_Z X nL S lv (.ref (hs_q X i) :: st) pc := hs_get (kd := 3) (k := 3) (N := 5) C rfl hi3 rfl (by decide) rfl (by decide) ww_45 hk rfl hd kk
theorem cs_X3_79 {X : hs_T} {nL hh pc : Nat} {cc : ByteArray} {S : hs_M} {lv : List (Nat × Value)} {st : List Value} (C : hs_C X 0 RX3 cc nL hh) {i0 : Nat} {a1 : Int32} {r : Int32} {S' : hs_M} (hk : hs_K i0 = 3) (hM : hs_met 0 yX3_own cX3_own 2 (some .int) 0 (fun q => [.ref (q i0), .int a1]) S (fun q => some (.int r)) S') (hh1 : 0 < hh) (hrest : (st.map fun v => v.category).sum ≤ 8) (hd : decode cc pc = .ok (.invokevirtual 79, 3)) (kk : hs_Z X nL S' lv (.int r :: st) (pc + 3)) : hs_Z X nL S lv (.int a1 :: .ref (hs_q X i0) :: st) pc := hs_callV (i := i0) (kd := 3) (na := 1) C ww_46 ww_49 ww_50 ww_47 ww_48 (by decide +kernel) (by decide) rfl (by decide) rfl hM rfl rfl (by decide +kernel) rfl hk hh1 hrest hd kk
theorem cs_X3_82 {X : hs_T} {nL hh pc : Nat} {cc : ByteArray} {S : hs_M} {lv : List (Nat × Value)} {st : List Value} (C : hs_C X 0 RX3 cc nL hh) {a0 : Int32} {r : Int32} {S' : hs_M} (hM : hs_met 0 yX3_isNoMark cX3_isNoMark 1 (some .boolean) 0 (fun q => [.int a0]) S (fun q => some (.int r)) S') (hh1 : 0 < hh) (hrest : (st.map fun v => v.category).sum ≤ 8) (hd : decode cc pc = .ok (.invokestatic 82, 3)) (kk : hs_Z X nL S' lv (.int r :: st) (pc + 3)) : hs_Z X nL S lv (.int a0 :: st) pc := hs_callS (na := 1) C ww_51 ww_53 ww_47 ww_52 (by decide +kernel) (by decide) hM rfl rfl (by decide +kernel) rfl hh1 hrest hd kk
theorem pf_X3_28 {X : hs_T} {nL hh pc : Nat} {cc : ByteArray} {S : hs_M} {lv : List (Nat × Value)} {st : List Value} (C : hs_C X 0 RX3 cc nL hh) {i : Nat} (hk : hs_K i = 3) {x : Int32} {ρ : Type} {G : hs_M → Option ρ} {res : ρ} (h : hs_l (hs_U S i 1 x) G = some res) (hd : decode cc pc = .ok (.putfield 28, 3)) (kk : ∀ S1 : hs_M, G S1 = some res → hs_Z X nL S1 lv st (pc + 3)) : hs_Z X nL S lv (.int x :: .ref (hs_q X i) :: st) pc := hs_put (kd := 3) (k := 1) (N := 5) C tyX3 tyX3_ok nmX3 rfl hi3 rfl (by decide) rfl (by decide) rfl ww_44 hk rfl rfl (hs_vU0 rfl) h hd kk
theorem cs_X3_31 {X : hs_T} {nL hh pc : Nat} {cc : ByteArray} {S : hs_M} {lv : List (Nat × Value)} {st : List Value} (C : hs_C X 0 RX3 cc nL hh) {i0 : Nat} {a1 : Int32} {S' : hs_M} (hk : hs_K i0 = 3) (hM : hs_met 0 yX3_put cX3_put 2 none 0 (fun q => [.ref (q i0), .int a1]) S (fun q => none) S') (hh1 : 0 < hh) (hrest : (st.map fun v => v.category).sum ≤ 8) (hd : decode cc pc = .ok (.invokevirtual 31, 3)) (kk : hs_Z X nL S' lv (st) (pc + 3)) : hs_Z X nL S lv (.int a1 :: .ref (hs_q X i0) :: st) pc := hs_callV (i := i0) (kd := 3) (na := 1) C ww_54 ww_56 ww_57 ww_47 ww_55 (by decide +kernel) (by decide) rfl (by decide) rfl hM rfl rfl (by decide +kernel) rfl hk hh1 hrest hd kk
theorem cs_X3_56 {X : hs_T} {nL hh pc : Nat} {cc : ByteArray} {S : hs_M} {lv : List (Nat × Value)} {st : List Value} (C : hs_C X 0 RX3 cc nL hh) {i0 : Nat} {a1 : Int32} {r : Int32} {S' : hs_M} (hk : hs_K i0 = 1) (hM : hs_met 0 yX1_part cX1_part 2 (some .int) 1 (fun q => [.ref (q i0), .int a1]) S (fun q => some (.int r)) S') (hh1 : 1 < hh) (hrest : (st.map fun v => v.category).sum ≤ 8) (hd : decode cc pc = .ok (.invokevirtual 56, 3)) (kk : hs_Z X nL S' lv (.int r :: st) (pc + 3)) : hs_Z X nL S lv (.int a1 :: .ref (hs_q X i0) :: st) pc := hs_callV (i := i0) (kd := 1) (na := 1) C ww_58 ww_38 ww_39 ww_26 ww_37 (by decide +kernel) (by decide) rfl (by decide) rfl hM rfl rfl (by decide +kernel) rfl hk hh1 hrest hd kk
theorem cs_X3_35 {X : hs_T} {nL hh pc : Nat} {cc : ByteArray} {S : hs_M} {lv : List (Nat × Value)} {st : List Value} (C : hs_C X 0 RX3 cc nL hh) {i0 : Nat} {r : Int32} {S' : hs_M} (hk : hs_K i0 = 1) (hM : hs_met 0 yX1_markBit cX1_markBit 1 (some .int) 0 (fun q => [.ref (q i0)]) S (fun q => some (.int r)) S') (hh1 : 0 < hh) (hrest : (st.map fun v => v.category).sum ≤ 8) (hd : decode cc pc = .ok (.invokevirtual 35, 3)) (kk : hs_Z X nL S' lv (.int r :: st) (pc + 3)) : hs_Z X nL S lv (.ref (hs_q X i0) :: st) pc := hs_callV (i := i0) (kd := 1) (na := 0) C ww_59 ww_28 ww_29 ww_26 ww_27 (by decide +kernel) (by decide) rfl (by decide) rfl hM rfl rfl (by decide +kernel) rfl hk hh1 hrest hd kk
theorem pf_X3_69 {X : hs_T} {nL hh pc : Nat} {cc : ByteArray} {S : hs_M} {lv : List (Nat × Value)} {st : List Value} (C : hs_C X 0 RX3 cc nL hh) {i : Nat} (hk : hs_K i = 3) {x : Int32} {ρ : Type} {G : hs_M → Option ρ} {res : ρ} (h : hs_l (hs_U S i 3 x) G = some res) (hd : decode cc pc = .ok (.putfield 69, 3)) (kk : ∀ S1 : hs_M, G S1 = some res → hs_Z X nL S1 lv st (pc + 3)) : hs_Z X nL S lv (.int x :: .ref (hs_q X i) :: st) pc := hs_put (kd := 3) (k := 3) (N := 5) C tyX3 tyX3_ok nmX3 rfl hi3 rfl (by decide) rfl (by decide) rfl ww_45 hk rfl rfl (hs_vU0 rfl) h hd kk
theorem cs_X3_72 {X : hs_T} {nL hh pc : Nat} {cc : ByteArray} {S : hs_M} {lv : List (Nat × Value)} {st : List Value} (C : hs_C X 0 RX3 cc nL hh) {i0 : Nat} {r : Int32} {S' : hs_M} (hk : hs_K i0 = 3) (hM : hs_met 0 yX3_isMisshapen cX3_isMisshapen 1 (some .boolean) 1 (fun q => [.ref (q i0)]) S (fun q => some (.int r)) S') (hh1 : 1 < hh) (hrest : (st.map fun v => v.category).sum ≤ 8) (hd : decode cc pc = .ok (.invokevirtual 72, 3)) (kk : hs_Z X nL S' lv (.int r :: st) (pc + 3)) : hs_Z X nL S lv (.ref (hs_q X i0) :: st) pc := hs_callV (i := i0) (kd := 3) (na := 0) C ww_60 ww_62 ww_63 ww_47 ww_61 (by decide +kernel) (by decide) rfl (by decide) rfl hM rfl rfl (by decide +kernel) rfl hk hh1 hrest hd kk
theorem pf_X3_63 {X : hs_T} {nL hh pc : Nat} {cc : ByteArray} {S : hs_M} {lv : List (Nat × Value)} {st : List Value} (C : hs_C X 0 RX3 cc nL hh) {i : Nat} (hk : hs_K i = 3) {x : Int32} {ρ : Type} {G : hs_M → Option ρ} {res : ρ} (h : hs_l (hs_U S i 4 x) G = some res) (hd : decode cc pc = .ok (.putfield 63, 3)) (kk : ∀ S1 : hs_M, G S1 = some res → hs_Z X nL S1 lv st (pc + 3)) : hs_Z X nL S lv (.int x :: .ref (hs_q X i) :: st) pc := hs_put (kd := 3) (k := 4) (N := 5) C tyX3 tyX3_ok nmX3 rfl hi3 rfl (by decide) rfl (by decide) rfl ww_43 hk rfl rfl (hs_vU0 rfl) h hd kk
theorem cs_X3_66 {X : hs_T} {nL hh pc : Nat} {cc : ByteArray} {S : hs_M} {lv : List (Nat × Value)} {st : List Value} (C : hs_C X 0 RX3 cc nL hh) {a0 : Int32} {r : Int32} {S' : hs_M} (hM : hs_met 0 yX3_kindTold cX3_kindTold 1 (some .int) 0 (fun q => [.int a0]) S (fun q => some (.int r)) S') (hh1 : 0 < hh) (hrest : (st.map fun v => v.category).sum ≤ 8) (hd : decode cc pc = .ok (.invokestatic 66, 3)) (kk : hs_Z X nL S' lv (.int r :: st) (pc + 3)) : hs_Z X nL S lv (.int a0 :: st) pc := hs_callS (na := 1) C ww_64 ww_66 ww_47 ww_65 (by decide +kernel) (by decide) hM rfl rfl (by decide +kernel) rfl hh1 hrest hd kk
theorem pf_X3_60 {X : hs_T} {nL hh pc : Nat} {cc : ByteArray} {S : hs_M} {lv : List (Nat × Value)} {st : List Value} (C : hs_C X 0 RX3 cc nL hh) {i : Nat} (hk : hs_K i = 3) {x : Int32} {ρ : Type} {G : hs_M → Option ρ} {res : ρ} (h : hs_l (hs_U S i 2 x) G = some res) (hd : decode cc pc = .ok (.putfield 60, 3)) (kk : ∀ S1 : hs_M, G S1 = some res → hs_Z X nL S1 lv st (pc + 3)) : hs_Z X nL S lv (.int x :: .ref (hs_q X i) :: st) pc := hs_put (kd := 3) (k := 2) (N := 5) C tyX3 tyX3_ok nmX3 rfl hi3 rfl (by decide) rfl (by decide) rfl ww_67 hk rfl rfl (hs_vU0 rfl) h hd kk
theorem cs_X3_89 {X : hs_T} {nL hh pc : Nat} {cc : ByteArray} {S : hs_M} {lv : List (Nat × Value)} {st : List Value} (C : hs_C X 0 RX3 cc nL hh) {i0 : Nat} {a1 : Int32} {r : Int32} {S' : hs_M} (hk : hs_K i0 = 3) (hM : hs_met 0 yX3_ownTwo cX3_ownTwo 2 (some .int) 1 (fun q => [.ref (q i0), .int a1]) S (fun q => some (.int r)) S') (hh1 : 1 < hh) (hrest : (st.map fun v => v.category).sum ≤ 8) (hd : decode cc pc = .ok (.invokevirtual 89, 3)) (kk : hs_Z X nL S' lv (.int r :: st) (pc + 3)) : hs_Z X nL S lv (.int a1 :: .ref (hs_q X i0) :: st) pc := hs_callV (i := i0) (kd := 3) (na := 1) C ww_68 ww_70 ww_71 ww_47 ww_69 (by decide +kernel) (by decide) rfl (by decide) rfl hM rfl rfl (by decide +kernel) rfl hk hh1 hrest hd kk
theorem pf_X3_47 {X : hs_T} {nL hh pc : Nat} {cc : ByteArray} {S : hs_M} {lv : List (Nat × Value)} {st : List Value} (C : hs_C X 0 RX3 cc nL hh) {i : Nat} (hk : hs_K i = 1) {x : Int32} {ρ : Type} {G : hs_M → Option ρ} {res : ρ} (h : hs_l (hs_U S i 0 x) G = some res) (hd : decode cc pc = .ok (.putfield 47, 3)) (kk : ∀ S1 : hs_M, G S1 = some res → hs_Z X nL S1 lv st (pc + 3)) : hs_Z X nL S lv (.int x :: .ref (hs_q X i) :: st) pc := hs_put (kd := 1) (k := 0) (N := 6) C tyX1 tyX1_ok nmX1 rfl hi1 rfl (by decide) rfl (by decide) rfl ww_72 hk rfl rfl (hs_vU0 rfl) h hd kk
theorem pf_X3_53 {X : hs_T} {nL hh pc : Nat} {cc : ByteArray} {S : hs_M} {lv : List (Nat × Value)} {st : List Value} (C : hs_C X 0 RX3 cc nL hh) {i : Nat} (hk : hs_K i = 1) {x : Int32} {ρ : Type} {G : hs_M → Option ρ} {res : ρ} (h : hs_l (hs_U S i 1 x) G = some res) (hd : decode cc pc = .ok (.putfield 53, 3)) (kk : ∀ S1 : hs_M, G S1 = some res → hs_Z X nL S1 lv st (pc + 3)) : hs_Z X nL S lv (.int x :: .ref (hs_q X i) :: st) pc := hs_put (kd := 1) (k := 1) (N := 6) C tyX1 tyX1_ok nmX1 rfl hi1 rfl (by decide) rfl (by decide) rfl ww_73 hk rfl rfl (hs_vU0 rfl) h hd kk
theorem pf_X3_39 {X : hs_T} {nL hh pc : Nat} {cc : ByteArray} {S : hs_M} {lv : List (Nat × Value)} {st : List Value} (C : hs_C X 0 RX3 cc nL hh) {i : Nat} (hk : hs_K i = 1) {x : Int32} {ρ : Type} {G : hs_M → Option ρ} {res : ρ} (h : hs_bg x (hs_l (hs_U S i 2 x) G) = some res) (hd : decode cc pc = .ok (.putfield 39, 3)) (kk : ∀ S1 : hs_M, G S1 = some res → hs_Z X nL S1 lv st (pc + 3)) : hs_Z X nL S lv (.int x :: .ref (hs_q X i) :: st) pc := by
  obtain ⟨hx, h⟩ := hs_bg_s h
  exact hs_put (kd := 1) (k := 2) (N := 6) C tyX1 tyX1_ok nmX1 rfl hi1 rfl (by decide) rfl (by decide) rfl ww_74 hk (by rcases hx with rfl | rfl <;> rfl) (by rcases hx with rfl | rfl <;> rfl) (hs_vU0 rfl) h hd kk
theorem pf_X3_21 {X : hs_T} {nL hh pc : Nat} {cc : ByteArray} {S : hs_M} {lv : List (Nat × Value)} {st : List Value} (C : hs_C X 0 RX3 cc nL hh) {i : Nat} (hk : hs_K i = 1) {x : Int32} {ρ : Type} {G : hs_M → Option ρ} {res : ρ} (h : hs_l (hs_U S i 3 x) G = some res) (hd : decode cc pc = .ok (.putfield 21, 3)) (kk : ∀ S1 : hs_M, G S1 = some res → hs_Z X nL S1 lv st (pc + 3)) : hs_Z X nL S lv (.int x :: .ref (hs_q X i) :: st) pc := hs_put (kd := 1) (k := 3) (N := 6) C tyX1 tyX1_ok nmX1 rfl hi1 rfl (by decide) rfl (by decide) rfl ww_75 hk rfl rfl (hs_vU0 rfl) h hd kk
theorem pf_X3_93 {X : hs_T} {nL hh pc : Nat} {cc : ByteArray} {S : hs_M} {lv : List (Nat × Value)} {st : List Value} (C : hs_C X 0 RX3 cc nL hh) {i : Nat} (hk : hs_K i = 1) {x : Int32} {ρ : Type} {G : hs_M → Option ρ} {res : ρ} (h : hs_l (hs_U S i 4 x) G = some res) (hd : decode cc pc = .ok (.putfield 93, 3)) (kk : ∀ S1 : hs_M, G S1 = some res → hs_Z X nL S1 lv st (pc + 3)) : hs_Z X nL S lv (.int x :: .ref (hs_q X i) :: st) pc := hs_put (kd := 1) (k := 4) (N := 6) C tyX1 tyX1_ok nmX1 rfl hi1 rfl (by decide) rfl (by decide) rfl ww_77 hk rfl rfl (hs_vU0 rfl) h hd kk
theorem pf_X3_96 {X : hs_T} {nL hh pc : Nat} {cc : ByteArray} {S : hs_M} {lv : List (Nat × Value)} {st : List Value} (C : hs_C X 0 RX3 cc nL hh) {i : Nat} (hk : hs_K i = 1) {x : Int32} {ρ : Type} {G : hs_M → Option ρ} {res : ρ} (h : hs_l (hs_U S i 5 x) G = some res) (hd : decode cc pc = .ok (.putfield 96, 3)) (kk : ∀ S1 : hs_M, G S1 = some res → hs_Z X nL S1 lv st (pc + 3)) : hs_Z X nL S lv (.int x :: .ref (hs_q X i) :: st) pc := hs_put (kd := 1) (k := 5) (N := 6) C tyX1 tyX1_ok nmX1 rfl hi1 rfl (by decide) rfl (by decide) rfl ww_78 hk rfl rfl (hs_vU0 rfl) h hd kk
theorem gf_X3_39 {X : hs_T} {nL hh pc : Nat} {cc : ByteArray} {S : hs_M} {lv : List (Nat × Value)} {st : List Value} (C : hs_C X 0 RX3 cc nL hh) {i : Nat} (hk : hs_K i = 1) (hd : decode cc pc = .ok (.getfield 39, 3)) (kk : hs_Z X nL S lv (.int (S i 2) :: st) (pc + 3)) : hs_Z X nL S lv (.ref (hs_q X i) :: st) pc := hs_get (kd := 1) (k := 2) (N := 6) C rfl hi1 rfl (by decide) rfl (by decide) ww_74 hk rfl hd kk
theorem cs_X3_43 {X : hs_T} {nL hh pc : Nat} {cc : ByteArray} {S : hs_M} {lv : List (Nat × Value)} {st : List Value} (C : hs_C X 0 RX3 cc nL hh) {i0 : Nat} {i1 : Nat} {a2 : Int32} {S' : hs_M} (hk : hs_K i0 = 3) (hM : hs_met 0 yX3_putMoving cX3_putMoving 4 none 2 (fun q => [.ref (q i0), .ref (q i1), .int a2]) S (fun q => none) S') (hh1 : 2 < hh) (hrest : (st.map fun v => v.category).sum ≤ 8) (hd : decode cc pc = .ok (.invokevirtual 43, 3)) (kk : hs_Z X nL S' lv (st) (pc + 3)) : hs_Z X nL S lv (.int a2 :: .ref (hs_q X i1) :: .ref (hs_q X i0) :: st) pc := hs_callV (i := i0) (kd := 3) (na := 2) C ww_79 ww_81 ww_82 ww_47 ww_80 (by decide +kernel) (by decide) rfl (by decide) rfl hM rfl rfl (by decide +kernel) rfl hk hh1 hrest hd kk
theorem gf_X3_47 {X : hs_T} {nL hh pc : Nat} {cc : ByteArray} {S : hs_M} {lv : List (Nat × Value)} {st : List Value} (C : hs_C X 0 RX3 cc nL hh) {i : Nat} (hk : hs_K i = 1) (hd : decode cc pc = .ok (.getfield 47, 3)) (kk : hs_Z X nL S lv (.int (S i 0) :: st) (pc + 3)) : hs_Z X nL S lv (.ref (hs_q X i) :: st) pc := hs_get (kd := 1) (k := 0) (N := 6) C rfl hi1 rfl (by decide) rfl (by decide) ww_72 hk rfl hd kk
theorem cs_X3_50 {X : hs_T} {nL hh pc : Nat} {cc : ByteArray} {S : hs_M} {lv : List (Nat × Value)} {st : List Value} (C : hs_C X 0 RX3 cc nL hh) {i0 : Nat} {a1 : Int32} {S' : hs_M} (hk : hs_K i0 = 3) (hM : hs_met 0 yX3_putTwo cX3_putTwo 2 none 1 (fun q => [.ref (q i0), .int a1]) S (fun q => none) S') (hh1 : 1 < hh) (hrest : (st.map fun v => v.category).sum ≤ 8) (hd : decode cc pc = .ok (.invokevirtual 50, 3)) (kk : hs_Z X nL S' lv (st) (pc + 3)) : hs_Z X nL S lv (.int a1 :: .ref (hs_q X i0) :: st) pc := hs_callV (i := i0) (kd := 3) (na := 1) C ww_83 ww_85 ww_86 ww_47 ww_84 (by decide +kernel) (by decide) rfl (by decide) rfl hM rfl rfl (by decide +kernel) rfl hk hh1 hrest hd kk
theorem gf_X3_53 {X : hs_T} {nL hh pc : Nat} {cc : ByteArray} {S : hs_M} {lv : List (Nat × Value)} {st : List Value} (C : hs_C X 0 RX3 cc nL hh) {i : Nat} (hk : hs_K i = 1) (hd : decode cc pc = .ok (.getfield 53, 3)) (kk : hs_Z X nL S lv (.int (S i 1) :: st) (pc + 3)) : hs_Z X nL S lv (.ref (hs_q X i) :: st) pc := hs_get (kd := 1) (k := 1) (N := 6) C rfl hi1 rfl (by decide) rfl (by decide) ww_73 hk rfl hd kk
theorem cs_X3_15 {X : hs_T} {nL hh pc : Nat} {cc : ByteArray} {S : hs_M} {lv : List (Nat × Value)} {st : List Value} (C : hs_C X 0 RX3 cc nL hh) {i0 : Nat} {a1 : Int32} {a2 : Int32} {r : Int32} {S' : hs_M} (hk : hs_K i0 = 1) (hM : hs_met 0 yX1_sumFor cX1_sumFor 6 (some .int) 2 (fun q => [.ref (q i0), .int a1, .int a2]) S (fun q => some (.int r)) S') (hh1 : 2 < hh) (hrest : (st.map fun v => v.category).sum ≤ 8) (hd : decode cc pc = .ok (.invokevirtual 15, 3)) (kk : hs_Z X nL S' lv (.int r :: st) (pc + 3)) : hs_Z X nL S lv (.int a2 :: .int a1 :: .ref (hs_q X i0) :: st) pc := hs_callV (i := i0) (kd := 1) (na := 2) C ww_87 ww_89 ww_90 ww_26 ww_88 (by decide +kernel) (by decide) rfl (by decide) rfl hM rfl rfl (by decide +kernel) rfl hk hh1 hrest hd kk
theorem gf_X3_21 {X : hs_T} {nL hh pc : Nat} {cc : ByteArray} {S : hs_M} {lv : List (Nat × Value)} {st : List Value} (C : hs_C X 0 RX3 cc nL hh) {i : Nat} (hk : hs_K i = 1) (hd : decode cc pc = .ok (.getfield 21, 3)) (kk : hs_Z X nL S lv (.int (S i 3) :: st) (pc + 3)) : hs_Z X nL S lv (.ref (hs_q X i) :: st) pc := hs_get (kd := 1) (k := 3) (N := 6) C rfl hi1 rfl (by decide) rfl (by decide) ww_75 hk rfl hd kk
theorem gf_X4_12 {X : hs_T} {nL hh pc : Nat} {cc : ByteArray} {S : hs_M} {lv : List (Nat × Value)} {st : List Value} (C : hs_C X 0 RX4 cc nL hh) {i : Nat} (hk : hs_K i = 4) (hd : decode cc pc = .ok (.getfield 12, 3)) (kk : hs_Z X nL S lv (.ref (hs_q X (i + 4)) :: st) (pc + 3)) : hs_Z X nL S lv (.ref (hs_q X i) :: st) pc := hs_get (kd := 4) (k := 0) (N := 5) C rfl hi4 rfl (by decide) rfl (by decide) ww_91 hk rfl hd kk
theorem cs_X4_104 {X : hs_T} {nL hh pc : Nat} {cc : ByteArray} {S : hs_M} {lv : List (Nat × Value)} {st : List Value} (C : hs_C X 0 RX4 cc nL hh) {i0 : Nat} {i1 : Nat} {a2 : Int32} {S' : hs_M} (hk : hs_K i0 = 0) (hM : hs_met 0 yX0_complete cX0_complete 3 none 0 (fun q => [.ref (q i0), .ref (q i1), .int a2]) S (fun q => none) S') (hh1 : 0 < hh) (hrest : (st.map fun v => v.category).sum ≤ 8) (hd : decode cc pc = .ok (.invokevirtual 104, 3)) (kk : hs_Z X nL S' lv (st) (pc + 3)) : hs_Z X nL S lv (.int a2 :: .ref (hs_q X i1) :: .ref (hs_q X i0) :: st) pc := hs_callV (i := i0) (kd := 0) (na := 2) C ww_92 ww_94 ww_95 ww_12 ww_93 (by decide +kernel) (by decide) rfl (by decide) rfl hM rfl rfl (by decide +kernel) rfl hk hh1 hrest hd kk
theorem cs_X4_107 {X : hs_T} {nL hh pc : Nat} {cc : ByteArray} {S : hs_M} {lv : List (Nat × Value)} {st : List Value} (C : hs_C X 0 RX4 cc nL hh) {i0 : Nat} {r : Int32} {S' : hs_M} (hk : hs_K i0 = 3) (hM : hs_met 0 yX3_markTold cX3_markTold 1 (some .boolean) 1 (fun q => [.ref (q i0)]) S (fun q => some (.int r)) S') (hh1 : 1 < hh) (hrest : (st.map fun v => v.category).sum ≤ 8) (hd : decode cc pc = .ok (.invokevirtual 107, 3)) (kk : hs_Z X nL S' lv (.int r :: st) (pc + 3)) : hs_Z X nL S lv (.ref (hs_q X i0) :: st) pc := hs_callV (i := i0) (kd := 3) (na := 0) C ww_96 ww_98 ww_99 ww_47 ww_97 (by decide +kernel) (by decide) rfl (by decide) rfl hM rfl rfl (by decide +kernel) rfl hk hh1 hrest hd kk
theorem pf_X4_111 {X : hs_T} {nL hh pc : Nat} {cc : ByteArray} {S : hs_M} {lv : List (Nat × Value)} {st : List Value} (C : hs_C X 0 RX4 cc nL hh) {i : Nat} (hk : hs_K i = 1) {x : Int32} {ρ : Type} {G : hs_M → Option ρ} {res : ρ} (h : hs_bg x (hs_l (hs_U S i 2 x) G) = some res) (hd : decode cc pc = .ok (.putfield 111, 3)) (kk : ∀ S1 : hs_M, G S1 = some res → hs_Z X nL S1 lv st (pc + 3)) : hs_Z X nL S lv (.int x :: .ref (hs_q X i) :: st) pc := by
  obtain ⟨hx, h⟩ := hs_bg_s h
  exact hs_put (kd := 1) (k := 2) (N := 6) C tyX1 tyX1_ok nmX1 rfl hi1 rfl (by decide) rfl (by decide) rfl ww_100 hk (by rcases hx with rfl | rfl <;> rfl) (by rcases hx with rfl | rfl <;> rfl) (hs_vU0 rfl) h hd kk
theorem gf_X4_22 {X : hs_T} {nL hh pc : Nat} {cc : ByteArray} {S : hs_M} {lv : List (Nat × Value)} {st : List Value} (C : hs_C X 0 RX4 cc nL hh) {i : Nat} (hk : hs_K i = 3) (hd : decode cc pc = .ok (.getfield 22, 3)) (kk : hs_Z X nL S lv (.int (S i 3) :: st) (pc + 3)) : hs_Z X nL S lv (.ref (hs_q X i) :: st) pc := hs_get (kd := 3) (k := 3) (N := 5) C rfl hi3 rfl (by decide) rfl (by decide) ww_101 hk rfl hd kk
theorem gf_X4_46 {X : hs_T} {nL hh pc : Nat} {cc : ByteArray} {S : hs_M} {lv : List (Nat × Value)} {st : List Value} (C : hs_C X 0 RX4 cc nL hh) {i : Nat} (hk : hs_K i = 0) (hd : decode cc pc = .ok (.getfield 46, 3)) (kk : hs_Z X nL S lv (.int (S i 2) :: st) (pc + 3)) : hs_Z X nL S lv (.ref (hs_q X i) :: st) pc := hs_get (kd := 0) (k := 2) (N := 5) C rfl hi0 rfl (by decide) rfl (by decide) ww_102 hk rfl hd kk
theorem cs_X4_68 {X : hs_T} {nL hh pc : Nat} {cc : ByteArray} {S : hs_M} {lv : List (Nat × Value)} {st : List Value} (C : hs_C X 0 RX4 cc nL hh) {i0 : Nat} {a1 : Int32} {a2 : Int32} {r : Int32} {S' : hs_M} (hk : hs_K i0 = 1) (hM : hs_met 0 yX1_sumFor cX1_sumFor 6 (some .int) 2 (fun q => [.ref (q i0), .int a1, .int a2]) S (fun q => some (.int r)) S') (hh1 : 2 < hh) (hrest : (st.map fun v => v.category).sum ≤ 8) (hd : decode cc pc = .ok (.invokevirtual 68, 3)) (kk : hs_Z X nL S' lv (.int r :: st) (pc + 3)) : hs_Z X nL S lv (.int a2 :: .int a1 :: .ref (hs_q X i0) :: st) pc := hs_callV (i := i0) (kd := 1) (na := 2) C ww_103 ww_89 ww_90 ww_26 ww_88 (by decide +kernel) (by decide) rfl (by decide) rfl hM rfl rfl (by decide +kernel) rfl hk hh1 hrest hd kk
theorem cs_X4_72 {X : hs_T} {nL hh pc : Nat} {cc : ByteArray} {S : hs_M} {lv : List (Nat × Value)} {st : List Value} (C : hs_C X 0 RX4 cc nL hh) {i0 : Nat} {r : Int32} {S' : hs_M} (hk : hs_K i0 = 3) (hM : hs_met 0 yX3_sumTold cX3_sumTold 1 (some .int) 0 (fun q => [.ref (q i0)]) S (fun q => some (.int r)) S') (hh1 : 0 < hh) (hrest : (st.map fun v => v.category).sum ≤ 8) (hd : decode cc pc = .ok (.invokevirtual 72, 3)) (kk : hs_Z X nL S' lv (.int r :: st) (pc + 3)) : hs_Z X nL S lv (.ref (hs_q X i0) :: st) pc := hs_callV (i := i0) (kd := 3) (na := 0) C ww_104 ww_106 ww_107 ww_47 ww_105 (by decide +kernel) (by decide) rfl (by decide) rfl hM rfl rfl (by decide +kernel) rfl hk hh1 hrest hd kk
theorem gf_X4_18 {X : hs_T} {nL hh pc : Nat} {cc : ByteArray} {S : hs_M} {lv : List (Nat × Value)} {st : List Value} (C : hs_C X 0 RX4 cc nL hh) {i : Nat} (hk : hs_K i = 4) (hd : decode cc pc = .ok (.getfield 18, 3)) (kk : hs_Z X nL S lv (.int (S i 1) :: st) (pc + 3)) : hs_Z X nL S lv (.ref (hs_q X i) :: st) pc := hs_get (kd := 4) (k := 1) (N := 5) C rfl hi4 rfl (by decide) rfl (by decide) ww_108 hk rfl hd kk
theorem cs_X4_65 {X : hs_T} {nL hh pc : Nat} {cc : ByteArray} {S : hs_M} {lv : List (Nat × Value)} {st : List Value} (C : hs_C X 0 RX4 cc nL hh) {i0 : Nat} {i1 : Nat} {S' : hs_M} (hk : hs_K i0 = 3) (hM : hs_met 0 yX3_readMoving cX3_readMoving 3 none 2 (fun q => [.ref (q i0), .ref (q i1)]) S (fun q => none) S') (hh1 : 2 < hh) (hrest : (st.map fun v => v.category).sum ≤ 8) (hd : decode cc pc = .ok (.invokevirtual 65, 3)) (kk : hs_Z X nL S' lv (st) (pc + 3)) : hs_Z X nL S lv (.ref (hs_q X i1) :: .ref (hs_q X i0) :: st) pc := hs_callV (i := i0) (kd := 3) (na := 1) C ww_109 ww_111 ww_112 ww_47 ww_110 (by decide +kernel) (by decide) rfl (by decide) rfl hM rfl rfl (by decide +kernel) rfl hk hh1 hrest hd kk
theorem cs_X4_75 {X : hs_T} {nL hh pc : Nat} {cc : ByteArray} {S : hs_M} {lv : List (Nat × Value)} {st : List Value} (C : hs_C X 0 RX4 cc nL hh) {i0 : Nat} {i1 : Nat} {a2 : Int32} {S' : hs_M} (hk : hs_K i0 = 0) (hM : hs_met 0 yX0_follow cX0_follow 3 none 1 (fun q => [.ref (q i0), .ref (q i1), .int a2]) S (fun q => none) S') (hh1 : 1 < hh) (hrest : (st.map fun v => v.category).sum ≤ 8) (hd : decode cc pc = .ok (.invokevirtual 75, 3)) (kk : hs_Z X nL S' lv (st) (pc + 3)) : hs_Z X nL S lv (.int a2 :: .ref (hs_q X i1) :: .ref (hs_q X i0) :: st) pc := hs_callV (i := i0) (kd := 0) (na := 2) C ww_113 ww_115 ww_116 ww_12 ww_114 (by decide +kernel) (by decide) rfl (by decide) rfl hM rfl rfl (by decide +kernel) rfl hk hh1 hrest hd kk
theorem gf_X4_57 {X : hs_T} {nL hh pc : Nat} {cc : ByteArray} {S : hs_M} {lv : List (Nat × Value)} {st : List Value} (C : hs_C X 0 RX4 cc nL hh) {i : Nat} (hk : hs_K i = 0) (hd : decode cc pc = .ok (.getfield 57, 3)) (kk : hs_Z X nL S lv (.int (S i 0) :: st) (pc + 3)) : hs_Z X nL S lv (.ref (hs_q X i) :: st) pc := hs_get (kd := 0) (k := 0) (N := 5) C rfl hi0 rfl (by decide) rfl (by decide) ww_117 hk rfl hd kk
theorem pf_X4_60 {X : hs_T} {nL hh pc : Nat} {cc : ByteArray} {S : hs_M} {lv : List (Nat × Value)} {st : List Value} (C : hs_C X 0 RX4 cc nL hh) {i : Nat} (hk : hs_K i = 1) {x : Int32} {ρ : Type} {G : hs_M → Option ρ} {res : ρ} (h : hs_l (hs_U S i 0 x) G = some res) (hd : decode cc pc = .ok (.putfield 60, 3)) (kk : ∀ S1 : hs_M, G S1 = some res → hs_Z X nL S1 lv st (pc + 3)) : hs_Z X nL S lv (.int x :: .ref (hs_q X i) :: st) pc := hs_put (kd := 1) (k := 0) (N := 6) C tyX1 tyX1_ok nmX1 rfl hi1 rfl (by decide) rfl (by decide) rfl ww_118 hk rfl rfl (hs_vU0 rfl) h hd kk
theorem gf_X4_61 {X : hs_T} {nL hh pc : Nat} {cc : ByteArray} {S : hs_M} {lv : List (Nat × Value)} {st : List Value} (C : hs_C X 0 RX4 cc nL hh) {i : Nat} (hk : hs_K i = 0) (hd : decode cc pc = .ok (.getfield 61, 3)) (kk : hs_Z X nL S lv (.int (S i 1) :: st) (pc + 3)) : hs_Z X nL S lv (.ref (hs_q X i) :: st) pc := hs_get (kd := 0) (k := 1) (N := 5) C rfl hi0 rfl (by decide) rfl (by decide) ww_119 hk rfl hd kk
theorem pf_X4_64 {X : hs_T} {nL hh pc : Nat} {cc : ByteArray} {S : hs_M} {lv : List (Nat × Value)} {st : List Value} (C : hs_C X 0 RX4 cc nL hh) {i : Nat} (hk : hs_K i = 1) {x : Int32} {ρ : Type} {G : hs_M → Option ρ} {res : ρ} (h : hs_l (hs_U S i 1 x) G = some res) (hd : decode cc pc = .ok (.putfield 64, 3)) (kk : ∀ S1 : hs_M, G S1 = some res → hs_Z X nL S1 lv st (pc + 3)) : hs_Z X nL S lv (.int x :: .ref (hs_q X i) :: st) pc := hs_put (kd := 1) (k := 1) (N := 6) C tyX1 tyX1_ok nmX1 rfl hi1 rfl (by decide) rfl (by decide) rfl ww_120 hk rfl rfl (hs_vU0 rfl) h hd kk
theorem cs_X4_49 {X : hs_T} {nL hh pc : Nat} {cc : ByteArray} {S : hs_M} {lv : List (Nat × Value)} {st : List Value} (C : hs_C X 0 RX4 cc nL hh) {i0 : Nat} {r : Int32} {S' : hs_M} (hk : hs_K i0 = 3) (hM : hs_met 0 yX3_strideTold cX3_strideTold 1 (some .int) 2 (fun q => [.ref (q i0)]) S (fun q => some (.int r)) S') (hh1 : 2 < hh) (hrest : (st.map fun v => v.category).sum ≤ 8) (hd : decode cc pc = .ok (.invokevirtual 49, 3)) (kk : hs_Z X nL S' lv (.int r :: st) (pc + 3)) : hs_Z X nL S lv (.ref (hs_q X i0) :: st) pc := hs_callV (i := i0) (kd := 3) (na := 0) C ww_121 ww_123 ww_124 ww_47 ww_122 (by decide +kernel) (by decide) rfl (by decide) rfl hM rfl rfl (by decide +kernel) rfl hk hh1 hrest hd kk
theorem cs_X4_53 {X : hs_T} {nL hh pc : Nat} {cc : ByteArray} {S : hs_M} {lv : List (Nat × Value)} {st : List Value} (C : hs_C X 0 RX4 cc nL hh) {i0 : Nat} {i1 : Nat} {S' : hs_M} (hk : hs_K i0 = 3) (hM : hs_met 0 yX3_readFixed cX3_readFixed 2 none 2 (fun q => [.ref (q i0), .ref (q i1)]) S (fun q => none) S') (hh1 : 2 < hh) (hrest : (st.map fun v => v.category).sum ≤ 8) (hd : decode cc pc = .ok (.invokevirtual 53, 3)) (kk : hs_Z X nL S' lv (st) (pc + 3)) : hs_Z X nL S lv (.ref (hs_q X i1) :: .ref (hs_q X i0) :: st) pc := hs_callV (i := i0) (kd := 3) (na := 1) C ww_125 ww_127 ww_128 ww_47 ww_126 (by decide +kernel) (by decide) rfl (by decide) rfl hM rfl rfl (by decide +kernel) rfl hk hh1 hrest hd kk
theorem cs_X4_101 {X : hs_T} {nL hh pc : Nat} {cc : ByteArray} {S : hs_M} {lv : List (Nat × Value)} {st : List Value} (C : hs_C X 0 RX4 cc nL hh) {i0 : Nat} {r : Int32} {S' : hs_M} (hk : hs_K i0 = 3) (hM : hs_met 0 yX3_lowTold cX3_lowTold 1 (some .int) 1 (fun q => [.ref (q i0)]) S (fun q => some (.int r)) S') (hh1 : 1 < hh) (hrest : (st.map fun v => v.category).sum ≤ 8) (hd : decode cc pc = .ok (.invokevirtual 101, 3)) (kk : hs_Z X nL S' lv (.int r :: st) (pc + 3)) : hs_Z X nL S lv (.ref (hs_q X i0) :: st) pc := hs_callV (i := i0) (kd := 3) (na := 0) C ww_129 ww_131 ww_132 ww_47 ww_130 (by decide +kernel) (by decide) rfl (by decide) rfl hM rfl rfl (by decide +kernel) rfl hk hh1 hrest hd kk
theorem gf_X4_79 {X : hs_T} {nL hh pc : Nat} {cc : ByteArray} {S : hs_M} {lv : List (Nat × Value)} {st : List Value} (C : hs_C X 0 RX4 cc nL hh) {i : Nat} (hk : hs_K i = 4) (hd : decode cc pc = .ok (.getfield 79, 3)) (kk : hs_Z X nL S lv (.int (S i 2) :: st) (pc + 3)) : hs_Z X nL S lv (.ref (hs_q X i) :: st) pc := hs_get (kd := 4) (k := 2) (N := 5) C rfl hi4 rfl (by decide) rfl (by decide) ww_134 hk rfl hd kk
theorem cs_X4_82 {X : hs_T} {nL hh pc : Nat} {cc : ByteArray} {S : hs_M} {lv : List (Nat × Value)} {st : List Value} (C : hs_C X 0 RX4 cc nL hh) {a0 : Int32} {i1 : Nat} {r : Int32} {S' : hs_M} (hM : hs_met 0 yX4_numberNear cX4_numberNear 4 (some .int) 2 (fun q => [.int a0, .ref (q i1)]) S (fun q => some (.int r)) S') (hh1 : 2 < hh) (hrest : (st.map fun v => v.category).sum ≤ 8) (hd : decode cc pc = .ok (.invokestatic 82, 3)) (kk : hs_Z X nL S' lv (.int r :: st) (pc + 3)) : hs_Z X nL S lv (.ref (hs_q X i1) :: .int a0 :: st) pc := hs_callS (na := 2) C ww_135 ww_138 ww_136 ww_137 (by decide +kernel) (by decide) hM rfl rfl (by decide +kernel) rfl hh1 hrest hd kk
theorem cs_X4_86 {X : hs_T} {nL hh pc : Nat} {cc : ByteArray} {S : hs_M} {lv : List (Nat × Value)} {st : List Value} (C : hs_C X 0 RX4 cc nL hh) {i0 : Nat} {i1 : Nat} {i2 : Nat} {a3 : Int32} {r : Int32} {S' : hs_M} (hk : hs_K i0 = 4) (hM : hs_met 0 yX4_fits cX4_fits 4 (some .boolean) 3 (fun q => [.ref (q i0), .ref (q i1), .ref (q i2), .int a3]) S (fun q => some (.int r)) S') (hh1 : 3 < hh) (hrest : (st.map fun v => v.category).sum ≤ 8) (hd : decode cc pc = .ok (.invokevirtual 86, 3)) (kk : hs_Z X nL S' lv (.int r :: st) (pc + 3)) : hs_Z X nL S lv (.int a3 :: .ref (hs_q X i2) :: .ref (hs_q X i1) :: .ref (hs_q X i0) :: st) pc := hs_callV (i := i0) (kd := 4) (na := 3) C ww_139 ww_141 ww_142 ww_136 ww_140 (by decide +kernel) (by decide) rfl (by decide) rfl hM rfl rfl (by decide +kernel) rfl hk hh1 hrest hd kk
theorem gf_X4_95 {X : hs_T} {nL hh pc : Nat} {cc : ByteArray} {S : hs_M} {lv : List (Nat × Value)} {st : List Value} (C : hs_C X 0 RX4 cc nL hh) {i : Nat} (hk : hs_K i = 4) (hd : decode cc pc = .ok (.getfield 95, 3)) (kk : hs_Z X nL S lv (.int (S i 3) :: st) (pc + 3)) : hs_Z X nL S lv (.ref (hs_q X i) :: st) pc := hs_get (kd := 4) (k := 3) (N := 5) C rfl hi4 rfl (by decide) rfl (by decide) ww_143 hk rfl hd kk
theorem gf_X4_115 {X : hs_T} {nL hh pc : Nat} {cc : ByteArray} {S : hs_M} {lv : List (Nat × Value)} {st : List Value} (C : hs_C X 0 RX4 cc nL hh) {i : Nat} (hk : hs_K i = 4) (hd : decode cc pc = .ok (.getfield 115, 3)) (kk : hs_Z X nL S lv (.int (S i 4) :: st) (pc + 3)) : hs_Z X nL S lv (.ref (hs_q X i) :: st) pc := hs_get (kd := 4) (k := 4) (N := 5) C rfl hi4 rfl (by decide) rfl (by decide) ww_144 hk rfl hd kk
theorem pf_X4_115 {X : hs_T} {nL hh pc : Nat} {cc : ByteArray} {S : hs_M} {lv : List (Nat × Value)} {st : List Value} (C : hs_C X 0 RX4 cc nL hh) {i : Nat} (hk : hs_K i = 4) {x : Int32} {ρ : Type} {G : hs_M → Option ρ} {res : ρ} (h : hs_l (hs_U S i 4 x) G = some res) (hd : decode cc pc = .ok (.putfield 115, 3)) (kk : ∀ S1 : hs_M, G S1 = some res → hs_Z X nL S1 lv st (pc + 3)) : hs_Z X nL S lv (.int x :: .ref (hs_q X i) :: st) pc := hs_put (kd := 4) (k := 4) (N := 5) C tyX4 tyX4_ok nmX4 rfl hi4 rfl (by decide) rfl (by decide) rfl ww_144 hk rfl rfl (hs_vU0 rfl) h hd kk
theorem pf_X4_18 {X : hs_T} {nL hh pc : Nat} {cc : ByteArray} {S : hs_M} {lv : List (Nat × Value)} {st : List Value} (C : hs_C X 0 RX4 cc nL hh) {i : Nat} (hk : hs_K i = 4) {x : Int32} {ρ : Type} {G : hs_M → Option ρ} {res : ρ} (h : hs_l (hs_U S i 1 x) G = some res) (hd : decode cc pc = .ok (.putfield 18, 3)) (kk : ∀ S1 : hs_M, G S1 = some res → hs_Z X nL S1 lv st (pc + 3)) : hs_Z X nL S lv (.int x :: .ref (hs_q X i) :: st) pc := hs_put (kd := 4) (k := 1) (N := 5) C tyX4 tyX4_ok nmX4 rfl hi4 rfl (by decide) rfl (by decide) rfl ww_108 hk rfl rfl (hs_vU0 rfl) h hd kk
theorem pf_X4_95 {X : hs_T} {nL hh pc : Nat} {cc : ByteArray} {S : hs_M} {lv : List (Nat × Value)} {st : List Value} (C : hs_C X 0 RX4 cc nL hh) {i : Nat} (hk : hs_K i = 4) {x : Int32} {ρ : Type} {G : hs_M → Option ρ} {res : ρ} (h : hs_l (hs_U S i 3 x) G = some res) (hd : decode cc pc = .ok (.putfield 95, 3)) (kk : ∀ S1 : hs_M, G S1 = some res → hs_Z X nL S1 lv st (pc + 3)) : hs_Z X nL S lv (.int x :: .ref (hs_q X i) :: st) pc := hs_put (kd := 4) (k := 3) (N := 5) C tyX4 tyX4_ok nmX4 rfl hi4 rfl (by decide) rfl (by decide) rfl ww_143 hk rfl rfl (hs_vU0 rfl) h hd kk
theorem pf_X4_79 {X : hs_T} {nL hh pc : Nat} {cc : ByteArray} {S : hs_M} {lv : List (Nat × Value)} {st : List Value} (C : hs_C X 0 RX4 cc nL hh) {i : Nat} (hk : hs_K i = 4) {x : Int32} {ρ : Type} {G : hs_M → Option ρ} {res : ρ} (h : hs_l (hs_U S i 2 x) G = some res) (hd : decode cc pc = .ok (.putfield 79, 3)) (kk : ∀ S1 : hs_M, G S1 = some res → hs_Z X nL S1 lv st (pc + 3)) : hs_Z X nL S lv (.int x :: .ref (hs_q X i) :: st) pc := hs_put (kd := 4) (k := 2) (N := 5) C tyX4 tyX4_ok nmX4 rfl hi4 rfl (by decide) rfl (by decide) rfl ww_134 hk rfl rfl (hs_vU0 rfl) h hd kk
theorem gf_X4_37 {X : hs_T} {nL hh pc : Nat} {cc : ByteArray} {S : hs_M} {lv : List (Nat × Value)} {st : List Value} (C : hs_C X 0 RX4 cc nL hh) {i : Nat} (hk : hs_K i = 1) (hd : decode cc pc = .ok (.getfield 37, 3)) (kk : hs_Z X nL S lv (.int (S i 3) :: st) (pc + 3)) : hs_Z X nL S lv (.ref (hs_q X i) :: st) pc := hs_get (kd := 1) (k := 3) (N := 6) C rfl hi1 rfl (by decide) rfl (by decide) ww_149 hk rfl hd kk
theorem cs_X4_42 {X : hs_T} {nL hh pc : Nat} {cc : ByteArray} {S : hs_M} {lv : List (Nat × Value)} {st : List Value} (C : hs_C X 0 RX4 cc nL hh) {i0 : Nat} {a1 : Int32} {S' : hs_M} (hk : hs_K i0 = 4) (hM : hs_met 0 yX4_noteMade cX4_noteMade 2 none 0 (fun q => [.ref (q i0), .int a1]) S (fun q => none) S') (hh1 : 0 < hh) (hrest : (st.map fun v => v.category).sum ≤ 8) (hd : decode cc pc = .ok (.invokevirtual 42, 3)) (kk : hs_Z X nL S' lv (st) (pc + 3)) : hs_Z X nL S lv (.int a1 :: .ref (hs_q X i0) :: st) pc := hs_callV (i := i0) (kd := 4) (na := 1) C ww_150 ww_152 ww_153 ww_136 ww_151 (by decide +kernel) (by decide) rfl (by decide) rfl hM rfl rfl (by decide +kernel) rfl hk hh1 hrest hd kk
theorem cs_X4_34 {X : hs_T} {nL hh pc : Nat} {cc : ByteArray} {S : hs_M} {lv : List (Nat × Value)} {st : List Value} (C : hs_C X 0 RX4 cc nL hh) {i0 : Nat} {S' : hs_M} (hk : hs_K i0 = 4) (hM : hs_met 0 yX4_noteFailure cX4_noteFailure 1 none 1 (fun q => [.ref (q i0)]) S (fun q => none) S') (hh1 : 1 < hh) (hrest : (st.map fun v => v.category).sum ≤ 8) (hd : decode cc pc = .ok (.invokevirtual 34, 3)) (kk : hs_Z X nL S' lv (st) (pc + 3)) : hs_Z X nL S lv (.ref (hs_q X i0) :: st) pc := hs_callV (i := i0) (kd := 4) (na := 0) C ww_154 ww_156 ww_157 ww_136 ww_155 (by decide +kernel) (by decide) rfl (by decide) rfl hM rfl rfl (by decide +kernel) rfl hk hh1 hrest hd kk
theorem cs_X4_31 {X : hs_T} {nL hh pc : Nat} {cc : ByteArray} {S : hs_M} {lv : List (Nat × Value)} {st : List Value} (C : hs_C X 0 RX4 cc nL hh) {i0 : Nat} {i1 : Nat} {i2 : Nat} {r : Int32} {S' : hs_M} (hk : hs_K i0 = 4) (hM : hs_met 0 yX4_makeMoving cX4_makeMoving 4 (some .int) 3 (fun q => [.ref (q i0), .ref (q i1), .ref (q i2)]) S (fun q => some (.int r)) S') (hh1 : 3 < hh) (hrest : (st.map fun v => v.category).sum ≤ 8) (hd : decode cc pc = .ok (.invokevirtual 31, 3)) (kk : hs_Z X nL S' lv (.int r :: st) (pc + 3)) : hs_Z X nL S lv (.ref (hs_q X i2) :: .ref (hs_q X i1) :: .ref (hs_q X i0) :: st) pc := hs_callV (i := i0) (kd := 4) (na := 2) C ww_158 ww_160 ww_161 ww_136 ww_159 (by decide +kernel) (by decide) rfl (by decide) rfl hM rfl rfl (by decide +kernel) rfl hk hh1 hrest hd kk
theorem cs_X4_27 {X : hs_T} {nL hh pc : Nat} {cc : ByteArray} {S : hs_M} {lv : List (Nat × Value)} {st : List Value} (C : hs_C X 0 RX4 cc nL hh) {i0 : Nat} {i1 : Nat} {i2 : Nat} {r : Int32} {S' : hs_M} (hk : hs_K i0 = 4) (hM : hs_met 0 yX4_makeSmall cX4_makeSmall 6 (some .int) 4 (fun q => [.ref (q i0), .ref (q i1), .ref (q i2)]) S (fun q => some (.int r)) S') (hh1 : 4 < hh) (hrest : (st.map fun v => v.category).sum ≤ 8) (hd : decode cc pc = .ok (.invokevirtual 27, 3)) (kk : hs_Z X nL S' lv (.int r :: st) (pc + 3)) : hs_Z X nL S lv (.ref (hs_q X i2) :: .ref (hs_q X i1) :: .ref (hs_q X i0) :: st) pc := hs_callV (i := i0) (kd := 4) (na := 2) C ww_162 ww_164 ww_165 ww_136 ww_163 (by decide +kernel) (by decide) rfl (by decide) rfl hM rfl rfl (by decide +kernel) rfl hk hh1 hrest hd kk
theorem pf_X5_47 {X : hs_T} {nL hh pc : Nat} {cc : ByteArray} {S : hs_M} {lv : List (Nat × Value)} {st : List Value} (C : hs_C X 0 RX5 cc nL hh) {i : Nat} (hk : hs_K i = 5) {x : Int32} {ρ : Type} {G : hs_M → Option ρ} {res : ρ} (h : hs_l (hs_U S i 2 x) G = some res) (hd : decode cc pc = .ok (.putfield 47, 3)) (kk : ∀ S1 : hs_M, G S1 = some res → hs_Z X nL S1 lv st (pc + 3)) : hs_Z X nL S lv (.int x :: .ref (hs_q X i) :: st) pc := hs_put (kd := 5) (k := 2) (N := 8) C tyX5 tyX5_ok nmX5 rfl hi5 rfl (by decide) rfl (by decide) rfl ww_166 hk rfl rfl (hs_vU0 rfl) h hd kk
theorem pf_X5_61 {X : hs_T} {nL hh pc : Nat} {cc : ByteArray} {S : hs_M} {lv : List (Nat × Value)} {st : List Value} (C : hs_C X 0 RX5 cc nL hh) {i : Nat} (hk : hs_K i = 5) {x : Int32} {ρ : Type} {G : hs_M → Option ρ} {res : ρ} (h : hs_l (hs_U S i 3 x) G = some res) (hd : decode cc pc = .ok (.putfield 61, 3)) (kk : ∀ S1 : hs_M, G S1 = some res → hs_Z X nL S1 lv st (pc + 3)) : hs_Z X nL S lv (.int x :: .ref (hs_q X i) :: st) pc := hs_put (kd := 5) (k := 3) (N := 8) C tyX5 tyX5_ok nmX5 rfl hi5 rfl (by decide) rfl (by decide) rfl ww_167 hk rfl rfl (hs_vU0 rfl) h hd kk
theorem gf_X5_18 {X : hs_T} {nL hh pc : Nat} {cc : ByteArray} {S : hs_M} {lv : List (Nat × Value)} {st : List Value} (C : hs_C X 0 RX5 cc nL hh) {i : Nat} (hk : hs_K i = 5) (hd : decode cc pc = .ok (.getfield 18, 3)) (kk : hs_Z X nL S lv (.ref (hs_q X (i + 8)) :: st) (pc + 3)) : hs_Z X nL S lv (.ref (hs_q X i) :: st) pc := hs_get (kd := 5) (k := 6) (N := 8) C rfl hi5 rfl (by decide) rfl (by decide) ww_168 hk rfl hd kk
theorem gf_X5_58 {X : hs_T} {nL hh pc : Nat} {cc : ByteArray} {S : hs_M} {lv : List (Nat × Value)} {st : List Value} (C : hs_C X 0 RX5 cc nL hh) {i : Nat} (hk : hs_K i = 5) (hd : decode cc pc = .ok (.getfield 58, 3)) (kk : hs_Z X nL S lv (.int (S i 7) :: st) (pc + 3)) : hs_Z X nL S lv (.ref (hs_q X i) :: st) pc := hs_get (kd := 5) (k := 7) (N := 8) C rfl hi5 rfl (by decide) rfl (by decide) ww_170 hk rfl hd kk
theorem gf_X5_69 {X : hs_T} {nL hh pc : Nat} {cc : ByteArray} {S : hs_M} {lv : List (Nat × Value)} {st : List Value} (C : hs_C X 0 RX5 cc nL hh) {i : Nat} (hk : hs_K i = 1) (hd : decode cc pc = .ok (.getfield 69, 3)) (kk : hs_Z X nL S lv (.int (S i 3) :: st) (pc + 3)) : hs_Z X nL S lv (.ref (hs_q X i) :: st) pc := hs_get (kd := 1) (k := 3) (N := 6) C rfl hi1 rfl (by decide) rfl (by decide) ww_174 hk rfl hd kk
theorem cs_X5_72 {X : hs_T} {nL hh pc : Nat} {cc : ByteArray} {S : hs_M} {lv : List (Nat × Value)} {st : List Value} (C : hs_C X 0 RX5 cc nL hh) {i0 : Nat} {a1 : Int32} {a2 : Int32} {r : Int32} {S' : hs_M} (hk : hs_K i0 = 5) (hM : hs_met 0 yX5_isEnough cX5_isEnough 6 (some .boolean) 1 (fun q => [.ref (q i0), .int a1, .int a2]) S (fun q => some (.int r)) S') (hh1 : 1 < hh) (hrest : (st.map fun v => v.category).sum ≤ 8) (hd : decode cc pc = .ok (.invokevirtual 72, 3)) (kk : hs_Z X nL S' lv (.int r :: st) (pc + 3)) : hs_Z X nL S lv (.int a2 :: .int a1 :: .ref (hs_q X i0) :: st) pc := hs_callV (i := i0) (kd := 5) (na := 2) C ww_175 ww_178 ww_179 ww_176 ww_177 (by decide +kernel) (by decide) rfl (by decide) rfl hM rfl rfl (by decide +kernel) rfl hk hh1 hrest hd kk
theorem gf_X5_64 {X : hs_T} {nL hh pc : Nat} {cc : ByteArray} {S : hs_M} {lv : List (Nat × Value)} {st : List Value} (C : hs_C X 0 RX5 cc nL hh) {i : Nat} (hk : hs_K i = 1) (hd : decode cc pc = .ok (.getfield 64, 3)) (kk : hs_Z X nL S lv (.int (S i 2) :: st) (pc + 3)) : hs_Z X nL S lv (.ref (hs_q X i) :: st) pc := hs_get (kd := 1) (k := 2) (N := 6) C rfl hi1 rfl (by decide) rfl (by decide) ww_180 hk rfl hd kk
theorem gf_X5_12 {X : hs_T} {nL hh pc : Nat} {cc : ByteArray} {S : hs_M} {lv : List (Nat × Value)} {st : List Value} (C : hs_C X 0 RX5 cc nL hh) {i : Nat} (hk : hs_K i = 5) (hd : decode cc pc = .ok (.getfield 12, 3)) (kk : hs_Z X nL S lv (.ref (hs_q X (i + 4)) :: st) (pc + 3)) : hs_Z X nL S lv (.ref (hs_q X i) :: st) pc := hs_get (kd := 5) (k := 0) (N := 8) C rfl hi5 rfl (by decide) rfl (by decide) ww_181 hk rfl hd kk
theorem gf_X5_34 {X : hs_T} {nL hh pc : Nat} {cc : ByteArray} {S : hs_M} {lv : List (Nat × Value)} {st : List Value} (C : hs_C X 0 RX5 cc nL hh) {i : Nat} (hk : hs_K i = 5) (hd : decode cc pc = .ok (.getfield 34, 3)) (kk : hs_Z X nL S lv (.int (S i 1) :: st) (pc + 3)) : hs_Z X nL S lv (.ref (hs_q X i) :: st) pc := hs_get (kd := 5) (k := 1) (N := 8) C rfl hi5 rfl (by decide) rfl (by decide) ww_182 hk rfl hd kk
theorem cs_X5_50 {X : hs_T} {nL hh pc : Nat} {cc : ByteArray} {S : hs_M} {lv : List (Nat × Value)} {st : List Value} (C : hs_C X 0 RX5 cc nL hh) {i0 : Nat} {i1 : Nat} {a2 : Int32} {S' : hs_M} (hk : hs_K i0 = 0) (hM : hs_met 0 yX0_follow cX0_follow 3 none 1 (fun q => [.ref (q i0), .ref (q i1), .int a2]) S (fun q => none) S') (hh1 : 1 < hh) (hrest : (st.map fun v => v.category).sum ≤ 8) (hd : decode cc pc = .ok (.invokevirtual 50, 3)) (kk : hs_Z X nL S' lv (st) (pc + 3)) : hs_Z X nL S lv (.int a2 :: .ref (hs_q X i1) :: .ref (hs_q X i0) :: st) pc := hs_callV (i := i0) (kd := 0) (na := 2) C ww_183 ww_115 ww_116 ww_12 ww_114 (by decide +kernel) (by decide) rfl (by decide) rfl hM rfl rfl (by decide +kernel) rfl hk hh1 hrest hd kk
theorem pf_X5_22 {X : hs_T} {nL hh pc : Nat} {cc : ByteArray} {S : hs_M} {lv : List (Nat × Value)} {st : List Value} (C : hs_C X 0 RX5 cc nL hh) {i : Nat} (hk : hs_K i = 5) {x : Int32} {ρ : Type} {G : hs_M → Option ρ} {res : ρ} (h : hs_bg x (hs_l (hs_U S i 5 x) G) = some res) (hd : decode cc pc = .ok (.putfield 22, 3)) (kk : ∀ S1 : hs_M, G S1 = some res → hs_Z X nL S1 lv st (pc + 3)) : hs_Z X nL S lv (.int x :: .ref (hs_q X i) :: st) pc := by
  obtain ⟨hx, h⟩ := hs_bg_s h
  exact hs_put (kd := 5) (k := 5) (N := 8) C tyX5 tyX5_ok nmX5 rfl hi5 rfl (by decide) rfl (by decide) rfl ww_184 hk (by rcases hx with rfl | rfl <;> rfl) (by rcases hx with rfl | rfl <;> rfl) (hs_vU0 rfl) h hd kk
theorem gf_X5_47 {X : hs_T} {nL hh pc : Nat} {cc : ByteArray} {S : hs_M} {lv : List (Nat × Value)} {st : List Value} (C : hs_C X 0 RX5 cc nL hh) {i : Nat} (hk : hs_K i = 5) (hd : decode cc pc = .ok (.getfield 47, 3)) (kk : hs_Z X nL S lv (.int (S i 2) :: st) (pc + 3)) : hs_Z X nL S lv (.ref (hs_q X i) :: st) pc := hs_get (kd := 5) (k := 2) (N := 8) C rfl hi5 rfl (by decide) rfl (by decide) ww_166 hk rfl hd kk
theorem cs_X5_54 {X : hs_T} {nL hh pc : Nat} {cc : ByteArray} {S : hs_M} {lv : List (Nat × Value)} {st : List Value} (C : hs_C X 0 RX5 cc nL hh) {i0 : Nat} {i1 : Nat} {r : Int32} {S' : hs_M} (hk : hs_K i0 = 5) (hM : hs_met 0 yX5_smallestKind cX5_smallestKind 2 (some .int) 2 (fun q => [.ref (q i0), .ref (q i1)]) S (fun q => some (.int r)) S') (hh1 : 2 < hh) (hrest : (st.map fun v => v.category).sum ≤ 8) (hd : decode cc pc = .ok (.invokevirtual 54, 3)) (kk : hs_Z X nL S' lv (.int r :: st) (pc + 3)) : hs_Z X nL S lv (.ref (hs_q X i1) :: .ref (hs_q X i0) :: st) pc := hs_callV (i := i0) (kd := 5) (na := 1) C ww_185 ww_187 ww_188 ww_176 ww_186 (by decide +kernel) (by decide) rfl (by decide) rfl hM rfl rfl (by decide +kernel) rfl hk hh1 hrest hd kk
theorem cs_X5_40 {X : hs_T} {nL hh pc : Nat} {cc : ByteArray} {S : hs_M} {lv : List (Nat × Value)} {st : List Value} (C : hs_C X 0 RX5 cc nL hh) {i0 : Nat} {a1 : Int32} {S' : hs_M} (hk : hs_K i0 = 5) (hM : hs_met 0 yX5_enter cX5_enter 2 none 0 (fun q => [.ref (q i0), .int a1]) S (fun q => none) S') (hh1 : 0 < hh) (hrest : (st.map fun v => v.category).sum ≤ 8) (hd : decode cc pc = .ok (.invokevirtual 40, 3)) (kk : hs_Z X nL S' lv (st) (pc + 3)) : hs_Z X nL S lv (.int a1 :: .ref (hs_q X i0) :: st) pc := hs_callV (i := i0) (kd := 5) (na := 1) C ww_189 ww_191 ww_192 ww_176 ww_190 (by decide +kernel) (by decide) rfl (by decide) rfl hM rfl rfl (by decide +kernel) rfl hk hh1 hrest hd kk
theorem gf_X5_22 {X : hs_T} {nL hh pc : Nat} {cc : ByteArray} {S : hs_M} {lv : List (Nat × Value)} {st : List Value} (C : hs_C X 0 RX5 cc nL hh) {i : Nat} (hk : hs_K i = 5) (hd : decode cc pc = .ok (.getfield 22, 3)) (kk : hs_Z X nL S lv (.int (S i 5) :: st) (pc + 3)) : hs_Z X nL S lv (.ref (hs_q X i) :: st) pc := hs_get (kd := 5) (k := 5) (N := 8) C rfl hi5 rfl (by decide) rfl (by decide) ww_184 hk rfl hd kk
theorem cs_X5_26 {X : hs_T} {nL hh pc : Nat} {cc : ByteArray} {S : hs_M} {lv : List (Nat × Value)} {st : List Value} (C : hs_C X 0 RX5 cc nL hh) {i0 : Nat} {i1 : Nat} {r : Int32} {S' : hs_M} (hk : hs_K i0 = 0) (hM : hs_met 0 yX0_isOf cX0_isOf 2 (some .boolean) 0 (fun q => [.ref (q i0), .ref (q i1)]) S (fun q => some (.int r)) S') (hh1 : 0 < hh) (hrest : (st.map fun v => v.category).sum ≤ 8) (hd : decode cc pc = .ok (.invokevirtual 26, 3)) (kk : hs_Z X nL S' lv (.int r :: st) (pc + 3)) : hs_Z X nL S lv (.ref (hs_q X i1) :: .ref (hs_q X i0) :: st) pc := hs_callV (i := i0) (kd := 0) (na := 1) C ww_193 ww_20 ww_21 ww_12 ww_19 (by decide +kernel) (by decide) rfl (by decide) rfl hM rfl rfl (by decide +kernel) rfl hk hh1 hrest hd kk
theorem gf_X5_30 {X : hs_T} {nL hh pc : Nat} {cc : ByteArray} {S : hs_M} {lv : List (Nat × Value)} {st : List Value} (C : hs_C X 0 RX5 cc nL hh) {i : Nat} (hk : hs_K i = 0) (hd : decode cc pc = .ok (.getfield 30, 3)) (kk : hs_Z X nL S lv (.int (S i 2) :: st) (pc + 3)) : hs_Z X nL S lv (.ref (hs_q X i) :: st) pc := hs_get (kd := 0) (k := 2) (N := 5) C rfl hi0 rfl (by decide) rfl (by decide) ww_194 hk rfl hd kk
theorem gf_X5_37 {X : hs_T} {nL hh pc : Nat} {cc : ByteArray} {S : hs_M} {lv : List (Nat × Value)} {st : List Value} (C : hs_C X 0 RX5 cc nL hh) {i : Nat} (hk : hs_K i = 5) (hd : decode cc pc = .ok (.getfield 37, 3)) (kk : hs_Z X nL S lv (.int (S i 4) :: st) (pc + 3)) : hs_Z X nL S lv (.ref (hs_q X i) :: st) pc := hs_get (kd := 5) (k := 4) (N := 8) C rfl hi5 rfl (by decide) rfl (by decide) ww_195 hk rfl hd kk
theorem cs_X5_44 {X : hs_T} {nL hh pc : Nat} {cc : ByteArray} {S : hs_M} {lv : List (Nat × Value)} {st : List Value} (C : hs_C X 0 RX5 cc nL hh) {i0 : Nat} {i1 : Nat} {r : Int32} {S' : hs_M} (hk : hs_K i0 = 0) (hM : hs_met 0 yX0_goesAlong cX0_goesAlong 2 (some .boolean) 1 (fun q => [.ref (q i0), .ref (q i1)]) S (fun q => some (.int r)) S') (hh1 : 1 < hh) (hrest : (st.map fun v => v.category).sum ≤ 8) (hd : decode cc pc = .ok (.invokevirtual 44, 3)) (kk : hs_Z X nL S' lv (.int r :: st) (pc + 3)) : hs_Z X nL S lv (.ref (hs_q X i1) :: .ref (hs_q X i0) :: st) pc := hs_callV (i := i0) (kd := 0) (na := 1) C ww_196 ww_198 ww_199 ww_12 ww_197 (by decide +kernel) (by decide) rfl (by decide) rfl hM rfl rfl (by decide +kernel) rfl hk hh1 hrest hd kk
theorem pf_X5_37 {X : hs_T} {nL hh pc : Nat} {cc : ByteArray} {S : hs_M} {lv : List (Nat × Value)} {st : List Value} (C : hs_C X 0 RX5 cc nL hh) {i : Nat} (hk : hs_K i = 5) {x : Int32} {ρ : Type} {G : hs_M → Option ρ} {res : ρ} (h : hs_l (hs_U S i 4 x) G = some res) (hd : decode cc pc = .ok (.putfield 37, 3)) (kk : ∀ S1 : hs_M, G S1 = some res → hs_Z X nL S1 lv st (pc + 3)) : hs_Z X nL S lv (.int x :: .ref (hs_q X i) :: st) pc := hs_put (kd := 5) (k := 4) (N := 8) C tyX5 tyX5_ok nmX5 rfl hi5 rfl (by decide) rfl (by decide) rfl ww_195 hk rfl rfl (hs_vU0 rfl) h hd kk
theorem pf_X5_58 {X : hs_T} {nL hh pc : Nat} {cc : ByteArray} {S : hs_M} {lv : List (Nat × Value)} {st : List Value} (C : hs_C X 0 RX5 cc nL hh) {i : Nat} (hk : hs_K i = 5) {x : Int32} {ρ : Type} {G : hs_M → Option ρ} {res : ρ} (h : hs_l (hs_U S i 7 x) G = some res) (hd : decode cc pc = .ok (.putfield 58, 3)) (kk : ∀ S1 : hs_M, G S1 = some res → hs_Z X nL S1 lv st (pc + 3)) : hs_Z X nL S lv (.int x :: .ref (hs_q X i) :: st) pc := hs_put (kd := 5) (k := 7) (N := 8) C tyX5 tyX5_ok nmX5 rfl hi5 rfl (by decide) rfl (by decide) rfl ww_170 hk rfl rfl (hs_vU0 rfl) h hd kk
theorem gf_X5_61 {X : hs_T} {nL hh pc : Nat} {cc : ByteArray} {S : hs_M} {lv : List (Nat × Value)} {st : List Value} (C : hs_C X 0 RX5 cc nL hh) {i : Nat} (hk : hs_K i = 5) (hd : decode cc pc = .ok (.getfield 61, 3)) (kk : hs_Z X nL S lv (.int (S i 3) :: st) (pc + 3)) : hs_Z X nL S lv (.ref (hs_q X i) :: st) pc := hs_get (kd := 5) (k := 3) (N := 8) C rfl hi5 rfl (by decide) rfl (by decide) ww_167 hk rfl hd kk
theorem gf_X6_19 {X : hs_T} {nL hh pc : Nat} {cc : ByteArray} {S : hs_M} {lv : List (Nat × Value)} {st : List Value} (C : hs_C X 0 RX6 cc nL hh) (hd : decode cc pc = .ok (.getfield 19, 3)) (kk : hs_Z X nL S lv (.ref (hs_q X 4) :: st) (pc + 3)) : hs_Z X nL S lv (.ref (hs_q X 0) :: st) pc := hs_get (kd := 6) (k := 1) (N := 7) C rfl hi6 rfl (by decide) rfl (by decide) ww_200 (show hs_K 0 = 6 by decide +kernel) rfl hd kk
theorem gf_X6_108 {X : hs_T} {nL hh pc : Nat} {cc : ByteArray} {S : hs_M} {lv : List (Nat × Value)} {st : List Value} (C : hs_C X 0 RX6 cc nL hh) (hd : decode cc pc = .ok (.getfield 108, 3)) (kk : hs_Z X nL S lv (.int (S 4 1) :: st) (pc + 3)) : hs_Z X nL S lv (.ref (hs_q X 4) :: st) pc := hs_get (kd := 2) (k := 1) (N := 2) C rfl hi2 rfl (by decide) rfl (by decide) ww_201 (show hs_K 4 = 2 by decide +kernel) rfl hd kk
theorem gf_X6_114 {X : hs_T} {nL hh pc : Nat} {cc : ByteArray} {S : hs_M} {lv : List (Nat × Value)} {st : List Value} (C : hs_C X 0 RX6 cc nL hh) (hd : decode cc pc = .ok (.getfield 114, 3)) (kk : hs_Z X nL S lv (.ref (hs_q X 5) :: st) (pc + 3)) : hs_Z X nL S lv (.ref (hs_q X 4) :: st) pc := hs_get (kd := 2) (k := 0) (N := 2) C rfl hi2 rfl (by decide) rfl (by decide) ww_202 (show hs_K 4 = 2 by decide +kernel) rfl hd kk
theorem gf_X6_101 {X : hs_T} {nL hh pc : Nat} {cc : ByteArray} {S : hs_M} {lv : List (Nat × Value)} {st : List Value} (C : hs_C X 0 RX6 cc nL hh) {i : Nat} (hk : hs_K i = 3) (hd : decode cc pc = .ok (.getfield 101, 3)) (kk : hs_Z X nL S lv (.int (S i 1) :: st) (pc + 3)) : hs_Z X nL S lv (.ref (hs_q X i) :: st) pc := hs_get (kd := 3) (k := 1) (N := 5) C rfl hi3 rfl (by decide) rfl (by decide) ww_203 hk rfl hd kk
theorem cs_X6_111 {X : hs_T} {nL hh pc : Nat} {cc : ByteArray} {S : hs_M} {lv : List (Nat × Value)} {st : List Value} (C : hs_C X 0 RX6 cc nL hh) {a1 : Int32} {r : Int32} {S' : hs_M} (hM : hs_met 0 yX6_isNoPacket cX6_isNoPacket 2 (some .boolean) 0 (fun q => [.ref (q 0), .int a1]) S (fun q => some (.int r)) S') (hh1 : 0 < hh) (hrest : (st.map fun v => v.category).sum ≤ 8) (hd : decode cc pc = .ok (.invokevirtual 111, 3)) (kk : hs_Z X nL S' lv (.int r :: st) (pc + 3)) : hs_Z X nL S lv (.int a1 :: .ref (hs_q X 0) :: st) pc := hs_callV (i := 0) (kd := 6) (na := 1) C ww_204 ww_207 ww_208 ww_205 ww_206 (by decide +kernel) (by decide) rfl (by decide) rfl hM rfl rfl (by decide +kernel) rfl (show hs_K 0 = 6 by decide +kernel) hh1 hrest hd kk
theorem cs_X6_118 {X : hs_T} {nL hh pc : Nat} {cc : ByteArray} {S : hs_M} {lv : List (Nat × Value)} {st : List Value} (C : hs_C X 0 RX6 cc nL hh) {a1 : Int32} {a2 : Int32} {r : Int32} {S' : hs_M} (hM : hs_met 0 yX6_isNoByte cX6_isNoByte 3 (some .boolean) 0 (fun q => [.ref (q 0), .int a1, .int a2]) S (fun q => some (.int r)) S') (hh1 : 0 < hh) (hrest : (st.map fun v => v.category).sum ≤ 8) (hd : decode cc pc = .ok (.invokevirtual 118, 3)) (kk : hs_Z X nL S' lv (.int r :: st) (pc + 3)) : hs_Z X nL S lv (.int a2 :: .int a1 :: .ref (hs_q X 0) :: st) pc := hs_callV (i := 0) (kd := 6) (na := 2) C ww_209 ww_211 ww_212 ww_205 ww_210 (by decide +kernel) (by decide) rfl (by decide) rfl hM rfl rfl (by decide +kernel) rfl (show hs_K 0 = 6 by decide +kernel) hh1 hrest hd kk
theorem gf_X6_122 {X : hs_T} {nL hh pc : Nat} {cc : ByteArray} {S : hs_M} {lv : List (Nat × Value)} {st : List Value} (C : hs_C X 0 RX6 cc nL hh) {i : Nat} (hk : hs_K i = 3) (hd : decode cc pc = .ok (.getfield 122, 3)) (kk : hs_Z X nL S lv (.ref (hs_q X (i + 9)) :: st) (pc + 3)) : hs_Z X nL S lv (.ref (hs_q X i) :: st) pc := hs_get (kd := 3) (k := 0) (N := 5) C rfl hi3 rfl (by decide) rfl (by decide) ww_213 hk rfl hd kk
theorem gf_X6_35 {X : hs_T} {nL hh pc : Nat} {cc : ByteArray} {S : hs_M} {lv : List (Nat × Value)} {st : List Value} (C : hs_C X 0 RX6 cc nL hh) (hd : decode cc pc = .ok (.getfield 35, 3)) (kk : hs_Z X nL S lv (.ref (hs_q X 46) :: st) (pc + 3)) : hs_Z X nL S lv (.ref (hs_q X 0) :: st) pc := hs_get (kd := 6) (k := 4) (N := 7) C rfl hi6 rfl (by decide) rfl (by decide) ww_214 (show hs_K 0 = 6 by decide +kernel) rfl hd kk
theorem gf_X6_39 {X : hs_T} {nL hh pc : Nat} {cc : ByteArray} {S : hs_M} {lv : List (Nat × Value)} {st : List Value} (C : hs_C X 0 RX6 cc nL hh) (hd : decode cc pc = .ok (.getfield 39, 3)) (kk : hs_Z X nL S lv (.ref (hs_q X (S 0 5).toNatClampNeg) :: st) (pc + 3)) : hs_Z X nL S lv (.ref (hs_q X 0) :: st) pc := hs_get (kd := 6) (k := 5) (N := 7) C rfl hi6 rfl (by decide) rfl (by decide) ww_215 (show hs_K 0 = 6 by decide +kernel) rfl hd kk
theorem gf_X6_42 {X : hs_T} {nL hh pc : Nat} {cc : ByteArray} {S : hs_M} {lv : List (Nat × Value)} {st : List Value} (C : hs_C X 0 RX6 cc nL hh) (hd : decode cc pc = .ok (.getfield 42, 3)) (kk : hs_Z X nL S lv (.ref (hs_q X (S 0 6).toNatClampNeg) :: st) (pc + 3)) : hs_Z X nL S lv (.ref (hs_q X 0) :: st) pc := hs_get (kd := 6) (k := 6) (N := 7) C rfl hi6 rfl (by decide) rfl (by decide) ww_216 (show hs_K 0 = 6 by decide +kernel) rfl hd kk
theorem pf_X6_39 {X : hs_T} {nL hh pc : Nat} {cc : ByteArray} {S : hs_M} {lv : List (Nat × Value)} {st : List Value} (C : hs_C X 0 RX6 cc nL hh) {j : Nat} (hj : hs_K j = 1) {ρ : Type} {G : hs_M → Option ρ} {res : ρ} (h : hs_l (hs_U S 0 5 (nI j)) G = some res) (hd : decode cc pc = .ok (.putfield 39, 3)) (kk : ∀ S1 : hs_M, G S1 = some res → hs_Z X nL S1 lv st (pc + 3)) : hs_Z X nL S lv (.ref (hs_q X j) :: .ref (hs_q X 0) :: st) pc := hs_put (kd := 6) (k := 5) (N := 7) C tyX6 tyX6_ok nmX6 rfl hi6 rfl (by decide) rfl (by decide) rfl ww_215 (show hs_K 0 = 6 by decide +kernel) rfl rfl (hs_vU1 rfl (hs_kh hj)) h hd kk
theorem pf_X6_42 {X : hs_T} {nL hh pc : Nat} {cc : ByteArray} {S : hs_M} {lv : List (Nat × Value)} {st : List Value} (C : hs_C X 0 RX6 cc nL hh) {j : Nat} (hj : hs_K j = 1) {ρ : Type} {G : hs_M → Option ρ} {res : ρ} (h : hs_l (hs_U S 0 6 (nI j)) G = some res) (hd : decode cc pc = .ok (.putfield 42, 3)) (kk : ∀ S1 : hs_M, G S1 = some res → hs_Z X nL S1 lv st (pc + 3)) : hs_Z X nL S lv (.ref (hs_q X j) :: .ref (hs_q X 0) :: st) pc := hs_put (kd := 6) (k := 6) (N := 7) C tyX6 tyX6_ok nmX6 rfl hi6 rfl (by decide) rfl (by decide) rfl ww_216 (show hs_K 0 = 6 by decide +kernel) rfl rfl (hs_vU1 rfl (hs_kh hj)) h hd kk
theorem cs_X6_125 {X : hs_T} {nL hh pc : Nat} {cc : ByteArray} {S : hs_M} {lv : List (Nat × Value)} {st : List Value} (C : hs_C X 0 RX6 cc nL hh) {a1 : Int32} {r : Nat} {S' : hs_M} (hM : hs_met 0 yX2_takeOff cX2_takeOff 4 (some (.object "HeaderSqueeze$Packet")) 0 (fun q => [.ref (q 4), .int a1]) S (fun q => some (.ref (q r))) S') (hh1 : 0 < hh) (hrest : (st.map fun v => v.category).sum ≤ 8) (hd : decode cc pc = .ok (.invokevirtual 125, 3)) (kk : hs_Z X nL S' lv (.ref (hs_q X r) :: st) (pc + 3)) : hs_Z X nL S lv (.int a1 :: .ref (hs_q X 4) :: st) pc := hs_callV (i := 4) (kd := 2) (na := 1) C ww_217 ww_220 ww_221 ww_218 ww_219 (by decide +kernel) (by decide) rfl (by decide) rfl hM rfl rfl (by decide +kernel) rfl (show hs_K 4 = 2 by decide +kernel) hh1 hrest hd kk
theorem cs_X6_129 {X : hs_T} {nL hh pc : Nat} {cc : ByteArray} {S : hs_M} {lv : List (Nat × Value)} {st : List Value} (C : hs_C X 0 RX6 cc nL hh) {i0 : Nat} {S' : hs_M} (hk : hs_K i0 = 3) (hM : hs_met 0 yX3_read cX3_read 2 none 2 (fun q => [.ref (q i0)]) S (fun q => none) S') (hh1 : 2 < hh) (hrest : (st.map fun v => v.category).sum ≤ 8) (hd : decode cc pc = .ok (.invokevirtual 129, 3)) (kk : hs_Z X nL S' lv (st) (pc + 3)) : hs_Z X nL S lv (.ref (hs_q X i0) :: st) pc := hs_callV (i := i0) (kd := 3) (na := 0) C ww_222 ww_224 ww_225 ww_47 ww_223 (by decide +kernel) (by decide) rfl (by decide) rfl hM rfl rfl (by decide +kernel) rfl hk hh1 hrest hd kk
theorem gf_X6_132 {X : hs_T} {nL hh pc : Nat} {cc : ByteArray} {S : hs_M} {lv : List (Nat × Value)} {st : List Value} (C : hs_C X 0 RX6 cc nL hh) {i : Nat} (hk : hs_K i = 3) (hd : decode cc pc = .ok (.getfield 132, 3)) (kk : hs_Z X nL S lv (.int (S i 3) :: st) (pc + 3)) : hs_Z X nL S lv (.ref (hs_q X i) :: st) pc := hs_get (kd := 3) (k := 3) (N := 5) C rfl hi3 rfl (by decide) rfl (by decide) ww_226 hk rfl hd kk
theorem gf_X6_31 {X : hs_T} {nL hh pc : Nat} {cc : ByteArray} {S : hs_M} {lv : List (Nat × Value)} {st : List Value} (C : hs_C X 0 RX6 cc nL hh) (hd : decode cc pc = .ok (.getfield 31, 3)) (kk : hs_Z X nL S lv (.ref (hs_q X 37) :: st) (pc + 3)) : hs_Z X nL S lv (.ref (hs_q X 0) :: st) pc := hs_get (kd := 6) (k := 3) (N := 7) C rfl hi6 rfl (by decide) rfl (by decide) ww_227 (show hs_K 0 = 6 by decide +kernel) rfl hd kk
theorem gf_X6_135 {X : hs_T} {nL hh pc : Nat} {cc : ByteArray} {S : hs_M} {lv : List (Nat × Value)} {st : List Value} (C : hs_C X 0 RX6 cc nL hh) {i : Nat} (hk : hs_K i = 3) (hd : decode cc pc = .ok (.getfield 135, 3)) (kk : hs_Z X nL S lv (.int (S i 2) :: st) (pc + 3)) : hs_Z X nL S lv (.ref (hs_q X i) :: st) pc := hs_get (kd := 3) (k := 2) (N := 5) C rfl hi3 rfl (by decide) rfl (by decide) ww_228 hk rfl hd kk
theorem cs_X6_138 {X : hs_T} {nL hh pc : Nat} {cc : ByteArray} {S : hs_M} {lv : List (Nat × Value)} {st : List Value} (C : hs_C X 0 RX6 cc nL hh) {i0 : Nat} {a1 : Int32} {r : Int32} {S' : hs_M} (hk : hs_K i0 = 4) (hM : hs_met 0 yX4_hasUseFor cX4_hasUseFor 2 (some .boolean) 0 (fun q => [.ref (q i0), .int a1]) S (fun q => some (.int r)) S') (hh1 : 0 < hh) (hrest : (st.map fun v => v.category).sum ≤ 8) (hd : decode cc pc = .ok (.invokevirtual 138, 3)) (kk : hs_Z X nL S' lv (.int r :: st) (pc + 3)) : hs_Z X nL S lv (.int a1 :: .ref (hs_q X i0) :: st) pc := hs_callV (i := i0) (kd := 4) (na := 1) C ww_229 ww_231 ww_232 ww_136 ww_230 (by decide +kernel) (by decide) rfl (by decide) rfl hM rfl rfl (by decide +kernel) rfl hk hh1 hrest hd kk
theorem cs_X6_144 {X : hs_T} {nL hh pc : Nat} {cc : ByteArray} {S : hs_M} {lv : List (Nat × Value)} {st : List Value} (C : hs_C X 0 RX6 cc nL hh) {i0 : Nat} {i1 : Nat} {i2 : Nat} {r : Int32} {S' : hs_M} (hk : hs_K i0 = 4) (hM : hs_met 0 yX4_take cX4_take 4 (some .int) 5 (fun q => [.ref (q i0), .ref (q i1), .ref (q i2)]) S (fun q => some (.int r)) S') (hh1 : 5 < hh) (hrest : (st.map fun v => v.category).sum ≤ 8) (hd : decode cc pc = .ok (.invokevirtual 144, 3)) (kk : hs_Z X nL S' lv (.int r :: st) (pc + 3)) : hs_Z X nL S lv (.ref (hs_q X i2) :: .ref (hs_q X i1) :: .ref (hs_q X i0) :: st) pc := hs_callV (i := i0) (kd := 4) (na := 2) C ww_233 ww_235 ww_236 ww_136 ww_234 (by decide +kernel) (by decide) rfl (by decide) rfl hM rfl rfl (by decide +kernel) rfl hk hh1 hrest hd kk
theorem cs_X6_151 {X : hs_T} {nL hh pc : Nat} {cc : ByteArray} {S : hs_M} {lv : List (Nat × Value)} {st : List Value} (C : hs_C X 0 RX6 cc nL hh) {S' : hs_M} (hM : hs_met 0 yX6_keepTrial cX6_keepTrial 2 none 0 (fun q => [.ref (q 0)]) S (fun q => none) S') (hh1 : 0 < hh) (hrest : (st.map fun v => v.category).sum ≤ 8) (hd : decode cc pc = .ok (.invokevirtual 151, 3)) (kk : hs_Z X nL S' lv (st) (pc + 3)) : hs_Z X nL S lv (.ref (hs_q X 0) :: st) pc := hs_callV (i := 0) (kd := 6) (na := 0) C ww_237 ww_239 ww_240 ww_205 ww_238 (by decide +kernel) (by decide) rfl (by decide) rfl hM rfl rfl (by decide +kernel) rfl (show hs_K 0 = 6 by decide +kernel) hh1 hrest hd kk
theorem cs_X6_54 {X : hs_T} {nL hh pc : Nat} {cc : ByteArray} {S : hs_M} {lv : List (Nat × Value)} {st : List Value} (C : hs_C X 0 RX6 cc nL hh) {a0 : Int32} {r : Int32} {S' : hs_M} (hM : hs_met 0 yX6_isNotInTwoBytes cX6_isNotInTwoBytes 1 (some .boolean) 0 (fun q => [.int a0]) S (fun q => some (.int r)) S') (hh1 : 0 < hh) (hrest : (st.map fun v => v.category).sum ≤ 8) (hd : decode cc pc = .ok (.invokestatic 54, 3)) (kk : hs_Z X nL S' lv (.int r :: st) (pc + 3)) : hs_Z X nL S lv (.int a0 :: st) pc := hs_callS (na := 1) C ww_242 ww_244 ww_205 ww_243 (by decide +kernel) (by decide) hM rfl rfl (by decide +kernel) rfl hh1 hrest hd kk
theorem gf_X6_10 {X : hs_T} {nL hh pc : Nat} {cc : ByteArray} {S : hs_M} {lv : List (Nat × Value)} {st : List Value} (C : hs_C X 0 RX6 cc nL hh) (hd : decode cc pc = .ok (.getfield 10, 3)) (kk : hs_Z X nL S lv (.ref (hs_q X 1) :: st) (pc + 3)) : hs_Z X nL S lv (.ref (hs_q X 0) :: st) pc := hs_get (kd := 6) (k := 0) (N := 7) C rfl hi6 rfl (by decide) rfl (by decide) ww_245 (show hs_K 0 = 6 by decide +kernel) rfl hd kk
theorem pf_X6_64 {X : hs_T} {nL hh pc : Nat} {cc : ByteArray} {S : hs_M} {lv : List (Nat × Value)} {st : List Value} (C : hs_C X 0 RX6 cc nL hh) {i : Nat} (hk : hs_K i = 1) {x : Int32} {ρ : Type} {G : hs_M → Option ρ} {res : ρ} (h : hs_l (hs_U S i 0 x) G = some res) (hd : decode cc pc = .ok (.putfield 64, 3)) (kk : ∀ S1 : hs_M, G S1 = some res → hs_Z X nL S1 lv st (pc + 3)) : hs_Z X nL S lv (.int x :: .ref (hs_q X i) :: st) pc := hs_put (kd := 1) (k := 0) (N := 6) C tyX1 tyX1_ok nmX1 rfl hi1 rfl (by decide) rfl (by decide) rfl ww_246 hk rfl rfl (hs_vU0 rfl) h hd kk
theorem pf_X6_67 {X : hs_T} {nL hh pc : Nat} {cc : ByteArray} {S : hs_M} {lv : List (Nat × Value)} {st : List Value} (C : hs_C X 0 RX6 cc nL hh) {i : Nat} (hk : hs_K i = 1) {x : Int32} {ρ : Type} {G : hs_M → Option ρ} {res : ρ} (h : hs_l (hs_U S i 1 x) G = some res) (hd : decode cc pc = .ok (.putfield 67, 3)) (kk : ∀ S1 : hs_M, G S1 = some res → hs_Z X nL S1 lv st (pc + 3)) : hs_Z X nL S lv (.int x :: .ref (hs_q X i) :: st) pc := hs_put (kd := 1) (k := 1) (N := 6) C tyX1 tyX1_ok nmX1 rfl hi1 rfl (by decide) rfl (by decide) rfl ww_247 hk rfl rfl (hs_vU0 rfl) h hd kk
theorem pf_X6_70 {X : hs_T} {nL hh pc : Nat} {cc : ByteArray} {S : hs_M} {lv : List (Nat × Value)} {st : List Value} (C : hs_C X 0 RX6 cc nL hh) {i : Nat} (hk : hs_K i = 1) {x : Int32} {ρ : Type} {G : hs_M → Option ρ} {res : ρ} (h : hs_bg x (hs_l (hs_U S i 2 x) G) = some res) (hd : decode cc pc = .ok (.putfield 70, 3)) (kk : ∀ S1 : hs_M, G S1 = some res → hs_Z X nL S1 lv st (pc + 3)) : hs_Z X nL S lv (.int x :: .ref (hs_q X i) :: st) pc := by
  obtain ⟨hx, h⟩ := hs_bg_s h
  exact hs_put (kd := 1) (k := 2) (N := 6) C tyX1 tyX1_ok nmX1 rfl hi1 rfl (by decide) rfl (by decide) rfl ww_248 hk (by rcases hx with rfl | rfl <;> rfl) (by rcases hx with rfl | rfl <;> rfl) (hs_vU0 rfl) h hd kk
theorem cs_X6_154 {X : hs_T} {nL hh pc : Nat} {cc : ByteArray} {S : hs_M} {lv : List (Nat × Value)} {st : List Value} (C : hs_C X 0 RX6 cc nL hh) {i0 : Nat} {a1 : Int32} {r : Int32} {S' : hs_M} (hk : hs_K i0 = 1) (hM : hs_met 0 yX1_part cX1_part 2 (some .int) 1 (fun q => [.ref (q i0), .int a1]) S (fun q => some (.int r)) S') (hh1 : 1 < hh) (hrest : (st.map fun v => v.category).sum ≤ 8) (hd : decode cc pc = .ok (.invokevirtual 154, 3)) (kk : hs_Z X nL S' lv (.int r :: st) (pc + 3)) : hs_Z X nL S lv (.int a1 :: .ref (hs_q X i0) :: st) pc := hs_callV (i := i0) (kd := 1) (na := 1) C ww_249 ww_38 ww_39 ww_26 ww_37 (by decide +kernel) (by decide) rfl (by decide) rfl hM rfl rfl (by decide +kernel) rfl hk hh1 hrest hd kk
theorem cs_X6_47 {X : hs_T} {nL hh pc : Nat} {cc : ByteArray} {S : hs_M} {lv : List (Nat × Value)} {st : List Value} (C : hs_C X 0 RX6 cc nL hh) {a0 : Int32} {r : Int32} {S' : hs_M} (hM : hs_met 0 yX6_isNoFlow cX6_isNoFlow 1 (some .boolean) 0 (fun q => [.int a0]) S (fun q => some (.int r)) S') (hh1 : 0 < hh) (hrest : (st.map fun v => v.category).sum ≤ 8) (hd : decode cc pc = .ok (.invokestatic 47, 3)) (kk : hs_Z X nL S' lv (.int r :: st) (pc + 3)) : hs_Z X nL S lv (.int a0 :: st) pc := hs_callS (na := 1) C ww_250 ww_252 ww_205 ww_251 (by decide +kernel) (by decide) hM rfl rfl (by decide +kernel) rfl hh1 hrest hd kk
theorem gf_X6_179 {X : hs_T} {nL hh pc : Nat} {cc : ByteArray} {S : hs_M} {lv : List (Nat × Value)} {st : List Value} (C : hs_C X 0 RX6 cc nL hh) {i : Nat} (hk : hs_K i = 4) (hd : decode cc pc = .ok (.getfield 179, 3)) (kk : hs_Z X nL S lv (.int (S i 1) :: st) (pc + 3)) : hs_Z X nL S lv (.ref (hs_q X i) :: st) pc := hs_get (kd := 4) (k := 1) (N := 5) C rfl hi4 rfl (by decide) rfl (by decide) ww_253 hk rfl hd kk
theorem gf_X6_182 {X : hs_T} {nL hh pc : Nat} {cc : ByteArray} {S : hs_M} {lv : List (Nat × Value)} {st : List Value} (C : hs_C X 0 RX6 cc nL hh) {i : Nat} (hk : hs_K i = 4) (hd : decode cc pc = .ok (.getfield 182, 3)) (kk : hs_Z X nL S lv (.int (S i 2) :: st) (pc + 3)) : hs_Z X nL S lv (.ref (hs_q X i) :: st) pc := hs_get (kd := 4) (k := 2) (N := 5) C rfl hi4 rfl (by decide) rfl (by decide) ww_254 hk rfl hd kk
theorem gf_X6_185 {X : hs_T} {nL hh pc : Nat} {cc : ByteArray} {S : hs_M} {lv : List (Nat × Value)} {st : List Value} (C : hs_C X 0 RX6 cc nL hh) {i : Nat} (hk : hs_K i = 4) (hd : decode cc pc = .ok (.getfield 185, 3)) (kk : hs_Z X nL S lv (.int (S i 3) :: st) (pc + 3)) : hs_Z X nL S lv (.ref (hs_q X i) :: st) pc := hs_get (kd := 4) (k := 3) (N := 5) C rfl hi4 rfl (by decide) rfl (by decide) ww_255 hk rfl hd kk
theorem gf_X6_188 {X : hs_T} {nL hh pc : Nat} {cc : ByteArray} {S : hs_M} {lv : List (Nat × Value)} {st : List Value} (C : hs_C X 0 RX6 cc nL hh) {i : Nat} (hk : hs_K i = 4) (hd : decode cc pc = .ok (.getfield 188, 3)) (kk : hs_Z X nL S lv (.int (S i 4) :: st) (pc + 3)) : hs_Z X nL S lv (.ref (hs_q X i) :: st) pc := hs_get (kd := 4) (k := 4) (N := 5) C rfl hi4 rfl (by decide) rfl (by decide) ww_256 hk rfl hd kk
theorem pf_X6_74 {X : hs_T} {nL hh pc : Nat} {cc : ByteArray} {S : hs_M} {lv : List (Nat × Value)} {st : List Value} (C : hs_C X 0 RX6 cc nL hh) {i : Nat} (hk : hs_K i = 1) {x : Int32} {ρ : Type} {G : hs_M → Option ρ} {res : ρ} (h : hs_l (hs_U S i 3 x) G = some res) (hd : decode cc pc = .ok (.putfield 74, 3)) (kk : ∀ S1 : hs_M, G S1 = some res → hs_Z X nL S1 lv st (pc + 3)) : hs_Z X nL S lv (.int x :: .ref (hs_q X i) :: st) pc := hs_put (kd := 1) (k := 3) (N := 6) C tyX1 tyX1_ok nmX1 rfl hi1 rfl (by decide) rfl (by decide) rfl ww_257 hk rfl rfl (hs_vU0 rfl) h hd kk
theorem pf_X6_77 {X : hs_T} {nL hh pc : Nat} {cc : ByteArray} {S : hs_M} {lv : List (Nat × Value)} {st : List Value} (C : hs_C X 0 RX6 cc nL hh) {i : Nat} (hk : hs_K i = 1) {x : Int32} {ρ : Type} {G : hs_M → Option ρ} {res : ρ} (h : hs_l (hs_U S i 4 x) G = some res) (hd : decode cc pc = .ok (.putfield 77, 3)) (kk : ∀ S1 : hs_M, G S1 = some res → hs_Z X nL S1 lv st (pc + 3)) : hs_Z X nL S lv (.int x :: .ref (hs_q X i) :: st) pc := hs_put (kd := 1) (k := 4) (N := 6) C tyX1 tyX1_ok nmX1 rfl hi1 rfl (by decide) rfl (by decide) rfl ww_258 hk rfl rfl (hs_vU0 rfl) h hd kk
theorem pf_X6_80 {X : hs_T} {nL hh pc : Nat} {cc : ByteArray} {S : hs_M} {lv : List (Nat × Value)} {st : List Value} (C : hs_C X 0 RX6 cc nL hh) {i : Nat} (hk : hs_K i = 1) {x : Int32} {ρ : Type} {G : hs_M → Option ρ} {res : ρ} (h : hs_l (hs_U S i 5 x) G = some res) (hd : decode cc pc = .ok (.putfield 80, 3)) (kk : ∀ S1 : hs_M, G S1 = some res → hs_Z X nL S1 lv st (pc + 3)) : hs_Z X nL S lv (.int x :: .ref (hs_q X i) :: st) pc := hs_put (kd := 1) (k := 5) (N := 6) C tyX1 tyX1_ok nmX1 rfl hi1 rfl (by decide) rfl (by decide) rfl ww_259 hk rfl rfl (hs_vU0 rfl) h hd kk
theorem gf_X6_25 {X : hs_T} {nL hh pc : Nat} {cc : ByteArray} {S : hs_M} {lv : List (Nat × Value)} {st : List Value} (C : hs_C X 0 RX6 cc nL hh) (hd : decode cc pc = .ok (.getfield 25, 3)) (kk : hs_Z X nL S lv (.ref (hs_q X 24) :: st) (pc + 3)) : hs_Z X nL S lv (.ref (hs_q X 0) :: st) pc := hs_get (kd := 6) (k := 2) (N := 7) C rfl hi6 rfl (by decide) rfl (by decide) ww_260 (show hs_K 0 = 6 by decide +kernel) rfl hd kk
theorem cs_X6_83 {X : hs_T} {nL hh pc : Nat} {cc : ByteArray} {S : hs_M} {lv : List (Nat × Value)} {st : List Value} (C : hs_C X 0 RX6 cc nL hh) {i0 : Nat} {i1 : Nat} {r : Int32} {S' : hs_M} (hk : hs_K i0 = 5) (hM : hs_met 0 yX5_chooseKind cX5_chooseKind 2 (some .int) 3 (fun q => [.ref (q i0), .ref (q i1)]) S (fun q => some (.int r)) S') (hh1 : 3 < hh) (hrest : (st.map fun v => v.category).sum ≤ 8) (hd : decode cc pc = .ok (.invokevirtual 83, 3)) (kk : hs_Z X nL S' lv (.int r :: st) (pc + 3)) : hs_Z X nL S lv (.ref (hs_q X i1) :: .ref (hs_q X i0) :: st) pc := hs_callV (i := i0) (kd := 5) (na := 1) C ww_261 ww_263 ww_264 ww_176 ww_262 (by decide +kernel) (by decide) rfl (by decide) rfl hM rfl rfl (by decide +kernel) rfl hk hh1 hrest hd kk
theorem cs_X6_87 {X : hs_T} {nL hh pc : Nat} {cc : ByteArray} {S : hs_M} {lv : List (Nat × Value)} {st : List Value} (C : hs_C X 0 RX6 cc nL hh) {r : Nat} {S' : hs_M} (hM : hs_met 0 yX2_rowBehind cX2_rowBehind 1 (some (.object "HeaderSqueeze$Packet")) 0 (fun q => [.ref (q 4)]) S (fun q => some (.ref (q r))) S') (hh1 : 0 < hh) (hrest : (st.map fun v => v.category).sum ≤ 8) (hd : decode cc pc = .ok (.invokevirtual 87, 3)) (kk : hs_Z X nL S' lv (.ref (hs_q X r) :: st) (pc + 3)) : hs_Z X nL S lv (.ref (hs_q X 4) :: st) pc := hs_callV (i := 4) (kd := 2) (na := 0) C ww_265 ww_267 ww_268 ww_218 ww_266 (by decide +kernel) (by decide) rfl (by decide) rfl hM rfl rfl (by decide +kernel) rfl (show hs_K 4 = 2 by decide +kernel) hh1 hrest hd kk
theorem gf_X6_60 {X : hs_T} {nL hh pc : Nat} {cc : ByteArray} {S : hs_M} {lv : List (Nat × Value)} {st : List Value} (C : hs_C X 0 RX6 cc nL hh) {i : Nat} (hk : hs_K i = 5) (hd : decode cc pc = .ok (.getfield 60, 3)) (kk : hs_Z X nL S lv (.int (S i 1) :: st) (pc + 3)) : hs_Z X nL S lv (.ref (hs_q X i) :: st) pc := hs_get (kd := 5) (k := 1) (N := 8) C rfl hi5 rfl (by decide) rfl (by decide) ww_269 hk rfl hd kk
theorem cs_X6_91 {X : hs_T} {nL hh pc : Nat} {cc : ByteArray} {S : hs_M} {lv : List (Nat × Value)} {st : List Value} (C : hs_C X 0 RX6 cc nL hh) {i0 : Nat} {a1 : Int32} {a2 : Int32} {i3 : Nat} {a4 : Int32} {S' : hs_M} (hk : hs_K i0 = 3) (hM : hs_met 0 yX3_write cX3_write 7 none 3 (fun q => [.ref (q i0), .int a1, .int a2, .ref (q i3), .int a4]) S (fun q => none) S') (hh1 : 3 < hh) (hrest : (st.map fun v => v.category).sum ≤ 8) (hd : decode cc pc = .ok (.invokevirtual 91, 3)) (kk : hs_Z X nL S' lv (st) (pc + 3)) : hs_Z X nL S lv (.int a4 :: .ref (hs_q X i3) :: .int a2 :: .int a1 :: .ref (hs_q X i0) :: st) pc := hs_callV (i := i0) (kd := 3) (na := 4) C ww_270 ww_272 ww_273 ww_47 ww_271 (by decide +kernel) (by decide) rfl (by decide) rfl hM rfl rfl (by decide +kernel) rfl hk hh1 hrest hd kk
theorem cs_X6_97 {X : hs_T} {nL hh pc : Nat} {cc : ByteArray} {S : hs_M} {lv : List (Nat × Value)} {st : List Value} (C : hs_C X 0 RX6 cc nL hh) {i0 : Nat} {a1 : Int32} {a2 : Int32} {S' : hs_M} (hk : hs_K i0 = 5) (hM : hs_met 0 yX5_noteSent cX5_noteSent 3 none 1 (fun q => [.ref (q i0), .int a1, .int a2]) S (fun q => none) S') (hh1 : 1 < hh) (hrest : (st.map fun v => v.category).sum ≤ 8) (hd : decode cc pc = .ok (.invokevirtual 97, 3)) (kk : hs_Z X nL S' lv (st) (pc + 3)) : hs_Z X nL S lv (.int a2 :: .int a1 :: .ref (hs_q X i0) :: st) pc := hs_callV (i := i0) (kd := 5) (na := 2) C ww_274 ww_276 ww_277 ww_176 ww_275 (by decide +kernel) (by decide) rfl (by decide) rfl hM rfl rfl (by decide +kernel) rfl hk hh1 hrest hd kk
theorem cs_X6_104 {X : hs_T} {nL hh pc : Nat} {cc : ByteArray} {S : hs_M} {lv : List (Nat × Value)} {st : List Value} (C : hs_C X 0 RX6 cc nL hh) {r : Int32} {S' : hs_M} (hM : hs_met 0 yX2_addRowBehind cX2_addRowBehind 1 (some .boolean) 0 (fun q => [.ref (q 4)]) S (fun q => some (.int r)) S') (hh1 : 0 < hh) (hrest : (st.map fun v => v.category).sum ≤ 8) (hd : decode cc pc = .ok (.invokevirtual 104, 3)) (kk : hs_Z X nL S' lv (.int r :: st) (pc + 3)) : hs_Z X nL S lv (.ref (hs_q X 4) :: st) pc := hs_callV (i := 4) (kd := 2) (na := 0) C ww_278 ww_280 ww_281 ww_218 ww_279 (by decide +kernel) (by decide) rfl (by decide) rfl hM rfl rfl (by decide +kernel) rfl (show hs_K 4 = 2 by decide +kernel) hh1 hrest hd kk
theorem gf_X6_158 {X : hs_T} {nL hh pc : Nat} {cc : ByteArray} {S : hs_M} {lv : List (Nat × Value)} {st : List Value} (C : hs_C X 0 RX6 cc nL hh) {i : Nat} (hk : hs_K i = 5) (hd : decode cc pc = .ok (.getfield 158, 3)) (kk : hs_Z X nL S lv (.int (S i 2) :: st) (pc + 3)) : hs_Z X nL S lv (.ref (hs_q X i) :: st) pc := hs_get (kd := 5) (k := 2) (N := 8) C rfl hi5 rfl (by decide) rfl (by decide) ww_282 hk rfl hd kk
theorem gf_X6_161 {X : hs_T} {nL hh pc : Nat} {cc : ByteArray} {S : hs_M} {lv : List (Nat × Value)} {st : List Value} (C : hs_C X 0 RX6 cc nL hh) {i : Nat} (hk : hs_K i = 5) (hd : decode cc pc = .ok (.getfield 161, 3)) (kk : hs_Z X nL S lv (.int (S i 3) :: st) (pc + 3)) : hs_Z X nL S lv (.ref (hs_q X i) :: st) pc := hs_get (kd := 5) (k := 3) (N := 8) C rfl hi5 rfl (by decide) rfl (by decide) ww_283 hk rfl hd kk
theorem gf_X6_164 {X : hs_T} {nL hh pc : Nat} {cc : ByteArray} {S : hs_M} {lv : List (Nat × Value)} {st : List Value} (C : hs_C X 0 RX6 cc nL hh) {i : Nat} (hk : hs_K i = 5) (hd : decode cc pc = .ok (.getfield 164, 3)) (kk : hs_Z X nL S lv (.int (S i 4) :: st) (pc + 3)) : hs_Z X nL S lv (.ref (hs_q X i) :: st) pc := hs_get (kd := 5) (k := 4) (N := 8) C rfl hi5 rfl (by decide) rfl (by decide) ww_284 hk rfl hd kk
theorem gf_X6_167 {X : hs_T} {nL hh pc : Nat} {cc : ByteArray} {S : hs_M} {lv : List (Nat × Value)} {st : List Value} (C : hs_C X 0 RX6 cc nL hh) {i : Nat} (hk : hs_K i = 5) (hd : decode cc pc = .ok (.getfield 167, 3)) (kk : hs_Z X nL S lv (.ref (hs_q X (i + 4)) :: st) (pc + 3)) : hs_Z X nL S lv (.ref (hs_q X i) :: st) pc := hs_get (kd := 5) (k := 0) (N := 8) C rfl hi5 rfl (by decide) rfl (by decide) ww_285 hk rfl hd kk
theorem gf_X6_171 {X : hs_T} {nL hh pc : Nat} {cc : ByteArray} {S : hs_M} {lv : List (Nat × Value)} {st : List Value} (C : hs_C X 0 RX6 cc nL hh) {i : Nat} (hk : hs_K i = 0) (hd : decode cc pc = .ok (.getfield 171, 3)) (kk : hs_Z X nL S lv (.int (S i 3) :: st) (pc + 3)) : hs_Z X nL S lv (.ref (hs_q X i) :: st) pc := hs_get (kd := 0) (k := 3) (N := 5) C rfl hi0 rfl (by decide) rfl (by decide) ww_286 hk rfl hd kk
theorem gf_X6_176 {X : hs_T} {nL hh pc : Nat} {cc : ByteArray} {S : hs_M} {lv : List (Nat × Value)} {st : List Value} (C : hs_C X 0 RX6 cc nL hh) {i : Nat} (hk : hs_K i = 0) (hd : decode cc pc = .ok (.getfield 176, 3)) (kk : hs_Z X nL S lv (.int (S i 4) :: st) (pc + 3)) : hs_Z X nL S lv (.ref (hs_q X i) :: st) pc := hs_get (kd := 0) (k := 4) (N := 5) C rfl hi0 rfl (by decide) rfl (by decide) ww_287 hk rfl hd kk
theorem pf_X6_60 {X : hs_T} {nL hh pc : Nat} {cc : ByteArray} {S : hs_M} {lv : List (Nat × Value)} {st : List Value} (C : hs_C X 0 RX6 cc nL hh) {i : Nat} (hk : hs_K i = 5) {x : Int32} {ρ : Type} {G : hs_M → Option ρ} {res : ρ} (h : hs_l (hs_U S i 1 x) G = some res) (hd : decode cc pc = .ok (.putfield 60, 3)) (kk : ∀ S1 : hs_M, G S1 = some res → hs_Z X nL S1 lv st (pc + 3)) : hs_Z X nL S lv (.int x :: .ref (hs_q X i) :: st) pc := hs_put (kd := 5) (k := 1) (N := 8) C tyX5 tyX5_ok nmX5 rfl hi5 rfl (by decide) rfl (by decide) rfl ww_269 hk rfl rfl (hs_vU0 rfl) h hd kk
theorem gf_X7_121 {X : hs_T} {nL hh pc : Nat} {cc : ByteArray} {S : hs_M} {lv : List (Nat × Value)} {st : List Value} (C : hs_C X 1 RX7 cc nL hh) (hd : decode cc pc = .ok (.getfield 121, 3)) (kk : hs_Z X nL S lv (.int (S 100 31) :: st) (pc + 3)) : hs_Z X nL S lv (.ref (hs_q X 100) :: st) pc := hs_get (kd := 7) (k := 31) (N := 33) C rfl hi7 rfl (by decide) rfl (by decide) ww_288 (show hs_K 100 = 7 by decide +kernel) rfl hd kk
theorem cs_X7_167 {X : hs_T} {nL hh pc : Nat} {cc : ByteArray} {S : hs_M} {lv : List (Nat × Value)} {st : List Value} (C : hs_C X 1 RX7 cc nL hh) {a1 : Int32} {r : Int32} {S' : hs_M} (hM : hs_met 1 yX7_sizeOf cX7_sizeOf 2 (some .int) 0 (fun q => [.ref (q 100), .int a1]) S (fun q => some (.int r)) S') (hh1 : 0 < hh) (hrest : (st.map fun v => v.category).sum ≤ 8) (hd : decode cc pc = .ok (.invokevirtual 167, 3)) (kk : hs_Z X nL S' lv (.int r :: st) (pc + 3)) : hs_Z X nL S lv (.int a1 :: .ref (hs_q X 100) :: st) pc := hs_callV (i := 100) (kd := 7) (na := 1) C ww_289 ww_292 ww_293 ww_290 ww_291 (by decide +kernel) (by decide) rfl (by decide) rfl hM rfl rfl (by decide +kernel) rfl (show hs_K 100 = 7 by decide +kernel) hh1 hrest hd kk
theorem gf_X7_89 {X : hs_T} {nL hh pc : Nat} {cc : ByteArray} {S : hs_M} {lv : List (Nat × Value)} {st : List Value} (C : hs_C X 1 RX7 cc nL hh) (hd : decode cc pc = .ok (.getfield 89, 3)) (kk : hs_Z X nL S lv (.ref (hs_q X 127) :: st) (pc + 3)) : hs_Z X nL S lv (.ref (hs_q X 100) :: st) pc := hs_get (kd := 7) (k := 32) (N := 33) C rfl hi7 rfl (by decide) rfl (by decide) ww_294 (show hs_K 100 = 7 by decide +kernel) rfl hd kk
theorem gf_X7_154 {X : hs_T} {nL hh pc : Nat} {cc : ByteArray} {S : hs_M} {lv : List (Nat × Value)} {st : List Value} (C : hs_C X 1 RX7 cc nL hh) (hd : decode cc pc = .ok (.getfield 154, 3)) (kk : hs_Z X nL S lv (.int (S 100 16) :: st) (pc + 3)) : hs_Z X nL S lv (.ref (hs_q X 100) :: st) pc := hs_get (kd := 7) (k := 16) (N := 33) C rfl hi7 rfl (by decide) rfl (by decide) ww_295 (show hs_K 100 = 7 by decide +kernel) rfl hd kk
theorem cs_X7_157 {X : hs_T} {nL hh pc : Nat} {cc : ByteArray} {S : hs_M} {lv : List (Nat × Value)} {st : List Value} (C : hs_C X 1 RX7 cc nL hh) {a1 : Int32} {r : Int32} {S' : hs_M} (hM : hs_met 1 yX7_noPacket cX7_noPacket 2 (some .boolean) 0 (fun q => [.ref (q 100), .int a1]) S (fun q => some (.int r)) S') (hh1 : 0 < hh) (hrest : (st.map fun v => v.category).sum ≤ 8) (hd : decode cc pc = .ok (.invokevirtual 157, 3)) (kk : hs_Z X nL S' lv (.int r :: st) (pc + 3)) : hs_Z X nL S lv (.int a1 :: .ref (hs_q X 100) :: st) pc := hs_callV (i := 100) (kd := 7) (na := 1) C ww_296 ww_298 ww_299 ww_290 ww_297 (by decide +kernel) (by decide) rfl (by decide) rfl hM rfl rfl (by decide +kernel) rfl (show hs_K 100 = 7 by decide +kernel) hh1 hrest hd kk
theorem gf_X7_47 {X : hs_T} {nL hh pc : Nat} {cc : ByteArray} {S : hs_M} {lv : List (Nat × Value)} {st : List Value} (C : hs_C X 1 RX7 cc nL hh) (hd : decode cc pc = .ok (.getfield 47, 3)) (kk : hs_Z X nL S lv (.ref (hs_q X 113) :: st) (pc + 3)) : hs_Z X nL S lv (.ref (hs_q X 100) :: st) pc := hs_get (kd := 7) (k := 17) (N := 33) C rfl hi7 rfl (by decide) rfl (by decide) ww_300 (show hs_K 100 = 7 by decide +kernel) rfl hd kk
theorem pf_X7_92 {X : hs_T} {nL hh pc : Nat} {cc : ByteArray} {S : hs_M} {lv : List (Nat × Value)} {st : List Value} (C : hs_C X 1 RX7 cc nL hh) {x : Int32} {ρ : Type} {G : hs_M → Option ρ} {res : ρ} (h : hs_l (hs_U S 100 0 x) G = some res) (hd : decode cc pc = .ok (.putfield 92, 3)) (kk : ∀ S1 : hs_M, G S1 = some res → hs_Z X nL S1 lv st (pc + 3)) : hs_Z X nL S lv (.int x :: .ref (hs_q X 100) :: st) pc := hs_put (kd := 7) (k := 0) (N := 33) C tyX7 tyX7_ok nmX7 rfl hi7 rfl (by decide) rfl (by decide) rfl ww_301 (show hs_K 100 = 7 by decide +kernel) rfl rfl (hs_vU0 rfl) h hd kk
theorem gf_X7_92 {X : hs_T} {nL hh pc : Nat} {cc : ByteArray} {S : hs_M} {lv : List (Nat × Value)} {st : List Value} (C : hs_C X 1 RX7 cc nL hh) (hd : decode cc pc = .ok (.getfield 92, 3)) (kk : hs_Z X nL S lv (.int (S 100 0) :: st) (pc + 3)) : hs_Z X nL S lv (.ref (hs_q X 100) :: st) pc := hs_get (kd := 7) (k := 0) (N := 33) C rfl hi7 rfl (by decide) rfl (by decide) ww_301 (show hs_K 100 = 7 by decide +kernel) rfl hd kk
theorem gf_X7_50 {X : hs_T} {nL hh pc : Nat} {cc : ByteArray} {S : hs_M} {lv : List (Nat × Value)} {st : List Value} (C : hs_C X 1 RX7 cc nL hh) (hd : decode cc pc = .ok (.getfield 50, 3)) (kk : hs_Z X nL S lv (.ref (hs_q X 114) :: st) (pc + 3)) : hs_Z X nL S lv (.ref (hs_q X 100) :: st) pc := hs_get (kd := 7) (k := 18) (N := 33) C rfl hi7 rfl (by decide) rfl (by decide) ww_302 (show hs_K 100 = 7 by decide +kernel) rfl hd kk
theorem cs_X7_160 {X : hs_T} {nL hh pc : Nat} {cc : ByteArray} {S : hs_M} {lv : List (Nat × Value)} {st : List Value} (C : hs_C X 1 RX7 cc nL hh) {a1 : Int32} {a2 : Int32} {r : Int32} {S' : hs_M} (hM : hs_met 1 yX7_noByte cX7_noByte 3 (some .boolean) 1 (fun q => [.ref (q 100), .int a1, .int a2]) S (fun q => some (.int r)) S') (hh1 : 1 < hh) (hrest : (st.map fun v => v.category).sum ≤ 8) (hd : decode cc pc = .ok (.invokevirtual 160, 3)) (kk : hs_Z X nL S' lv (.int r :: st) (pc + 3)) : hs_Z X nL S lv (.int a2 :: .int a1 :: .ref (hs_q X 100) :: st) pc := hs_callV (i := 100) (kd := 7) (na := 2) C ww_303 ww_305 ww_306 ww_290 ww_304 (by decide +kernel) (by decide) rfl (by decide) rfl hM rfl rfl (by decide +kernel) rfl (show hs_K 100 = 7 by decide +kernel) hh1 hrest hd kk
theorem gf_X7_41 {X : hs_T} {nL hh pc : Nat} {cc : ByteArray} {S : hs_M} {lv : List (Nat × Value)} {st : List Value} (C : hs_C X 1 RX7 cc nL hh) (hd : decode cc pc = .ok (.getfield 41, 3)) (kk : hs_Z X nL S lv (.ref (hs_q X 111) :: st) (pc + 3)) : hs_Z X nL S lv (.ref (hs_q X 100) :: st) pc := hs_get (kd := 7) (k := 14) (N := 33) C rfl hi7 rfl (by decide) rfl (by decide) ww_307 (show hs_K 100 = 7 by decide +kernel) rfl hd kk
theorem gf_X7_44 {X : hs_T} {nL hh pc : Nat} {cc : ByteArray} {S : hs_M} {lv : List (Nat × Value)} {st : List Value} (C : hs_C X 1 RX7 cc nL hh) (hd : decode cc pc = .ok (.getfield 44, 3)) (kk : hs_Z X nL S lv (.ref (hs_q X 112) :: st) (pc + 3)) : hs_Z X nL S lv (.ref (hs_q X 100) :: st) pc := hs_get (kd := 7) (k := 15) (N := 33) C rfl hi7 rfl (by decide) rfl (by decide) ww_308 (show hs_K 100 = 7 by decide +kernel) rfl hd kk
theorem cs_X7_114 {X : hs_T} {nL hh pc : Nat} {cc : ByteArray} {S : hs_M} {lv : List (Nat × Value)} {st : List Value} (C : hs_C X 1 RX7 cc nL hh) {a1 : Int32} {r : Int32} {S' : hs_M} (hM : hs_met 1 yX7_backOf cX7_backOf 2 (some .int) 0 (fun q => [.ref (q 100), .int a1]) S (fun q => some (.int r)) S') (hh1 : 0 < hh) (hrest : (st.map fun v => v.category).sum ≤ 8) (hd : decode cc pc = .ok (.invokevirtual 114, 3)) (kk : hs_Z X nL S' lv (.int r :: st) (pc + 3)) : hs_Z X nL S lv (.int a1 :: .ref (hs_q X 100) :: st) pc := hs_callV (i := 100) (kd := 7) (na := 1) C ww_309 ww_311 ww_312 ww_290 ww_310 (by decide +kernel) (by decide) rfl (by decide) rfl hM rfl rfl (by decide +kernel) rfl (show hs_K 100 = 7 by decide +kernel) hh1 hrest hd kk
theorem cs_X7_118 {X : hs_T} {nL hh pc : Nat} {cc : ByteArray} {S : hs_M} {lv : List (Nat × Value)} {st : List Value} (C : hs_C X 1 RX7 cc nL hh) {a1 : Int32} {r : Int32} {S' : hs_M} (hM : hs_met 1 yX7_bitsOf cX7_bitsOf 2 (some .int) 0 (fun q => [.ref (q 100), .int a1]) S (fun q => some (.int r)) S') (hh1 : 0 < hh) (hrest : (st.map fun v => v.category).sum ≤ 8) (hd : decode cc pc = .ok (.invokevirtual 118, 3)) (kk : hs_Z X nL S' lv (.int r :: st) (pc + 3)) : hs_Z X nL S lv (.int a1 :: .ref (hs_q X 100) :: st) pc := hs_callV (i := 100) (kd := 7) (na := 1) C ww_314 ww_316 ww_317 ww_290 ww_315 (by decide +kernel) (by decide) rfl (by decide) rfl hM rfl rfl (by decide +kernel) rfl (show hs_K 100 = 7 by decide +kernel) hh1 hrest hd kk
theorem cs_X7_135 {X : hs_T} {nL hh pc : Nat} {cc : ByteArray} {S : hs_M} {lv : List (Nat × Value)} {st : List Value} (C : hs_C X 1 RX7 cc nL hh) {a1 : Int32} {a2 : Int32} {a3 : Int32} {r : Int32} {S' : hs_M} (hM : hs_met 1 yX7_enough cX7_enough 7 (some .boolean) 1 (fun q => [.ref (q 100), .int a1, .int a2, .int a3]) S (fun q => some (.int r)) S') (hh1 : 1 < hh) (hrest : (st.map fun v => v.category).sum ≤ 8) (hd : decode cc pc = .ok (.invokevirtual 135, 3)) (kk : hs_Z X nL S' lv (.int r :: st) (pc + 3)) : hs_Z X nL S lv (.int a3 :: .int a2 :: .int a1 :: .ref (hs_q X 100) :: st) pc := hs_callV (i := 100) (kd := 7) (na := 3) C ww_318 ww_320 ww_321 ww_290 ww_319 (by decide +kernel) (by decide) rfl (by decide) rfl hM rfl rfl (by decide +kernel) rfl (show hs_K 100 = 7 by decide +kernel) hh1 hrest hd kk
theorem gf_X7_32 {X : hs_T} {nL hh pc : Nat} {cc : ByteArray} {S : hs_M} {lv : List (Nat × Value)} {st : List Value} (C : hs_C X 1 RX7 cc nL hh) (hd : decode cc pc = .ok (.getfield 32, 3)) (kk : hs_Z X nL S lv (.ref (hs_q X 108) :: st) (pc + 3)) : hs_Z X nL S lv (.ref (hs_q X 100) :: st) pc := hs_get (kd := 7) (k := 11) (N := 33) C rfl hi7 rfl (by decide) rfl (by decide) ww_322 (show hs_K 100 = 7 by decide +kernel) rfl hd kk
theorem gf_X7_110 {X : hs_T} {nL hh pc : Nat} {cc : ByteArray} {S : hs_M} {lv : List (Nat × Value)} {st : List Value} (C : hs_C X 1 RX7 cc nL hh) (hd : decode cc pc = .ok (.getfield 110, 3)) (kk : hs_Z X nL S lv (.int (S 100 3) :: st) (pc + 3)) : hs_Z X nL S lv (.ref (hs_q X 100) :: st) pc := hs_get (kd := 7) (k := 3) (N := 33) C rfl hi7 rfl (by decide) rfl (by decide) ww_323 (show hs_K 100 = 7 by decide +kernel) rfl hd kk
theorem gf_X7_86 {X : hs_T} {nL hh pc : Nat} {cc : ByteArray} {S : hs_M} {lv : List (Nat × Value)} {st : List Value} (C : hs_C X 1 RX7 cc nL hh) (hd : decode cc pc = .ok (.getfield 86, 3)) (kk : hs_Z X nL S lv (.ref (hs_q X 126) :: st) (pc + 3)) : hs_Z X nL S lv (.ref (hs_q X 100) :: st) pc := hs_get (kd := 7) (k := 30) (N := 33) C rfl hi7 rfl (by decide) rfl (by decide) ww_324 (show hs_K 100 = 7 by decide +kernel) rfl hd kk
theorem cs_X7_128 {X : hs_T} {nL hh pc : Nat} {cc : ByteArray} {S : hs_M} {lv : List (Nat × Value)} {st : List Value} (C : hs_C X 1 RX7 cc nL hh) {a1 : Int32} {a2 : Int32} {r : Int32} {S' : hs_M} (hM : hs_met 1 yX7_sum cX7_sum 8 (some .int) 0 (fun q => [.ref (q 100), .int a1, .int a2]) S (fun q => some (.int r)) S') (hh1 : 0 < hh) (hrest : (st.map fun v => v.category).sum ≤ 8) (hd : decode cc pc = .ok (.invokevirtual 128, 3)) (kk : hs_Z X nL S' lv (.int r :: st) (pc + 3)) : hs_Z X nL S lv (.int a2 :: .int a1 :: .ref (hs_q X 100) :: st) pc := hs_callV (i := 100) (kd := 7) (na := 2) C ww_325 ww_327 ww_328 ww_290 ww_326 (by decide +kernel) (by decide) rfl (by decide) rfl hM rfl rfl (by decide +kernel) rfl (show hs_K 100 = 7 by decide +kernel) hh1 hrest hd kk
theorem gf_X7_56 {X : hs_T} {nL hh pc : Nat} {cc : ByteArray} {S : hs_M} {lv : List (Nat × Value)} {st : List Value} (C : hs_C X 1 RX7 cc nL hh) (hd : decode cc pc = .ok (.getfield 56, 3)) (kk : hs_Z X nL S lv (.ref (hs_q X 116) :: st) (pc + 3)) : hs_Z X nL S lv (.ref (hs_q X 100) :: st) pc := hs_get (kd := 7) (k := 20) (N := 33) C rfl hi7 rfl (by decide) rfl (by decide) ww_329 (show hs_K 100 = 7 by decide +kernel) rfl hd kk
theorem gf_X7_59 {X : hs_T} {nL hh pc : Nat} {cc : ByteArray} {S : hs_M} {lv : List (Nat × Value)} {st : List Value} (C : hs_C X 1 RX7 cc nL hh) (hd : decode cc pc = .ok (.getfield 59, 3)) (kk : hs_Z X nL S lv (.ref (hs_q X 117) :: st) (pc + 3)) : hs_Z X nL S lv (.ref (hs_q X 100) :: st) pc := hs_get (kd := 7) (k := 21) (N := 33) C rfl hi7 rfl (by decide) rfl (by decide) ww_330 (show hs_K 100 = 7 by decide +kernel) rfl hd kk
theorem gf_X7_65 {X : hs_T} {nL hh pc : Nat} {cc : ByteArray} {S : hs_M} {lv : List (Nat × Value)} {st : List Value} (C : hs_C X 1 RX7 cc nL hh) (hd : decode cc pc = .ok (.getfield 65, 3)) (kk : hs_Z X nL S lv (.ref (hs_q X 119) :: st) (pc + 3)) : hs_Z X nL S lv (.ref (hs_q X 100) :: st) pc := hs_get (kd := 7) (k := 23) (N := 33) C rfl hi7 rfl (by decide) rfl (by decide) ww_331 (show hs_K 100 = 7 by decide +kernel) rfl hd kk
theorem gf_X7_62 {X : hs_T} {nL hh pc : Nat} {cc : ByteArray} {S : hs_M} {lv : List (Nat × Value)} {st : List Value} (C : hs_C X 1 RX7 cc nL hh) (hd : decode cc pc = .ok (.getfield 62, 3)) (kk : hs_Z X nL S lv (.ref (hs_q X 118) :: st) (pc + 3)) : hs_Z X nL S lv (.ref (hs_q X 100) :: st) pc := hs_get (kd := 7) (k := 22) (N := 33) C rfl hi7 rfl (by decide) rfl (by decide) ww_332 (show hs_K 100 = 7 by decide +kernel) rfl hd kk
theorem gf_X7_68 {X : hs_T} {nL hh pc : Nat} {cc : ByteArray} {S : hs_M} {lv : List (Nat × Value)} {st : List Value} (C : hs_C X 1 RX7 cc nL hh) (hd : decode cc pc = .ok (.getfield 68, 3)) (kk : hs_Z X nL S lv (.ref (hs_q X 120) :: st) (pc + 3)) : hs_Z X nL S lv (.ref (hs_q X 100) :: st) pc := hs_get (kd := 7) (k := 24) (N := 33) C rfl hi7 rfl (by decide) rfl (by decide) ww_333 (show hs_K 100 = 7 by decide +kernel) rfl hd kk
theorem cs_X7_142 {X : hs_T} {nL hh pc : Nat} {cc : ByteArray} {S : hs_M} {lv : List (Nat × Value)} {st : List Value} (C : hs_C X 1 RX7 cc nL hh) {a1 : Int32} {a2 : Int32} {a3 : Int32} {a4 : Int32} {a5 : Int32} {a6 : Int32} {S' : hs_M} (hM : hs_met 1 yX7_fill cX7_fill 8 none 0 (fun q => [.ref (q 100), .int a1, .int a2, .int a3, .int a4, .int a5, .int a6]) S (fun q => none) S') (hh1 : 0 < hh) (hrest : (st.map fun v => v.category).sum ≤ 8) (hd : decode cc pc = .ok (.invokevirtual 142, 3)) (kk : hs_Z X nL S' lv (st) (pc + 3)) : hs_Z X nL S lv (.int a6 :: .int a5 :: .int a4 :: .int a3 :: .int a2 :: .int a1 :: .ref (hs_q X 100) :: st) pc := hs_callV (i := 100) (kd := 7) (na := 6) C ww_334 ww_336 ww_337 ww_290 ww_335 (by decide +kernel) (by decide) rfl (by decide) rfl hM rfl rfl (by decide +kernel) rfl (show hs_K 100 = 7 by decide +kernel) hh1 hrest hd kk
theorem gf_X7_80 {X : hs_T} {nL hh pc : Nat} {cc : ByteArray} {S : hs_M} {lv : List (Nat × Value)} {st : List Value} (C : hs_C X 1 RX7 cc nL hh) (hd : decode cc pc = .ok (.getfield 80, 3)) (kk : hs_Z X nL S lv (.ref (hs_q X 124) :: st) (pc + 3)) : hs_Z X nL S lv (.ref (hs_q X 100) :: st) pc := hs_get (kd := 7) (k := 28) (N := 33) C rfl hi7 rfl (by decide) rfl (by decide) ww_338 (show hs_K 100 = 7 by decide +kernel) rfl hd kk
theorem gf_X7_71 {X : hs_T} {nL hh pc : Nat} {cc : ByteArray} {S : hs_M} {lv : List (Nat × Value)} {st : List Value} (C : hs_C X 1 RX7 cc nL hh) (hd : decode cc pc = .ok (.getfield 71, 3)) (kk : hs_Z X nL S lv (.ref (hs_q X 121) :: st) (pc + 3)) : hs_Z X nL S lv (.ref (hs_q X 100) :: st) pc := hs_get (kd := 7) (k := 25) (N := 33) C rfl hi7 rfl (by decide) rfl (by decide) ww_339 (show hs_K 100 = 7 by decide +kernel) rfl hd kk
theorem gf_X7_77 {X : hs_T} {nL hh pc : Nat} {cc : ByteArray} {S : hs_M} {lv : List (Nat × Value)} {st : List Value} (C : hs_C X 1 RX7 cc nL hh) (hd : decode cc pc = .ok (.getfield 77, 3)) (kk : hs_Z X nL S lv (.ref (hs_q X 123) :: st) (pc + 3)) : hs_Z X nL S lv (.ref (hs_q X 100) :: st) pc := hs_get (kd := 7) (k := 27) (N := 33) C rfl hi7 rfl (by decide) rfl (by decide) ww_340 (show hs_K 100 = 7 by decide +kernel) rfl hd kk
theorem gf_X7_83 {X : hs_T} {nL hh pc : Nat} {cc : ByteArray} {S : hs_M} {lv : List (Nat × Value)} {st : List Value} (C : hs_C X 1 RX7 cc nL hh) (hd : decode cc pc = .ok (.getfield 83, 3)) (kk : hs_Z X nL S lv (.ref (hs_q X 125) :: st) (pc + 3)) : hs_Z X nL S lv (.ref (hs_q X 100) :: st) pc := hs_get (kd := 7) (k := 29) (N := 33) C rfl hi7 rfl (by decide) rfl (by decide) ww_341 (show hs_K 100 = 7 by decide +kernel) rfl hd kk
theorem gf_X7_74 {X : hs_T} {nL hh pc : Nat} {cc : ByteArray} {S : hs_M} {lv : List (Nat × Value)} {st : List Value} (C : hs_C X 1 RX7 cc nL hh) (hd : decode cc pc = .ok (.getfield 74, 3)) (kk : hs_Z X nL S lv (.ref (hs_q X 122) :: st) (pc + 3)) : hs_Z X nL S lv (.ref (hs_q X 100) :: st) pc := hs_get (kd := 7) (k := 26) (N := 33) C rfl hi7 rfl (by decide) rfl (by decide) ww_342 (show hs_K 100 = 7 by decide +kernel) rfl hd kk
theorem gf_X7_53 {X : hs_T} {nL hh pc : Nat} {cc : ByteArray} {S : hs_M} {lv : List (Nat × Value)} {st : List Value} (C : hs_C X 1 RX7 cc nL hh) (hd : decode cc pc = .ok (.getfield 53, 3)) (kk : hs_Z X nL S lv (.ref (hs_q X 115) :: st) (pc + 3)) : hs_Z X nL S lv (.ref (hs_q X 100) :: st) pc := hs_get (kd := 7) (k := 19) (N := 33) C rfl hi7 rfl (by decide) rfl (by decide) ww_343 (show hs_K 100 = 7 by decide +kernel) rfl hd kk
theorem cs_X7_178 {X : hs_T} {nL hh pc : Nat} {cc : ByteArray} {S : hs_M} {lv : List (Nat × Value)} {st : List Value} (C : hs_C X 1 RX7 cc nL hh) {a1 : Int32} {a2 : Int32} {S' : hs_M} (hM : hs_met 1 yX7_keep cX7_keep 4 none 0 (fun q => [.ref (q 100), .int a1, .int a2]) S (fun q => none) S') (hh1 : 0 < hh) (hrest : (st.map fun v => v.category).sum ≤ 8) (hd : decode cc pc = .ok (.invokevirtual 178, 3)) (kk : hs_Z X nL S' lv (st) (pc + 3)) : hs_Z X nL S lv (.int a2 :: .int a1 :: .ref (hs_q X 100) :: st) pc := hs_callV (i := 100) (kd := 7) (na := 2) C ww_344 ww_346 ww_347 ww_290 ww_345 (by decide +kernel) (by decide) rfl (by decide) rfl hM rfl rfl (by decide +kernel) rfl (show hs_K 100 = 7 by decide +kernel) hh1 hrest hd kk
theorem cs_X7_170 {X : hs_T} {nL hh pc : Nat} {cc : ByteArray} {S : hs_M} {lv : List (Nat × Value)} {st : List Value} (C : hs_C X 1 RX7 cc nL hh) {a1 : Int32} {a2 : Int32} {a3 : Int32} {r : Int32} {S' : hs_M} (hM : hs_met 1 yX7_near cX7_near 6 (some .int) 1 (fun q => [.ref (q 100), .int a1, .int a2, .int a3]) S (fun q => some (.int r)) S') (hh1 : 1 < hh) (hrest : (st.map fun v => v.category).sum ≤ 8) (hd : decode cc pc = .ok (.invokevirtual 170, 3)) (kk : hs_Z X nL S' lv (.int r :: st) (pc + 3)) : hs_Z X nL S lv (.int a3 :: .int a2 :: .int a1 :: .ref (hs_q X 100) :: st) pc := hs_callV (i := 100) (kd := 7) (na := 3) C ww_348 ww_350 ww_351 ww_290 ww_349 (by decide +kernel) (by decide) rfl (by decide) rfl hM rfl rfl (by decide +kernel) rfl (show hs_K 100 = 7 by decide +kernel) hh1 hrest hd kk
theorem cs_X7_174 {X : hs_T} {nL hh pc : Nat} {cc : ByteArray} {S : hs_M} {lv : List (Nat × Value)} {st : List Value} (C : hs_C X 1 RX7 cc nL hh) {a1 : Int32} {a2 : Int32} {a3 : Int32} {a4 : Int32} {a5 : Int32} {r : Int32} {S' : hs_M} (hM : hs_met 1 yX7_fits cX7_fits 6 (some .boolean) 1 (fun q => [.ref (q 100), .int a1, .int a2, .int a3, .int a4, .int a5]) S (fun q => some (.int r)) S') (hh1 : 1 < hh) (hrest : (st.map fun v => v.category).sum ≤ 8) (hd : decode cc pc = .ok (.invokevirtual 174, 3)) (kk : hs_Z X nL S' lv (.int r :: st) (pc + 3)) : hs_Z X nL S lv (.int a5 :: .int a4 :: .int a3 :: .int a2 :: .int a1 :: .ref (hs_q X 100) :: st) pc := hs_callV (i := 100) (kd := 7) (na := 5) C ww_352 ww_354 ww_355 ww_290 ww_353 (by decide +kernel) (by decide) rfl (by decide) rfl hM rfl rfl (by decide +kernel) rfl (show hs_K 100 = 7 by decide +kernel) hh1 hrest hd kk
theorem cs_X7_181 {X : hs_T} {nL hh pc : Nat} {cc : ByteArray} {S : hs_M} {lv : List (Nat × Value)} {st : List Value} (C : hs_C X 1 RX7 cc nL hh) {a1 : Int32} {r : Int32} {S' : hs_M} (hM : hs_met 1 yX7_two cX7_two 2 (some .int) 0 (fun q => [.ref (q 100), .int a1]) S (fun q => some (.int r)) S') (hh1 : 0 < hh) (hrest : (st.map fun v => v.category).sum ≤ 8) (hd : decode cc pc = .ok (.invokevirtual 181, 3)) (kk : hs_Z X nL S' lv (.int r :: st) (pc + 3)) : hs_Z X nL S lv (.int a1 :: .ref (hs_q X 100) :: st) pc := hs_callV (i := 100) (kd := 7) (na := 1) C ww_356 ww_358 ww_359 ww_290 ww_357 (by decide +kernel) (by decide) rfl (by decide) rfl hM rfl rfl (by decide +kernel) rfl (show hs_K 100 = 7 by decide +kernel) hh1 hrest hd kk
theorem pf_X7_154 {X : hs_T} {nL hh pc : Nat} {cc : ByteArray} {S : hs_M} {lv : List (Nat × Value)} {st : List Value} (C : hs_C X 1 RX7 cc nL hh) {x : Int32} {ρ : Type} {G : hs_M → Option ρ} {res : ρ} (h : hs_l (hs_U S 100 16 x) G = some res) (hd : decode cc pc = .ok (.putfield 154, 3)) (kk : ∀ S1 : hs_M, G S1 = some res → hs_Z X nL S1 lv st (pc + 3)) : hs_Z X nL S lv (.int x :: .ref (hs_q X 100) :: st) pc := hs_put (kd := 7) (k := 16) (N := 33) C tyX7 tyX7_ok nmX7 rfl hi7 rfl (by decide) rfl (by decide) rfl ww_295 (show hs_K 100 = 7 by decide +kernel) rfl rfl (hs_vU0 rfl) h hd kk
theorem cs_X7_196 {X : hs_T} {nL hh pc : Nat} {cc : ByteArray} {S : hs_M} {lv : List (Nat × Value)} {st : List Value} (C : hs_C X 1 RX7 cc nL hh) {a1 : Int32} {S' : hs_M} (hM : hs_met 1 yX7_fail cX7_fail 2 none 0 (fun q => [.ref (q 100), .int a1]) S (fun q => none) S') (hh1 : 0 < hh) (hrest : (st.map fun v => v.category).sum ≤ 8) (hd : decode cc pc = .ok (.invokevirtual 196, 3)) (kk : hs_Z X nL S' lv (st) (pc + 3)) : hs_Z X nL S lv (.int a1 :: .ref (hs_q X 100) :: st) pc := hs_callV (i := 100) (kd := 7) (na := 1) C ww_360 ww_362 ww_363 ww_290 ww_361 (by decide +kernel) (by decide) rfl (by decide) rfl hM rfl rfl (by decide +kernel) rfl (show hs_K 100 = 7 by decide +kernel) hh1 hrest hd kk
theorem cs_X7_193 {X : hs_T} {nL hh pc : Nat} {cc : ByteArray} {S : hs_M} {lv : List (Nat × Value)} {st : List Value} (C : hs_C X 1 RX7 cc nL hh) {a1 : Int32} {a2 : Int32} {a3 : Int32} {r : Int32} {S' : hs_M} (hM : hs_met 1 yX7_comeWhole cX7_comeWhole 11 (some .boolean) 1 (fun q => [.ref (q 100), .int a1, .int a2, .int a3]) S (fun q => some (.int r)) S') (hh1 : 1 < hh) (hrest : (st.map fun v => v.category).sum ≤ 8) (hd : decode cc pc = .ok (.invokevirtual 193, 3)) (kk : hs_Z X nL S' lv (.int r :: st) (pc + 3)) : hs_Z X nL S lv (.int a3 :: .int a2 :: .int a1 :: .ref (hs_q X 100) :: st) pc := hs_callV (i := 100) (kd := 7) (na := 3) C ww_364 ww_366 ww_367 ww_290 ww_365 (by decide +kernel) (by decide) rfl (by decide) rfl hM rfl rfl (by decide +kernel) rfl (show hs_K 100 = 7 by decide +kernel) hh1 hrest hd kk
theorem cs_X7_190 {X : hs_T} {nL hh pc : Nat} {cc : ByteArray} {S : hs_M} {lv : List (Nat × Value)} {st : List Value} (C : hs_C X 1 RX7 cc nL hh) {a1 : Int32} {a2 : Int32} {a3 : Int32} {r : Int32} {S' : hs_M} (hM : hs_met 1 yX7_comeSmall cX7_comeSmall 10 (some .int) 2 (fun q => [.ref (q 100), .int a1, .int a2, .int a3]) S (fun q => some (.int r)) S') (hh1 : 2 < hh) (hrest : (st.map fun v => v.category).sum ≤ 8) (hd : decode cc pc = .ok (.invokevirtual 190, 3)) (kk : hs_Z X nL S' lv (.int r :: st) (pc + 3)) : hs_Z X nL S lv (.int a3 :: .int a2 :: .int a1 :: .ref (hs_q X 100) :: st) pc := hs_callV (i := 100) (kd := 7) (na := 3) C ww_368 ww_370 ww_371 ww_290 ww_369 (by decide +kernel) (by decide) rfl (by decide) rfl hM rfl rfl (by decide +kernel) rfl (show hs_K 100 = 7 by decide +kernel) hh1 hrest hd kk
theorem cs_X7_187 {X : hs_T} {nL hh pc : Nat} {cc : ByteArray} {S : hs_M} {lv : List (Nat × Value)} {st : List Value} (C : hs_C X 1 RX7 cc nL hh) {a1 : Int32} {a2 : Int32} {r : Int32} {S' : hs_M} (hM : hs_met 1 yX7_broken cX7_broken 3 (some .boolean) 1 (fun q => [.ref (q 100), .int a1, .int a2]) S (fun q => some (.int r)) S') (hh1 : 1 < hh) (hrest : (st.map fun v => v.category).sum ≤ 8) (hd : decode cc pc = .ok (.invokevirtual 187, 3)) (kk : hs_Z X nL S' lv (.int r :: st) (pc + 3)) : hs_Z X nL S lv (.int a2 :: .int a1 :: .ref (hs_q X 100) :: st) pc := hs_callV (i := 100) (kd := 7) (na := 2) C ww_372 ww_374 ww_375 ww_290 ww_373 (by decide +kernel) (by decide) rfl (by decide) rfl hM rfl rfl (by decide +kernel) rfl (show hs_K 100 = 7 by decide +kernel) hh1 hrest hd kk
theorem cs_X7_184 {X : hs_T} {nL hh pc : Nat} {cc : ByteArray} {S : hs_M} {lv : List (Nat × Value)} {st : List Value} (C : hs_C X 1 RX7 cc nL hh) {a1 : Int32} {r : Int32} {S' : hs_M} (hM : hs_met 1 yX7_kindOf cX7_kindOf 2 (some .int) 0 (fun q => [.ref (q 100), .int a1]) S (fun q => some (.int r)) S') (hh1 : 0 < hh) (hrest : (st.map fun v => v.category).sum ≤ 8) (hd : decode cc pc = .ok (.invokevirtual 184, 3)) (kk : hs_Z X nL S' lv (.int r :: st) (pc + 3)) : hs_Z X nL S lv (.int a1 :: .ref (hs_q X 100) :: st) pc := hs_callV (i := 100) (kd := 7) (na := 1) C ww_376 ww_378 ww_379 ww_290 ww_377 (by decide +kernel) (by decide) rfl (by decide) rfl hM rfl rfl (by decide +kernel) rfl (show hs_K 100 = 7 by decide +kernel) hh1 hrest hd kk
theorem cs_X7_164 {X : hs_T} {nL hh pc : Nat} {cc : ByteArray} {S : hs_M} {lv : List (Nat × Value)} {st : List Value} (C : hs_C X 1 RX7 cc nL hh) {a1 : Int32} {S' : hs_M} (hM : hs_met 1 yX7_off cX7_off 4 none 0 (fun q => [.ref (q 100), .int a1]) S (fun q => none) S') (hh1 : 0 < hh) (hrest : (st.map fun v => v.category).sum ≤ 8) (hd : decode cc pc = .ok (.invokevirtual 164, 3)) (kk : hs_Z X nL S' lv (st) (pc + 3)) : hs_Z X nL S lv (.int a1 :: .ref (hs_q X 100) :: st) pc := hs_callV (i := 100) (kd := 7) (na := 1) C ww_380 ww_382 ww_383 ww_290 ww_381 (by decide +kernel) (by decide) rfl (by decide) rfl hM rfl rfl (by decide +kernel) rfl (show hs_K 100 = 7 by decide +kernel) hh1 hrest hd kk
theorem pf_X7_121 {X : hs_T} {nL hh pc : Nat} {cc : ByteArray} {S : hs_M} {lv : List (Nat × Value)} {st : List Value} (C : hs_C X 1 RX7 cc nL hh) {x : Int32} {ρ : Type} {G : hs_M → Option ρ} {res : ρ} (h : hs_l (hs_U S 100 31 x) G = some res) (hd : decode cc pc = .ok (.putfield 121, 3)) (kk : ∀ S1 : hs_M, G S1 = some res → hs_Z X nL S1 lv st (pc + 3)) : hs_Z X nL S lv (.int x :: .ref (hs_q X 100) :: st) pc := hs_put (kd := 7) (k := 31) (N := 33) C tyX7 tyX7_ok nmX7 rfl hi7 rfl (by decide) rfl (by decide) rfl ww_288 (show hs_K 100 = 7 by decide +kernel) rfl rfl (hs_vU0 rfl) h hd kk
theorem pf_X7_104 {X : hs_T} {nL hh pc : Nat} {cc : ByteArray} {S : hs_M} {lv : List (Nat × Value)} {st : List Value} (C : hs_C X 1 RX7 cc nL hh) {x : Int32} {ρ : Type} {G : hs_M → Option ρ} {res : ρ} (h : hs_l (hs_U S 100 1 x) G = some res) (hd : decode cc pc = .ok (.putfield 104, 3)) (kk : ∀ S1 : hs_M, G S1 = some res → hs_Z X nL S1 lv st (pc + 3)) : hs_Z X nL S lv (.int x :: .ref (hs_q X 100) :: st) pc := hs_put (kd := 7) (k := 1) (N := 33) C tyX7 tyX7_ok nmX7 rfl hi7 rfl (by decide) rfl (by decide) rfl ww_384 (show hs_K 100 = 7 by decide +kernel) rfl rfl (hs_vU0 rfl) h hd kk
theorem pf_X7_107 {X : hs_T} {nL hh pc : Nat} {cc : ByteArray} {S : hs_M} {lv : List (Nat × Value)} {st : List Value} (C : hs_C X 1 RX7 cc nL hh) {x : Int32} {ρ : Type} {G : hs_M → Option ρ} {res : ρ} (h : hs_l (hs_U S 100 2 x) G = some res) (hd : decode cc pc = .ok (.putfield 107, 3)) (kk : ∀ S1 : hs_M, G S1 = some res → hs_Z X nL S1 lv st (pc + 3)) : hs_Z X nL S lv (.int x :: .ref (hs_q X 100) :: st) pc := hs_put (kd := 7) (k := 2) (N := 33) C tyX7 tyX7_ok nmX7 rfl hi7 rfl (by decide) rfl (by decide) rfl ww_385 (show hs_K 100 = 7 by decide +kernel) rfl rfl (hs_vU0 rfl) h hd kk
theorem pf_X7_110 {X : hs_T} {nL hh pc : Nat} {cc : ByteArray} {S : hs_M} {lv : List (Nat × Value)} {st : List Value} (C : hs_C X 1 RX7 cc nL hh) {x : Int32} {ρ : Type} {G : hs_M → Option ρ} {res : ρ} (h : hs_bg x (hs_l (hs_U S 100 3 x) G) = some res) (hd : decode cc pc = .ok (.putfield 110, 3)) (kk : ∀ S1 : hs_M, G S1 = some res → hs_Z X nL S1 lv st (pc + 3)) : hs_Z X nL S lv (.int x :: .ref (hs_q X 100) :: st) pc := by
  obtain ⟨hx, h⟩ := hs_bg_s h
  exact hs_put (kd := 7) (k := 3) (N := 33) C tyX7 tyX7_ok nmX7 rfl hi7 rfl (by decide) rfl (by decide) rfl ww_323 (show hs_K 100 = 7 by decide +kernel) (by rcases hx with rfl | rfl <;> rfl) (by rcases hx with rfl | rfl <;> rfl) (hs_vU0 rfl) h hd kk
theorem cs_X7_101 {X : hs_T} {nL hh pc : Nat} {cc : ByteArray} {S : hs_M} {lv : List (Nat × Value)} {st : List Value} (C : hs_C X 1 RX7 cc nL hh) {a1 : Int32} {r : Int32} {S' : hs_M} (hM : hs_met 1 yX7_outside cX7_outside 2 (some .boolean) 0 (fun q => [.ref (q 100), .int a1]) S (fun q => some (.int r)) S') (hh1 : 0 < hh) (hrest : (st.map fun v => v.category).sum ≤ 8) (hd : decode cc pc = .ok (.invokevirtual 101, 3)) (kk : hs_Z X nL S' lv (.int r :: st) (pc + 3)) : hs_Z X nL S lv (.int a1 :: .ref (hs_q X 100) :: st) pc := hs_callV (i := 100) (kd := 7) (na := 1) C ww_386 ww_388 ww_389 ww_290 ww_387 (by decide +kernel) (by decide) rfl (by decide) rfl hM rfl rfl (by decide +kernel) rfl (show hs_K 100 = 7 by decide +kernel) hh1 hrest hd kk
theorem cs_X7_124 {X : hs_T} {nL hh pc : Nat} {cc : ByteArray} {S : hs_M} {lv : List (Nat × Value)} {st : List Value} (C : hs_C X 1 RX7 cc nL hh) {a1 : Int32} {S' : hs_M} (hM : hs_met 1 yX7_put cX7_put 2 none 0 (fun q => [.ref (q 100), .int a1]) S (fun q => none) S') (hh1 : 0 < hh) (hrest : (st.map fun v => v.category).sum ≤ 8) (hd : decode cc pc = .ok (.invokevirtual 124, 3)) (kk : hs_Z X nL S' lv (st) (pc + 3)) : hs_Z X nL S lv (.int a1 :: .ref (hs_q X 100) :: st) pc := hs_callV (i := 100) (kd := 7) (na := 1) C ww_390 ww_392 ww_393 ww_290 ww_391 (by decide +kernel) (by decide) rfl (by decide) rfl hM rfl rfl (by decide +kernel) rfl (show hs_K 100 = 7 by decide +kernel) hh1 hrest hd kk
theorem cs_X7_97 {X : hs_T} {nL hh pc : Nat} {cc : ByteArray} {S : hs_M} {lv : List (Nat × Value)} {st : List Value} (C : hs_C X 1 RX7 cc nL hh) {a1 : Int32} {r : Int32} {S' : hs_M} (hM : hs_met 1 yX7_noFlow cX7_noFlow 2 (some .boolean) 0 (fun q => [.ref (q 100), .int a1]) S (fun q => some (.int r)) S') (hh1 : 0 < hh) (hrest : (st.map fun v => v.category).sum ≤ 8) (hd : decode cc pc = .ok (.invokevirtual 97, 3)) (kk : hs_Z X nL S' lv (.int r :: st) (pc + 3)) : hs_Z X nL S lv (.int a1 :: .ref (hs_q X 100) :: st) pc := hs_callV (i := 100) (kd := 7) (na := 1) C ww_394 ww_396 ww_397 ww_290 ww_395 (by decide +kernel) (by decide) rfl (by decide) rfl hM rfl rfl (by decide +kernel) rfl (show hs_K 100 = 7 by decide +kernel) hh1 hrest hd kk
theorem gf_X7_7 {X : hs_T} {nL hh pc : Nat} {cc : ByteArray} {S : hs_M} {lv : List (Nat × Value)} {st : List Value} (C : hs_C X 1 RX7 cc nL hh) (hd : decode cc pc = .ok (.getfield 7, 3)) (kk : hs_Z X nL S lv (.ref (hs_q X 101) :: st) (pc + 3)) : hs_Z X nL S lv (.ref (hs_q X 100) :: st) pc := hs_get (kd := 7) (k := 4) (N := 33) C rfl hi7 rfl (by decide) rfl (by decide) ww_398 (show hs_K 100 = 7 by decide +kernel) rfl hd kk
theorem gf_X7_107 {X : hs_T} {nL hh pc : Nat} {cc : ByteArray} {S : hs_M} {lv : List (Nat × Value)} {st : List Value} (C : hs_C X 1 RX7 cc nL hh) (hd : decode cc pc = .ok (.getfield 107, 3)) (kk : hs_Z X nL S lv (.int (S 100 2) :: st) (pc + 3)) : hs_Z X nL S lv (.ref (hs_q X 100) :: st) pc := hs_get (kd := 7) (k := 2) (N := 33) C rfl hi7 rfl (by decide) rfl (by decide) ww_385 (show hs_K 100 = 7 by decide +kernel) rfl hd kk
theorem cs_X7_132 {X : hs_T} {nL hh pc : Nat} {cc : ByteArray} {S : hs_M} {lv : List (Nat × Value)} {st : List Value} (C : hs_C X 1 RX7 cc nL hh) {a1 : Int32} {S' : hs_M} (hM : hs_met 1 yX7_putRest cX7_putRest 3 none 1 (fun q => [.ref (q 100), .int a1]) S (fun q => none) S') (hh1 : 1 < hh) (hrest : (st.map fun v => v.category).sum ≤ 8) (hd : decode cc pc = .ok (.invokevirtual 132, 3)) (kk : hs_Z X nL S' lv (st) (pc + 3)) : hs_Z X nL S lv (.int a1 :: .ref (hs_q X 100) :: st) pc := hs_callV (i := 100) (kd := 7) (na := 1) C ww_399 ww_401 ww_402 ww_290 ww_400 (by decide +kernel) (by decide) rfl (by decide) rfl hM rfl rfl (by decide +kernel) rfl (show hs_K 100 = 7 by decide +kernel) hh1 hrest hd kk
theorem cs_X7_150 {X : hs_T} {nL hh pc : Nat} {cc : ByteArray} {S : hs_M} {lv : List (Nat × Value)} {st : List Value} (C : hs_C X 1 RX7 cc nL hh) {a1 : Int32} {a2 : Int32} {S' : hs_M} (hM : hs_met 1 yX7_note cX7_note 4 none 0 (fun q => [.ref (q 100), .int a1, .int a2]) S (fun q => none) S') (hh1 : 0 < hh) (hrest : (st.map fun v => v.category).sum ≤ 8) (hd : decode cc pc = .ok (.invokevirtual 150, 3)) (kk : hs_Z X nL S' lv (st) (pc + 3)) : hs_Z X nL S lv (.int a2 :: .int a1 :: .ref (hs_q X 100) :: st) pc := hs_callV (i := 100) (kd := 7) (na := 2) C ww_403 ww_405 ww_406 ww_290 ww_404 (by decide +kernel) (by decide) rfl (by decide) rfl hM rfl rfl (by decide +kernel) rfl (show hs_K 100 = 7 by decide +kernel) hh1 hrest hd kk
theorem gf_X7_35 {X : hs_T} {nL hh pc : Nat} {cc : ByteArray} {S : hs_M} {lv : List (Nat × Value)} {st : List Value} (C : hs_C X 1 RX7 cc nL hh) (hd : decode cc pc = .ok (.getfield 35, 3)) (kk : hs_Z X nL S lv (.ref (hs_q X 109) :: st) (pc + 3)) : hs_Z X nL S lv (.ref (hs_q X 100) :: st) pc := hs_get (kd := 7) (k := 12) (N := 33) C rfl hi7 rfl (by decide) rfl (by decide) ww_407 (show hs_K 100 = 7 by decide +kernel) rfl hd kk
theorem gf_X7_13 {X : hs_T} {nL hh pc : Nat} {cc : ByteArray} {S : hs_M} {lv : List (Nat × Value)} {st : List Value} (C : hs_C X 1 RX7 cc nL hh) (hd : decode cc pc = .ok (.getfield 13, 3)) (kk : hs_Z X nL S lv (.ref (hs_q X 102) :: st) (pc + 3)) : hs_Z X nL S lv (.ref (hs_q X 100) :: st) pc := hs_get (kd := 7) (k := 5) (N := 33) C rfl hi7 rfl (by decide) rfl (by decide) ww_408 (show hs_K 100 = 7 by decide +kernel) rfl hd kk
theorem gf_X7_17 {X : hs_T} {nL hh pc : Nat} {cc : ByteArray} {S : hs_M} {lv : List (Nat × Value)} {st : List Value} (C : hs_C X 1 RX7 cc nL hh) (hd : decode cc pc = .ok (.getfield 17, 3)) (kk : hs_Z X nL S lv (.ref (hs_q X 103) :: st) (pc + 3)) : hs_Z X nL S lv (.ref (hs_q X 100) :: st) pc := hs_get (kd := 7) (k := 6) (N := 33) C rfl hi7 rfl (by decide) rfl (by decide) ww_409 (show hs_K 100 = 7 by decide +kernel) rfl hd kk
theorem gf_X7_104 {X : hs_T} {nL hh pc : Nat} {cc : ByteArray} {S : hs_M} {lv : List (Nat × Value)} {st : List Value} (C : hs_C X 1 RX7 cc nL hh) (hd : decode cc pc = .ok (.getfield 104, 3)) (kk : hs_Z X nL S lv (.int (S 100 1) :: st) (pc + 3)) : hs_Z X nL S lv (.ref (hs_q X 100) :: st) pc := hs_get (kd := 7) (k := 1) (N := 33) C rfl hi7 rfl (by decide) rfl (by decide) ww_384 (show hs_K 100 = 7 by decide +kernel) rfl hd kk
theorem gf_X7_20 {X : hs_T} {nL hh pc : Nat} {cc : ByteArray} {S : hs_M} {lv : List (Nat × Value)} {st : List Value} (C : hs_C X 1 RX7 cc nL hh) (hd : decode cc pc = .ok (.getfield 20, 3)) (kk : hs_Z X nL S lv (.ref (hs_q X 104) :: st) (pc + 3)) : hs_Z X nL S lv (.ref (hs_q X 100) :: st) pc := hs_get (kd := 7) (k := 7) (N := 33) C rfl hi7 rfl (by decide) rfl (by decide) ww_410 (show hs_K 100 = 7 by decide +kernel) rfl hd kk
theorem gf_X7_23 {X : hs_T} {nL hh pc : Nat} {cc : ByteArray} {S : hs_M} {lv : List (Nat × Value)} {st : List Value} (C : hs_C X 1 RX7 cc nL hh) (hd : decode cc pc = .ok (.getfield 23, 3)) (kk : hs_Z X nL S lv (.ref (hs_q X 105) :: st) (pc + 3)) : hs_Z X nL S lv (.ref (hs_q X 100) :: st) pc := hs_get (kd := 7) (k := 8) (N := 33) C rfl hi7 rfl (by decide) rfl (by decide) ww_411 (show hs_K 100 = 7 by decide +kernel) rfl hd kk
theorem gf_X7_26 {X : hs_T} {nL hh pc : Nat} {cc : ByteArray} {S : hs_M} {lv : List (Nat × Value)} {st : List Value} (C : hs_C X 1 RX7 cc nL hh) (hd : decode cc pc = .ok (.getfield 26, 3)) (kk : hs_Z X nL S lv (.ref (hs_q X 106) :: st) (pc + 3)) : hs_Z X nL S lv (.ref (hs_q X 100) :: st) pc := hs_get (kd := 7) (k := 9) (N := 33) C rfl hi7 rfl (by decide) rfl (by decide) ww_412 (show hs_K 100 = 7 by decide +kernel) rfl hd kk
theorem gf_X7_29 {X : hs_T} {nL hh pc : Nat} {cc : ByteArray} {S : hs_M} {lv : List (Nat × Value)} {st : List Value} (C : hs_C X 1 RX7 cc nL hh) (hd : decode cc pc = .ok (.getfield 29, 3)) (kk : hs_Z X nL S lv (.ref (hs_q X 107) :: st) (pc + 3)) : hs_Z X nL S lv (.ref (hs_q X 100) :: st) pc := hs_get (kd := 7) (k := 10) (N := 33) C rfl hi7 rfl (by decide) rfl (by decide) ww_413 (show hs_K 100 = 7 by decide +kernel) rfl hd kk
theorem cs_X7_139 {X : hs_T} {nL hh pc : Nat} {cc : ByteArray} {S : hs_M} {lv : List (Nat × Value)} {st : List Value} (C : hs_C X 1 RX7 cc nL hh) {a1 : Int32} {a2 : Int32} {r : Int32} {S' : hs_M} (hM : hs_met 1 yX7_choose cX7_choose 3 (some .int) 2 (fun q => [.ref (q 100), .int a1, .int a2]) S (fun q => some (.int r)) S') (hh1 : 2 < hh) (hrest : (st.map fun v => v.category).sum ≤ 8) (hd : decode cc pc = .ok (.invokevirtual 139, 3)) (kk : hs_Z X nL S' lv (.int r :: st) (pc + 3)) : hs_Z X nL S lv (.int a2 :: .int a1 :: .ref (hs_q X 100) :: st) pc := hs_callV (i := 100) (kd := 7) (na := 2) C ww_414 ww_416 ww_417 ww_290 ww_415 (by decide +kernel) (by decide) rfl (by decide) rfl hM rfl rfl (by decide +kernel) rfl (show hs_K 100 = 7 by decide +kernel) hh1 hrest hd kk
theorem cs_X7_146 {X : hs_T} {nL hh pc : Nat} {cc : ByteArray} {S : hs_M} {lv : List (Nat × Value)} {st : List Value} (C : hs_C X 1 RX7 cc nL hh) {a1 : Int32} {a2 : Int32} {a3 : Int32} {S' : hs_M} (hM : hs_met 1 yX7_write cX7_write 4 none 2 (fun q => [.ref (q 100), .int a1, .int a2, .int a3]) S (fun q => none) S') (hh1 : 2 < hh) (hrest : (st.map fun v => v.category).sum ≤ 8) (hd : decode cc pc = .ok (.invokevirtual 146, 3)) (kk : hs_Z X nL S' lv (st) (pc + 3)) : hs_Z X nL S lv (.int a3 :: .int a2 :: .int a1 :: .ref (hs_q X 100) :: st) pc := hs_callV (i := 100) (kd := 7) (na := 3) C ww_418 ww_420 ww_421 ww_290 ww_419 (by decide +kernel) (by decide) rfl (by decide) rfl hM rfl rfl (by decide +kernel) rfl (show hs_K 100 = 7 by decide +kernel) hh1 hrest hd kk
theorem gf_X7_38 {X : hs_T} {nL hh pc : Nat} {cc : ByteArray} {S : hs_M} {lv : List (Nat × Value)} {st : List Value} (C : hs_C X 1 RX7 cc nL hh) (hd : decode cc pc = .ok (.getfield 38, 3)) (kk : hs_Z X nL S lv (.ref (hs_q X 110) :: st) (pc + 3)) : hs_Z X nL S lv (.ref (hs_q X 100) :: st) pc := hs_get (kd := 7) (k := 13) (N := 33) C rfl hi7 rfl (by decide) rfl (by decide) ww_422 (show hs_K 100 = 7 by decide +kernel) rfl hd kk
end
section
/-! HeaderSqueeze$Context.complete -/
def f_X0_complete_0 (p0 : Nat) (p1 : Nat) (x2 : Int32) (S : hs_M) : Option hs_M := hs_l (hs_U S p1 0 (S p0 0)) (fun S_1 => hs_l (hs_U S_1 p1 1 (S_1 p0 1)) (fun S_2 => hs_l (hs_U S_2 p1 3 x2) (fun S_3 => hs_l (hs_U S_3 p1 4 ((S_3 p0 3) + (x2 * (S_3 p0 2)))) (fun S_4 => hs_l (hs_U S_4 p1 5 (((S_4 p0 4) + x2) &&& (65535 : Int32))) (fun S_5 => some S_5)))))
def f_X0_complete (i0 : Nat) (i1 : Nat) (a2 : Int32) (S : hs_M) : Option hs_M := f_X0_complete_0 i0 i1 a2 S
/-! HeaderSqueeze$Context.phaseOf -/
def f_X0_phaseOf_0 (p0 : Nat) (x1 : Int32) (S : hs_M) : Option (Int32 × hs_M) := some (((S p0 4) - ((S p0 3) * x1)), S)
def f_X0_phaseOf (i0 : Nat) (a1 : Int32) (S : hs_M) : Option (Int32 × hs_M) := f_X0_phaseOf_0 i0 a1 S
/-! HeaderSqueeze$Context.offsetOf -/
def f_X0_offsetOf_0 (p0 : Nat) (S : hs_M) : Option (Int32 × hs_M) := some ((((S p0 5) - (S p0 3)) &&& (65535 : Int32)), S)
def f_X0_offsetOf (i0 : Nat) (S : hs_M) : Option (Int32 × hs_M) := f_X0_offsetOf_0 i0 S
/-! HeaderSqueeze$Context.follow -/
def f_X0_follow_0 (p0 : Nat) (p1 : Nat) (x2 : Int32) (S : hs_M) : Option hs_M := hs_l (hs_U S p0 0 (S p1 0)) (fun S_1 => hs_l (hs_U S_1 p0 1 (S_1 p1 1)) (fun S_2 => hs_l (hs_U S_2 p0 2 x2) (fun S_3 => hs_b2 (f_X0_phaseOf p1 x2 S_3) (fun r_6 S_4 => hs_l (hs_U S_4 p0 3 r_6) (fun S_7 => hs_b2 (f_X0_offsetOf p1 S_7) (fun r_10 S_8 => hs_l (hs_U S_8 p0 4 r_10) (fun S_11 => some S_11)))))))
def f_X0_follow (i0 : Nat) (i1 : Nat) (a2 : Int32) (S : hs_M) : Option hs_M := f_X0_follow_0 i0 i1 a2 S
/-! HeaderSqueeze$Context.isOf -/
def f_X0_isOf_27 (y0 : Int32) (S : hs_M) : Option (Int32 × hs_M) := hs_bg y0 (some (y0, S))
def f_X0_isOf_26 (S : hs_M) : Option (Int32 × hs_M) := f_X0_isOf_27  (0 : Int32) S
def f_X0_isOf_0 (p0 : Nat) (p1 : Nat) (S : hs_M) : Option (Int32 × hs_M) := (if (S p0 0) = (S p1 0) then (if (S p0 1) = (S p1 1) then f_X0_isOf_27  (1 : Int32) S else f_X0_isOf_26   S) else f_X0_isOf_26   S)
def f_X0_isOf (i0 : Nat) (i1 : Nat) (S : hs_M) : Option (Int32 × hs_M) := f_X0_isOf_0 i0 i1 S
/-! HeaderSqueeze$Context.goesAlong -/
def f_X0_goesAlong_39 (y0 : Int32) (S : hs_M) : Option (Int32 × hs_M) := hs_bg y0 (some (y0, S))
def f_X0_goesAlong_38 (S : hs_M) : Option (Int32 × hs_M) := f_X0_goesAlong_39  (0 : Int32) S
def f_X0_goesAlong_0 (p0 : Nat) (p1 : Nat) (S : hs_M) : Option (Int32 × hs_M) := hs_b2 (f_X0_isOf p0 p1 S) (fun r_3 S_1 => (if r_3 = 0 then f_X0_goesAlong_38   S_1 else hs_b2 (f_X0_phaseOf p1 (S_1 p0 2) S_1) (fun r_6 S_4 => (if (S_1 p0 3) = r_6 then hs_b2 (f_X0_offsetOf p1 S_4) (fun r_9 S_7 => (if (S_4 p0 4) = r_9 then f_X0_goesAlong_39  (1 : Int32) S_7 else f_X0_goesAlong_38   S_7)) else f_X0_goesAlong_38   S_4))))
def f_X0_goesAlong (i0 : Nat) (i1 : Nat) (S : hs_M) : Option (Int32 × hs_M) := f_X0_goesAlong_0 i0 i1 S
/-! HeaderSqueeze$Head.markBit -/
def f_X1_markBit_14 (y0 : Int32) (S : hs_M) : Option (Int32 × hs_M) := some (y0, S)
def f_X1_markBit_0 (p0 : Nat) (S : hs_M) : Option (Int32 × hs_M) := (if (S p0 2) = 0 then f_X1_markBit_14  (0 : Int32) S else f_X1_markBit_14  (128 : Int32) S)
def f_X1_markBit (i0 : Nat) (S : hs_M) : Option (Int32 × hs_M) := f_X1_markBit_0 i0 S
/-! HeaderSqueeze$Head.part -/
def f_X1_part_0 (p0 : Nat) (x1 : Int32) (S : hs_M) : Option (Int32 × hs_M) := (if x1 = 0 then some ((hs_ushr (S p0 0) (8 : Int32)), S) else (if x1 = 1 then some (((S p0 0) &&& (255 : Int32)), S) else (if x1 = 2 then hs_b2 (f_X1_markBit p0 S) (fun r_6 S_4 => some (((S p0 1) + r_6), S_4)) else (if x1 = 3 then some ((hs_ushr (S p0 3) (8 : Int32)), S) else (if x1 = 4 then some (((S p0 3) &&& (255 : Int32)), S) else (if x1 = 5 then some ((hs_ushr (S p0 4) (24 : Int32)), S) else (if x1 = 6 then some (((hs_ushr (S p0 4) (16 : Int32)) &&& (255 : Int32)), S) else (if x1 = 7 then some (((hs_ushr (S p0 4) (8 : Int32)) &&& (255 : Int32)), S) else (if x1 = 8 then some (((S p0 4) &&& (255 : Int32)), S) else (if x1 = 9 then some ((hs_ushr (S p0 5) (8 : Int32)), S) else some (((S p0 5) &&& (255 : Int32)), S)))))))))))
def f_X1_part (i0 : Nat) (a1 : Int32) (S : hs_M) : Option (Int32 × hs_M) := f_X1_part_0 i0 a1 S
/-! HeaderSqueeze$Head.sumBehind -/
def f_X1_sumBehind_43 (K5 : Int32 → Int32 → Int32 → Int32 → hs_M → Option (Int32 × hs_M)) (x1 : Int32) (x2 : Int32) (x3 : Int32) (x4 : Int32) (S : hs_M) : Option (Int32 × hs_M) := hs_l (x4 + (1 : Int32)) (fun x_1 => K5 x1 x2 x3 x_1 S)
def f_X1_sumBehind_28 (K5 : Int32 → Int32 → Int32 → Int32 → hs_M → Option (Int32 × hs_M)) (x1 : Int32) (x2 : Int32) (x3 : Int32) (x4 : Int32) (y0 : Int32) (S : hs_M) : Option (Int32 × hs_M) := hs_l (hs_ushr x3 (1 : Int32)) (fun x_1 => (if y0 = 0 then f_X1_sumBehind_43 K5 x1 x2 x_1 x4 S else hs_l (x_1 ^^^ x1) (fun x_2 => f_X1_sumBehind_43 K5 x1 x2 x_2 x4 S)))
def fb_X1_sumBehind_5 (K5 : Int32 → Int32 → Int32 → Int32 → hs_M → Option (Int32 × hs_M)) (x1 : Int32) (x2 : Int32) (x3 : Int32) (x4 : Int32) (S : hs_M) : Option (Int32 × hs_M) := (if (8 : Int32) ≤ x4 then some (x3, S) else (if ((x3 ^^^ (hs_ushr x2 x4)) &&& (1 : Int32)) = 0 then f_X1_sumBehind_28 K5 x1 x2 x3 x4 (0 : Int32) S else f_X1_sumBehind_28 K5 x1 x2 x3 x4 (1 : Int32) S))
def f_X1_sumBehind_5  : Nat → Int32 → Int32 → Int32 → Int32 → hs_M → Option (Int32 × hs_M)
  | 0 => fun _ _ _ _ _ => none
  | n + 1 => fb_X1_sumBehind_5  (f_X1_sumBehind_5  n)
def f_X1_sumBehind_0 (x0 : Int32) (x1 : Int32) (x2 : Int32) (S : hs_M) : Option (Int32 × hs_M) := f_X1_sumBehind_5  hs_fuel x1 x2 x0 (0 : Int32) S
def f_X1_sumBehind (a0 : Int32) (a1 : Int32) (a2 : Int32) (S : hs_M) : Option (Int32 × hs_M) := f_X1_sumBehind_0 a0 a1 a2 S
/-! HeaderSqueeze$Head.sumFor -/
def f_X1_sumFor_70 (x3 : Int32) (S : hs_M) : Option (Int32 × hs_M) := some (x3, S)
def fb_X1_sumFor_16 (K16 : Nat → Int32 → Int32 → Int32 → Int32 → Int32 → hs_M → Option (Int32 × hs_M)) (p0 : Nat) (x1 : Int32) (x2 : Int32) (x3 : Int32) (x4 : Int32) (x5 : Int32) (S : hs_M) : Option (Int32 × hs_M) := (if (11 : Int32) ≤ x5 then (if x1 = (4 : Int32) then hs_b2 (f_X1_sumBehind x3 x4 (hs_ushr x2 (8 : Int32)) S) (fun r_3 S_1 => hs_b2 (f_X1_sumBehind r_3 x4 (x2 &&& (255 : Int32)) S_1) (fun r_6 S_4 => f_X1_sumFor_70  r_6 S_4)) else f_X1_sumFor_70  x3 S) else hs_b2 (f_X1_part p0 x5 S) (fun r_9 S_7 => hs_b2 (f_X1_sumBehind x3 x4 r_9 S_7) (fun r_12 S_10 => hs_l (x5 + (1 : Int32)) (fun x_13 => K16 p0 x1 x2 r_12 x4 x_13 S_10))))
def f_X1_sumFor_16  : Nat → Nat → Int32 → Int32 → Int32 → Int32 → Int32 → hs_M → Option (Int32 × hs_M)
  | 0 => fun _ _ _ _ _ _ _ => none
  | n + 1 => fb_X1_sumFor_16  (f_X1_sumFor_16  n)
def f_X1_sumFor_0 (p0 : Nat) (x1 : Int32) (x2 : Int32) (S : hs_M) : Option (Int32 × hs_M) := hs_ix x1 (hs_sn 1) (hs_l (hs_sv 1 x1.toNatClampNeg) (fun x_1 => hs_ix x1 (hs_sn 2) (hs_l (hs_sv 2 x1.toNatClampNeg) (fun x_2 => f_X1_sumFor_16  hs_fuel p0 x1 x2 x_1 x_2 (0 : Int32) S))))
def f_X1_sumFor (i0 : Nat) (a1 : Int32) (a2 : Int32) (S : hs_M) : Option (Int32 × hs_M) := f_X1_sumFor_0 i0 a1 a2 S
/-! HeaderSqueeze$Line.addRowBehind -/
def f_X2_addRowBehind_0 (S : hs_M) : Option (Int32 × hs_M) := (if (S 4 1) = (8 : Int32) then hs_bg (0 : Int32) (some ((0 : Int32), S)) else hs_l (hs_U S 4 1 ((S 4 1) + (1 : Int32))) (fun S_1 => hs_bg (1 : Int32) (some ((1 : Int32), S_1))))
def f_X2_addRowBehind  (S : hs_M) : Option (Int32 × hs_M) := f_X2_addRowBehind_0  S
/-! HeaderSqueeze$Line.rowBehind -/
def f_X2_rowBehind_0 (S : hs_M) : Option (Nat × hs_M) := hs_l (S 4 1) (fun x_1 => hs_ix x_1 (hs_N 5) (hs_l (S 5 x_1.toNatClampNeg).toNatClampNeg (fun p_2 => hs_kg p_2 3 (some (p_2, S)))))
def f_X2_rowBehind  (S : hs_M) : Option (Nat × hs_M) := f_X2_rowBehind_0  S
/-! HeaderSqueeze$Line.takeOff -/
def fb_X2_takeOff_19 (K19 : Nat → Int32 → hs_M → Option (Nat × hs_M)) (p2 : Nat) (x3 : Int32) (S : hs_M) : Option (Nat × hs_M) := (if (S 4 1) ≤ x3 then hs_ix (S 4 1) (hs_N 5) (hs_l (hs_U S 5 (S 4 1).toNatClampNeg (nI p2)) (fun S_1 => some (p2, S_1))) else hs_l (x3 + (1 : Int32)) (fun x_2 => hs_ix x_2 (hs_N 5) (hs_l (S 5 x_2.toNatClampNeg).toNatClampNeg (fun p_3 => hs_kg p_3 3 (hs_ix x3 (hs_N 5) (hs_l (hs_U S 5 x3.toNatClampNeg (nI p_3)) (fun S_5 => hs_l (x3 + (1 : Int32)) (fun x_6 => K19 p2 x_6 S_5))))))))
def f_X2_takeOff_19  : Nat → Nat → Int32 → hs_M → Option (Nat × hs_M)
  | 0 => fun _ _ _ => none
  | n + 1 => fb_X2_takeOff_19  (f_X2_takeOff_19  n)
def f_X2_takeOff_0 (x1 : Int32) (S : hs_M) : Option (Nat × hs_M) := hs_ix x1 (hs_N 5) (hs_l (S 5 x1.toNatClampNeg).toNatClampNeg (fun p_1 => hs_kg p_1 3 (hs_l (hs_U S 4 1 ((S 4 1) - (1 : Int32))) (fun S_3 => f_X2_takeOff_19  hs_fuel p_1 x1 S_3))))
def f_X2_takeOff (a1 : Int32) (S : hs_M) : Option (Nat × hs_M) := f_X2_takeOff_0 a1 S
/-! HeaderSqueeze$Packet.own -/
def f_X3_own_0 (p0 : Nat) (x1 : Int32) (S : hs_M) : Option (Int32 × hs_M) := hs_l ((S p0 4) + x1) (fun x_1 => hs_ix x_1 (hs_N (p0 + 9)) (some ((S (p0 + 9) x_1.toNatClampNeg), S)))
def f_X3_own (i0 : Nat) (a1 : Int32) (S : hs_M) : Option (Int32 × hs_M) := f_X3_own_0 i0 a1 S
/-! HeaderSqueeze$Packet.isNoMark -/
def f_X3_isNoMark_16 (y0 : Int32) (S : hs_M) : Option (Int32 × hs_M) := hs_bg y0 (some (y0, S))
def f_X3_isNoMark_15 (S : hs_M) : Option (Int32 × hs_M) := f_X3_isNoMark_16  (0 : Int32) S
def f_X3_isNoMark_0 (x0 : Int32) (S : hs_M) : Option (Int32 × hs_M) := (if x0 = 0 then f_X3_isNoMark_15   S else (if x0 = (128 : Int32) then f_X3_isNoMark_15   S else f_X3_isNoMark_16  (1 : Int32) S))
def f_X3_isNoMark (a0 : Int32) (S : hs_M) : Option (Int32 × hs_M) := f_X3_isNoMark_0 a0 S
/-! HeaderSqueeze$Packet.isMisshapen -/
def f_X3_isMisshapen_104 (y0 : Int32) (S : hs_M) : Option (Int32 × hs_M) := hs_bg y0 (some (y0, S))
def f_X3_isMisshapen_99 (S : hs_M) : Option (Int32 × hs_M) := f_X3_isMisshapen_104  (1 : Int32) S
def f_X3_isMisshapen_67 (y0 : Int32) (S : hs_M) : Option (Int32 × hs_M) := hs_bg y0 (some (y0, S))
def f_X3_isMisshapen_0 (p0 : Nat) (S : hs_M) : Option (Int32 × hs_M) := hs_l (S p0 3) (fun x_1 => hs_ix x_1 (hs_sn 0) ((if ((S p0 1) - (S p0 4)) = (hs_sv 0 x_1.toNatClampNeg) then hs_l (S p0 3) (fun x_2 => (if x_2 = 2 then hs_b2 (f_X3_own p0 (1 : Int32) S) (fun r_6 S_4 => (if (r_6 &&& (3 : Int32)) = 0 then f_X3_isMisshapen_67  (0 : Int32) S_4 else f_X3_isMisshapen_67  (1 : Int32) S_4)) else (if x_2 = 3 then hs_b2 (f_X3_own p0 (1 : Int32) S) (fun r_10 S_8 => hs_b2 (f_X3_isNoMark r_10 S_8) (fun r_13 S_11 => hs_bg r_13 (some (r_13, S_11)))) else (if x_2 = 4 then hs_b2 (f_X3_own p0 (3 : Int32) S) (fun r_17 S_15 => (if (127 : Int32) < r_17 then f_X3_isMisshapen_99   S_15 else hs_b2 (f_X3_own p0 (6 : Int32) S_15) (fun r_20 S_18 => hs_b2 (f_X3_isNoMark r_20 S_18) (fun r_23 S_21 => (if r_23 = 0 then f_X3_isMisshapen_104  (0 : Int32) S_21 else f_X3_isMisshapen_99   S_21))))) else hs_bg (0 : Int32) (some ((0 : Int32), S)))))) else hs_bg (1 : Int32) (some ((1 : Int32), S)))))
def f_X3_isMisshapen (i0 : Nat) (S : hs_M) : Option (Int32 × hs_M) := f_X3_isMisshapen_0 i0 S
/-! HeaderSqueeze$Packet.kindTold -/
def f_X3_kindTold_48 (y0 : Int32) (S : hs_M) : Option (Int32 × hs_M) := some (y0, S)
def f_X3_kindTold_0 (x0 : Int32) (S : hs_M) : Option (Int32 × hs_M) := (if (128 : Int32) ≤ x0 then (if (192 : Int32) ≤ x0 then (if (224 : Int32) ≤ x0 then (if x0 = (248 : Int32) then some ((3 : Int32), S) else (if x0 = (253 : Int32) then f_X3_kindTold_48  (4 : Int32) S else f_X3_kindTold_48  (-1 : Int32) S)) else some ((2 : Int32), S)) else some ((1 : Int32), S)) else some ((0 : Int32), S))
def f_X3_kindTold (a0 : Int32) (S : hs_M) : Option (Int32 × hs_M) := f_X3_kindTold_0 a0 S
/-! HeaderSqueeze$Packet.lowTold -/
def f_X3_lowTold_0 (p0 : Nat) (S : hs_M) : Option (Int32 × hs_M) := hs_l (S p0 3) (fun x_1 => (if x_1 = 0 then hs_b2 (f_X3_own p0 (0 : Int32) S) (fun r_5 S_3 => some ((hs_ushr r_5 (3 : Int32)), S_3)) else (if x_1 = 1 then hs_b2 (f_X3_own p0 (0 : Int32) S) (fun r_9 S_7 => some ((r_9 &&& (63 : Int32)), S_7)) else hs_b2 (f_X3_own p0 (0 : Int32) S) (fun r_12 S_10 => hs_b2 (f_X3_own p0 (1 : Int32) S_10) (fun r_15 S_13 => some ((((r_12 &&& (31 : Int32)) * (32 : Int32)) + (hs_ushr r_15 (3 : Int32))), S_13))))))
def f_X3_lowTold (i0 : Nat) (S : hs_M) : Option (Int32 × hs_M) := f_X3_lowTold_0 i0 S
/-! HeaderSqueeze$Packet.markTold -/
def f_X3_markTold_66 (y0 : Int32) (S : hs_M) : Option (Int32 × hs_M) := hs_bg y0 (some (y0, S))
def f_X3_markTold_50 (y0 : Int32) (S : hs_M) : Option (Int32 × hs_M) := hs_bg y0 (some (y0, S))
def f_X3_markTold_0 (p0 : Nat) (S : hs_M) : Option (Int32 × hs_M) := hs_l (S p0 3) (fun x_1 => (if x_1 = 0 then hs_bg (0 : Int32) (some ((0 : Int32), S)) else (if x_1 = 1 then hs_b2 (f_X3_own p0 (1 : Int32) S) (fun r_6 S_4 => (if r_6 < (128 : Int32) then f_X3_markTold_50  (0 : Int32) S_4 else f_X3_markTold_50  (1 : Int32) S_4)) else hs_b2 (f_X3_own p0 (1 : Int32) S) (fun r_9 S_7 => (if (r_9 &&& (4 : Int32)) = 0 then f_X3_markTold_66  (0 : Int32) S_7 else f_X3_markTold_66  (1 : Int32) S_7)))))
def f_X3_markTold (i0 : Nat) (S : hs_M) : Option (Int32 × hs_M) := f_X3_markTold_0 i0 S
/-! HeaderSqueeze$Packet.ownTwo -/
def f_X3_ownTwo_0 (p0 : Nat) (x1 : Int32) (S : hs_M) : Option (Int32 × hs_M) := hs_b2 (f_X3_own p0 x1 S) (fun r_3 S_1 => hs_b2 (f_X3_own p0 (x1 + (1 : Int32)) S_1) (fun r_6 S_4 => some (((r_3 * (256 : Int32)) + r_6), S_4)))
def f_X3_ownTwo (i0 : Nat) (a1 : Int32) (S : hs_M) : Option (Int32 × hs_M) := f_X3_ownTwo_0 i0 a1 S
/-! HeaderSqueeze$Packet.put -/
def f_X3_put_29 (S : hs_M) : Option hs_M := some S
def f_X3_put_0 (p0 : Nat) (x1 : Int32) (S : hs_M) : Option hs_M := (if (17 : Int32) ≤ (S p0 1) then f_X3_put_29   S else hs_ix (S p0 1) (hs_N (p0 + 9)) (hs_l (hs_U S (p0 + 9) (S p0 1).toNatClampNeg x1) (fun S_1 => hs_l (hs_U S_1 p0 1 ((S_1 p0 1) + (1 : Int32))) (fun S_2 => f_X3_put_29   S_2))))
def f_X3_put (i0 : Nat) (a1 : Int32) (S : hs_M) : Option hs_M := f_X3_put_0 i0 a1 S
/-! HeaderSqueeze$Packet.putMoving -/
def fb_X3_putMoving_10 (K10 : Nat → Nat → Int32 → Int32 → hs_M → Option hs_M) (p0 : Nat) (p1 : Nat) (x2 : Int32) (x3 : Int32) (S : hs_M) : Option hs_M := (if (11 : Int32) ≤ x3 then hs_b1 (f_X3_put p0 x2 S) (fun S_1 => some S_1) else hs_b2 (f_X1_part p1 x3 S) (fun r_5 S_3 => hs_b1 (f_X3_put p0 r_5 S_3) (fun S_6 => hs_l (x3 + (1 : Int32)) (fun x_8 => K10 p0 p1 x2 x_8 S_6))))
def f_X3_putMoving_10  : Nat → Nat → Nat → Int32 → Int32 → hs_M → Option hs_M
  | 0 => fun _ _ _ _ _ => none
  | n + 1 => fb_X3_putMoving_10  (f_X3_putMoving_10  n)
def f_X3_putMoving_0 (p0 : Nat) (p1 : Nat) (x2 : Int32) (S : hs_M) : Option hs_M := hs_b2 (f_X1_markBit p1 S) (fun r_3 S_1 => hs_b1 (f_X3_put p0 r_3 S_1) (fun S_4 => f_X3_putMoving_10  hs_fuel p0 p1 x2 (3 : Int32) S_4))
def f_X3_putMoving (i0 : Nat) (i1 : Nat) (a2 : Int32) (S : hs_M) : Option hs_M := f_X3_putMoving_0 i0 i1 a2 S
/-! HeaderSqueeze$Packet.putTwo -/
def f_X3_putTwo_0 (p0 : Nat) (x1 : Int32) (S : hs_M) : Option hs_M := hs_b1 (f_X3_put p0 (hs_ushr x1 (8 : Int32)) S) (fun S_1 => hs_b1 (f_X3_put p0 (x1 &&& (255 : Int32)) S_1) (fun S_3 => some S_3))
def f_X3_putTwo (i0 : Nat) (a1 : Int32) (S : hs_M) : Option hs_M := f_X3_putTwo_0 i0 a1 S
/-! HeaderSqueeze$Packet.read -/
def f_X3_read_116 (S : hs_M) : Option hs_M := some S
def f_X3_read_93 (p0 : Nat) (q0 : Nat) (y1 : Int32) (S : hs_M) : Option hs_M := hs_l (hs_U S q0 3 y1) (fun S_1 => (if (S_1 p0 3) = (-1 : Int32) then f_X3_read_116   S_1 else hs_b2 (f_X3_isMisshapen p0 S_1) (fun r_4 S_2 => (if r_4 = 0 then f_X3_read_116   S_2 else hs_l (hs_U S_2 p0 3 (-1 : Int32)) (fun S_5 => f_X3_read_116   S_5)))))
def f_X3_read_62 (p0 : Nat) (q0 : Nat) (y1 : Int32) (S : hs_M) : Option hs_M := hs_l (hs_U S q0 4 y1) (fun S_1 => (if (S_1 p0 1) ≤ (S_1 p0 4) then f_X3_read_93  p0 p0 (-1 : Int32) S_1 else hs_l (S_1 p0 4) (fun x_2 => hs_ix x_2 (hs_N (p0 + 9)) (hs_b2 (f_X3_kindTold (S_1 (p0 + 9) x_2.toNatClampNeg) S_1) (fun r_5 S_3 => f_X3_read_93  p0 p0 r_5 S_3)))))
def f_X3_read_49 (p0 : Nat) (x1 : Int32) (q0 : Nat) (y1 : Int32) (S : hs_M) : Option hs_M := hs_l (hs_U S q0 2 y1) (fun S_1 => (if x1 = 0 then f_X3_read_62  p0 p0 (0 : Int32) S_1 else f_X3_read_62  p0 p0 (1 : Int32) S_1))
def f_X3_read_29 (p0 : Nat) (y0 : Int32) (S : hs_M) : Option hs_M := (if y0 = 0 then f_X3_read_49  p0 y0 p0 (0 : Int32) S else hs_ix (0 : Int32) (hs_N (p0 + 9)) (f_X3_read_49  p0 y0 p0 ((S (p0 + 9) (0 : Int32).toNatClampNeg) - (224 : Int32)) S))
def f_X3_read_28 (p0 : Nat) (S : hs_M) : Option hs_M := f_X3_read_29  p0 (0 : Int32) S
def f_X3_read_0 (p0 : Nat) (S : hs_M) : Option hs_M := hs_ix (0 : Int32) (hs_N (p0 + 9)) ((if (S (p0 + 9) (0 : Int32).toNatClampNeg) ≤ (224 : Int32) then f_X3_read_28  p0 S else hs_ix (0 : Int32) (hs_N (p0 + 9)) ((if (228 : Int32) ≤ (S (p0 + 9) (0 : Int32).toNatClampNeg) then f_X3_read_28  p0 S else f_X3_read_29  p0 (1 : Int32) S))))
def f_X3_read (i0 : Nat) (S : hs_M) : Option hs_M := f_X3_read_0 i0 S
/-! HeaderSqueeze$Packet.readFixed -/
def f_X3_readFixed_0 (p0 : Nat) (p1 : Nat) (S : hs_M) : Option hs_M := hs_b2 (f_X3_ownTwo p0 (1 : Int32) S) (fun r_3 S_1 => hs_l (hs_U S_1 p1 0 r_3) (fun S_4 => hs_b2 (f_X3_own p0 (3 : Int32) S_4) (fun r_7 S_5 => hs_l (hs_U S_5 p1 1 r_7) (fun S_8 => some S_8))))
def f_X3_readFixed (i0 : Nat) (i1 : Nat) (S : hs_M) : Option hs_M := f_X3_readFixed_0 i0 i1 S
/-! HeaderSqueeze$Packet.readMoving -/
def f_X3_readMoving_29 (p0 : Nat) (p1 : Nat) (x2 : Int32) (q0 : Nat) (y1 : Int32) (S : hs_M) : Option hs_M := hs_bg y1 (hs_l (hs_U S q0 2 y1) (fun S_1 => hs_b2 (f_X3_ownTwo p0 (x2 + (1 : Int32)) S_1) (fun r_4 S_2 => hs_l (hs_U S_2 p1 3 r_4) (fun S_5 => hs_b2 (f_X3_ownTwo p0 (x2 + (3 : Int32)) S_5) (fun r_8 S_6 => hs_b2 (f_X3_ownTwo p0 (x2 + (5 : Int32)) S_6) (fun r_11 S_9 => hs_l (hs_U S_9 p1 4 ((r_8 * (65536 : Int32)) + r_11)) (fun S_12 => hs_b2 (f_X3_ownTwo p0 (x2 + (7 : Int32)) S_12) (fun r_15 S_13 => hs_l (hs_U S_13 p1 5 r_15) (fun S_16 => some S_16)))))))))
def f_X3_readMoving_14 (p0 : Nat) (p1 : Nat) (y0 : Int32) (S : hs_M) : Option hs_M := hs_b2 (f_X3_own p0 y0 S) (fun r_3 S_1 => (if r_3 = 0 then f_X3_readMoving_29  p0 p1 y0 p1 (0 : Int32) S_1 else f_X3_readMoving_29  p0 p1 y0 p1 (1 : Int32) S_1))
def f_X3_readMoving_0 (p0 : Nat) (p1 : Nat) (S : hs_M) : Option hs_M := (if (S p0 3) = (4 : Int32) then f_X3_readMoving_14  p0 p1 (6 : Int32) S else f_X3_readMoving_14  p0 p1 (1 : Int32) S)
def f_X3_readMoving (i0 : Nat) (i1 : Nat) (S : hs_M) : Option hs_M := f_X3_readMoving_0 i0 i1 S
/-! HeaderSqueeze$Packet.strideTold -/
def f_X3_strideTold_0 (p0 : Nat) (S : hs_M) : Option (Int32 × hs_M) := hs_b2 (f_X3_ownTwo p0 (4 : Int32) S) (fun r_3 S_1 => some (r_3, S_1))
def f_X3_strideTold (i0 : Nat) (S : hs_M) : Option (Int32 × hs_M) := f_X3_strideTold_0 i0 S
/-! HeaderSqueeze$Packet.sumTold -/
def f_X3_sumTold_0 (p0 : Nat) (S : hs_M) : Option (Int32 × hs_M) := hs_l ((S p0 1) - (1 : Int32)) (fun x_1 => hs_ix x_1 (hs_N (p0 + 9)) (hs_l (S p0 3) (fun x_2 => hs_ix x_2 (hs_sn 1) (some (((S (p0 + 9) x_1.toNatClampNeg) &&& (hs_sv 1 x_2.toNatClampNeg)), S)))))
def f_X3_sumTold (i0 : Nat) (S : hs_M) : Option (Int32 × hs_M) := f_X3_sumTold_0 i0 S
/-! HeaderSqueeze$Packet.write -/
def f_X3_write_218 (S : hs_M) : Option hs_M := some S
def f_X3_write_152 (p0 : Nat) (x5 : Int32) (q0 : Nat) (y1 : Int32) (y2 : Int32) (S : hs_M) : Option hs_M := hs_b1 (f_X3_put q0 (y1 + y2) S) (fun S_1 => hs_b1 (f_X3_put p0 x5 S_1) (fun S_3 => f_X3_write_218   S_3))
def f_X3_write_48 (p0 : Nat) (x2 : Int32) (p3 : Nat) (x4 : Int32) (x5 : Int32) (x6 : Int32) (S : hs_M) : Option hs_M := (if x2 = 0 then hs_b1 (f_X3_put p0 ((x6 * (8 : Int32)) + x5) S) (fun S_2 => f_X3_write_218   S_2) else (if x2 = 1 then hs_b1 (f_X3_put p0 ((128 : Int32) + x6) S) (fun S_5 => hs_b2 (f_X1_markBit p3 S_5) (fun r_9 S_7 => hs_b1 (f_X3_put p0 (r_9 + x5) S_7) (fun S_10 => f_X3_write_218   S_10))) else (if x2 = 2 then hs_b1 (f_X3_put p0 ((192 : Int32) + (hs_ushr x6 (5 : Int32))) S) (fun S_13 => (if (S_13 p3 2) = 0 then f_X3_write_152  p0 x5 p0 ((x6 &&& (31 : Int32)) * (8 : Int32)) (0 : Int32) S_13 else f_X3_write_152  p0 x5 p0 ((x6 &&& (31 : Int32)) * (8 : Int32)) (4 : Int32) S_13)) else (if x2 = 3 then hs_b1 (f_X3_put p0 (248 : Int32) S) (fun S_16 => hs_b1 (f_X3_putMoving p0 p3 x5 S_16) (fun S_18 => f_X3_write_218   S_18)) else hs_b1 (f_X3_put p0 (253 : Int32) S) (fun S_20 => hs_b1 (f_X3_putTwo p0 (S_20 p3 0) S_20) (fun S_22 => hs_b1 (f_X3_put p0 (S_22 p3 1) S_22) (fun S_24 => hs_b1 (f_X3_putTwo p0 x4 S_24) (fun S_26 => hs_b1 (f_X3_putMoving p0 p3 x5 S_26) (fun S_28 => f_X3_write_218   S_28)))))))))
def f_X3_write_28 (p0 : Nat) (x1 : Int32) (x2 : Int32) (p3 : Nat) (x4 : Int32) (x5 : Int32) (y0 : Int32) (S : hs_M) : Option hs_M := hs_l (hs_U S p0 1 (0 : Int32)) (fun S_1 => (if x1 = 0 then f_X3_write_48  p0 x2 p3 x4 x5 y0 S_1 else hs_b1 (f_X3_put p0 ((224 : Int32) + x1) S_1) (fun S_2 => f_X3_write_48  p0 x2 p3 x4 x5 y0 S_2)))
def f_X3_write_0 (p0 : Nat) (x1 : Int32) (x2 : Int32) (p3 : Nat) (x4 : Int32) (S : hs_M) : Option hs_M := hs_b2 (f_X1_sumFor p3 x2 x4 S) (fun r_3 S_1 => (if (3 : Int32) ≤ x2 then f_X3_write_28  p0 x1 x2 p3 x4 r_3 (0 : Int32) S_1 else hs_ix x2 (hs_sn 3) (f_X3_write_28  p0 x1 x2 p3 x4 r_3 ((S_1 p3 3) &&& (hs_sv 3 x2.toNatClampNeg)) S_1)))
def f_X3_write (i0 : Nat) (a1 : Int32) (a2 : Int32) (i3 : Nat) (a4 : Int32) (S : hs_M) : Option hs_M := f_X3_write_0 i0 a1 a2 i3 a4 S
/-! HeaderSqueeze$Receiver.fits -/
def f_X4_fits_44 (y0 : Int32) (S : hs_M) : Option (Int32 × hs_M) := hs_bg y0 (some (y0, S))
def f_X4_fits_0 (p0 : Nat) (p1 : Nat) (p2 : Nat) (x3 : Int32) (S : hs_M) : Option (Int32 × hs_M) := hs_b1 (f_X0_complete (p0 + 4) p2 x3 S) (fun S_1 => hs_b2 (f_X3_markTold p1 S_1) (fun r_5 S_3 => hs_bg r_5 (hs_l (hs_U S_3 p2 2 r_5) (fun S_6 => hs_b2 (f_X1_sumFor p2 (S_6 p1 3) (S_6 (p0 + 4) 2) S_6) (fun r_9 S_7 => hs_b2 (f_X3_sumTold p1 S_7) (fun r_12 S_10 => (if r_9 = r_12 then f_X4_fits_44  (1 : Int32) S_10 else f_X4_fits_44  (0 : Int32) S_10)))))))
def f_X4_fits (i0 : Nat) (i1 : Nat) (i2 : Nat) (a3 : Int32) (S : hs_M) : Option (Int32 × hs_M) := f_X4_fits_0 i0 i1 i2 a3 S
/-! HeaderSqueeze$Receiver.hasUseFor -/
def f_X4_hasUseFor_40 (y0 : Int32) (S : hs_M) : Option (Int32 × hs_M) := hs_bg y0 (some (y0, S))
def f_X4_hasUseFor_0 (p0 : Nat) (x1 : Int32) (S : hs_M) : Option (Int32 × hs_M) := (if x1 = (4 : Int32) then hs_bg (1 : Int32) (some ((1 : Int32), S)) else (if x1 = (3 : Int32) then (if (S p0 1) = 0 then f_X4_hasUseFor_40  (0 : Int32) S else f_X4_hasUseFor_40  (1 : Int32) S) else (if (S p0 1) = (2 : Int32) then f_X4_hasUseFor_40  (1 : Int32) S else f_X4_hasUseFor_40  (0 : Int32) S)))
def f_X4_hasUseFor (i0 : Nat) (a1 : Int32) (S : hs_M) : Option (Int32 × hs_M) := f_X4_hasUseFor_0 i0 a1 S
/-! HeaderSqueeze$Receiver.makeMoving -/
def f_X4_makeMoving_51 (p0 : Nat) (p1 : Nat) (p2 : Nat) (x3 : Int32) (S : hs_M) : Option (Int32 × hs_M) := hs_b1 (f_X3_readMoving p1 p2 S) (fun S_1 => hs_b2 (f_X1_sumFor p2 (S_1 p1 3) x3 S_1) (fun r_5 S_3 => hs_b2 (f_X3_sumTold p1 S_3) (fun r_8 S_6 => (if r_5 = r_8 then hs_b1 (f_X0_follow (p0 + 4) p2 x3 S_6) (fun S_9 => some ((1 : Int32), S_9)) else some ((0 : Int32), S_6)))))
def f_X4_makeMoving_0 (p0 : Nat) (p1 : Nat) (p2 : Nat) (S : hs_M) : Option (Int32 × hs_M) := hs_l (S (p0 + 4) 2) (fun x_1 => (if (S p1 3) = (4 : Int32) then hs_b2 (f_X3_strideTold p1 S) (fun r_6 S_4 => hs_b1 (f_X3_readFixed p1 p2 S_4) (fun S_7 => f_X4_makeMoving_51  p0 p1 p2 r_6 S_7)) else hs_l (hs_U S p2 0 (S (p0 + 4) 0)) (fun S_2 => hs_l (hs_U S_2 p2 1 (S_2 (p0 + 4) 1)) (fun S_3 => f_X4_makeMoving_51  p0 p1 p2 x_1 S_3))))
def f_X4_makeMoving (i0 : Nat) (i1 : Nat) (i2 : Nat) (S : hs_M) : Option (Int32 × hs_M) := f_X4_makeMoving_0 i0 i1 i2 S
/-! HeaderSqueeze$Receiver.numberNear -/
def f_X4_numberNear_0 (x0 : Int32) (p1 : Nat) (S : hs_M) : Option (Int32 × hs_M) := hs_l (S p1 3) (fun x_1 => hs_ix x_1 (hs_sn 4) (hs_l (x0 - (hs_sv 4 x_1.toNatClampNeg)) (fun x_2 => hs_b2 (f_X3_lowTold p1 S) (fun r_5 S_3 => hs_l (S_3 p1 3) (fun x_6 => hs_ix x_6 (hs_sn 3) (hs_l ((r_5 - x_2) &&& (hs_sv 3 x_6.toNatClampNeg)) (fun x_7 => some (((x_2 + x_7) &&& (65535 : Int32)), S_3))))))))
def f_X4_numberNear (a0 : Int32) (i1 : Nat) (S : hs_M) : Option (Int32 × hs_M) := f_X4_numberNear_0 a0 i1 S
/-! HeaderSqueeze$Receiver.makeSmall -/
def f_X4_makeSmall_83 (y0 : Int32) (S : hs_M) : Option (Int32 × hs_M) := some (y0, S)
def f_X4_makeSmall_71 (y0 : Int32) (S : hs_M) : Option (Int32 × hs_M) := (if y0 = 0 then f_X4_makeSmall_83  (0 : Int32) S else f_X4_makeSmall_83  (2 : Int32) S)
def f_X4_makeSmall_66 (S : hs_M) : Option (Int32 × hs_M) := f_X4_makeSmall_71  (1 : Int32) S
def f_X4_makeSmall_0 (p0 : Nat) (p1 : Nat) (p2 : Nat) (S : hs_M) : Option (Int32 × hs_M) := hs_b2 (f_X4_numberNear (S p0 2) p1 S) (fun r_3 S_1 => hs_b2 (f_X4_fits p0 p1 p2 r_3 S_1) (fun r_6 S_4 => (if r_6 = 0 then hs_l (S_4 p1 3) (fun x_7 => hs_ix x_7 (hs_sn 3) (hs_l (((r_3 + (hs_sv 3 x_7.toNatClampNeg)) + (1 : Int32)) &&& (65535 : Int32)) (fun x_8 => hs_b2 (f_X4_fits p0 p1 p2 x_8 S_4) (fun r_11 S_9 => (if r_11 = 0 then hs_b2 (f_X4_numberNear (S_9 p0 3) p1 S_9) (fun r_14 S_12 => hs_b2 (f_X4_fits p0 p1 p2 r_14 S_12) (fun r_17 S_15 => (if r_17 = 0 then f_X4_makeSmall_71  (0 : Int32) S_15 else f_X4_makeSmall_66   S_15))) else f_X4_makeSmall_66   S_9))))) else some ((1 : Int32), S_4))))
def f_X4_makeSmall (i0 : Nat) (i1 : Nat) (i2 : Nat) (S : hs_M) : Option (Int32 × hs_M) := f_X4_makeSmall_0 i0 i1 i2 S
/-! HeaderSqueeze$Receiver.noteFailure -/
def f_X4_noteFailure_37 (S : hs_M) : Option hs_M := some S
def f_X4_noteFailure_0 (p0 : Nat) (S : hs_M) : Option hs_M := hs_l (hs_U S p0 4 ((S p0 4) + (1 : Int32))) (fun S_1 => (if (S_1 p0 4) = (3 : Int32) then hs_l (hs_U S_1 p0 4 (0 : Int32)) (fun S_2 => hs_l (hs_U S_2 p0 1 (hs_max ((S_2 p0 1) - (1 : Int32)) (0 : Int32))) (fun S_3 => f_X4_noteFailure_37   S_3)) else f_X4_noteFailure_37   S_1))
def f_X4_noteFailure (i0 : Nat) (S : hs_M) : Option hs_M := f_X4_noteFailure_0 i0 S
/-! HeaderSqueeze$Receiver.noteMade -/
def f_X4_noteMade_16 (p0 : Nat) (x1 : Int32) (q0 : Nat) (y1 : Int32) (S : hs_M) : Option hs_M := hs_l (hs_U S q0 3 y1) (fun S_1 => hs_l (hs_U S_1 p0 2 x1) (fun S_2 => hs_l (hs_U S_2 p0 1 (2 : Int32)) (fun S_3 => hs_l (hs_U S_3 p0 4 (0 : Int32)) (fun S_4 => some S_4))))
def f_X4_noteMade_0 (p0 : Nat) (x1 : Int32) (S : hs_M) : Option hs_M := (if (S p0 1) = 0 then f_X4_noteMade_16  p0 x1 p0 x1 S else f_X4_noteMade_16  p0 x1 p0 (S p0 2) S)
def f_X4_noteMade (i0 : Nat) (a1 : Int32) (S : hs_M) : Option hs_M := f_X4_noteMade_0 i0 a1 S
/-! HeaderSqueeze$Receiver.take -/
def f_X4_take_43 (x3 : Int32) (S : hs_M) : Option (Int32 × hs_M) := some (x3, S)
def f_X4_take_23 (p0 : Nat) (p2 : Nat) (y0 : Int32) (S : hs_M) : Option (Int32 × hs_M) := (if y0 = 0 then hs_b1 (f_X4_noteFailure p0 S) (fun S_3 => f_X4_take_43  y0 S_3) else hs_b1 (f_X4_noteMade p0 (S p2 3) S) (fun S_1 => f_X4_take_43  y0 S_1))
def f_X4_take_0 (p0 : Nat) (p1 : Nat) (p2 : Nat) (S : hs_M) : Option (Int32 × hs_M) := (if (3 : Int32) ≤ (S p1 3) then hs_b2 (f_X4_makeMoving p0 p1 p2 S) (fun r_3 S_1 => f_X4_take_23  p0 p2 r_3 S_1) else hs_b2 (f_X4_makeSmall p0 p1 p2 S) (fun r_6 S_4 => f_X4_take_23  p0 p2 r_6 S_4))
def f_X4_take (i0 : Nat) (i1 : Nat) (i2 : Nat) (S : hs_M) : Option (Int32 × hs_M) := f_X4_take_0 i0 i1 i2 S
/-! HeaderSqueeze$Sender.enter -/
def f_X5_enter_0 (p0 : Nat) (x1 : Int32) (S : hs_M) : Option hs_M := hs_l (hs_U S p0 2 x1) (fun S_1 => hs_l (hs_U S_1 p0 3 (0 : Int32)) (fun S_2 => some S_2))
def f_X5_enter (i0 : Nat) (a1 : Int32) (S : hs_M) : Option hs_M := f_X5_enter_0 i0 a1 S
/-! HeaderSqueeze$Sender.isEnough -/
def fb_X5_isEnough_12 (K12 : Nat → Int32 → Int32 → Int32 → Int32 → hs_M → Option (Int32 × hs_M)) (p0 : Nat) (x1 : Int32) (x2 : Int32) (x3 : Int32) (x4 : Int32) (S : hs_M) : Option (Int32 × hs_M) := (if x3 ≤ x4 then hs_bg (1 : Int32) (some ((1 : Int32), S)) else hs_ix x4 (hs_N (p0 + 8)) (hs_ix x1 (hs_sn 4) (hs_l (((x2 - (S (p0 + 8) x4.toNatClampNeg)) + (hs_sv 4 x1.toNatClampNeg)) &&& (65535 : Int32)) (fun x_1 => hs_ix x1 (hs_sn 3) ((if x_1 ≤ (hs_sv 3 x1.toNatClampNeg) then hs_l (x4 + (1 : Int32)) (fun x_2 => K12 p0 x1 x2 x3 x_2 S) else hs_bg (0 : Int32) (some ((0 : Int32), S))))))))
def f_X5_isEnough_12  : Nat → Nat → Int32 → Int32 → Int32 → Int32 → hs_M → Option (Int32 × hs_M)
  | 0 => fun _ _ _ _ _ _ => none
  | n + 1 => fb_X5_isEnough_12  (f_X5_isEnough_12  n)
def f_X5_isEnough_0 (p0 : Nat) (x1 : Int32) (x2 : Int32) (S : hs_M) : Option (Int32 × hs_M) := hs_l (hs_min (S p0 7) (4 : Int32)) (fun x_1 => f_X5_isEnough_12  hs_fuel p0 x1 x2 x_1 (0 : Int32) S)
def f_X5_isEnough (i0 : Nat) (a1 : Int32) (a2 : Int32) (S : hs_M) : Option (Int32 × hs_M) := f_X5_isEnough_0 i0 a1 a2 S
/-! HeaderSqueeze$Sender.smallestKind -/
def f_X5_smallestKind_52 (y0 : Int32) (S : hs_M) : Option (Int32 × hs_M) := some (y0, S)
def f_X5_smallestKind_21 (p0 : Nat) (p1 : Nat) (S : hs_M) : Option (Int32 × hs_M) := hs_b2 (f_X5_isEnough p0 (1 : Int32) (S p1 3) S) (fun r_3 S_1 => (if r_3 = 0 then hs_b2 (f_X5_isEnough p0 (2 : Int32) (S_1 p1 3) S_1) (fun r_6 S_4 => (if r_6 = 0 then f_X5_smallestKind_52  (3 : Int32) S_4 else f_X5_smallestKind_52  (2 : Int32) S_4)) else some ((1 : Int32), S_1)))
def f_X5_smallestKind_0 (p0 : Nat) (p1 : Nat) (S : hs_M) : Option (Int32 × hs_M) := (if (S p1 2) = 0 then hs_b2 (f_X5_isEnough p0 (0 : Int32) (S p1 3) S) (fun r_3 S_1 => (if r_3 = 0 then f_X5_smallestKind_21  p0 p1 S_1 else some ((0 : Int32), S_1))) else f_X5_smallestKind_21  p0 p1 S)
def f_X5_smallestKind (i0 : Nat) (i1 : Nat) (S : hs_M) : Option (Int32 × hs_M) := f_X5_smallestKind_0 i0 i1 S
/-! HeaderSqueeze$Sender.chooseKind -/
def f_X5_chooseKind_76 (p0 : Nat) (p1 : Nat) (S : hs_M) : Option (Int32 × hs_M) := hs_b1 (f_X0_follow (p0 + 4) p1 (S p0 1) S) (fun S_1 => hs_bg (1 : Int32) (hs_l (hs_U S_1 p0 5 (1 : Int32)) (fun S_3 => hs_l (S_3 p0 2) (fun x_4 => (if x_4 = 0 then some ((4 : Int32), S_3) else (if x_4 = 1 then some ((3 : Int32), S_3) else hs_b2 (f_X5_smallestKind p0 p1 S_3) (fun r_9 S_7 => some (r_9, S_7))))))))
def f_X5_chooseKind_73 (p0 : Nat) (p1 : Nat) (q0 : Nat) (y1 : Int32) (S : hs_M) : Option (Int32 × hs_M) := hs_b1 (f_X5_enter q0 y1 S) (fun S_1 => f_X5_chooseKind_76  p0 p1 S_1)
def f_X5_chooseKind_41 (p0 : Nat) (p1 : Nat) (S : hs_M) : Option (Int32 × hs_M) := hs_b1 (f_X5_enter p0 (0 : Int32) S) (fun S_1 => f_X5_chooseKind_76  p0 p1 S_1)
def f_X5_chooseKind_0 (p0 : Nat) (p1 : Nat) (S : hs_M) : Option (Int32 × hs_M) := (if (S p0 5) = 0 then f_X5_chooseKind_41  p0 p1 S else hs_b2 (f_X0_isOf (p0 + 4) p1 S) (fun r_3 S_1 => (if r_3 = 0 then f_X5_chooseKind_41  p0 p1 S_1 else (if (S_1 (p0 + 4) 2) = (S_1 p0 1) then (if (S_1 p0 4) = (20 : Int32) then f_X5_chooseKind_41  p0 p1 S_1 else hs_b2 (f_X0_goesAlong (p0 + 4) p1 S_1) (fun r_6 S_4 => (if r_6 = 0 then (if (S_4 p0 2) = 0 then f_X5_chooseKind_73  p0 p1 p0 (0 : Int32) S_4 else f_X5_chooseKind_73  p0 p1 p0 (1 : Int32) S_4) else f_X5_chooseKind_76  p0 p1 S_4))) else f_X5_chooseKind_41  p0 p1 S_1))))
def f_X5_chooseKind (i0 : Nat) (i1 : Nat) (S : hs_M) : Option (Int32 × hs_M) := f_X5_chooseKind_0 i0 i1 S
/-! HeaderSqueeze$Sender.noteSent -/
def f_X5_noteSent_72 (S : hs_M) : Option hs_M := some S
def f_X5_noteSent_16 (p0 : Nat) (x2 : Int32) (q0 : Nat) (y1 : Int32) (S : hs_M) : Option hs_M := hs_l (hs_U S q0 4 y1) (fun S_1 => hs_ix ((S_1 p0 7) &&& (3 : Int32)) (hs_N (p0 + 8)) (hs_l (hs_U S_1 (p0 + 8) ((S_1 p0 7) &&& (3 : Int32)).toNatClampNeg x2) (fun S_2 => hs_l (hs_U S_2 p0 7 ((S_2 p0 7) + (1 : Int32))) (fun S_3 => hs_l (hs_U S_3 p0 3 ((S_3 p0 3) + (1 : Int32))) (fun S_4 => (if (S_4 p0 2) = (2 : Int32) then f_X5_noteSent_72   S_4 else (if (S_4 p0 3) = (3 : Int32) then hs_b1 (f_X5_enter p0 (2 : Int32) S_4) (fun S_5 => f_X5_noteSent_72   S_5) else f_X5_noteSent_72   S_4)))))))
def f_X5_noteSent_0 (p0 : Nat) (x1 : Int32) (x2 : Int32) (S : hs_M) : Option hs_M := (if x1 = (4 : Int32) then f_X5_noteSent_16  p0 x2 p0 (0 : Int32) S else f_X5_noteSent_16  p0 x2 p0 ((S p0 4) + (1 : Int32)) S)
def f_X5_noteSent (i0 : Nat) (a1 : Int32) (a2 : Int32) (S : hs_M) : Option hs_M := f_X5_noteSent_0 i0 a1 a2 S
/-! HeaderSqueeze.isNoPacket -/
def f_X6_isNoPacket_20 (y0 : Int32) (S : hs_M) : Option (Int32 × hs_M) := hs_bg y0 (some (y0, S))
def f_X6_isNoPacket_15 (S : hs_M) : Option (Int32 × hs_M) := f_X6_isNoPacket_20  (1 : Int32) S
def f_X6_isNoPacket_0 (x1 : Int32) (S : hs_M) : Option (Int32 × hs_M) := (if x1 < 0 then f_X6_isNoPacket_15   S else (if x1 < (S 4 1) then f_X6_isNoPacket_20  (0 : Int32) S else f_X6_isNoPacket_15   S))
def f_X6_isNoPacket (a1 : Int32) (S : hs_M) : Option (Int32 × hs_M) := f_X6_isNoPacket_0 a1 S
/-! HeaderSqueeze.isNoByte -/
def f_X6_isNoByte_25 (y0 : Int32) (S : hs_M) : Option (Int32 × hs_M) := hs_bg y0 (some (y0, S))
def f_X6_isNoByte_20 (S : hs_M) : Option (Int32 × hs_M) := f_X6_isNoByte_25  (1 : Int32) S
def f_X6_isNoByte_0 (x1 : Int32) (x2 : Int32) (S : hs_M) : Option (Int32 × hs_M) := (if x2 < 0 then f_X6_isNoByte_20   S else hs_ix x1 (hs_N 5) (hs_l (S 5 x1.toNatClampNeg).toNatClampNeg (fun p_1 => hs_kg p_1 3 ((if x2 < (S p_1 1) then f_X6_isNoByte_25  (0 : Int32) S else f_X6_isNoByte_20   S)))))
def f_X6_isNoByte (a1 : Int32) (a2 : Int32) (S : hs_M) : Option (Int32 × hs_M) := f_X6_isNoByte_0 a1 a2 S
/-! HeaderSqueeze.byteAt -/
def f_X6_byteAt_17 (S : hs_M) : Option ((Nat × Int32) × hs_M) := some ((1, 0), S)
def f_X6_byteAt_0 (x1 : Int32) (x2 : Int32) (S : hs_M) : Option ((Nat × Int32) × hs_M) := hs_b2 (f_X6_isNoPacket x1 S) (fun r_3 S_1 => (if r_3 = 0 then hs_b2 (f_X6_isNoByte x1 x2 S_1) (fun r_6 S_4 => (if r_6 = 0 then hs_ix x1 (hs_N 5) (hs_l (S_4 5 x1.toNatClampNeg).toNatClampNeg (fun p_7 => hs_kg p_7 3 (hs_ix x2 (hs_N (p_7 + 9)) (some ((0, (S_4 (p_7 + 9) x2.toNatClampNeg)), S_4))))) else f_X6_byteAt_17   S_4)) else f_X6_byteAt_17   S_1))
def f_X6_byteAt (a1 : Int32) (a2 : Int32) (S : hs_M) : Option ((Nat × Int32) × hs_M) := f_X6_byteAt_0 a1 a2 S
/-! HeaderSqueeze.count -/
def f_X6_count_10 (S : hs_M) : Option ((Nat × Int32) × hs_M) := some ((2, 0), S)
def f_X6_count_0 (x1 : Int32) (S : hs_M) : Option ((Nat × Int32) × hs_M) := (if x1 < 0 then f_X6_count_10   S else (if x1 < (11 : Int32) then hs_ix x1 (hs_N 46) (some ((0, (S 46 x1.toNatClampNeg)), S)) else f_X6_count_10   S))
def f_X6_count (a1 : Int32) (S : hs_M) : Option ((Nat × Int32) × hs_M) := f_X6_count_0 a1 S
/-! HeaderSqueeze.keepTrial -/
def f_X6_keepTrial_0 (S : hs_M) : Option hs_M := hs_l (S 0 5).toNatClampNeg (fun p_1 => hs_kg p_1 1 (hs_l (S 0 6).toNatClampNeg (fun p_3 => hs_kg p_3 1 (hs_l (hs_U S 0 5 (nI p_3)) (fun S_5 => hs_l (hs_U S_5 0 6 (nI p_1)) (fun S_6 => some S_6))))))
def f_X6_keepTrial  (S : hs_M) : Option hs_M := f_X6_keepTrial_0  S
/-! HeaderSqueeze.deliver -/
def f_X6_deliver_0 (x1 : Int32) (S : hs_M) : Option ((Nat × Int32) × hs_M) := hs_b2 (f_X6_isNoPacket x1 S) (fun r_3 S_1 => (if r_3 = 0 then hs_b2 (f_X2_takeOff x1 S_1) (fun r_6 S_4 => hs_kg r_6 3 (hs_b1 (f_X3_read r_6 S_4) (fun S_8 => (if (S_8 r_6 3) = (-1 : Int32) then hs_ix (8 : Int32) (hs_N 46) (hs_ix (8 : Int32) (hs_N 46) (hs_l (hs_U S_8 46 (8 : Int32).toNatClampNeg ((S_8 46 (8 : Int32).toNatClampNeg) + (1 : Int32))) (fun S_26 => some ((2, 0), S_26)))) else hs_l (S_8 r_6 2) (fun x_10 => hs_ix x_10 (hs_N 37) (hs_b2 (f_X4_hasUseFor (38 + x_10.toNatClampNeg) (S_8 r_6 3) S_8) (fun r_14 S_12 => (if r_14 = 0 then hs_ix (9 : Int32) (hs_N 46) (hs_ix (9 : Int32) (hs_N 46) (hs_l (hs_U S_12 46 (9 : Int32).toNatClampNeg ((S_12 46 (9 : Int32).toNatClampNeg) + (1 : Int32))) (fun S_25 => some ((3, 0), S_25)))) else hs_l (S_12 0 6).toNatClampNeg (fun p_15 => hs_kg p_15 1 (hs_b2 (f_X4_take (38 + x_10.toNatClampNeg) r_6 p_15 S_12) (fun r_19 S_17 => (if r_19 = 0 then hs_ix (10 : Int32) (hs_N 46) (hs_ix (10 : Int32) (hs_N 46) (hs_l (hs_U S_17 46 (10 : Int32).toNatClampNeg ((S_17 46 (10 : Int32).toNatClampNeg) + (1 : Int32))) (fun S_24 => some ((4, 0), S_24)))) else hs_b1 (f_X6_keepTrial S_17) (fun S_20 => hs_ix (6 : Int32) (hs_N 46) (hs_ix (6 : Int32) (hs_N 46) (hs_l (hs_U S_20 46 (6 : Int32).toNatClampNeg ((S_20 46 (6 : Int32).toNatClampNeg) + (1 : Int32))) (fun S_22 => (if r_19 = (2 : Int32) then hs_ix (7 : Int32) (hs_N 46) (hs_ix (7 : Int32) (hs_N 46) (hs_l (hs_U S_22 46 (7 : Int32).toNatClampNeg ((S_22 46 (7 : Int32).toNatClampNeg) + (1 : Int32))) (fun S_23 => some ((0, ((S_23 r_6 2) + (4 : Int32))), S_23)))) else some ((0, (S_22 r_6 2)), S_22)))))))))))))))))) else some ((1, 0), S_1)))
def f_X6_deliver (a1 : Int32) (S : hs_M) : Option ((Nat × Int32) × hs_M) := f_X6_deliver_0 a1 S
/-! HeaderSqueeze.isNotInTwoBytes -/
def f_X6_isNotInTwoBytes_15 (y0 : Int32) (S : hs_M) : Option (Int32 × hs_M) := hs_bg y0 (some (y0, S))
def f_X6_isNotInTwoBytes_10 (S : hs_M) : Option (Int32 × hs_M) := f_X6_isNotInTwoBytes_15  (1 : Int32) S
def f_X6_isNotInTwoBytes_0 (x0 : Int32) (S : hs_M) : Option (Int32 × hs_M) := (if x0 < 0 then f_X6_isNotInTwoBytes_10   S else (if x0 ≤ (65535 : Int32) then f_X6_isNotInTwoBytes_15  (0 : Int32) S else f_X6_isNotInTwoBytes_10   S))
def f_X6_isNotInTwoBytes (a0 : Int32) (S : hs_M) : Option (Int32 × hs_M) := f_X6_isNotInTwoBytes_0 a0 S
/-! HeaderSqueeze.head -/
def f_X6_head_17 (S : hs_M) : Option ((Nat × Int32) × hs_M) := some ((2, 0), S)
def f_X6_head_0 (x1 : Int32) (x2 : Int32) (x3 : Int32) (S : hs_M) : Option ((Nat × Int32) × hs_M) := hs_b2 (f_X6_isNotInTwoBytes x1 S) (fun r_3 S_1 => (if r_3 = 0 then (if x2 < 0 then f_X6_head_17   S_1 else (if x2 ≤ (127 : Int32) then hs_l (hs_U S_1 1 0 x1) (fun S_4 => hs_l (hs_U S_4 1 1 x2) (fun S_5 => hs_bg x3 (hs_l (hs_U S_5 1 2 x3) (fun S_6 => some ((0, 0), S_6))))) else f_X6_head_17   S_1)) else f_X6_head_17   S_1))
def f_X6_head (a1 : Int32) (a2 : Int32) (a3 : Int32) (S : hs_M) : Option ((Nat × Int32) × hs_M) := f_X6_head_0 a1 a2 a3 S
/-! HeaderSqueeze.isNoFlow -/
def f_X6_isNoFlow_14 (y0 : Int32) (S : hs_M) : Option (Int32 × hs_M) := hs_bg y0 (some (y0, S))
def f_X6_isNoFlow_9 (S : hs_M) : Option (Int32 × hs_M) := f_X6_isNoFlow_14  (1 : Int32) S
def f_X6_isNoFlow_0 (x0 : Int32) (S : hs_M) : Option (Int32 × hs_M) := (if x0 < 0 then f_X6_isNoFlow_9   S else (if x0 < (4 : Int32) then f_X6_isNoFlow_14  (0 : Int32) S else f_X6_isNoFlow_9   S))
def f_X6_isNoFlow (a0 : Int32) (S : hs_M) : Option (Int32 × hs_M) := f_X6_isNoFlow_0 a0 S
/-! HeaderSqueeze.line -/
def f_X6_line_0 (S : hs_M) : Option (Int32 × hs_M) := some ((S 4 1), S)
def f_X6_line  (S : hs_M) : Option (Int32 × hs_M) := f_X6_line_0  S
/-! HeaderSqueeze.lose -/
def f_X6_lose_0 (x1 : Int32) (S : hs_M) : Option ((Nat × Int32) × hs_M) := hs_b2 (f_X6_isNoPacket x1 S) (fun r_3 S_1 => (if r_3 = 0 then hs_b2 (f_X2_takeOff x1 S_1) (fun r_6 S_4 => hs_kg r_6 3 (some ((0, 0), S_4))) else some ((1, 0), S_1)))
def f_X6_lose (a1 : Int32) (S : hs_M) : Option ((Nat × Int32) × hs_M) := f_X6_lose_0 a1 S
/-! HeaderSqueeze.made -/
def f_X6_made_10 (S : hs_M) : Option ((Nat × Int32) × hs_M) := some ((1, 0), S)
def f_X6_made_0 (x1 : Int32) (S : hs_M) : Option ((Nat × Int32) × hs_M) := (if x1 < 0 then f_X6_made_10   S else (if x1 < (11 : Int32) then hs_l (S 0 5).toNatClampNeg (fun p_1 => hs_kg p_1 1 (hs_b2 (f_X1_part p_1 x1 S) (fun r_5 S_3 => some ((0, r_5), S_3)))) else f_X6_made_10   S))
def f_X6_made (a1 : Int32) (S : hs_M) : Option ((Nat × Int32) × hs_M) := f_X6_made_0 a1 S
/-! HeaderSqueeze.receiver -/
def f_X6_receiver_0 (x1 : Int32) (x2 : Int32) (S : hs_M) : Option ((Nat × Int32) × hs_M) := hs_b2 (f_X6_isNoFlow x1 S) (fun r_3 S_1 => (if r_3 = 0 then hs_ix x1 (hs_N 37) ((if x2 = 0 then some ((0, (S_1 (38 + x1.toNatClampNeg) 1)), S_1) else (if x2 = 1 then some ((0, (S_1 (38 + x1.toNatClampNeg) 2)), S_1) else (if x2 = 2 then some ((0, (S_1 (38 + x1.toNatClampNeg) 3)), S_1) else (if x2 = 3 then some ((0, (S_1 (38 + x1.toNatClampNeg) 4)), S_1) else some ((2, 0), S_1)))))) else some ((1, 0), S_1)))
def f_X6_receiver (a1 : Int32) (a2 : Int32) (S : hs_M) : Option ((Nat × Int32) × hs_M) := f_X6_receiver_0 a1 a2 S
/-! HeaderSqueeze.send -/
def f_X6_send_161 (y0 : Int32) (S : hs_M) : Option ((Nat × Int32) × hs_M) := some ((0, y0), S)
def f_X6_send_30 (S : hs_M) : Option ((Nat × Int32) × hs_M) := some ((2, 0), S)
def f_X6_send_0 (x1 : Int32) (x2 : Int32) (x3 : Int32) (x4 : Int32) (S : hs_M) : Option ((Nat × Int32) × hs_M) := hs_b2 (f_X6_isNoFlow x1 S) (fun r_3 S_1 => (if r_3 = 0 then hs_b2 (f_X6_isNotInTwoBytes x2 S_1) (fun r_6 S_4 => (if r_6 = 0 then hs_b2 (f_X6_isNotInTwoBytes x4 S_4) (fun r_9 S_7 => (if r_9 = 0 then hs_l (hs_U S_7 1 3 x2) (fun S_10 => hs_l (hs_U S_10 1 4 x3) (fun S_11 => hs_l (hs_U S_11 1 5 x4) (fun S_12 => hs_ix x1 (hs_N 24) (hs_b2 (f_X5_chooseKind (25 + x1.toNatClampNeg) 1 S_12) (fun r_16 S_14 => hs_b2 (f_X2_rowBehind S_14) (fun r_19 S_17 => hs_kg r_19 3 (hs_b1 (f_X3_write r_19 x1 r_16 1 (S_17 (25 + x1.toNatClampNeg) 1) S_17) (fun S_21 => hs_b1 (f_X5_noteSent (25 + x1.toNatClampNeg) r_16 x2 S_21) (fun S_23 => hs_ix r_16 (hs_N 46) (hs_ix r_16 (hs_N 46) (hs_l (hs_U S_23 46 r_16.toNatClampNeg ((S_23 46 r_16.toNatClampNeg) + (1 : Int32))) (fun S_25 => hs_ix (5 : Int32) (hs_N 46) (hs_ix (5 : Int32) (hs_N 46) (hs_l (hs_U S_25 46 (5 : Int32).toNatClampNeg ((S_25 46 (5 : Int32).toNatClampNeg) + (S_25 r_19 1))) (fun S_26 => hs_b2 (f_X2_addRowBehind S_26) (fun r_29 S_27 => (if r_29 = 0 then f_X6_send_161  (r_16 + (8 : Int32)) S_27 else f_X6_send_161  r_16 S_27))))))))))))))))) else f_X6_send_30   S_7)) else f_X6_send_30   S_4)) else some ((1, 0), S_1)))
def f_X6_send (a1 : Int32) (a2 : Int32) (a3 : Int32) (a4 : Int32) (S : hs_M) : Option ((Nat × Int32) × hs_M) := f_X6_send_0 a1 a2 a3 a4 S
/-! HeaderSqueeze.sender -/
def f_X6_sender_0 (x1 : Int32) (x2 : Int32) (S : hs_M) : Option ((Nat × Int32) × hs_M) := hs_b2 (f_X6_isNoFlow x1 S) (fun r_3 S_1 => (if r_3 = 0 then hs_ix x1 (hs_N 24) ((if x2 = 0 then some ((0, (S_1 (25 + x1.toNatClampNeg) 2)), S_1) else (if x2 = 1 then some ((0, (S_1 (25 + x1.toNatClampNeg) 3)), S_1) else (if x2 = 2 then some ((0, (S_1 (25 + x1.toNatClampNeg) 4)), S_1) else (if x2 = 3 then some ((0, (S_1 ((25 + x1.toNatClampNeg) + 4) 3)), S_1) else (if x2 = 4 then some ((0, (S_1 ((25 + x1.toNatClampNeg) + 4) 4)), S_1) else some ((2, 0), S_1))))))) else some ((1, 0), S_1)))
def f_X6_sender (a1 : Int32) (a2 : Int32) (S : hs_M) : Option ((Nat × Int32) × hs_M) := f_X6_sender_0 a1 a2 S
/-! HeaderSqueeze.size -/
def f_X6_size_0 (x1 : Int32) (S : hs_M) : Option ((Nat × Int32) × hs_M) := hs_b2 (f_X6_isNoPacket x1 S) (fun r_3 S_1 => (if r_3 = 0 then hs_ix x1 (hs_N 5) (hs_l (S_1 5 x1.toNatClampNeg).toNatClampNeg (fun p_4 => hs_kg p_4 3 (some ((0, (S_1 p_4 1)), S_1)))) else some ((1, 0), S_1)))
def f_X6_size (a1 : Int32) (S : hs_M) : Option ((Nat × Int32) × hs_M) := f_X6_size_0 a1 S
/-! HeaderSqueeze.spoil -/
def f_X6_spoil_36 (S : hs_M) : Option ((Nat × Int32) × hs_M) := some ((2, 0), S)
def f_X6_spoil_17 (S : hs_M) : Option ((Nat × Int32) × hs_M) := some ((1, 0), S)
def f_X6_spoil_0 (x1 : Int32) (x2 : Int32) (x3 : Int32) (S : hs_M) : Option ((Nat × Int32) × hs_M) := hs_b2 (f_X6_isNoPacket x1 S) (fun r_3 S_1 => (if r_3 = 0 then hs_b2 (f_X6_isNoByte x1 x2 S_1) (fun r_6 S_4 => (if r_6 = 0 then (if x3 < 0 then f_X6_spoil_36   S_4 else (if x3 ≤ (255 : Int32) then hs_ix x1 (hs_N 5) (hs_l (S_4 5 x1.toNatClampNeg).toNatClampNeg (fun p_7 => hs_kg p_7 3 (hs_ix x2 (hs_N (p_7 + 9)) (hs_ix x2 (hs_N (p_7 + 9)) (hs_l (hs_U S_4 (p_7 + 9) x2.toNatClampNeg ((S_4 (p_7 + 9) x2.toNatClampNeg) ^^^ x3)) (fun S_9 => some ((0, 0), S_9))))))) else f_X6_spoil_36   S_4)) else f_X6_spoil_17   S_4)) else f_X6_spoil_17   S_1))
def f_X6_spoil (a1 : Int32) (a2 : Int32) (a3 : Int32) (S : hs_M) : Option ((Nat × Int32) × hs_M) := f_X6_spoil_0 a1 a2 a3 S
/-! HeaderSqueeze.stride -/
def f_X6_stride_0 (x1 : Int32) (x2 : Int32) (S : hs_M) : Option ((Nat × Int32) × hs_M) := hs_b2 (f_X6_isNoFlow x1 S) (fun r_3 S_1 => (if r_3 = 0 then hs_b2 (f_X6_isNotInTwoBytes x2 S_1) (fun r_6 S_4 => (if r_6 = 0 then hs_ix x1 (hs_N 24) (hs_l (hs_U S_4 (25 + x1.toNatClampNeg) 1 x2) (fun S_8 => some ((0, 0), S_8))) else some ((2, 0), S_4))) else some ((1, 0), S_1)))
def f_X6_stride (a1 : Int32) (a2 : Int32) (S : hs_M) : Option ((Nat × Int32) × hs_M) := f_X6_stride_0 a1 a2 S
/-! HeaderSqueezeModel.backOf -/
def f_X7_backOf_19 (y0 : Int32) (S : hs_M) : Option (Int32 × hs_M) := some (y0, S)
def f_X7_backOf_0 (x1 : Int32) (S : hs_M) : Option (Int32 × hs_M) := (if x1 = 0 then f_X7_backOf_19  (1 : Int32) S else (if x1 = (1 : Int32) then f_X7_backOf_19  (3 : Int32) S else f_X7_backOf_19  (31 : Int32) S))
def f_X7_backOf (a1 : Int32) (S : hs_M) : Option (Int32 × hs_M) := f_X7_backOf_0 a1 S
/-! HeaderSqueezeModel.bitsOf -/
def f_X7_bitsOf_20 (y0 : Int32) (S : hs_M) : Option (Int32 × hs_M) := some (y0, S)
def f_X7_bitsOf_0 (x1 : Int32) (S : hs_M) : Option (Int32 × hs_M) := (if x1 = 0 then f_X7_bitsOf_20  (4 : Int32) S else (if x1 = (1 : Int32) then f_X7_bitsOf_20  (6 : Int32) S else f_X7_bitsOf_20  (10 : Int32) S))
def f_X7_bitsOf (a1 : Int32) (S : hs_M) : Option (Int32 × hs_M) := f_X7_bitsOf_0 a1 S
/-! HeaderSqueezeModel.sizeOf -/
def f_X7_sizeOf_38 (y0 : Int32) (S : hs_M) : Option (Int32 × hs_M) := some (y0, S)
def f_X7_sizeOf_0 (x1 : Int32) (S : hs_M) : Option (Int32 × hs_M) := (if x1 = 0 then f_X7_sizeOf_38  (1 : Int32) S else (if x1 = (1 : Int32) then f_X7_sizeOf_38  (2 : Int32) S else (if x1 = (2 : Int32) then f_X7_sizeOf_38  (3 : Int32) S else (if x1 = (3 : Int32) then f_X7_sizeOf_38  (11 : Int32) S else f_X7_sizeOf_38  (16 : Int32) S))))
def f_X7_sizeOf (a1 : Int32) (S : hs_M) : Option (Int32 × hs_M) := f_X7_sizeOf_0 a1 S
/-! HeaderSqueezeModel.broken -/
def f_X7_broken_107 (y0 : Int32) (S : hs_M) : Option (Int32 × hs_M) := hs_bg y0 (some (y0, S))
def f_X7_broken_106 (S : hs_M) : Option (Int32 × hs_M) := f_X7_broken_107  (0 : Int32) S
def f_X7_broken_102 (S : hs_M) : Option (Int32 × hs_M) := f_X7_broken_107  (1 : Int32) S
def f_X7_broken_68 (y0 : Int32) (S : hs_M) : Option (Int32 × hs_M) := hs_bg y0 (some (y0, S))
def f_X7_broken_43 (y0 : Int32) (S : hs_M) : Option (Int32 × hs_M) := hs_bg y0 (some (y0, S))
def f_X7_broken_18 (S : hs_M) : Option (Int32 × hs_M) := hs_bg (1 : Int32) (some ((1 : Int32), S))
def f_X7_broken_0 (x1 : Int32) (x2 : Int32) (S : hs_M) : Option (Int32 × hs_M) := (if x1 < 0 then f_X7_broken_18   S else hs_b2 (f_X7_sizeOf x1 S) (fun r_3 S_1 => (if ((S 100 31) - x2) = r_3 then (if x1 = (2 : Int32) then hs_l (x2 + (1 : Int32)) (fun x_7 => hs_ix x_7 (hs_N 127) ((if ((S_1 127 x_7.toNatClampNeg) &&& (3 : Int32)) = 0 then f_X7_broken_43  (0 : Int32) S_1 else f_X7_broken_43  (1 : Int32) S_1))) else (if x1 = (3 : Int32) then hs_l (x2 + (1 : Int32)) (fun x_6 => hs_ix x_6 (hs_N 127) ((if ((S_1 127 x_6.toNatClampNeg) &&& (127 : Int32)) = 0 then f_X7_broken_68  (0 : Int32) S_1 else f_X7_broken_68  (1 : Int32) S_1))) else (if x1 = (4 : Int32) then hs_l (x2 + (6 : Int32)) (fun x_4 => hs_ix x_4 (hs_N 127) ((if ((S_1 127 x_4.toNatClampNeg) &&& (127 : Int32)) = 0 then hs_l (x2 + (3 : Int32)) (fun x_5 => hs_ix x_5 (hs_N 127) ((if (S_1 127 x_5.toNatClampNeg) ≤ (127 : Int32) then f_X7_broken_106   S_1 else f_X7_broken_102   S_1))) else f_X7_broken_102   S_1))) else f_X7_broken_106   S_1))) else f_X7_broken_18   S_1)))
def f_X7_broken (a1 : Int32) (a2 : Int32) (S : hs_M) : Option (Int32 × hs_M) := f_X7_broken_0 a1 a2 S
/-! HeaderSqueezeModel.noPacket -/
def f_X7_noPacket_17 (y0 : Int32) (S : hs_M) : Option (Int32 × hs_M) := hs_bg y0 (some (y0, S))
def f_X7_noPacket_12 (S : hs_M) : Option (Int32 × hs_M) := f_X7_noPacket_17  (1 : Int32) S
def f_X7_noPacket_0 (x1 : Int32) (S : hs_M) : Option (Int32 × hs_M) := (if x1 < 0 then f_X7_noPacket_12   S else (if x1 < (S 100 16) then f_X7_noPacket_17  (0 : Int32) S else f_X7_noPacket_12   S))
def f_X7_noPacket (a1 : Int32) (S : hs_M) : Option (Int32 × hs_M) := f_X7_noPacket_0 a1 S
/-! HeaderSqueezeModel.noByte -/
def f_X7_noByte_27 (y0 : Int32) (S : hs_M) : Option (Int32 × hs_M) := hs_bg y0 (some (y0, S))
def f_X7_noByte_22 (S : hs_M) : Option (Int32 × hs_M) := f_X7_noByte_27  (1 : Int32) S
def f_X7_noByte_0 (x1 : Int32) (x2 : Int32) (S : hs_M) : Option (Int32 × hs_M) := hs_b2 (f_X7_noPacket x1 S) (fun r_3 S_1 => (if r_3 = 0 then (if x2 < 0 then f_X7_noByte_22   S_1 else hs_ix x1 (hs_N 113) ((if x2 < (S_1 113 x1.toNatClampNeg) then f_X7_noByte_27  (0 : Int32) S_1 else f_X7_noByte_22   S_1))) else f_X7_noByte_22   S_1))
def f_X7_noByte (a1 : Int32) (a2 : Int32) (S : hs_M) : Option (Int32 × hs_M) := f_X7_noByte_0 a1 a2 S
/-! HeaderSqueezeModel.byteAt -/
def f_X7_byteAt_40 (y0 : Int32) (S : hs_M) : Option (Int32 × hs_M) := some (y0, S)
def f_X7_byteAt_15 (x1 : Int32) (x2 : Int32) (y1 : Int32) (S : hs_M) : Option (Int32 × hs_M) := hs_l (hs_U S 100 0 y1) (fun S_1 => (if (S_1 100 0) = 0 then hs_l (((20 : Int32) * x1) + x2) (fun x_2 => hs_ix x_2 (hs_N 114) (f_X7_byteAt_40  (S_1 114 x_2.toNatClampNeg) S_1)) else f_X7_byteAt_40  (0 : Int32) S_1))
def f_X7_byteAt_0 (x1 : Int32) (x2 : Int32) (S : hs_M) : Option (Int32 × hs_M) := hs_b2 (f_X7_noByte x1 x2 S) (fun r_3 S_1 => (if r_3 = 0 then f_X7_byteAt_15  x1 x2 (0 : Int32) S_1 else f_X7_byteAt_15  x1 x2 (1 : Int32) S_1))
def f_X7_byteAt (a1 : Int32) (a2 : Int32) (S : hs_M) : Option (Int32 × hs_M) := f_X7_byteAt_0 a1 a2 S
/-! HeaderSqueezeModel.enough -/
def f_X7_enough_63 (K6 : Int32 → Int32 → Int32 → Int32 → Int32 → hs_M → Option (Int32 × hs_M)) (x1 : Int32) (x2 : Int32) (x3 : Int32) (x5 : Int32) (y0 : Int32) (S : hs_M) : Option (Int32 × hs_M) := hs_l (x5 + (1 : Int32)) (fun x_1 => K6 x1 x2 x3 y0 x_1 S)
def f_X7_enough_62 (K6 : Int32 → Int32 → Int32 → Int32 → Int32 → hs_M → Option (Int32 × hs_M)) (x1 : Int32) (x2 : Int32) (x3 : Int32) (x5 : Int32) (S : hs_M) : Option (Int32 × hs_M) := f_X7_enough_63 K6 x1 x2 x3 x5 (0 : Int32) S
def fb_X7_enough_6 (K6 : Int32 → Int32 → Int32 → Int32 → Int32 → hs_M → Option (Int32 × hs_M)) (x1 : Int32) (x2 : Int32) (x3 : Int32) (x4 : Int32) (x5 : Int32) (S : hs_M) : Option (Int32 × hs_M) := hs_ix x1 (hs_N 111) ((if (S 111 x1.toNatClampNeg) ≤ x5 then hs_bg x4 (some (x4, S)) else hs_l (((4 : Int32) * x1) + x5) (fun x_1 => hs_ix x_1 (hs_N 112) (hs_b2 (f_X7_backOf x2 S) (fun r_4 S_2 => hs_l (((x3 - (S 112 x_1.toNatClampNeg)) + r_4) &&& (65535 : Int32)) (fun x_5 => (if x4 = 0 then f_X7_enough_62 K6 x1 x2 x3 x5 S_2 else hs_b2 (f_X7_bitsOf x2 S_2) (fun r_8 S_6 => (if ((1 : Int32) <<< (r_8 &&& 31)) ≤ x_5 then f_X7_enough_62 K6 x1 x2 x3 x5 S_6 else f_X7_enough_63 K6 x1 x2 x3 x5 (1 : Int32) S_6)))))))))
def f_X7_enough_6  : Nat → Int32 → Int32 → Int32 → Int32 → Int32 → hs_M → Option (Int32 × hs_M)
  | 0 => fun _ _ _ _ _ _ => none
  | n + 1 => fb_X7_enough_6  (f_X7_enough_6  n)
def f_X7_enough_0 (x1 : Int32) (x2 : Int32) (x3 : Int32) (S : hs_M) : Option (Int32 × hs_M) := f_X7_enough_6  hs_fuel x1 x2 x3 (1 : Int32) (0 : Int32) S
def f_X7_enough (a1 : Int32) (a2 : Int32) (a3 : Int32) (S : hs_M) : Option (Int32 × hs_M) := f_X7_enough_0 a1 a2 a3 S
/-! HeaderSqueezeModel.choose -/
def f_X7_choose_73 (y0 : Int32) (S : hs_M) : Option (Int32 × hs_M) := some (y0, S)
def f_X7_choose_44 (x1 : Int32) (x2 : Int32) (S : hs_M) : Option (Int32 × hs_M) := hs_b2 (f_X7_enough x1 (1 : Int32) x2 S) (fun r_3 S_1 => (if r_3 = 0 then hs_b2 (f_X7_enough x1 (2 : Int32) x2 S_1) (fun r_6 S_4 => (if r_6 = 0 then f_X7_choose_73  (3 : Int32) S_4 else f_X7_choose_73  (2 : Int32) S_4)) else f_X7_choose_73  (1 : Int32) S_1))
def f_X7_choose_24 (y0 : Int32) (S : hs_M) : Option (Int32 × hs_M) := some (y0, S)
def f_X7_choose_0 (x1 : Int32) (x2 : Int32) (S : hs_M) : Option (Int32 × hs_M) := hs_ix x1 (hs_N 108) ((if (2 : Int32) ≤ (S 108 x1.toNatClampNeg) then (if (S 100 3) = 0 then hs_b2 (f_X7_enough x1 (0 : Int32) x2 S) (fun r_3 S_1 => (if r_3 = 0 then f_X7_choose_44  x1 x2 S_1 else some ((0 : Int32), S_1))) else f_X7_choose_44  x1 x2 S) else hs_ix x1 (hs_N 108) ((if (S 108 x1.toNatClampNeg) = 0 then f_X7_choose_24  (4 : Int32) S else f_X7_choose_24  (3 : Int32) S))))
def f_X7_choose (a1 : Int32) (a2 : Int32) (S : hs_M) : Option (Int32 × hs_M) := f_X7_choose_0 a1 a2 S
/-! HeaderSqueezeModel.near -/
def f_X7_near_0 (x1 : Int32) (x2 : Int32) (x3 : Int32) (S : hs_M) : Option (Int32 × hs_M) := hs_b2 (f_X7_backOf x2 S) (fun r_3 S_1 => hs_l (x1 - r_3) (fun x_4 => hs_b2 (f_X7_bitsOf x2 S_1) (fun r_7 S_5 => hs_l ((x3 - x_4) &&& (((1 : Int32) <<< (r_7 &&& 31)) - (1 : Int32))) (fun x_8 => some (((x_4 + x_8) &&& (65535 : Int32)), S_5)))))
def f_X7_near (a1 : Int32) (a2 : Int32) (a3 : Int32) (S : hs_M) : Option (Int32 × hs_M) := f_X7_near_0 a1 a2 a3 S
/-! HeaderSqueezeModel.fill -/
def fb_X7_fill_68 (K68 : Int32 → Int32 → Int32 → hs_M → Option hs_M) (x5 : Int32) (x6 : Int32) (x7 : Int32) (S : hs_M) : Option hs_M := (if (4 : Int32) ≤ x7 then hs_ix (9 : Int32) (hs_N 126) (hs_l (hs_U S 126 (9 : Int32).toNatClampNeg (x6 / (256 : Int32))) (fun S_1 => hs_ix (10 : Int32) (hs_N 126) (hs_l (hs_U S_1 126 (10 : Int32).toNatClampNeg (hs_rem x6 (256 : Int32))) (fun S_2 => some S_2)))) else hs_ix ((5 : Int32) + x7) (hs_N 126) (hs_l (hs_U S 126 ((5 : Int32) + x7).toNatClampNeg ((x5 >>> (((24 : Int32) - ((8 : Int32) * x7)) &&& 31)) &&& (255 : Int32))) (fun S_3 => hs_l (x7 + (1 : Int32)) (fun x_4 => K68 x5 x6 x_4 S_3))))
def f_X7_fill_68  : Nat → Int32 → Int32 → Int32 → hs_M → Option hs_M
  | 0 => fun _ _ _ _ => none
  | n + 1 => fb_X7_fill_68  (f_X7_fill_68  n)
def f_X7_fill_39 (x4 : Int32) (x5 : Int32) (x6 : Int32) (y1 : Int32) (y2 : Int32) (y3 : Int32) (S : hs_M) : Option hs_M := hs_ix y1 (hs_N 126) (hs_l (hs_U S 126 y1.toNatClampNeg (y2 + y3)) (fun S_1 => hs_ix (3 : Int32) (hs_N 126) (hs_l (hs_U S_1 126 (3 : Int32).toNatClampNeg (x4 / (256 : Int32))) (fun S_2 => hs_ix (4 : Int32) (hs_N 126) (hs_l (hs_U S_2 126 (4 : Int32).toNatClampNeg (hs_rem x4 (256 : Int32))) (fun S_3 => f_X7_fill_68  hs_fuel x5 x6 (0 : Int32) S_3))))))
def f_X7_fill_0 (x1 : Int32) (x2 : Int32) (x3 : Int32) (x4 : Int32) (x5 : Int32) (x6 : Int32) (S : hs_M) : Option hs_M := hs_ix (0 : Int32) (hs_N 126) (hs_l (hs_U S 126 (0 : Int32).toNatClampNeg (x1 / (256 : Int32))) (fun S_1 => hs_ix (1 : Int32) (hs_N 126) (hs_l (hs_U S_1 126 (1 : Int32).toNatClampNeg (hs_rem x1 (256 : Int32))) (fun S_2 => (if x3 = 0 then f_X7_fill_39  x4 x5 x6 (2 : Int32) x2 (0 : Int32) S_2 else f_X7_fill_39  x4 x5 x6 (2 : Int32) x2 (128 : Int32) S_2)))))
def f_X7_fill (a1 : Int32) (a2 : Int32) (a3 : Int32) (a4 : Int32) (a5 : Int32) (a6 : Int32) (S : hs_M) : Option hs_M := f_X7_fill_0 a1 a2 a3 a4 a5 a6 S
/-! HeaderSqueezeModel.sum -/
def f_X7_sum_97 (K35 : Int32 → Int32 → Int32 → Int32 → hs_M → Option (Int32 × hs_M)) (K44 : Int32 → Int32 → Int32 → Int32 → Int32 → hs_M → Option (Int32 × hs_M)) (x2 : Int32) (x3 : Int32) (x5 : Int32) (x6 : Int32) (y0 : Int32) (S : hs_M) : Option (Int32 × hs_M) := hs_l (x6 + (1 : Int32)) (fun x_1 => K44 x2 x3 y0 x5 x_1 S)
def f_X7_sum_75 (K35 : Int32 → Int32 → Int32 → Int32 → hs_M → Option (Int32 × hs_M)) (K44 : Int32 → Int32 → Int32 → Int32 → Int32 → hs_M → Option (Int32 × hs_M)) (x2 : Int32) (x3 : Int32) (x4 : Int32) (x5 : Int32) (x6 : Int32) (y0 : Int32) (S : hs_M) : Option (Int32 × hs_M) := hs_l (x4 >>> ((1 : Int32) &&& 31)) (fun x_1 => (if y0 = 0 then f_X7_sum_97 K35 K44 x2 x3 x5 x6 x_1 S else f_X7_sum_97 K35 K44 x2 x3 x5 x6 (x_1 ^^^ x3) S))
def fb_X7_sum_44 (K35 : Int32 → Int32 → Int32 → Int32 → hs_M → Option (Int32 × hs_M)) (K44 : Int32 → Int32 → Int32 → Int32 → Int32 → hs_M → Option (Int32 × hs_M)) (x2 : Int32) (x3 : Int32) (x4 : Int32) (x5 : Int32) (x6 : Int32) (S : hs_M) : Option (Int32 × hs_M) := (if (8 : Int32) ≤ x6 then hs_l (x5 + (1 : Int32)) (fun x_1 => K35 x2 x3 x4 x_1 S) else hs_ix x5 (hs_N 126) ((if (x4 &&& (1 : Int32)) = (((S 126 x5.toNatClampNeg) >>> (x6 &&& 31)) &&& (1 : Int32)) then f_X7_sum_75 K35 K44 x2 x3 x4 x5 x6 (0 : Int32) S else f_X7_sum_75 K35 K44 x2 x3 x4 x5 x6 (1 : Int32) S)))
def f_X7_sum_44 (K35 : Int32 → Int32 → Int32 → Int32 → hs_M → Option (Int32 × hs_M)) : Nat → Int32 → Int32 → Int32 → Int32 → Int32 → hs_M → Option (Int32 × hs_M)
  | 0 => fun _ _ _ _ _ _ => none
  | n + 1 => fb_X7_sum_44 K35 (f_X7_sum_44 K35 n)
def fb_X7_sum_35 (K35 : Int32 → Int32 → Int32 → Int32 → hs_M → Option (Int32 × hs_M)) (x2 : Int32) (x3 : Int32) (x4 : Int32) (x5 : Int32) (S : hs_M) : Option (Int32 × hs_M) := (if x2 ≤ x5 then some (x4, S) else f_X7_sum_44 K35 hs_fuel x2 x3 x4 x5 (0 : Int32) S)
def f_X7_sum_35  : Nat → Int32 → Int32 → Int32 → Int32 → hs_M → Option (Int32 × hs_M)
  | 0 => fun _ _ _ _ _ => none
  | n + 1 => fb_X7_sum_35  (f_X7_sum_35  n)
def f_X7_sum_24 (x1 : Int32) (x2 : Int32) (y0 : Int32) (S : hs_M) : Option (Int32 × hs_M) := hs_l (((1 : Int32) <<< (x1 &&& 31)) - (1 : Int32)) (fun x_1 => f_X7_sum_35  hs_fuel x2 y0 x_1 (0 : Int32) S)
def f_X7_sum_0 (x1 : Int32) (x2 : Int32) (S : hs_M) : Option (Int32 × hs_M) := (if x1 = (3 : Int32) then f_X7_sum_24  x1 x2 (6 : Int32) S else (if x1 = (7 : Int32) then f_X7_sum_24  x1 x2 (121 : Int32) S else f_X7_sum_24  x1 x2 (224 : Int32) S))
def f_X7_sum (a1 : Int32) (a2 : Int32) (S : hs_M) : Option (Int32 × hs_M) := f_X7_sum_0 a1 a2 S
/-! HeaderSqueezeModel.fits -/
def f_X7_fits_81 (y0 : Int32) (S : hs_M) : Option (Int32 × hs_M) := hs_bg y0 (some (y0, S))
def f_X7_fits_66 (x5 : Int32) (y1 : Int32) (S : hs_M) : Option (Int32 × hs_M) := hs_b2 (f_X7_sum y1 (11 : Int32) S) (fun r_3 S_1 => (if r_3 = x5 then f_X7_fits_81  (1 : Int32) S_1 else f_X7_fits_81  (0 : Int32) S_1))
def f_X7_fits_0 (x1 : Int32) (x2 : Int32) (x3 : Int32) (x4 : Int32) (x5 : Int32) (S : hs_M) : Option (Int32 × hs_M) := hs_ix x1 (hs_N 116) (hs_ix x1 (hs_N 117) (hs_ix x1 (hs_N 119) (hs_ix x1 (hs_N 118) (hs_ix x1 (hs_N 120) (hs_b1 (f_X7_fill (S 116 x1.toNatClampNeg) (S 117 x1.toNatClampNeg) x4 x3 ((S 119 x1.toNatClampNeg) + (x3 * (S 118 x1.toNatClampNeg))) ((x3 + (S 120 x1.toNatClampNeg)) &&& (65535 : Int32)) S) (fun S_1 => (if x2 = 0 then f_X7_fits_66  x5 (3 : Int32) S_1 else (if x2 = (1 : Int32) then f_X7_fits_66  x5 (7 : Int32) S_1 else f_X7_fits_66  x5 (8 : Int32) S_1))))))))
def f_X7_fits (a1 : Int32) (a2 : Int32) (a3 : Int32) (a4 : Int32) (a5 : Int32) (S : hs_M) : Option (Int32 × hs_M) := f_X7_fits_0 a1 a2 a3 a4 a5 S
/-! HeaderSqueezeModel.keep -/
def fb_X7_keep_52 (K52 : Int32 → hs_M → Option hs_M) (x3 : Int32) (S : hs_M) : Option hs_M := (if (11 : Int32) ≤ x3 then some S else hs_ix x3 (hs_N 126) (hs_ix x3 (hs_N 124) (hs_l (hs_U S 124 x3.toNatClampNeg (S 126 x3.toNatClampNeg)) (fun S_1 => hs_l (x3 + (1 : Int32)) (fun x_2 => K52 x_2 S_1)))))
def f_X7_keep_52  : Nat → Int32 → hs_M → Option hs_M
  | 0 => fun _ _ => none
  | n + 1 => fb_X7_keep_52  (f_X7_keep_52  n)
def f_X7_keep_24 (x1 : Int32) (x2 : Int32) (y1 : Int32) (y2 : Int32) (S : hs_M) : Option hs_M := hs_ix y1 (hs_N 122) (hs_l (hs_U S 122 y1.toNatClampNeg y2) (fun S_1 => hs_ix x1 (hs_N 121) (hs_l (hs_U S_1 121 x1.toNatClampNeg x2) (fun S_2 => hs_ix x1 (hs_N 123) (hs_l (hs_U S_2 123 x1.toNatClampNeg (0 : Int32)) (fun S_3 => hs_ix (6 : Int32) (hs_N 125) (hs_ix (6 : Int32) (hs_N 125) (hs_l (hs_U S_3 125 (6 : Int32).toNatClampNeg ((S_3 125 (6 : Int32).toNatClampNeg) + (1 : Int32))) (fun S_4 => f_X7_keep_52  hs_fuel (0 : Int32) S_4)))))))))
def f_X7_keep_0 (x1 : Int32) (x2 : Int32) (S : hs_M) : Option hs_M := hs_ix x1 (hs_N 115) ((if (S 115 x1.toNatClampNeg) = 0 then f_X7_keep_24  x1 x2 x1 x2 S else hs_ix x1 (hs_N 121) (f_X7_keep_24  x1 x2 x1 (S 121 x1.toNatClampNeg) S)))
def f_X7_keep (a1 : Int32) (a2 : Int32) (S : hs_M) : Option hs_M := f_X7_keep_0 a1 a2 S
/-! HeaderSqueezeModel.comeSmall -/
def f_X7_comeSmall_303 (y0 : Int32) (S : hs_M) : Option (Int32 × hs_M) := some (y0, S)
def f_X7_comeSmall_292 (x8 : Int32) (x9 : Int32) (S : hs_M) : Option (Int32 × hs_M) := (if x9 = 0 then f_X7_comeSmall_303  (0 : Int32) S else f_X7_comeSmall_303  x8 S)
def f_X7_comeSmall_290 (x8 : Int32) (x9 : Int32) (y1 : Int32) (y2 : Int32) (y3 : Int32) (S : hs_M) : Option (Int32 × hs_M) := hs_ix y1 (hs_N 125) (hs_l (hs_U S 125 y1.toNatClampNeg (y2 + y3)) (fun S_1 => f_X7_comeSmall_292  x8 x9 S_1))
def f_X7_comeSmall_259 (x1 : Int32) (x7 : Int32) (x8 : Int32) (x9 : Int32) (S : hs_M) : Option (Int32 × hs_M) := (if x9 = 0 then f_X7_comeSmall_292  x8 x9 S else hs_b1 (f_X7_keep x1 x7 S) (fun S_1 => hs_ix (7 : Int32) (hs_N 125) ((if x8 = (2 : Int32) then f_X7_comeSmall_290  x8 x9 (7 : Int32) (S_1 125 (7 : Int32).toNatClampNeg) (1 : Int32) S_1 else f_X7_comeSmall_290  x8 x9 (7 : Int32) (S_1 125 (7 : Int32).toNatClampNeg) (0 : Int32) S_1))))
def f_X7_comeSmall_225 (x1 : Int32) (x2 : Int32) (x4 : Int32) (x5 : Int32) (x6 : Int32) (x7 : Int32) (x8 : Int32) (x9 : Int32) (S : hs_M) : Option (Int32 × hs_M) := (if x9 = 0 then hs_ix x1 (hs_N 122) (hs_b2 (f_X7_near (S 122 x1.toNatClampNeg) x2 x4 S) (fun r_3 S_1 => hs_b2 (f_X7_fits x1 x2 r_3 x5 x6 S_1) (fun r_6 S_4 => f_X7_comeSmall_259  x1 r_3 x8 r_6 S_4))) else f_X7_comeSmall_259  x1 x7 x8 x9 S)
def f_X7_comeSmall_154 (x1 : Int32) (x2 : Int32) (x4 : Int32) (x5 : Int32) (y0 : Int32) (S : hs_M) : Option (Int32 × hs_M) := hs_ix x1 (hs_N 121) (hs_b2 (f_X7_near (S 121 x1.toNatClampNeg) x2 x4 S) (fun r_3 S_1 => hs_b2 (f_X7_fits x1 x2 r_3 x5 y0 S_1) (fun r_6 S_4 => (if r_6 = 0 then hs_b2 (f_X7_bitsOf x2 S_4) (fun r_9 S_7 => hs_l ((r_3 + ((1 : Int32) <<< (r_9 &&& 31))) &&& (65535 : Int32)) (fun x_10 => hs_b2 (f_X7_fits x1 x2 x_10 x5 y0 S_7) (fun r_13 S_11 => f_X7_comeSmall_225  x1 x2 x4 x5 y0 x_10 (2 : Int32) r_13 S_11))) else f_X7_comeSmall_225  x1 x2 x4 x5 y0 r_3 (1 : Int32) r_6 S_4))))
def f_X7_comeSmall_108 (x1 : Int32) (x2 : Int32) (x3 : Int32) (x4 : Int32) (y0 : Int32) (S : hs_M) : Option (Int32 × hs_M) := (if x2 = 0 then hs_ix x3 (hs_N 127) (f_X7_comeSmall_154  x1 x2 x4 y0 (hs_rem (S 127 x3.toNatClampNeg) (8 : Int32)) S) else (if x2 = (1 : Int32) then hs_l (x3 + (1 : Int32)) (fun x_2 => hs_ix x_2 (hs_N 127) (f_X7_comeSmall_154  x1 x2 x4 y0 (hs_rem (S 127 x_2.toNatClampNeg) (128 : Int32)) S)) else hs_l (x3 + (2 : Int32)) (fun x_1 => hs_ix x_1 (hs_N 127) (f_X7_comeSmall_154  x1 x2 x4 y0 (S 127 x_1.toNatClampNeg) S))))
def f_X7_comeSmall_107 (x1 : Int32) (x2 : Int32) (x3 : Int32) (x4 : Int32) (S : hs_M) : Option (Int32 × hs_M) := f_X7_comeSmall_108  x1 x2 x3 x4 (0 : Int32) S
def f_X7_comeSmall_57 (x1 : Int32) (x2 : Int32) (x3 : Int32) (y0 : Int32) (S : hs_M) : Option (Int32 × hs_M) := (if x2 = (1 : Int32) then hs_l (x3 + (1 : Int32)) (fun x_2 => hs_ix x_2 (hs_N 127) ((if (S 127 x_2.toNatClampNeg) ≤ (127 : Int32) then f_X7_comeSmall_108  x1 x2 x3 y0 (0 : Int32) S else f_X7_comeSmall_108  x1 x2 x3 y0 (1 : Int32) S))) else (if x2 = (2 : Int32) then hs_l (x3 + (1 : Int32)) (fun x_1 => hs_ix x_1 (hs_N 127) ((if ((S 127 x_1.toNatClampNeg) &&& (4 : Int32)) = 0 then f_X7_comeSmall_107  x1 x2 x3 y0 S else f_X7_comeSmall_108  x1 x2 x3 y0 (1 : Int32) S))) else f_X7_comeSmall_107  x1 x2 x3 y0 S))
def f_X7_comeSmall_0 (x1 : Int32) (x2 : Int32) (x3 : Int32) (S : hs_M) : Option (Int32 × hs_M) := (if x2 = 0 then hs_ix x3 (hs_N 127) (f_X7_comeSmall_57  x1 x2 x3 ((S 127 x3.toNatClampNeg) / (8 : Int32)) S) else (if x2 = (1 : Int32) then hs_ix x3 (hs_N 127) (f_X7_comeSmall_57  x1 x2 x3 (hs_rem (S 127 x3.toNatClampNeg) (64 : Int32)) S) else hs_ix x3 (hs_N 127) (hs_l (x3 + (1 : Int32)) (fun x_1 => hs_ix x_1 (hs_N 127) (f_X7_comeSmall_57  x1 x2 x3 (((hs_rem (S 127 x3.toNatClampNeg) (32 : Int32)) * (32 : Int32)) + ((S 127 x_1.toNatClampNeg) / (8 : Int32))) S)))))
def f_X7_comeSmall (a1 : Int32) (a2 : Int32) (a3 : Int32) (S : hs_M) : Option (Int32 × hs_M) := f_X7_comeSmall_0 a1 a2 a3 S
/-! HeaderSqueezeModel.two -/
def f_X7_two_0 (x1 : Int32) (S : hs_M) : Option (Int32 × hs_M) := hs_ix x1 (hs_N 127) (hs_l (x1 + (1 : Int32)) (fun x_1 => hs_ix x_1 (hs_N 127) (some ((((256 : Int32) * (S 127 x1.toNatClampNeg)) + (S 127 x_1.toNatClampNeg)), S))))
def f_X7_two (a1 : Int32) (S : hs_M) : Option (Int32 × hs_M) := f_X7_two_0 a1 S
/-! HeaderSqueezeModel.comeWhole -/
def f_X7_comeWhole_202 (x1 : Int32) (x4 : Int32) (x5 : Int32) (x6 : Int32) (x7 : Int32) (x8 : Int32) (x9 : Int32) (x10 : Int32) (y1 : Int32) (y2 : Int32) (S : hs_M) : Option (Int32 × hs_M) := hs_b2 (f_X7_sum y1 y2 S) (fun r_3 S_1 => hs_l (x7 + (9 : Int32)) (fun x_4 => hs_ix x_4 (hs_N 127) ((if r_3 = (S_1 127 x_4.toNatClampNeg) then hs_ix x1 (hs_N 116) (hs_l (hs_U S_1 116 x1.toNatClampNeg x4) (fun S_5 => hs_ix x1 (hs_N 117) (hs_l (hs_U S_5 117 x1.toNatClampNeg x5) (fun S_6 => hs_ix x1 (hs_N 118) (hs_l (hs_U S_6 118 x1.toNatClampNeg x6) (fun S_7 => hs_ix x1 (hs_N 119) (hs_l (hs_U S_7 119 x1.toNatClampNeg (x9 - (x8 * x6))) (fun S_8 => hs_ix x1 (hs_N 120) (hs_l (hs_U S_8 120 x1.toNatClampNeg ((x10 - x8) &&& (65535 : Int32))) (fun S_9 => hs_b1 (f_X7_keep x1 x8 S_9) (fun S_10 => hs_ix x1 (hs_N 115) (hs_l (hs_U S_10 115 x1.toNatClampNeg (2 : Int32)) (fun S_12 => hs_bg (1 : Int32) (some ((1 : Int32), S_12))))))))))))))) else hs_bg (0 : Int32) (some ((0 : Int32), S_1))))))
def f_X7_comeWhole_152 (x1 : Int32) (x2 : Int32) (x4 : Int32) (x5 : Int32) (x6 : Int32) (x7 : Int32) (x8 : Int32) (x9 : Int32) (x10 : Int32) (y1 : Int32) (y2 : Int32) (y3 : Int32) (S : hs_M) : Option (Int32 × hs_M) := hs_b1 (f_X7_fill y1 y2 y3 x8 x9 x10 S) (fun S_1 => hs_ix (11 : Int32) (hs_N 126) (hs_l (hs_U S_1 126 (11 : Int32).toNatClampNeg (x6 / (256 : Int32))) (fun S_3 => hs_ix (12 : Int32) (hs_N 126) (hs_l (hs_U S_3 126 (12 : Int32).toNatClampNeg (hs_rem x6 (256 : Int32))) (fun S_4 => (if x2 = (4 : Int32) then f_X7_comeWhole_202  x1 x4 x5 x6 x7 x8 x9 x10 (8 : Int32) (13 : Int32) S_4 else f_X7_comeWhole_202  x1 x4 x5 x6 x7 x8 x9 x10 (8 : Int32) (11 : Int32) S_4))))))
def f_X7_comeWhole_85 (x1 : Int32) (x2 : Int32) (x4 : Int32) (x5 : Int32) (x6 : Int32) (y0 : Int32) (S : hs_M) : Option (Int32 × hs_M) := hs_b2 (f_X7_two (y0 + (1 : Int32)) S) (fun r_3 S_1 => hs_b2 (f_X7_two (y0 + (3 : Int32)) S_1) (fun r_6 S_4 => hs_b2 (f_X7_two (y0 + (5 : Int32)) S_4) (fun r_9 S_7 => hs_l ((r_6 <<< ((16 : Int32) &&& 31)) ||| r_9) (fun x_10 => hs_b2 (f_X7_two (y0 + (7 : Int32)) S_7) (fun r_13 S_11 => hs_ix y0 (hs_N 127) ((if (S_11 127 y0.toNatClampNeg) ≤ (127 : Int32) then f_X7_comeWhole_152  x1 x2 x4 x5 x6 y0 r_3 x_10 r_13 x4 x5 (0 : Int32) S_11 else f_X7_comeWhole_152  x1 x2 x4 x5 x6 y0 r_3 x_10 r_13 x4 x5 (1 : Int32) S_11)))))))
def f_X7_comeWhole_68 (x1 : Int32) (x2 : Int32) (x3 : Int32) (x4 : Int32) (x5 : Int32) (y0 : Int32) (S : hs_M) : Option (Int32 × hs_M) := (if x2 = (4 : Int32) then f_X7_comeWhole_85  x1 x2 x4 x5 y0 (x3 + (6 : Int32)) S else f_X7_comeWhole_85  x1 x2 x4 x5 y0 (x3 + (1 : Int32)) S)
def f_X7_comeWhole_45 (x1 : Int32) (x2 : Int32) (x3 : Int32) (x4 : Int32) (y0 : Int32) (S : hs_M) : Option (Int32 × hs_M) := (if x2 = (4 : Int32) then hs_b2 (f_X7_two (x3 + (4 : Int32)) S) (fun r_3 S_1 => f_X7_comeWhole_68  x1 x2 x3 x4 y0 r_3 S_1) else hs_ix x1 (hs_N 118) (f_X7_comeWhole_68  x1 x2 x3 x4 y0 (S 118 x1.toNatClampNeg) S))
def f_X7_comeWhole_21 (x1 : Int32) (x2 : Int32) (x3 : Int32) (y0 : Int32) (S : hs_M) : Option (Int32 × hs_M) := (if x2 = (4 : Int32) then hs_l (x3 + (3 : Int32)) (fun x_1 => hs_ix x_1 (hs_N 127) (f_X7_comeWhole_45  x1 x2 x3 y0 (S 127 x_1.toNatClampNeg) S)) else hs_ix x1 (hs_N 117) (f_X7_comeWhole_45  x1 x2 x3 y0 (S 117 x1.toNatClampNeg) S))
def f_X7_comeWhole_0 (x1 : Int32) (x2 : Int32) (x3 : Int32) (S : hs_M) : Option (Int32 × hs_M) := (if x2 = (4 : Int32) then hs_b2 (f_X7_two (x3 + (1 : Int32)) S) (fun r_3 S_1 => f_X7_comeWhole_21  x1 x2 x3 r_3 S_1) else hs_ix x1 (hs_N 116) (f_X7_comeWhole_21  x1 x2 x3 (S 116 x1.toNatClampNeg) S))
def f_X7_comeWhole (a1 : Int32) (a2 : Int32) (a3 : Int32) (S : hs_M) : Option (Int32 × hs_M) := f_X7_comeWhole_0 a1 a2 a3 S
/-! HeaderSqueezeModel.count -/
def f_X7_count_36 (y0 : Int32) (S : hs_M) : Option (Int32 × hs_M) := some (y0, S)
def f_X7_count_16 (x1 : Int32) (y1 : Int32) (S : hs_M) : Option (Int32 × hs_M) := hs_l (hs_U S 100 0 y1) (fun S_1 => (if (S_1 100 0) = 0 then hs_ix x1 (hs_N 125) (f_X7_count_36  (S_1 125 x1.toNatClampNeg) S_1) else f_X7_count_36  (0 : Int32) S_1))
def f_X7_count_11 (x1 : Int32) (S : hs_M) : Option (Int32 × hs_M) := f_X7_count_16  x1 (1 : Int32) S
def f_X7_count_0 (x1 : Int32) (S : hs_M) : Option (Int32 × hs_M) := (if x1 < 0 then f_X7_count_11  x1 S else (if x1 ≤ (10 : Int32) then f_X7_count_16  x1 (0 : Int32) S else f_X7_count_11  x1 S))
def f_X7_count (a1 : Int32) (S : hs_M) : Option (Int32 × hs_M) := f_X7_count_0 a1 S
/-! HeaderSqueezeModel.off -/
def fb_X7_off_36 (K12 : Int32 → hs_M → Option hs_M) (K36 : Int32 → Int32 → hs_M → Option hs_M) (x2 : Int32) (x3 : Int32) (S : hs_M) : Option hs_M := (if (20 : Int32) ≤ x3 then hs_l (x2 + (1 : Int32)) (fun x_1 => K12 x_1 S) else hs_l ((((20 : Int32) * x2) + (20 : Int32)) + x3) (fun x_2 => hs_ix x_2 (hs_N 114) (hs_ix (((20 : Int32) * x2) + x3) (hs_N 114) (hs_l (hs_U S 114 (((20 : Int32) * x2) + x3).toNatClampNeg (S 114 x_2.toNatClampNeg)) (fun S_3 => hs_l (x3 + (1 : Int32)) (fun x_4 => K36 x2 x_4 S_3))))))
def f_X7_off_36 (K12 : Int32 → hs_M → Option hs_M) : Nat → Int32 → Int32 → hs_M → Option hs_M
  | 0 => fun _ _ _ => none
  | n + 1 => fb_X7_off_36 K12 (f_X7_off_36 K12 n)
def fb_X7_off_12 (K12 : Int32 → hs_M → Option hs_M) (x2 : Int32) (S : hs_M) : Option hs_M := (if (S 100 16) ≤ x2 then some S else hs_l (x2 + (1 : Int32)) (fun x_1 => hs_ix x_1 (hs_N 113) (hs_ix x2 (hs_N 113) (hs_l (hs_U S 113 x2.toNatClampNeg (S 113 x_1.toNatClampNeg)) (fun S_2 => f_X7_off_36 K12 hs_fuel x2 (0 : Int32) S_2)))))
def f_X7_off_12  : Nat → Int32 → hs_M → Option hs_M
  | 0 => fun _ _ => none
  | n + 1 => fb_X7_off_12  (f_X7_off_12  n)
def f_X7_off_0 (x1 : Int32) (S : hs_M) : Option hs_M := hs_l (hs_U S 100 16 ((S 100 16) - (1 : Int32))) (fun S_1 => f_X7_off_12  hs_fuel x1 S_1)
def f_X7_off (a1 : Int32) (S : hs_M) : Option hs_M := f_X7_off_0 a1 S
/-! HeaderSqueezeModel.kindOf -/
def f_X7_kindOf_56 (y0 : Int32) (S : hs_M) : Option (Int32 × hs_M) := some (y0, S)
def f_X7_kindOf_0 (x1 : Int32) (S : hs_M) : Option (Int32 × hs_M) := (if (128 : Int32) ≤ x1 then (if (192 : Int32) ≤ x1 then (if (224 : Int32) ≤ x1 then (if x1 = (248 : Int32) then f_X7_kindOf_56  (3 : Int32) S else (if x1 = (253 : Int32) then f_X7_kindOf_56  (4 : Int32) S else f_X7_kindOf_56  (-1 : Int32) S)) else f_X7_kindOf_56  (2 : Int32) S) else f_X7_kindOf_56  (1 : Int32) S) else f_X7_kindOf_56  (0 : Int32) S)
def f_X7_kindOf (a1 : Int32) (S : hs_M) : Option (Int32 × hs_M) := f_X7_kindOf_0 a1 S
/-! HeaderSqueezeModel.fail -/
def f_X7_fail_65 (S : hs_M) : Option hs_M := some S
def f_X7_fail_64 (y1 : Int32) (y2 : Int32) (S : hs_M) : Option hs_M := hs_ix y1 (hs_N 115) (hs_l (hs_U S 115 y1.toNatClampNeg y2) (fun S_1 => f_X7_fail_65   S_1))
def f_X7_fail_0 (x1 : Int32) (S : hs_M) : Option hs_M := hs_ix (10 : Int32) (hs_N 125) (hs_ix (10 : Int32) (hs_N 125) (hs_l (hs_U S 125 (10 : Int32).toNatClampNeg ((S 125 (10 : Int32).toNatClampNeg) + (1 : Int32))) (fun S_1 => hs_ix x1 (hs_N 123) (hs_ix x1 (hs_N 123) (hs_l (hs_U S_1 123 x1.toNatClampNeg ((S_1 123 x1.toNatClampNeg) + (1 : Int32))) (fun S_2 => hs_ix x1 (hs_N 123) ((if (S_2 123 x1.toNatClampNeg) = (3 : Int32) then hs_ix x1 (hs_N 123) (hs_l (hs_U S_2 123 x1.toNatClampNeg (0 : Int32)) (fun S_3 => hs_ix x1 (hs_N 115) ((if (S_3 115 x1.toNatClampNeg) ≤ 0 then f_X7_fail_64  x1 (0 : Int32) S_3 else hs_ix x1 (hs_N 115) (f_X7_fail_64  x1 ((S_3 115 x1.toNatClampNeg) - (1 : Int32)) S_3))))) else f_X7_fail_65   S_2))))))))
def f_X7_fail (a1 : Int32) (S : hs_M) : Option hs_M := f_X7_fail_0 a1 S
/-! HeaderSqueezeModel.deliver -/
def f_X7_deliver_289 (y0 : Int32) (y1 : Int32) (S : hs_M) : Option (Int32 × hs_M) := some ((y0 + y1), S)
def f_X7_deliver_258 (x3 : Int32) (y0 : Int32) (S : hs_M) : Option (Int32 × hs_M) := (if y0 = 0 then hs_b1 (f_X7_fail x3 S) (fun S_1 => hs_l (hs_U S_1 100 0 (4 : Int32)) (fun S_3 => some ((0 : Int32), S_3))) else (if y0 = (2 : Int32) then f_X7_deliver_289  x3 (4 : Int32) S else f_X7_deliver_289  x3 (0 : Int32) S))
def f_X7_deliver_225 (x2 : Int32) (x3 : Int32) (x4 : Int32) (S : hs_M) : Option (Int32 × hs_M) := (if (3 : Int32) ≤ x4 then hs_b2 (f_X7_comeWhole x3 x4 x2 S) (fun r_3 S_1 => (if r_3 = 0 then f_X7_deliver_258  x3 (0 : Int32) S_1 else f_X7_deliver_258  x3 (1 : Int32) S_1)) else hs_b2 (f_X7_comeSmall x3 x4 x2 S) (fun r_6 S_4 => f_X7_deliver_258  x3 r_6 S_4))
def f_X7_deliver_207 (S : hs_M) : Option (Int32 × hs_M) := hs_ix (9 : Int32) (hs_N 125) (hs_ix (9 : Int32) (hs_N 125) (hs_l (hs_U S 125 (9 : Int32).toNatClampNeg ((S 125 (9 : Int32).toNatClampNeg) + (1 : Int32))) (fun S_1 => hs_l (hs_U S_1 100 0 (3 : Int32)) (fun S_2 => some ((0 : Int32), S_2)))))
def f_X7_deliver_191 (x2 : Int32) (x3 : Int32) (x4 : Int32) (S : hs_M) : Option (Int32 × hs_M) := (if (3 : Int32) ≤ x4 then f_X7_deliver_225  x2 x3 x4 S else hs_ix x3 (hs_N 115) ((if (2 : Int32) ≤ (S 115 x3.toNatClampNeg) then f_X7_deliver_225  x2 x3 x4 S else f_X7_deliver_207   S)))
def f_X7_deliver_146 (x2 : Int32) (x3 : Int32) (y0 : Int32) (S : hs_M) : Option (Int32 × hs_M) := hs_b2 (f_X7_broken y0 x2 S) (fun r_3 S_1 => (if r_3 = 0 then (if y0 = (3 : Int32) then hs_ix x3 (hs_N 115) ((if (S_1 115 x3.toNatClampNeg) = 0 then f_X7_deliver_207   S_1 else f_X7_deliver_191  x2 x3 y0 S_1)) else f_X7_deliver_191  x2 x3 y0 S_1) else hs_ix (8 : Int32) (hs_N 125) (hs_ix (8 : Int32) (hs_N 125) (hs_l (hs_U S_1 125 (8 : Int32).toNatClampNeg ((S_1 125 (8 : Int32).toNatClampNeg) + (1 : Int32))) (fun S_4 => hs_l (hs_U S_4 100 0 (2 : Int32)) (fun S_5 => some ((0 : Int32), S_5)))))))
def f_X7_deliver_123 (x2 : Int32) (y0 : Int32) (S : hs_M) : Option (Int32 × hs_M) := (if (S 100 31) ≤ x2 then f_X7_deliver_146  x2 y0 (-1 : Int32) S else hs_ix x2 (hs_N 127) (hs_b2 (f_X7_kindOf (S 127 x2.toNatClampNeg) S) (fun r_3 S_1 => f_X7_deliver_146  x2 y0 r_3 S_1)))
def f_X7_deliver_103 (y0 : Int32) (S : hs_M) : Option (Int32 × hs_M) := (if y0 = (1 : Int32) then hs_ix (0 : Int32) (hs_N 127) (f_X7_deliver_123  y0 ((S 127 (0 : Int32).toNatClampNeg) - (224 : Int32)) S) else f_X7_deliver_123  y0 (0 : Int32) S)
def f_X7_deliver_102 (S : hs_M) : Option (Int32 × hs_M) := f_X7_deliver_103  (0 : Int32) S
def fb_X7_deliver_38 (K38 : Int32 → Int32 → hs_M → Option (Int32 × hs_M)) (x1 : Int32) (x2 : Int32) (S : hs_M) : Option (Int32 × hs_M) := (if (S 100 31) ≤ x2 then hs_b1 (f_X7_off x1 S) (fun S_1 => hs_ix (0 : Int32) (hs_N 127) ((if (S_1 127 (0 : Int32).toNatClampNeg) ≤ (224 : Int32) then f_X7_deliver_102   S_1 else hs_ix (0 : Int32) (hs_N 127) ((if (228 : Int32) ≤ (S_1 127 (0 : Int32).toNatClampNeg) then f_X7_deliver_102   S_1 else f_X7_deliver_103  (1 : Int32) S_1))))) else hs_l (((20 : Int32) * x1) + x2) (fun x_3 => hs_ix x_3 (hs_N 114) (hs_ix x2 (hs_N 127) (hs_l (hs_U S 127 x2.toNatClampNeg (S 114 x_3.toNatClampNeg)) (fun S_4 => hs_l (x2 + (1 : Int32)) (fun x_5 => K38 x1 x_5 S_4))))))
def f_X7_deliver_38  : Nat → Int32 → Int32 → hs_M → Option (Int32 × hs_M)
  | 0 => fun _ _ _ => none
  | n + 1 => fb_X7_deliver_38  (f_X7_deliver_38  n)
def f_X7_deliver_14 (x1 : Int32) (y1 : Int32) (S : hs_M) : Option (Int32 × hs_M) := hs_l (hs_U S 100 0 y1) (fun S_1 => (if (S_1 100 0) = 0 then hs_ix x1 (hs_N 113) (hs_l (hs_U S_1 100 31 (S_1 113 x1.toNatClampNeg)) (fun S_2 => f_X7_deliver_38  hs_fuel x1 (0 : Int32) S_2)) else some ((0 : Int32), S_1)))
def f_X7_deliver_0 (x1 : Int32) (S : hs_M) : Option (Int32 × hs_M) := hs_b2 (f_X7_noPacket x1 S) (fun r_3 S_1 => (if r_3 = 0 then f_X7_deliver_14  x1 (0 : Int32) S_1 else f_X7_deliver_14  x1 (1 : Int32) S_1))
def f_X7_deliver (a1 : Int32) (S : hs_M) : Option (Int32 × hs_M) := f_X7_deliver_0 a1 S
/-! HeaderSqueezeModel.outside -/
def f_X7_outside_15 (y0 : Int32) (S : hs_M) : Option (Int32 × hs_M) := hs_bg y0 (some (y0, S))
def f_X7_outside_10 (S : hs_M) : Option (Int32 × hs_M) := f_X7_outside_15  (1 : Int32) S
def f_X7_outside_0 (x1 : Int32) (S : hs_M) : Option (Int32 × hs_M) := (if x1 < 0 then f_X7_outside_10   S else (if x1 ≤ (65535 : Int32) then f_X7_outside_15  (0 : Int32) S else f_X7_outside_10   S))
def f_X7_outside (a1 : Int32) (S : hs_M) : Option (Int32 × hs_M) := f_X7_outside_0 a1 S
/-! HeaderSqueezeModel.head -/
def f_X7_head_49 (S : hs_M) : Option hs_M := some S
def f_X7_head_24 (x1 : Int32) (x2 : Int32) (x3 : Int32) (y1 : Int32) (S : hs_M) : Option hs_M := hs_l (hs_U S 100 0 y1) (fun S_1 => (if (S_1 100 0) = 0 then hs_l (hs_U S_1 100 1 x1) (fun S_2 => hs_l (hs_U S_2 100 2 x2) (fun S_3 => hs_bg x3 (hs_l (hs_U S_3 100 3 x3) (fun S_4 => f_X7_head_49   S_4)))) else f_X7_head_49   S_1))
def f_X7_head_19 (x1 : Int32) (x2 : Int32) (x3 : Int32) (S : hs_M) : Option hs_M := f_X7_head_24  x1 x2 x3 (1 : Int32) S
def f_X7_head_0 (x1 : Int32) (x2 : Int32) (x3 : Int32) (S : hs_M) : Option hs_M := hs_b2 (f_X7_outside x1 S) (fun r_3 S_1 => (if r_3 = 0 then (if x2 < 0 then f_X7_head_19  x1 x2 x3 S_1 else (if x2 ≤ (127 : Int32) then f_X7_head_24  x1 x2 x3 (0 : Int32) S_1 else f_X7_head_19  x1 x2 x3 S_1)) else f_X7_head_19  x1 x2 x3 S_1))
def f_X7_head (a1 : Int32) (a2 : Int32) (a3 : Int32) (S : hs_M) : Option hs_M := f_X7_head_0 a1 a2 a3 S
/-! HeaderSqueezeModel.line -/
def f_X7_line_0 (S : hs_M) : Option (Int32 × hs_M) := hs_l (hs_U S 100 0 (0 : Int32)) (fun S_1 => some ((S_1 100 16), S_1))
def f_X7_line  (S : hs_M) : Option (Int32 × hs_M) := f_X7_line_0  S
/-! HeaderSqueezeModel.lose -/
def f_X7_lose_29 (S : hs_M) : Option hs_M := some S
def f_X7_lose_14 (x1 : Int32) (y1 : Int32) (S : hs_M) : Option hs_M := hs_l (hs_U S 100 0 y1) (fun S_1 => (if (S_1 100 0) = 0 then hs_b1 (f_X7_off x1 S_1) (fun S_2 => f_X7_lose_29   S_2) else f_X7_lose_29   S_1))
def f_X7_lose_0 (x1 : Int32) (S : hs_M) : Option hs_M := hs_b2 (f_X7_noPacket x1 S) (fun r_3 S_1 => (if r_3 = 0 then f_X7_lose_14  x1 (0 : Int32) S_1 else f_X7_lose_14  x1 (1 : Int32) S_1))
def f_X7_lose (a1 : Int32) (S : hs_M) : Option hs_M := f_X7_lose_0 a1 S
/-! HeaderSqueezeModel.made -/
def f_X7_made_36 (y0 : Int32) (S : hs_M) : Option (Int32 × hs_M) := some (y0, S)
def f_X7_made_16 (x1 : Int32) (y1 : Int32) (S : hs_M) : Option (Int32 × hs_M) := hs_l (hs_U S 100 0 y1) (fun S_1 => (if (S_1 100 0) = 0 then hs_ix x1 (hs_N 124) (f_X7_made_36  (S_1 124 x1.toNatClampNeg) S_1) else f_X7_made_36  (0 : Int32) S_1))
def f_X7_made_11 (x1 : Int32) (S : hs_M) : Option (Int32 × hs_M) := f_X7_made_16  x1 (1 : Int32) S
def f_X7_made_0 (x1 : Int32) (S : hs_M) : Option (Int32 × hs_M) := (if x1 < 0 then f_X7_made_11  x1 S else (if x1 ≤ (10 : Int32) then f_X7_made_16  x1 (0 : Int32) S else f_X7_made_11  x1 S))
def f_X7_made (a1 : Int32) (S : hs_M) : Option (Int32 × hs_M) := f_X7_made_0 a1 S
/-! HeaderSqueezeModel.noFlow -/
def f_X7_noFlow_14 (y0 : Int32) (S : hs_M) : Option (Int32 × hs_M) := hs_bg y0 (some (y0, S))
def f_X7_noFlow_9 (S : hs_M) : Option (Int32 × hs_M) := f_X7_noFlow_14  (1 : Int32) S
def f_X7_noFlow_0 (x1 : Int32) (S : hs_M) : Option (Int32 × hs_M) := (if x1 < 0 then f_X7_noFlow_9   S else (if x1 ≤ (3 : Int32) then f_X7_noFlow_14  (0 : Int32) S else f_X7_noFlow_9   S))
def f_X7_noFlow (a1 : Int32) (S : hs_M) : Option (Int32 × hs_M) := f_X7_noFlow_0 a1 S
/-! HeaderSqueezeModel.note -/
def f_X7_note_52 (x1 : Int32) (x2 : Int32) (S : hs_M) : Option hs_M := hs_ix x1 (hs_N 111) (hs_ix (((4 : Int32) * x1) + (S 111 x1.toNatClampNeg)) (hs_N 112) (hs_l (hs_U S 112 (((4 : Int32) * x1) + (S 111 x1.toNatClampNeg)).toNatClampNeg x2) (fun S_1 => hs_ix x1 (hs_N 111) (hs_ix x1 (hs_N 111) (hs_l (hs_U S_1 111 x1.toNatClampNeg ((S_1 111 x1.toNatClampNeg) + (1 : Int32))) (fun S_2 => some S_2))))))
def fb_X7_note_12 (K12 : Int32 → Int32 → Int32 → hs_M → Option hs_M) (x1 : Int32) (x2 : Int32) (x3 : Int32) (S : hs_M) : Option hs_M := (if (3 : Int32) ≤ x3 then hs_ix x1 (hs_N 111) (hs_l (hs_U S 111 x1.toNatClampNeg (3 : Int32)) (fun S_1 => f_X7_note_52  x1 x2 S_1)) else hs_l ((((4 : Int32) * x1) + x3) + (1 : Int32)) (fun x_2 => hs_ix x_2 (hs_N 112) (hs_ix (((4 : Int32) * x1) + x3) (hs_N 112) (hs_l (hs_U S 112 (((4 : Int32) * x1) + x3).toNatClampNeg (S 112 x_2.toNatClampNeg)) (fun S_3 => hs_l (x3 + (1 : Int32)) (fun x_4 => K12 x1 x2 x_4 S_3))))))
def f_X7_note_12  : Nat → Int32 → Int32 → Int32 → hs_M → Option hs_M
  | 0 => fun _ _ _ _ => none
  | n + 1 => fb_X7_note_12  (f_X7_note_12  n)
def f_X7_note_0 (x1 : Int32) (x2 : Int32) (S : hs_M) : Option hs_M := hs_ix x1 (hs_N 111) ((if (S 111 x1.toNatClampNeg) = (4 : Int32) then f_X7_note_12  hs_fuel x1 x2 (0 : Int32) S else f_X7_note_52  x1 x2 S))
def f_X7_note (a1 : Int32) (a2 : Int32) (S : hs_M) : Option hs_M := f_X7_note_0 a1 a2 S
/-! HeaderSqueezeModel.put -/
def f_X7_put_0 (x1 : Int32) (S : hs_M) : Option hs_M := hs_ix (S 100 31) (hs_N 127) (hs_l (hs_U S 127 (S 100 31).toNatClampNeg x1) (fun S_1 => hs_l (hs_U S_1 100 31 ((S_1 100 31) + (1 : Int32))) (fun S_2 => some S_2)))
def f_X7_put (a1 : Int32) (S : hs_M) : Option hs_M := f_X7_put_0 a1 S
/-! HeaderSqueezeModel.putRest -/
def fb_X7_putRest_16 (K16 : Int32 → Int32 → hs_M → Option hs_M) (x1 : Int32) (x2 : Int32) (S : hs_M) : Option hs_M := (if (11 : Int32) ≤ x2 then hs_b2 (f_X7_sum (8 : Int32) x1 S) (fun r_3 S_1 => hs_b1 (f_X7_put r_3 S_1) (fun S_4 => some S_4)) else hs_ix x2 (hs_N 126) (hs_b1 (f_X7_put (S 126 x2.toNatClampNeg) S) (fun S_6 => hs_l (x2 + (1 : Int32)) (fun x_8 => K16 x1 x_8 S_6))))
def f_X7_putRest_16  : Nat → Int32 → Int32 → hs_M → Option hs_M
  | 0 => fun _ _ _ => none
  | n + 1 => fb_X7_putRest_16  (f_X7_putRest_16  n)
def f_X7_putRest_0 (x1 : Int32) (S : hs_M) : Option hs_M := hs_ix (2 : Int32) (hs_N 126) (hs_b1 (f_X7_put ((S 126 (2 : Int32).toNatClampNeg) &&& (128 : Int32)) S) (fun S_1 => f_X7_putRest_16  hs_fuel x1 (3 : Int32) S_1))
def f_X7_putRest (a1 : Int32) (S : hs_M) : Option hs_M := f_X7_putRest_0 a1 S
/-! HeaderSqueezeModel.receiver -/
def f_X7_receiver_86 (y0 : Int32) (S : hs_M) : Option (Int32 × hs_M) := some (y0, S)
def f_X7_receiver_27 (x1 : Int32) (x2 : Int32) (y1 : Int32) (S : hs_M) : Option (Int32 × hs_M) := hs_l (hs_U S 100 0 y1) (fun S_1 => (if (S_1 100 0) = 0 then (if x2 = 0 then hs_ix x1 (hs_N 115) (f_X7_receiver_86  (S_1 115 x1.toNatClampNeg) S_1) else (if x2 = (1 : Int32) then hs_ix x1 (hs_N 121) (f_X7_receiver_86  (S_1 121 x1.toNatClampNeg) S_1) else (if x2 = (2 : Int32) then hs_ix x1 (hs_N 122) (f_X7_receiver_86  (S_1 122 x1.toNatClampNeg) S_1) else hs_ix x1 (hs_N 123) (f_X7_receiver_86  (S_1 123 x1.toNatClampNeg) S_1)))) else some ((0 : Int32), S_1)))
def f_X7_receiver_22 (x1 : Int32) (x2 : Int32) (S : hs_M) : Option (Int32 × hs_M) := f_X7_receiver_27  x1 x2 (2 : Int32) S
def f_X7_receiver_0 (x1 : Int32) (x2 : Int32) (S : hs_M) : Option (Int32 × hs_M) := hs_b2 (f_X7_noFlow x1 S) (fun r_3 S_1 => (if r_3 = 0 then (if x2 < 0 then f_X7_receiver_22  x1 x2 S_1 else (if x2 ≤ (3 : Int32) then f_X7_receiver_27  x1 x2 (0 : Int32) S_1 else f_X7_receiver_22  x1 x2 S_1)) else f_X7_receiver_27  x1 x2 (1 : Int32) S_1))
def f_X7_receiver (a1 : Int32) (a2 : Int32) (S : hs_M) : Option (Int32 × hs_M) := f_X7_receiver_0 a1 a2 S
/-! HeaderSqueezeModel.write -/
def f_X7_write_269 (S : hs_M) : Option hs_M := some S
def f_X7_write_132 (y1 : Int32) (y2 : Int32) (S : hs_M) : Option hs_M := hs_b1 (f_X7_put (y1 + y2) S) (fun S_1 => hs_b2 (f_X7_sum (8 : Int32) (11 : Int32) S_1) (fun r_5 S_3 => hs_b1 (f_X7_put r_5 S_3) (fun S_6 => f_X7_write_269   S_6)))
def f_X7_write_76 (y1 : Int32) (S : hs_M) : Option hs_M := hs_b2 (f_X7_sum (7 : Int32) (11 : Int32) S) (fun r_3 S_1 => hs_b1 (f_X7_put (y1 + r_3) S_1) (fun S_4 => f_X7_write_269   S_4))
def f_X7_write_18 (x1 : Int32) (x2 : Int32) (x3 : Int32) (S : hs_M) : Option hs_M := (if x2 = 0 then hs_b2 (f_X7_sum (3 : Int32) (11 : Int32) S) (fun r_27 S_25 => hs_b1 (f_X7_put (((hs_rem x3 (16 : Int32)) * (8 : Int32)) + r_27) S_25) (fun S_28 => f_X7_write_269   S_28)) else (if x2 = (1 : Int32) then hs_b1 (f_X7_put ((128 : Int32) + (hs_rem x3 (64 : Int32))) S) (fun S_23 => (if (S_23 100 3) = 0 then f_X7_write_76  (0 : Int32) S_23 else f_X7_write_76  (128 : Int32) S_23)) else (if x2 = (2 : Int32) then hs_b1 (f_X7_put ((192 : Int32) + ((hs_rem x3 (1024 : Int32)) / (32 : Int32))) S) (fun S_21 => (if (S_21 100 3) = 0 then f_X7_write_132  ((hs_rem x3 (32 : Int32)) * (8 : Int32)) (0 : Int32) S_21 else f_X7_write_132  ((hs_rem x3 (32 : Int32)) * (8 : Int32)) (4 : Int32) S_21)) else (if x2 = (3 : Int32) then hs_b1 (f_X7_put (248 : Int32) S) (fun S_17 => hs_b1 (f_X7_putRest (11 : Int32) S_17) (fun S_19 => f_X7_write_269   S_19)) else hs_ix x1 (hs_N 101) (hs_ix (11 : Int32) (hs_N 126) (hs_l (hs_U S 126 (11 : Int32).toNatClampNeg ((S 101 x1.toNatClampNeg) / (256 : Int32))) (fun S_1 => hs_ix x1 (hs_N 101) (hs_ix (12 : Int32) (hs_N 126) (hs_l (hs_U S_1 126 (12 : Int32).toNatClampNeg (hs_rem (S_1 101 x1.toNatClampNeg) (256 : Int32))) (fun S_2 => hs_b1 (f_X7_put (253 : Int32) S_2) (fun S_3 => hs_ix (0 : Int32) (hs_N 126) (hs_b1 (f_X7_put (S_3 126 (0 : Int32).toNatClampNeg) S_3) (fun S_5 => hs_ix (1 : Int32) (hs_N 126) (hs_b1 (f_X7_put (S_5 126 (1 : Int32).toNatClampNeg) S_5) (fun S_7 => hs_b1 (f_X7_put (S_7 100 2) S_7) (fun S_9 => hs_ix (11 : Int32) (hs_N 126) (hs_b1 (f_X7_put (S_9 126 (11 : Int32).toNatClampNeg) S_9) (fun S_11 => hs_ix (12 : Int32) (hs_N 126) (hs_b1 (f_X7_put (S_11 126 (12 : Int32).toNatClampNeg) S_11) (fun S_13 => hs_b1 (f_X7_putRest (13 : Int32) S_13) (fun S_15 => f_X7_write_269   S_15)))))))))))))))))))))
def f_X7_write_0 (x1 : Int32) (x2 : Int32) (x3 : Int32) (S : hs_M) : Option hs_M := hs_l (hs_U S 100 31 (0 : Int32)) (fun S_1 => (if x1 ≤ 0 then f_X7_write_18  x1 x2 x3 S_1 else hs_b1 (f_X7_put ((224 : Int32) + x1) S_1) (fun S_2 => f_X7_write_18  x1 x2 x3 S_2)))
def f_X7_write (a1 : Int32) (a2 : Int32) (a3 : Int32) (S : hs_M) : Option hs_M := f_X7_write_0 a1 a2 a3 S
/-! HeaderSqueezeModel.send -/
def fb_X7_send_444 (K444 : Int32 → Int32 → hs_M → Option (Int32 × hs_M)) (x9 : Int32) (x10 : Int32) (S : hs_M) : Option (Int32 × hs_M) := (if (S 100 31) ≤ x10 then hs_l (hs_U S 100 16 ((S 100 16) + (1 : Int32))) (fun S_1 => some (x9, S_1)) else hs_ix x10 (hs_N 127) (hs_ix (((20 : Int32) * (S 100 16)) + x10) (hs_N 114) (hs_l (hs_U S 114 (((20 : Int32) * (S 100 16)) + x10).toNatClampNeg (S 127 x10.toNatClampNeg)) (fun S_2 => hs_l (x10 + (1 : Int32)) (fun x_3 => K444 x9 x_3 S_2)))))
def f_X7_send_444  : Nat → Int32 → Int32 → hs_M → Option (Int32 × hs_M)
  | 0 => fun _ _ _ => none
  | n + 1 => fb_X7_send_444  (f_X7_send_444  n)
def f_X7_send_407 (x1 : Int32) (x2 : Int32) (x9 : Int32) (S : hs_M) : Option (Int32 × hs_M) := hs_b1 (f_X7_note x1 x2 S) (fun S_1 => (if (S_1 100 16) = (8 : Int32) then some ((x9 + (8 : Int32)), S_1) else hs_ix (S_1 100 16) (hs_N 113) (hs_l (hs_U S_1 113 (S_1 100 16).toNatClampNeg (S_1 100 31)) (fun S_3 => f_X7_send_444  hs_fuel x9 (0 : Int32) S_3))))
def f_X7_send_362 (x1 : Int32) (x2 : Int32) (x9 : Int32) (y1 : Int32) (y2 : Int32) (S : hs_M) : Option (Int32 × hs_M) := hs_ix y1 (hs_N 110) (hs_l (hs_U S 110 y1.toNatClampNeg y2) (fun S_1 => hs_ix x1 (hs_N 109) (hs_ix x1 (hs_N 109) (hs_l (hs_U S_1 109 x1.toNatClampNeg ((S_1 109 x1.toNatClampNeg) + (1 : Int32))) (fun S_2 => hs_ix x1 (hs_N 108) ((if (2 : Int32) ≤ (S_2 108 x1.toNatClampNeg) then f_X7_send_407  x1 x2 x9 S_2 else hs_ix x1 (hs_N 109) ((if (S_2 109 x1.toNatClampNeg) = (3 : Int32) then hs_ix x1 (hs_N 108) (hs_l (hs_U S_2 108 x1.toNatClampNeg (2 : Int32)) (fun S_3 => hs_ix x1 (hs_N 109) (hs_l (hs_U S_3 109 x1.toNatClampNeg (0 : Int32)) (fun S_4 => f_X7_send_407  x1 x2 x9 S_4)))) else f_X7_send_407  x1 x2 x9 S_2)))))))))
def f_X7_send_224 (x1 : Int32) (x2 : Int32) (x3 : Int32) (x4 : Int32) (x5 : Int32) (x6 : Int32) (S : hs_M) : Option (Int32 × hs_M) := hs_ix x1 (hs_N 102) (hs_bg (1 : Int32) (hs_l (hs_U S 102 x1.toNatClampNeg (1 : Int32)) (fun S_1 => hs_ix x1 (hs_N 103) (hs_l (hs_U S_1 103 x1.toNatClampNeg (S_1 100 1)) (fun S_2 => hs_ix x1 (hs_N 104) (hs_l (hs_U S_2 104 x1.toNatClampNeg (S_2 100 2)) (fun S_3 => hs_ix x1 (hs_N 101) (hs_ix x1 (hs_N 105) (hs_l (hs_U S_3 105 x1.toNatClampNeg (S_3 101 x1.toNatClampNeg)) (fun S_4 => hs_ix x1 (hs_N 106) (hs_l (hs_U S_4 106 x1.toNatClampNeg x5) (fun S_5 => hs_ix x1 (hs_N 107) (hs_l (hs_U S_5 107 x1.toNatClampNeg x6) (fun S_6 => hs_b2 (f_X7_choose x1 x2 S_6) (fun r_9 S_7 => hs_b1 (f_X7_fill (S_7 100 1) (S_7 100 2) (S_7 100 3) x2 x3 x4 S_7) (fun S_10 => hs_b1 (f_X7_write x1 r_9 x2 S_10) (fun S_12 => hs_ix r_9 (hs_N 125) (hs_ix r_9 (hs_N 125) (hs_l (hs_U S_12 125 r_9.toNatClampNeg ((S_12 125 r_9.toNatClampNeg) + (1 : Int32))) (fun S_14 => hs_ix (5 : Int32) (hs_N 125) (hs_ix (5 : Int32) (hs_N 125) (hs_l (hs_U S_14 125 (5 : Int32).toNatClampNeg ((S_14 125 (5 : Int32).toNatClampNeg) + (S_14 100 31))) (fun S_15 => (if r_9 = (4 : Int32) then f_X7_send_362  x1 x2 r_9 x1 (0 : Int32) S_15 else hs_ix x1 (hs_N 110) (f_X7_send_362  x1 x2 r_9 x1 ((S_15 110 x1.toNatClampNeg) + (1 : Int32)) S_15)))))))))))))))))))))))))
def f_X7_send_216 (x1 : Int32) (x2 : Int32) (x3 : Int32) (x4 : Int32) (x5 : Int32) (x6 : Int32) (y1 : Int32) (y2 : Int32) (S : hs_M) : Option (Int32 × hs_M) := hs_ix y1 (hs_N 108) (hs_l (hs_U S 108 y1.toNatClampNeg y2) (fun S_1 => hs_ix x1 (hs_N 109) (hs_l (hs_U S_1 109 x1.toNatClampNeg (0 : Int32)) (fun S_2 => f_X7_send_224  x1 x2 x3 x4 x5 x6 S_2))))
def f_X7_send_175 (x1 : Int32) (x2 : Int32) (x3 : Int32) (x4 : Int32) (x5 : Int32) (x6 : Int32) (S : hs_M) : Option (Int32 × hs_M) := hs_ix x1 (hs_N 108) (hs_l (hs_U S 108 x1.toNatClampNeg (0 : Int32)) (fun S_1 => hs_ix x1 (hs_N 109) (hs_l (hs_U S_1 109 x1.toNatClampNeg (0 : Int32)) (fun S_2 => f_X7_send_224  x1 x2 x3 x4 x5 x6 S_2))))
def f_X7_send_157 (x1 : Int32) (x2 : Int32) (x3 : Int32) (x4 : Int32) (x5 : Int32) (x6 : Int32) (x7 : Int32) (y0 : Int32) (S : hs_M) : Option (Int32 × hs_M) := (if x7 = 0 then f_X7_send_175  x1 x2 x3 x4 x5 x6 S else hs_ix x1 (hs_N 110) ((if (S 110 x1.toNatClampNeg) = (20 : Int32) then f_X7_send_175  x1 x2 x3 x4 x5 x6 S else (if y0 = 0 then hs_ix x1 (hs_N 108) ((if (S 108 x1.toNatClampNeg) = 0 then f_X7_send_216  x1 x2 x3 x4 x5 x6 x1 (0 : Int32) S else f_X7_send_216  x1 x2 x3 x4 x5 x6 x1 (1 : Int32) S)) else f_X7_send_224  x1 x2 x3 x4 x5 x6 S))))
def f_X7_send_156 (x1 : Int32) (x2 : Int32) (x3 : Int32) (x4 : Int32) (x5 : Int32) (x6 : Int32) (x7 : Int32) (S : hs_M) : Option (Int32 × hs_M) := f_X7_send_157  x1 x2 x3 x4 x5 x6 x7 (0 : Int32) S
def f_X7_send_123 (x1 : Int32) (x2 : Int32) (x3 : Int32) (x4 : Int32) (x5 : Int32) (x6 : Int32) (y0 : Int32) (S : hs_M) : Option (Int32 × hs_M) := (if y0 = 0 then f_X7_send_156  x1 x2 x3 x4 x5 x6 y0 S else hs_ix x1 (hs_N 106) ((if (S 106 x1.toNatClampNeg) = x5 then hs_ix x1 (hs_N 107) ((if (S 107 x1.toNatClampNeg) = x6 then f_X7_send_157  x1 x2 x3 x4 x5 x6 y0 (1 : Int32) S else f_X7_send_156  x1 x2 x3 x4 x5 x6 y0 S)) else f_X7_send_156  x1 x2 x3 x4 x5 x6 y0 S)))
def f_X7_send_122 (x1 : Int32) (x2 : Int32) (x3 : Int32) (x4 : Int32) (x5 : Int32) (x6 : Int32) (S : hs_M) : Option (Int32 × hs_M) := f_X7_send_123  x1 x2 x3 x4 x5 x6 (0 : Int32) S
def f_X7_send_35 (x1 : Int32) (x2 : Int32) (x3 : Int32) (x4 : Int32) (y1 : Int32) (S : hs_M) : Option (Int32 × hs_M) := hs_l (hs_U S 100 0 y1) (fun S_1 => (if (S_1 100 0) = 0 then hs_ix x1 (hs_N 101) (hs_l (x3 - (x2 * (S_1 101 x1.toNatClampNeg))) (fun x_2 => hs_l ((x4 - x2) &&& (65535 : Int32)) (fun x_3 => hs_ix x1 (hs_N 102) ((if (S_1 102 x1.toNatClampNeg) = 0 then f_X7_send_122  x1 x2 x3 x4 x_2 x_3 S_1 else hs_ix x1 (hs_N 103) ((if (S_1 103 x1.toNatClampNeg) = (S_1 100 1) then hs_ix x1 (hs_N 104) ((if (S_1 104 x1.toNatClampNeg) = (S_1 100 2) then hs_ix x1 (hs_N 105) (hs_ix x1 (hs_N 101) ((if (S_1 105 x1.toNatClampNeg) = (S_1 101 x1.toNatClampNeg) then f_X7_send_123  x1 x2 x3 x4 x_2 x_3 (1 : Int32) S_1 else f_X7_send_122  x1 x2 x3 x4 x_2 x_3 S_1))) else f_X7_send_122  x1 x2 x3 x4 x_2 x_3 S_1)) else f_X7_send_122  x1 x2 x3 x4 x_2 x_3 S_1))))))) else some ((0 : Int32), S_1)))
def f_X7_send_30 (x1 : Int32) (x2 : Int32) (x3 : Int32) (x4 : Int32) (S : hs_M) : Option (Int32 × hs_M) := f_X7_send_35  x1 x2 x3 x4 (2 : Int32) S
def f_X7_send_0 (x1 : Int32) (x2 : Int32) (x3 : Int32) (x4 : Int32) (S : hs_M) : Option (Int32 × hs_M) := hs_b2 (f_X7_noFlow x1 S) (fun r_3 S_1 => (if r_3 = 0 then hs_b2 (f_X7_outside x2 S_1) (fun r_6 S_4 => (if r_6 = 0 then hs_b2 (f_X7_outside x4 S_4) (fun r_9 S_7 => (if r_9 = 0 then f_X7_send_35  x1 x2 x3 x4 (0 : Int32) S_7 else f_X7_send_30  x1 x2 x3 x4 S_7)) else f_X7_send_30  x1 x2 x3 x4 S_4)) else f_X7_send_35  x1 x2 x3 x4 (1 : Int32) S_1))
def f_X7_send (a1 : Int32) (a2 : Int32) (a3 : Int32) (a4 : Int32) (S : hs_M) : Option (Int32 × hs_M) := f_X7_send_0 a1 a2 a3 a4 S
/-! HeaderSqueezeModel.sender -/
def f_X7_sender_100 (y0 : Int32) (S : hs_M) : Option (Int32 × hs_M) := some (y0, S)
def f_X7_sender_27 (x1 : Int32) (x2 : Int32) (y1 : Int32) (S : hs_M) : Option (Int32 × hs_M) := hs_l (hs_U S 100 0 y1) (fun S_1 => (if (S_1 100 0) = 0 then (if x2 = 0 then hs_ix x1 (hs_N 108) (f_X7_sender_100  (S_1 108 x1.toNatClampNeg) S_1) else (if x2 = (1 : Int32) then hs_ix x1 (hs_N 109) (f_X7_sender_100  (S_1 109 x1.toNatClampNeg) S_1) else (if x2 = (2 : Int32) then hs_ix x1 (hs_N 110) (f_X7_sender_100  (S_1 110 x1.toNatClampNeg) S_1) else (if x2 = (3 : Int32) then hs_ix x1 (hs_N 106) (f_X7_sender_100  (S_1 106 x1.toNatClampNeg) S_1) else hs_ix x1 (hs_N 107) (f_X7_sender_100  (S_1 107 x1.toNatClampNeg) S_1))))) else some ((0 : Int32), S_1)))
def f_X7_sender_22 (x1 : Int32) (x2 : Int32) (S : hs_M) : Option (Int32 × hs_M) := f_X7_sender_27  x1 x2 (2 : Int32) S
def f_X7_sender_0 (x1 : Int32) (x2 : Int32) (S : hs_M) : Option (Int32 × hs_M) := hs_b2 (f_X7_noFlow x1 S) (fun r_3 S_1 => (if r_3 = 0 then (if x2 < 0 then f_X7_sender_22  x1 x2 S_1 else (if x2 ≤ (4 : Int32) then f_X7_sender_27  x1 x2 (0 : Int32) S_1 else f_X7_sender_22  x1 x2 S_1)) else f_X7_sender_27  x1 x2 (1 : Int32) S_1))
def f_X7_sender (a1 : Int32) (a2 : Int32) (S : hs_M) : Option (Int32 × hs_M) := f_X7_sender_0 a1 a2 S
/-! HeaderSqueezeModel.size -/
def f_X7_size_34 (y0 : Int32) (S : hs_M) : Option (Int32 × hs_M) := some (y0, S)
def f_X7_size_14 (x1 : Int32) (y1 : Int32) (S : hs_M) : Option (Int32 × hs_M) := hs_l (hs_U S 100 0 y1) (fun S_1 => (if (S_1 100 0) = 0 then hs_ix x1 (hs_N 113) (f_X7_size_34  (S_1 113 x1.toNatClampNeg) S_1) else f_X7_size_34  (0 : Int32) S_1))
def f_X7_size_0 (x1 : Int32) (S : hs_M) : Option (Int32 × hs_M) := hs_b2 (f_X7_noPacket x1 S) (fun r_3 S_1 => (if r_3 = 0 then f_X7_size_14  x1 (0 : Int32) S_1 else f_X7_size_14  x1 (1 : Int32) S_1))
def f_X7_size (a1 : Int32) (S : hs_M) : Option (Int32 × hs_M) := f_X7_size_0 a1 S
/-! HeaderSqueezeModel.spoil -/
def f_X7_spoil_64 (S : hs_M) : Option hs_M := some S
def f_X7_spoil_30 (x1 : Int32) (x2 : Int32) (x3 : Int32) (y1 : Int32) (S : hs_M) : Option hs_M := hs_l (hs_U S 100 0 y1) (fun S_1 => (if (S_1 100 0) = 0 then hs_l (((20 : Int32) * x1) + x2) (fun x_2 => hs_ix x_2 (hs_N 114) (hs_ix (((20 : Int32) * x1) + x2) (hs_N 114) (hs_l (hs_U S_1 114 (((20 : Int32) * x1) + x2).toNatClampNeg ((S_1 114 x_2.toNatClampNeg) ^^^ x3)) (fun S_3 => f_X7_spoil_64   S_3)))) else f_X7_spoil_64   S_1))
def f_X7_spoil_25 (x1 : Int32) (x2 : Int32) (x3 : Int32) (S : hs_M) : Option hs_M := f_X7_spoil_30  x1 x2 x3 (2 : Int32) S
def f_X7_spoil_0 (x1 : Int32) (x2 : Int32) (x3 : Int32) (S : hs_M) : Option hs_M := hs_b2 (f_X7_noByte x1 x2 S) (fun r_3 S_1 => (if r_3 = 0 then (if x3 < 0 then f_X7_spoil_25  x1 x2 x3 S_1 else (if x3 ≤ (255 : Int32) then f_X7_spoil_30  x1 x2 x3 (0 : Int32) S_1 else f_X7_spoil_25  x1 x2 x3 S_1)) else f_X7_spoil_30  x1 x2 x3 (1 : Int32) S_1))
def f_X7_spoil (a1 : Int32) (a2 : Int32) (a3 : Int32) (S : hs_M) : Option hs_M := f_X7_spoil_0 a1 a2 a3 S
/-! HeaderSqueezeModel.stride -/
def f_X7_stride_43 (S : hs_M) : Option hs_M := some S
def f_X7_stride_26 (x1 : Int32) (x2 : Int32) (y1 : Int32) (S : hs_M) : Option hs_M := hs_l (hs_U S 100 0 y1) (fun S_1 => (if (S_1 100 0) = 0 then hs_ix x1 (hs_N 101) (hs_l (hs_U S_1 101 x1.toNatClampNeg x2) (fun S_2 => f_X7_stride_43   S_2)) else f_X7_stride_43   S_1))
def f_X7_stride_0 (x1 : Int32) (x2 : Int32) (S : hs_M) : Option hs_M := hs_b2 (f_X7_noFlow x1 S) (fun r_3 S_1 => (if r_3 = 0 then hs_b2 (f_X7_outside x2 S_1) (fun r_6 S_4 => (if r_6 = 0 then f_X7_stride_26  x1 x2 (0 : Int32) S_4 else f_X7_stride_26  x1 x2 (2 : Int32) S_4)) else f_X7_stride_26  x1 x2 (1 : Int32) S_1))
def f_X7_stride (a1 : Int32) (a2 : Int32) (S : hs_M) : Option hs_M := f_X7_stride_0 a1 a2 S
/-! HeaderSqueezeModel.thrown -/
def f_X7_thrown_0 (S : hs_M) : Option (Int32 × hs_M) := some ((S 100 0), S)
def f_X7_thrown  (S : hs_M) : Option (Int32 × hs_M) := f_X7_thrown_0  S
end
section
set_option maxRecDepth 100000 in
set_option maxHeartbeats 4000000 in
theorem t_X0_complete_0 {X : hs_T} (C : hs_C X 0 RX0 cX0_complete 3 0) {res : hs_M} (hf : hs_FV X cX0_complete res) (p0 : Nat) (gp0 : hs_K p0 = 0) (p1 : Nat) (gp1 : hs_K p1 = 1) (x2 : Int32) (S : hs_M) (h : f_X0_complete_0 p0 p1 x2 S = some res) : hs_Z X 3 S [(0, .ref (hs_q X p0)), (1, .ref (hs_q X p1)), (2, .int x2)] [] 0 := by
  unfold f_X0_complete_0 at h
  refine hs_aload_n C dX0_complete_0 1 rfl rfl ?_
  refine hs_aload_n C dX0_complete_1 0 rfl rfl ?_
  refine gf_X0_9 C gp0 dX0_complete_2 ?_
  refine pf_X0_15 C gp1 h dX0_complete_5 (fun S_1 h => ?_)
  refine hs_aload_n C dX0_complete_8 1 rfl rfl ?_
  refine hs_aload_n C dX0_complete_9 0 rfl rfl ?_
  refine gf_X0_18 C gp0 dX0_complete_10 ?_
  refine pf_X0_21 C gp1 h dX0_complete_13 (fun S_2 h => ?_)
  refine hs_aload_n C dX0_complete_16 1 rfl rfl ?_
  refine hs_iload_n C dX0_complete_17 2 rfl rfl ?_
  refine pf_X0_43 C gp1 h dX0_complete_18 (fun S_3 h => ?_)
  refine hs_aload_n C dX0_complete_21 1 rfl rfl ?_
  refine hs_aload_n C dX0_complete_22 0 rfl rfl ?_
  refine gf_X0_26 C gp0 dX0_complete_23 ?_
  refine hs_iload_n C dX0_complete_26 2 rfl rfl ?_
  refine hs_aload_n C dX0_complete_27 0 rfl rfl ?_
  refine gf_X0_29 C gp0 dX0_complete_28 ?_
  refine hs_imul C dX0_complete_31 ?_
  refine hs_iadd C dX0_complete_32 ?_
  refine pf_X0_46 C gp1 h dX0_complete_33 (fun S_4 h => ?_)
  refine hs_aload_n C dX0_complete_36 1 rfl rfl ?_
  refine hs_aload_n C dX0_complete_37 0 rfl rfl ?_
  refine gf_X0_36 C gp0 dX0_complete_38 ?_
  refine hs_iload_n C dX0_complete_41 2 rfl rfl ?_
  refine hs_iadd C dX0_complete_42 ?_
  refine hs_ldc C ww_9 dX0_complete_43 ?_
  refine hs_iand C dX0_complete_45 ?_
  refine pf_X0_50 C gp1 h dX0_complete_46 (fun S_5 h => ?_)
  exact hs_vret C hf h dX0_complete_49
theorem m_X0_complete (i0 : Nat) (gi0 : hs_K i0 = 0) (i1 : Nat) (gi1 : hs_K i1 = 1) (a2 : Int32) (S : hs_M) {S' : hs_M} (h : f_X0_complete i0 i1 a2 S = some S') : hs_met 0 yX0_complete cX0_complete 3 none 0 (fun q => [.ref (q i0), .ref (q i1), .int a2]) S (fun q => none) S' :=
  hs_mkV (res := S') (by decide +kernel) (by decide) (fun q => Nat.le_of_ble_eq_true rfl) fun X C hf => (t_X0_complete_0 C hf i0 gi0 i1 gi1 a2 S h)
set_option maxRecDepth 100000 in
set_option maxHeartbeats 4000000 in
theorem t_X0_phaseOf_0 {X : hs_T} (C : hs_C X 0 RX0 cX0_phaseOf 2 0) {res : Int32 × hs_M} (hf : hs_FI X cX0_phaseOf res) (p0 : Nat) (gp0 : hs_K p0 = 1) (x1 : Int32) (S : hs_M) (h : f_X0_phaseOf_0 p0 x1 S = some res) : hs_Z X 2 S [(0, .ref (hs_q X p0)), (1, .int x1)] [] 0 := by
  unfold f_X0_phaseOf_0 at h
  refine hs_aload_n C dX0_phaseOf_0 0 rfl rfl ?_
  refine gf_X0_46 C gp0 dX0_phaseOf_1 ?_
  refine hs_aload_n C dX0_phaseOf_4 0 rfl rfl ?_
  refine gf_X0_43 C gp0 dX0_phaseOf_5 ?_
  refine hs_iload_n C dX0_phaseOf_8 1 rfl rfl ?_
  refine hs_imul C dX0_phaseOf_9 ?_
  refine hs_isub C dX0_phaseOf_10 ?_
  exact hs_ireti C hf h dX0_phaseOf_11
theorem m_X0_phaseOf (i0 : Nat) (gi0 : hs_K i0 = 1) (a1 : Int32) (S : hs_M) {r : Int32} {S' : hs_M} (h : f_X0_phaseOf i0 a1 S = some (r, S')) : hs_met 0 yX0_phaseOf cX0_phaseOf 2 (some .int) 0 (fun q => [.ref (q i0), .int a1]) S (fun q => some (.int r)) S' :=
  hs_mkI (res := (r, S')) (by decide +kernel) (by decide) (fun q => Nat.le_of_ble_eq_true rfl) fun X C hf => (t_X0_phaseOf_0 C hf i0 gi0 a1 S h)
set_option maxRecDepth 100000 in
set_option maxHeartbeats 4000000 in
theorem t_X0_offsetOf_0 {X : hs_T} (C : hs_C X 0 RX0 cX0_offsetOf 1 0) {res : Int32 × hs_M} (hf : hs_FI X cX0_offsetOf res) (p0 : Nat) (gp0 : hs_K p0 = 1) (S : hs_M) (h : f_X0_offsetOf_0 p0 S = some res) : hs_Z X 1 S [(0, .ref (hs_q X p0))] [] 0 := by
  unfold f_X0_offsetOf_0 at h
  refine hs_aload_n C dX0_offsetOf_0 0 rfl rfl ?_
  refine gf_X0_50 C gp0 dX0_offsetOf_1 ?_
  refine hs_aload_n C dX0_offsetOf_4 0 rfl rfl ?_
  refine gf_X0_43 C gp0 dX0_offsetOf_5 ?_
  refine hs_isub C dX0_offsetOf_8 ?_
  refine hs_ldc C ww_9 dX0_offsetOf_9 ?_
  refine hs_iand C dX0_offsetOf_11 ?_
  exact hs_ireti C hf h dX0_offsetOf_12
theorem m_X0_offsetOf (i0 : Nat) (gi0 : hs_K i0 = 1) (S : hs_M) {r : Int32} {S' : hs_M} (h : f_X0_offsetOf i0 S = some (r, S')) : hs_met 0 yX0_offsetOf cX0_offsetOf 1 (some .int) 0 (fun q => [.ref (q i0)]) S (fun q => some (.int r)) S' :=
  hs_mkI (res := (r, S')) (by decide +kernel) (by decide) (fun q => Nat.le_of_ble_eq_true rfl) fun X C hf => (t_X0_offsetOf_0 C hf i0 gi0 S h)
set_option maxRecDepth 100000 in
set_option maxHeartbeats 4000000 in
theorem t_X0_follow_0 {X : hs_T} (C : hs_C X 0 RX0 cX0_follow 3 1) {res : hs_M} (hf : hs_FV X cX0_follow res) (p0 : Nat) (gp0 : hs_K p0 = 0) (p1 : Nat) (gp1 : hs_K p1 = 1) (x2 : Int32) (S : hs_M) (h : f_X0_follow_0 p0 p1 x2 S = some res) : hs_Z X 3 S [(0, .ref (hs_q X p0)), (1, .ref (hs_q X p1)), (2, .int x2)] [] 0 := by
  unfold f_X0_follow_0 at h
  refine hs_aload_n C dX0_follow_0 0 rfl rfl ?_
  refine hs_aload_n C dX0_follow_1 1 rfl rfl ?_
  refine gf_X0_15 C gp1 dX0_follow_2 ?_
  refine pf_X0_9 C gp0 h dX0_follow_5 (fun S_1 h => ?_)
  refine hs_aload_n C dX0_follow_8 0 rfl rfl ?_
  refine hs_aload_n C dX0_follow_9 1 rfl rfl ?_
  refine gf_X0_21 C gp1 dX0_follow_10 ?_
  refine pf_X0_18 C gp0 h dX0_follow_13 (fun S_2 h => ?_)
  refine hs_aload_n C dX0_follow_16 0 rfl rfl ?_
  refine hs_iload_n C dX0_follow_17 2 rfl rfl ?_
  refine pf_X0_29 C gp0 h dX0_follow_18 (fun S_3 h => ?_)
  refine hs_aload_n C dX0_follow_21 0 rfl rfl ?_
  refine hs_aload_n C dX0_follow_22 1 rfl rfl ?_
  refine hs_iload_n C dX0_follow_23 2 rfl rfl ?_
  obtain ⟨r_6, S_4, hc_5, h⟩ := hs_b2_s h
  refine cs_X0_32 C (m_X0_phaseOf p1 gp1 x2 S_3 hc_5) (by decide) (Nat.le_of_ble_eq_true rfl) dX0_follow_24 ?_
  refine pf_X0_26 C gp0 h dX0_follow_27 (fun S_7 h => ?_)
  refine hs_aload_n C dX0_follow_30 0 rfl rfl ?_
  refine hs_aload_n C dX0_follow_31 1 rfl rfl ?_
  obtain ⟨r_10, S_8, hc_9, h⟩ := hs_b2_s h
  refine cs_X0_39 C (m_X0_offsetOf p1 gp1 S_7 hc_9) (by decide) (Nat.le_of_ble_eq_true rfl) dX0_follow_32 ?_
  refine pf_X0_36 C gp0 h dX0_follow_35 (fun S_11 h => ?_)
  exact hs_vret C hf h dX0_follow_38
theorem m_X0_follow (i0 : Nat) (gi0 : hs_K i0 = 0) (i1 : Nat) (gi1 : hs_K i1 = 1) (a2 : Int32) (S : hs_M) {S' : hs_M} (h : f_X0_follow i0 i1 a2 S = some S') : hs_met 0 yX0_follow cX0_follow 3 none 1 (fun q => [.ref (q i0), .ref (q i1), .int a2]) S (fun q => none) S' :=
  hs_mkV (res := S') (by decide +kernel) (by decide) (fun q => Nat.le_of_ble_eq_true rfl) fun X C hf => (t_X0_follow_0 C hf i0 gi0 i1 gi1 a2 S h)
set_option maxRecDepth 100000 in
set_option maxHeartbeats 4000000 in
theorem t_X0_isOf_27 {X : hs_T} (C : hs_C X 0 RX0 cX0_isOf 2 0) {res : Int32 × hs_M} (hf : hs_FB X cX0_isOf res) (y0 : Int32) (S : hs_M) (h : f_X0_isOf_27 y0 S = some res) : hs_Z X 2 S [] [.int y0] 27 := by
  unfold f_X0_isOf_27 at h
  exact hs_iretb C hf h dX0_isOf_27
set_option maxRecDepth 100000 in
set_option maxHeartbeats 4000000 in
theorem t_X0_isOf_26 {X : hs_T} (C : hs_C X 0 RX0 cX0_isOf 2 0) {res : Int32 × hs_M} (hf : hs_FB X cX0_isOf res) (S : hs_M) (h : f_X0_isOf_26  S = some res) : hs_Z X 2 S [] [] 26 := by
  unfold f_X0_isOf_26 at h
  refine hs_iconst (v := 0) C dX0_isOf_26 (by decide) ?_
  exact t_X0_isOf_27 C hf  (0 : Int32) S h
set_option maxRecDepth 100000 in
set_option maxHeartbeats 4000000 in
theorem t_X0_isOf_0 {X : hs_T} (C : hs_C X 0 RX0 cX0_isOf 2 0) {res : Int32 × hs_M} (hf : hs_FB X cX0_isOf res) (p0 : Nat) (gp0 : hs_K p0 = 0) (p1 : Nat) (gp1 : hs_K p1 = 1) (S : hs_M) (h : f_X0_isOf_0 p0 p1 S = some res) : hs_Z X 2 S [(0, .ref (hs_q X p0)), (1, .ref (hs_q X p1))] [] 0 := by
  unfold f_X0_isOf_0 at h
  refine hs_aload_n C dX0_isOf_0 0 rfl rfl ?_
  refine gf_X0_9 C gp0 dX0_isOf_1 ?_
  refine hs_aload_n C dX0_isOf_4 1 rfl rfl ?_
  refine gf_X0_15 C gp1 dX0_isOf_5 ?_
  refine hs_icmp_ne (tgt := 26) C dX0_isOf_8 (by decide) h (fun h => ?_) (fun h => ?_)
  · skip
    refine hs_sub [] rfl ?_
    exact t_X0_isOf_26 C hf   S h
  · skip
    refine hs_aload_n C dX0_isOf_11 0 rfl rfl ?_
    refine gf_X0_18 C gp0 dX0_isOf_12 ?_
    refine hs_aload_n C dX0_isOf_15 1 rfl rfl ?_
    refine gf_X0_21 C gp1 dX0_isOf_16 ?_
    refine hs_icmp_ne (tgt := 26) C dX0_isOf_19 (by decide) h (fun h => ?_) (fun h => ?_)
    · skip
      refine hs_sub [] rfl ?_
      exact t_X0_isOf_26 C hf   S h
    · skip
      refine hs_iconst (v := 1) C dX0_isOf_22 (by decide) ?_
      refine hs_goto (tgt := 27) C dX0_isOf_23 (by decide) ?_
      refine hs_sub [] rfl ?_
      exact t_X0_isOf_27 C hf  (1 : Int32) S h
theorem m_X0_isOf (i0 : Nat) (gi0 : hs_K i0 = 0) (i1 : Nat) (gi1 : hs_K i1 = 1) (S : hs_M) {r : Int32} {S' : hs_M} (h : f_X0_isOf i0 i1 S = some (r, S')) : hs_met 0 yX0_isOf cX0_isOf 2 (some .boolean) 0 (fun q => [.ref (q i0), .ref (q i1)]) S (fun q => some (.int r)) S' :=
  hs_mkB (res := (r, S')) (by decide +kernel) (by decide) (fun q => Nat.le_of_ble_eq_true rfl) fun X C hf => (t_X0_isOf_0 C hf i0 gi0 i1 gi1 S h)
set_option maxRecDepth 100000 in
set_option maxHeartbeats 4000000 in
theorem t_X0_goesAlong_39 {X : hs_T} (C : hs_C X 0 RX0 cX0_goesAlong 2 1) {res : Int32 × hs_M} (hf : hs_FB X cX0_goesAlong res) (y0 : Int32) (S : hs_M) (h : f_X0_goesAlong_39 y0 S = some res) : hs_Z X 2 S [] [.int y0] 39 := by
  unfold f_X0_goesAlong_39 at h
  exact hs_iretb C hf h dX0_goesAlong_39
set_option maxRecDepth 100000 in
set_option maxHeartbeats 4000000 in
theorem t_X0_goesAlong_38 {X : hs_T} (C : hs_C X 0 RX0 cX0_goesAlong 2 1) {res : Int32 × hs_M} (hf : hs_FB X cX0_goesAlong res) (S : hs_M) (h : f_X0_goesAlong_38  S = some res) : hs_Z X 2 S [] [] 38 := by
  unfold f_X0_goesAlong_38 at h
  refine hs_iconst (v := 0) C dX0_goesAlong_38 (by decide) ?_
  exact t_X0_goesAlong_39 C hf  (0 : Int32) S h
set_option maxRecDepth 100000 in
set_option maxHeartbeats 4000000 in
theorem t_X0_goesAlong_0 {X : hs_T} (C : hs_C X 0 RX0 cX0_goesAlong 2 1) {res : Int32 × hs_M} (hf : hs_FB X cX0_goesAlong res) (p0 : Nat) (gp0 : hs_K p0 = 0) (p1 : Nat) (gp1 : hs_K p1 = 1) (S : hs_M) (h : f_X0_goesAlong_0 p0 p1 S = some res) : hs_Z X 2 S [(0, .ref (hs_q X p0)), (1, .ref (hs_q X p1))] [] 0 := by
  unfold f_X0_goesAlong_0 at h
  refine hs_aload_n C dX0_goesAlong_0 0 rfl rfl ?_
  refine hs_aload_n C dX0_goesAlong_1 1 rfl rfl ?_
  obtain ⟨r_3, S_1, hc_2, h⟩ := hs_b2_s h
  refine cs_X0_22 C gp0 (m_X0_isOf p0 gp0 p1 gp1 S hc_2) (by decide) (Nat.le_of_ble_eq_true rfl) dX0_goesAlong_2 ?_
  refine hs_if_eq (tgt := 38) C dX0_goesAlong_5 (by decide) h (fun h => ?_) (fun h => ?_)
  · skip
    refine hs_sub [] rfl ?_
    exact t_X0_goesAlong_38 C hf   S_1 h
  · skip
    refine hs_aload_n C dX0_goesAlong_8 0 rfl rfl ?_
    refine gf_X0_26 C gp0 dX0_goesAlong_9 ?_
    refine hs_aload_n C dX0_goesAlong_12 1 rfl rfl ?_
    refine hs_aload_n C dX0_goesAlong_13 0 rfl rfl ?_
    refine gf_X0_29 C gp0 dX0_goesAlong_14 ?_
    obtain ⟨r_6, S_4, hc_5, h⟩ := hs_b2_s h
    refine cs_X0_32 C (m_X0_phaseOf p1 gp1 (S_1 p0 2) S_1 hc_5) (by decide) (Nat.le_of_ble_eq_true rfl) dX0_goesAlong_17 ?_
    refine hs_icmp_ne (tgt := 38) C dX0_goesAlong_20 (by decide) h (fun h => ?_) (fun h => ?_)
    · skip
      refine hs_sub [] rfl ?_
      exact t_X0_goesAlong_38 C hf   S_4 h
    · skip
      refine hs_aload_n C dX0_goesAlong_23 0 rfl rfl ?_
      refine gf_X0_36 C gp0 dX0_goesAlong_24 ?_
      refine hs_aload_n C dX0_goesAlong_27 1 rfl rfl ?_
      obtain ⟨r_9, S_7, hc_8, h⟩ := hs_b2_s h
      refine cs_X0_39 C (m_X0_offsetOf p1 gp1 S_4 hc_8) (by decide) (Nat.le_of_ble_eq_true rfl) dX0_goesAlong_28 ?_
      refine hs_icmp_ne (tgt := 38) C dX0_goesAlong_31 (by decide) h (fun h => ?_) (fun h => ?_)
      · skip
        refine hs_sub [] rfl ?_
        exact t_X0_goesAlong_38 C hf   S_7 h
      · skip
        refine hs_iconst (v := 1) C dX0_goesAlong_34 (by decide) ?_
        refine hs_goto (tgt := 39) C dX0_goesAlong_35 (by decide) ?_
        refine hs_sub [] rfl ?_
        exact t_X0_goesAlong_39 C hf  (1 : Int32) S_7 h
theorem m_X0_goesAlong (i0 : Nat) (gi0 : hs_K i0 = 0) (i1 : Nat) (gi1 : hs_K i1 = 1) (S : hs_M) {r : Int32} {S' : hs_M} (h : f_X0_goesAlong i0 i1 S = some (r, S')) : hs_met 0 yX0_goesAlong cX0_goesAlong 2 (some .boolean) 1 (fun q => [.ref (q i0), .ref (q i1)]) S (fun q => some (.int r)) S' :=
  hs_mkB (res := (r, S')) (by decide +kernel) (by decide) (fun q => Nat.le_of_ble_eq_true rfl) fun X C hf => (t_X0_goesAlong_0 C hf i0 gi0 i1 gi1 S h)
set_option maxRecDepth 100000 in
set_option maxHeartbeats 4000000 in
theorem t_X1_markBit_14 {X : hs_T} (C : hs_C X 0 RX1 cX1_markBit 1 0) {res : Int32 × hs_M} (hf : hs_FI X cX1_markBit res) (y0 : Int32) (S : hs_M) (h : f_X1_markBit_14 y0 S = some res) : hs_Z X 1 S [] [.int y0] 14 := by
  unfold f_X1_markBit_14 at h
  exact hs_ireti C hf h dX1_markBit_14
set_option maxRecDepth 100000 in
set_option maxHeartbeats 4000000 in
theorem t_X1_markBit_0 {X : hs_T} (C : hs_C X 0 RX1 cX1_markBit 1 0) {res : Int32 × hs_M} (hf : hs_FI X cX1_markBit res) (p0 : Nat) (gp0 : hs_K p0 = 1) (S : hs_M) (h : f_X1_markBit_0 p0 S = some res) : hs_Z X 1 S [(0, .ref (hs_q X p0))] [] 0 := by
  unfold f_X1_markBit_0 at h
  refine hs_aload_n C dX1_markBit_0 0 rfl rfl ?_
  refine gf_X1_31 C gp0 dX1_markBit_1 ?_
  refine hs_if_eq (tgt := 13) C dX1_markBit_4 (by decide) h (fun h => ?_) (fun h => ?_)
  · skip
    refine hs_iconst (v := 0) C dX1_markBit_13 (by decide) ?_
    refine hs_sub [] rfl ?_
    exact t_X1_markBit_14 C hf  (0 : Int32) S h
  · skip
    refine hs_sipush (v := 128) C dX1_markBit_7 (by decide) ?_
    refine hs_goto (tgt := 14) C dX1_markBit_10 (by decide) ?_
    refine hs_sub [] rfl ?_
    exact t_X1_markBit_14 C hf  (128 : Int32) S h
theorem m_X1_markBit (i0 : Nat) (gi0 : hs_K i0 = 1) (S : hs_M) {r : Int32} {S' : hs_M} (h : f_X1_markBit i0 S = some (r, S')) : hs_met 0 yX1_markBit cX1_markBit 1 (some .int) 0 (fun q => [.ref (q i0)]) S (fun q => some (.int r)) S' :=
  hs_mkI (res := (r, S')) (by decide +kernel) (by decide) (fun q => Nat.le_of_ble_eq_true rfl) fun X C hf => (t_X1_markBit_0 C hf i0 gi0 S h)
set_option maxRecDepth 100000 in
set_option maxHeartbeats 4000000 in
theorem t_X1_part_0 {X : hs_T} (C : hs_C X 0 RX1 cX1_part 2 1) {res : Int32 × hs_M} (hf : hs_FI X cX1_part res) (p0 : Nat) (gp0 : hs_K p0 = 1) (x1 : Int32) (S : hs_M) (h : f_X1_part_0 p0 x1 S = some res) : hs_Z X 2 S [(0, .ref (hs_q X p0)), (1, .int x1)] [] 0 := by
  unfold f_X1_part_0 at h
  refine hs_iload_n C dX1_part_0 1 rfl rfl ?_
  rcases hs_if_s h with ⟨c_1, h⟩ | ⟨c_1, h⟩
  · skip
    refine hs_tableIn (off := 55) (tgt := 56) C dX1_part_1 (by rw [c_1]; decide) (by rw [c_1]; decide) (by rw [c_1]; rfl) (by decide) ?_
    refine hs_aload_n C dX1_part_56 0 rfl rfl ?_
    refine gf_X1_9 C gp0 dX1_part_57 ?_
    refine hs_bipush (v := 8) C dX1_part_60 (by decide) ?_
    refine hs_iushr C dX1_part_62 ?_
    exact hs_ireti C hf h dX1_part_63
  · skip
    rcases hs_if_s h with ⟨c_2, h⟩ | ⟨c_2, h⟩
    · skip
      refine hs_tableIn (off := 63) (tgt := 64) C dX1_part_1 (by rw [c_2]; decide) (by rw [c_2]; decide) (by rw [c_2]; rfl) (by decide) ?_
      refine hs_aload_n C dX1_part_64 0 rfl rfl ?_
      refine gf_X1_9 C gp0 dX1_part_65 ?_
      refine hs_sipush (v := 255) C dX1_part_68 (by decide) ?_
      refine hs_iand C dX1_part_71 ?_
      exact hs_ireti C hf h dX1_part_72
    · skip
      rcases hs_if_s h with ⟨c_3, h⟩ | ⟨c_3, h⟩
      · skip
        refine hs_tableIn (off := 72) (tgt := 73) C dX1_part_1 (by rw [c_3]; decide) (by rw [c_3]; decide) (by rw [c_3]; rfl) (by decide) ?_
        refine hs_aload_n C dX1_part_73 0 rfl rfl ?_
        refine gf_X1_15 C gp0 dX1_part_74 ?_
        refine hs_aload_n C dX1_part_77 0 rfl rfl ?_
        obtain ⟨r_6, S_4, hc_5, h⟩ := hs_b2_s h
        refine cs_X1_18 C gp0 (m_X1_markBit p0 gp0 S hc_5) (by decide) (Nat.le_of_ble_eq_true rfl) dX1_part_78 ?_
        refine hs_iadd C dX1_part_81 ?_
        exact hs_ireti C hf h dX1_part_82
      · skip
        rcases hs_if_s h with ⟨c_7, h⟩ | ⟨c_7, h⟩
        · skip
          refine hs_tableIn (off := 82) (tgt := 83) C dX1_part_1 (by rw [c_7]; decide) (by rw [c_7]; decide) (by rw [c_7]; rfl) (by decide) ?_
          refine hs_aload_n C dX1_part_83 0 rfl rfl ?_
          refine gf_X1_22 C gp0 dX1_part_84 ?_
          refine hs_bipush (v := 8) C dX1_part_87 (by decide) ?_
          refine hs_iushr C dX1_part_89 ?_
          exact hs_ireti C hf h dX1_part_90
        · skip
          rcases hs_if_s h with ⟨c_8, h⟩ | ⟨c_8, h⟩
          · skip
            refine hs_tableIn (off := 90) (tgt := 91) C dX1_part_1 (by rw [c_8]; decide) (by rw [c_8]; decide) (by rw [c_8]; rfl) (by decide) ?_
            refine hs_aload_n C dX1_part_91 0 rfl rfl ?_
            refine gf_X1_22 C gp0 dX1_part_92 ?_
            refine hs_sipush (v := 255) C dX1_part_95 (by decide) ?_
            refine hs_iand C dX1_part_98 ?_
            exact hs_ireti C hf h dX1_part_99
          · skip
            rcases hs_if_s h with ⟨c_9, h⟩ | ⟨c_9, h⟩
            · skip
              refine hs_tableIn (off := 99) (tgt := 100) C dX1_part_1 (by rw [c_9]; decide) (by rw [c_9]; decide) (by rw [c_9]; rfl) (by decide) ?_
              refine hs_aload_n C dX1_part_100 0 rfl rfl ?_
              refine gf_X1_25 C gp0 dX1_part_101 ?_
              refine hs_bipush (v := 24) C dX1_part_104 (by decide) ?_
              refine hs_iushr C dX1_part_106 ?_
              exact hs_ireti C hf h dX1_part_107
            · skip
              rcases hs_if_s h with ⟨c_10, h⟩ | ⟨c_10, h⟩
              · skip
                refine hs_tableIn (off := 107) (tgt := 108) C dX1_part_1 (by rw [c_10]; decide) (by rw [c_10]; decide) (by rw [c_10]; rfl) (by decide) ?_
                refine hs_aload_n C dX1_part_108 0 rfl rfl ?_
                refine gf_X1_25 C gp0 dX1_part_109 ?_
                refine hs_bipush (v := 16) C dX1_part_112 (by decide) ?_
                refine hs_iushr C dX1_part_114 ?_
                refine hs_sipush (v := 255) C dX1_part_115 (by decide) ?_
                refine hs_iand C dX1_part_118 ?_
                exact hs_ireti C hf h dX1_part_119
              · skip
                rcases hs_if_s h with ⟨c_11, h⟩ | ⟨c_11, h⟩
                · skip
                  refine hs_tableIn (off := 119) (tgt := 120) C dX1_part_1 (by rw [c_11]; decide) (by rw [c_11]; decide) (by rw [c_11]; rfl) (by decide) ?_
                  refine hs_aload_n C dX1_part_120 0 rfl rfl ?_
                  refine gf_X1_25 C gp0 dX1_part_121 ?_
                  refine hs_bipush (v := 8) C dX1_part_124 (by decide) ?_
                  refine hs_iushr C dX1_part_126 ?_
                  refine hs_sipush (v := 255) C dX1_part_127 (by decide) ?_
                  refine hs_iand C dX1_part_130 ?_
                  exact hs_ireti C hf h dX1_part_131
                · skip
                  rcases hs_if_s h with ⟨c_12, h⟩ | ⟨c_12, h⟩
                  · skip
                    refine hs_tableIn (off := 131) (tgt := 132) C dX1_part_1 (by rw [c_12]; decide) (by rw [c_12]; decide) (by rw [c_12]; rfl) (by decide) ?_
                    refine hs_aload_n C dX1_part_132 0 rfl rfl ?_
                    refine gf_X1_25 C gp0 dX1_part_133 ?_
                    refine hs_sipush (v := 255) C dX1_part_136 (by decide) ?_
                    refine hs_iand C dX1_part_139 ?_
                    exact hs_ireti C hf h dX1_part_140
                  · skip
                    rcases hs_if_s h with ⟨c_13, h⟩ | ⟨c_13, h⟩
                    · skip
                      refine hs_tableIn (off := 140) (tgt := 141) C dX1_part_1 (by rw [c_13]; decide) (by rw [c_13]; decide) (by rw [c_13]; rfl) (by decide) ?_
                      refine hs_aload_n C dX1_part_141 0 rfl rfl ?_
                      refine gf_X1_28 C gp0 dX1_part_142 ?_
                      refine hs_bipush (v := 8) C dX1_part_145 (by decide) ?_
                      refine hs_iushr C dX1_part_147 ?_
                      exact hs_ireti C hf h dX1_part_148
                    · skip
                      refine hs_tableOut (tgt := 149) C dX1_part_1 (by have e0 := lv_neT (a := 0) c_1 (by decide); have e1 := lv_neT (a := 1) c_2 (by decide); have e2 := lv_neT (a := 2) c_3 (by decide); have e3 := lv_neT (a := 3) c_7 (by decide); have e4 := lv_neT (a := 4) c_8 (by decide); have e5 := lv_neT (a := 5) c_9 (by decide); have e6 := lv_neT (a := 6) c_10 (by decide); have e7 := lv_neT (a := 7) c_11 (by decide); have e8 := lv_neT (a := 8) c_12 (by decide); have e9 := lv_neT (a := 9) c_13 (by decide); omega) (by decide) ?_
                      refine hs_aload_n C dX1_part_149 0 rfl rfl ?_
                      refine gf_X1_28 C gp0 dX1_part_150 ?_
                      refine hs_sipush (v := 255) C dX1_part_153 (by decide) ?_
                      refine hs_iand C dX1_part_156 ?_
                      exact hs_ireti C hf h dX1_part_157
theorem m_X1_part (i0 : Nat) (gi0 : hs_K i0 = 1) (a1 : Int32) (S : hs_M) {r : Int32} {S' : hs_M} (h : f_X1_part i0 a1 S = some (r, S')) : hs_met 0 yX1_part cX1_part 2 (some .int) 1 (fun q => [.ref (q i0), .int a1]) S (fun q => some (.int r)) S' :=
  hs_mkI (res := (r, S')) (by decide +kernel) (by decide) (fun q => Nat.le_of_ble_eq_true rfl) fun X C hf => (t_X1_part_0 C hf i0 gi0 a1 S h)
set_option maxRecDepth 100000 in
set_option maxHeartbeats 4000000 in
theorem t_X1_sumBehind_43 {X : hs_T} (C : hs_C X 0 RX1 cX1_sumBehind 6 0) {res : Int32 × hs_M} (hf : hs_FI X cX1_sumBehind res) (K5 : Int32 → Int32 → Int32 → Int32 → hs_M → Option (Int32 × hs_M)) (hK5 : ∀ (x1 : Int32) (x2 : Int32) (x3 : Int32) (x4 : Int32) (S : hs_M), K5 x1 x2 x3 x4 S = some res → hs_Z X 6 S [(1, .int x1), (2, .int x2), (3, .int x3), (4, .int x4)] [] 5) (x1 : Int32) (x2 : Int32) (x3 : Int32) (x4 : Int32) (S : hs_M) (h : f_X1_sumBehind_43 K5 x1 x2 x3 x4 S = some res) : hs_Z X 6 S [(1, .int x1), (2, .int x2), (3, .int x3), (4, .int x4)] [] 43 := by
  unfold f_X1_sumBehind_43 at h
  refine hs_iinc' (1 : Int32) C dX1_sumBehind_43 3 rfl (by decide) (by decide) h (fun x_1 h => ?_)
  show hs_Z X _ _ [(4, .int x_1), (1, .int x1), (2, .int x2), (3, .int x3)] _ _
  refine hs_goto (tgt := 5) C dX1_sumBehind_46 (by decide) ?_
  refine hs_sub [1, 2, 3, 0] rfl ?_
  exact hK5 x1 x2 x3 x_1 S h
set_option maxRecDepth 100000 in
set_option maxHeartbeats 4000000 in
theorem t_X1_sumBehind_28 {X : hs_T} (C : hs_C X 0 RX1 cX1_sumBehind 6 0) {res : Int32 × hs_M} (hf : hs_FI X cX1_sumBehind res) (K5 : Int32 → Int32 → Int32 → Int32 → hs_M → Option (Int32 × hs_M)) (hK5 : ∀ (x1 : Int32) (x2 : Int32) (x3 : Int32) (x4 : Int32) (S : hs_M), K5 x1 x2 x3 x4 S = some res → hs_Z X 6 S [(1, .int x1), (2, .int x2), (3, .int x3), (4, .int x4)] [] 5) (x1 : Int32) (x2 : Int32) (x3 : Int32) (x4 : Int32) (y0 : Int32) (S : hs_M) (h : f_X1_sumBehind_28 K5 x1 x2 x3 x4 y0 S = some res) : hs_Z X 6 S [(1, .int x1), (2, .int x2), (3, .int x3), (4, .int x4)] [.int y0] 28 := by
  unfold f_X1_sumBehind_28 at h
  refine hs_istore (lv' := [(5, .int y0), (1, .int x1), (2, .int x2), (3, .int x3), (4, .int x4)]) C dX1_sumBehind_28 (by decide) rfl ?_
  refine hs_iload_n C dX1_sumBehind_30 3 rfl rfl ?_
  refine hs_iconst (v := 1) C dX1_sumBehind_31 (by decide) ?_
  refine hs_iushr C dX1_sumBehind_32 ?_
  refine hs_top h (fun x_1 h => ?_)
  refine hs_istore_n (lv' := [(3, .int x_1), (5, .int y0), (1, .int x1), (2, .int x2), (4, .int x4)]) C dX1_sumBehind_33 rfl (by decide) rfl ?_
  refine hs_iload C dX1_sumBehind_34 1 rfl ?_
  refine hs_if_eq (tgt := 43) C dX1_sumBehind_36 (by decide) h (fun h => ?_) (fun h => ?_)
  · skip
    refine hs_sub [2, 3, 0, 4] rfl ?_
    exact t_X1_sumBehind_43 C hf K5 hK5 x1 x2 x_1 x4 S h
  · skip
    refine hs_iload_n C dX1_sumBehind_39 0 rfl rfl ?_
    refine hs_iload_n C dX1_sumBehind_40 2 rfl rfl ?_
    refine hs_ixor C dX1_sumBehind_41 ?_
    refine hs_top h (fun x_2 h => ?_)
    refine hs_istore_n (lv' := [(3, .int x_2), (5, .int y0), (1, .int x1), (2, .int x2), (4, .int x4)]) C dX1_sumBehind_42 rfl (by decide) rfl ?_
    refine hs_sub [2, 3, 0, 4] rfl ?_
    exact t_X1_sumBehind_43 C hf K5 hK5 x1 x2 x_2 x4 S h
set_option maxRecDepth 100000 in
set_option maxHeartbeats 4000000 in
theorem t_X1_sumBehind_5 {X : hs_T} (C : hs_C X 0 RX1 cX1_sumBehind 6 0) {res : Int32 × hs_M} (hf : hs_FI X cX1_sumBehind res) (K5 : Int32 → Int32 → Int32 → Int32 → hs_M → Option (Int32 × hs_M)) (hK5 : ∀ (x1 : Int32) (x2 : Int32) (x3 : Int32) (x4 : Int32) (S : hs_M), K5 x1 x2 x3 x4 S = some res → hs_Z X 6 S [(1, .int x1), (2, .int x2), (3, .int x3), (4, .int x4)] [] 5) (x1 : Int32) (x2 : Int32) (x3 : Int32) (x4 : Int32) (S : hs_M) (h : fb_X1_sumBehind_5 K5 x1 x2 x3 x4 S = some res) : hs_Z X 6 S [(1, .int x1), (2, .int x2), (3, .int x3), (4, .int x4)] [] 5 := by
  unfold fb_X1_sumBehind_5 at h
  refine hs_iload C dX1_sumBehind_5 3 rfl ?_
  refine hs_bipush (v := 8) C dX1_sumBehind_7 (by decide) ?_
  refine hs_icmp_ge (tgt := 49) C dX1_sumBehind_9 (by decide) h (fun h => ?_) (fun h => ?_)
  · skip
    refine hs_iload_n C dX1_sumBehind_49 2 rfl rfl ?_
    exact hs_ireti C hf h dX1_sumBehind_50
  · skip
    refine hs_iload_n C dX1_sumBehind_12 2 rfl rfl ?_
    refine hs_iload_n C dX1_sumBehind_13 1 rfl rfl ?_
    refine hs_iload C dX1_sumBehind_14 3 rfl ?_
    refine hs_iushr C dX1_sumBehind_16 ?_
    refine hs_ixor C dX1_sumBehind_17 ?_
    refine hs_iconst (v := 1) C dX1_sumBehind_18 (by decide) ?_
    refine hs_iand C dX1_sumBehind_19 ?_
    refine hs_if_eq (tgt := 27) C dX1_sumBehind_20 (by decide) h (fun h => ?_) (fun h => ?_)
    · skip
      refine hs_iconst (v := 0) C dX1_sumBehind_27 (by decide) ?_
      exact t_X1_sumBehind_28 C hf K5 hK5 x1 x2 x3 x4 (0 : Int32) S h
    · skip
      refine hs_iconst (v := 1) C dX1_sumBehind_23 (by decide) ?_
      refine hs_goto (tgt := 28) C dX1_sumBehind_24 (by decide) ?_
      exact t_X1_sumBehind_28 C hf K5 hK5 x1 x2 x3 x4 (1 : Int32) S h
theorem t_X1_sumBehind_5l {X : hs_T} (C : hs_C X 0 RX1 cX1_sumBehind 6 0) {res : Int32 × hs_M} (hf : hs_FI X cX1_sumBehind res)  : ∀ (n : Nat) (x1 : Int32) (x2 : Int32) (x3 : Int32) (x4 : Int32) (S : hs_M), f_X1_sumBehind_5  n x1 x2 x3 x4 S = some res → hs_Z X 6 S [(1, .int x1), (2, .int x2), (3, .int x3), (4, .int x4)] [] 5 := by
  intro n
  induction n with
  | zero =>
    intro x1 x2 x3 x4 S h
    cases h
  | succ n ih =>
    intro x1 x2 x3 x4 S h
    exact t_X1_sumBehind_5 C hf  (f_X1_sumBehind_5  n) ih x1 x2 x3 x4 S h
set_option maxRecDepth 100000 in
set_option maxHeartbeats 4000000 in
theorem t_X1_sumBehind_0 {X : hs_T} (C : hs_C X 0 RX1 cX1_sumBehind 6 0) {res : Int32 × hs_M} (hf : hs_FI X cX1_sumBehind res) (x0 : Int32) (x1 : Int32) (x2 : Int32) (S : hs_M) (h : f_X1_sumBehind_0 x0 x1 x2 S = some res) : hs_Z X 6 S [(0, .int x0), (1, .int x1), (2, .int x2)] [] 0 := by
  unfold f_X1_sumBehind_0 at h
  refine hs_iload_n C dX1_sumBehind_0 0 rfl rfl ?_
  refine hs_istore_n (lv' := [(3, .int x0), (0, .int x0), (1, .int x1), (2, .int x2)]) C dX1_sumBehind_1 rfl (by decide) rfl ?_
  refine hs_iconst (v := 0) C dX1_sumBehind_2 (by decide) ?_
  refine hs_istore (lv' := [(4, .int (0 : Int32)), (3, .int x0), (0, .int x0), (1, .int x1), (2, .int x2)]) C dX1_sumBehind_3 (by decide) rfl ?_
  refine hs_sub [3, 4, 1, 0] rfl ?_
  exact t_X1_sumBehind_5l C hf  hs_fuel x1 x2 x0 (0 : Int32) S h
theorem m_X1_sumBehind (a0 : Int32) (a1 : Int32) (a2 : Int32) (S : hs_M) {r : Int32} {S' : hs_M} (h : f_X1_sumBehind a0 a1 a2 S = some (r, S')) : hs_met 0 yX1_sumBehind cX1_sumBehind 6 (some .int) 0 (fun q => [.int a0, .int a1, .int a2]) S (fun q => some (.int r)) S' :=
  hs_mkI (res := (r, S')) (by decide +kernel) (by decide) (fun q => Nat.le_of_ble_eq_true rfl) fun X C hf => (t_X1_sumBehind_0 C hf a0 a1 a2 S h)
set_option maxRecDepth 100000 in
set_option maxHeartbeats 4000000 in
theorem t_X1_sumFor_70 {X : hs_T} (C : hs_C X 0 RX1 cX1_sumFor 6 2) {res : Int32 × hs_M} (hf : hs_FI X cX1_sumFor res) (x3 : Int32) (S : hs_M) (h : f_X1_sumFor_70 x3 S = some res) : hs_Z X 6 S [(3, .int x3)] [] 70 := by
  unfold f_X1_sumFor_70 at h
  refine hs_iload_n C dX1_sumFor_70 0 rfl rfl ?_
  exact hs_ireti C hf h dX1_sumFor_71
set_option maxRecDepth 100000 in
set_option maxHeartbeats 4000000 in
theorem t_X1_sumFor_16 {X : hs_T} (C : hs_C X 0 RX1 cX1_sumFor 6 2) {res : Int32 × hs_M} (hf : hs_FI X cX1_sumFor res) (K16 : Nat → Int32 → Int32 → Int32 → Int32 → Int32 → hs_M → Option (Int32 × hs_M)) (hK16 : ∀ (p0 : Nat) (_ : hs_K p0 = 1) (x1 : Int32) (x2 : Int32) (x3 : Int32) (x4 : Int32) (x5 : Int32) (S : hs_M), K16 p0 x1 x2 x3 x4 x5 S = some res → hs_Z X 6 S [(0, .ref (hs_q X p0)), (1, .int x1), (2, .int x2), (3, .int x3), (4, .int x4), (5, .int x5)] [] 16) (p0 : Nat) (gp0 : hs_K p0 = 1) (x1 : Int32) (x2 : Int32) (x3 : Int32) (x4 : Int32) (x5 : Int32) (S : hs_M) (h : fb_X1_sumFor_16 K16 p0 x1 x2 x3 x4 x5 S = some res) : hs_Z X 6 S [(0, .ref (hs_q X p0)), (1, .int x1), (2, .int x2), (3, .int x3), (4, .int x4), (5, .int x5)] [] 16 := by
  unfold fb_X1_sumFor_16 at h
  refine hs_iload C dX1_sumFor_16 5 rfl ?_
  refine hs_bipush (v := 11) C dX1_sumFor_18 (by decide) ?_
  refine hs_icmp_ge (tgt := 42) C dX1_sumFor_20 (by decide) h (fun h => ?_) (fun h => ?_)
  · skip
    refine hs_iload_n C dX1_sumFor_42 1 rfl rfl ?_
    refine hs_iconst (v := 4) C dX1_sumFor_43 (by decide) ?_
    refine hs_icmp_ne (tgt := 70) C dX1_sumFor_44 (by decide) h (fun h => ?_) (fun h => ?_)
    · skip
      refine hs_sub [3] rfl ?_
      exact t_X1_sumFor_70 C hf  x3 S h
    · skip
      refine hs_iload_n C dX1_sumFor_47 3 rfl rfl ?_
      refine hs_iload C dX1_sumFor_48 4 rfl ?_
      refine hs_iload_n C dX1_sumFor_50 2 rfl rfl ?_
      refine hs_bipush (v := 8) C dX1_sumFor_51 (by decide) ?_
      refine hs_iushr C dX1_sumFor_53 ?_
      obtain ⟨r_3, S_1, hc_2, h⟩ := hs_b2_s h
      refine cs_X1_46 C (m_X1_sumBehind x3 x4 (hs_ushr x2 (8 : Int32)) S hc_2) (by decide) (Nat.le_of_ble_eq_true rfl) dX1_sumFor_54 ?_
      refine hs_istore_n (lv' := [(3, .int r_3), (0, .ref (hs_q X p0)), (1, .int x1), (2, .int x2), (4, .int x4), (5, .int x5)]) C dX1_sumFor_57 rfl (by decide) rfl ?_
      refine hs_iload_n C dX1_sumFor_58 0 rfl rfl ?_
      refine hs_iload C dX1_sumFor_59 4 rfl ?_
      refine hs_iload_n C dX1_sumFor_61 3 rfl rfl ?_
      refine hs_sipush (v := 255) C dX1_sumFor_62 (by decide) ?_
      refine hs_iand C dX1_sumFor_65 ?_
      obtain ⟨r_6, S_4, hc_5, h⟩ := hs_b2_s h
      refine cs_X1_46 C (m_X1_sumBehind r_3 x4 (x2 &&& (255 : Int32)) S_1 hc_5) (by decide) (Nat.le_of_ble_eq_true rfl) dX1_sumFor_66 ?_
      refine hs_istore_n (lv' := [(3, .int r_6), (0, .ref (hs_q X p0)), (1, .int x1), (2, .int x2), (4, .int x4), (5, .int x5)]) C dX1_sumFor_69 rfl (by decide) rfl ?_
      refine hs_sub [0] rfl ?_
      exact t_X1_sumFor_70 C hf  r_6 S_4 h
  · skip
    refine hs_iload_n C dX1_sumFor_23 3 rfl rfl ?_
    refine hs_iload C dX1_sumFor_24 4 rfl ?_
    refine hs_aload_n C dX1_sumFor_26 0 rfl rfl ?_
    refine hs_iload C dX1_sumFor_27 5 rfl ?_
    obtain ⟨r_9, S_7, hc_8, h⟩ := hs_b2_s h
    refine cs_X1_42 C gp0 (m_X1_part p0 gp0 x5 S hc_8) (by decide) (Nat.le_of_ble_eq_true rfl) dX1_sumFor_29 ?_
    obtain ⟨r_12, S_10, hc_11, h⟩ := hs_b2_s h
    refine cs_X1_46 C (m_X1_sumBehind x3 x4 r_9 S_7 hc_11) (by decide) (Nat.le_of_ble_eq_true rfl) dX1_sumFor_32 ?_
    refine hs_istore_n (lv' := [(3, .int r_12), (0, .ref (hs_q X p0)), (1, .int x1), (2, .int x2), (4, .int x4), (5, .int x5)]) C dX1_sumFor_35 rfl (by decide) rfl ?_
    refine hs_iinc' (1 : Int32) C dX1_sumFor_36 5 rfl (by decide) (by decide) h (fun x_13 h => ?_)
    show hs_Z X _ _ [(5, .int x_13), (3, .int r_12), (0, .ref (hs_q X p0)), (1, .int x1), (2, .int x2), (4, .int x4)] _ _
    refine hs_goto (tgt := 16) C dX1_sumFor_39 (by decide) ?_
    refine hs_sub [2, 3, 4, 1, 5, 0] rfl ?_
    exact hK16 p0 gp0 x1 x2 r_12 x4 x_13 S_10 h
theorem t_X1_sumFor_16l {X : hs_T} (C : hs_C X 0 RX1 cX1_sumFor 6 2) {res : Int32 × hs_M} (hf : hs_FI X cX1_sumFor res)  : ∀ (n : Nat) (p0 : Nat) (gp0 : hs_K p0 = 1) (x1 : Int32) (x2 : Int32) (x3 : Int32) (x4 : Int32) (x5 : Int32) (S : hs_M), f_X1_sumFor_16  n p0 x1 x2 x3 x4 x5 S = some res → hs_Z X 6 S [(0, .ref (hs_q X p0)), (1, .int x1), (2, .int x2), (3, .int x3), (4, .int x4), (5, .int x5)] [] 16 := by
  intro n
  induction n with
  | zero =>
    intro p0 gp0 x1 x2 x3 x4 x5 S h
    cases h
  | succ n ih =>
    intro p0 gp0 x1 x2 x3 x4 x5 S h
    exact t_X1_sumFor_16 C hf  (f_X1_sumFor_16  n) ih p0 gp0 x1 x2 x3 x4 x5 S h
set_option maxRecDepth 100000 in
set_option maxHeartbeats 4000000 in
theorem t_X1_sumFor_0 {X : hs_T} (C : hs_C X 0 RX1 cX1_sumFor 6 2) {res : Int32 × hs_M} (hf : hs_FI X cX1_sumFor res) (p0 : Nat) (gp0 : hs_K p0 = 1) (x1 : Int32) (x2 : Int32) (S : hs_M) (h : f_X1_sumFor_0 p0 x1 x2 S = some res) : hs_Z X 6 S [(0, .ref (hs_q X p0)), (1, .int x1), (2, .int x2)] [] 0 := by
  unfold f_X1_sumFor_0 at h
  refine hs_gets (j := 1) (nm := "SUM_AT_FIRST") C (by decide) rfl (by decide +kernel) dX1_sumFor_0 ?_
  refine hs_iload_n C dX1_sumFor_3 1 rfl rfl ?_
  refine hs_sld C (by decide) h dX1_sumFor_4 (fun h => ?_)
  refine hs_top h (fun x_1 h => ?_)
  refine hs_istore_n (lv' := [(3, .int x_1), (0, .ref (hs_q X p0)), (1, .int x1), (2, .int x2)]) C dX1_sumFor_5 rfl (by decide) rfl ?_
  refine hs_gets (j := 2) (nm := "SUM_CHANGE") C (by decide) rfl (by decide +kernel) dX1_sumFor_6 ?_
  refine hs_iload_n C dX1_sumFor_9 2 rfl rfl ?_
  refine hs_sld C (by decide) h dX1_sumFor_10 (fun h => ?_)
  refine hs_top h (fun x_2 h => ?_)
  refine hs_istore (lv' := [(4, .int x_2), (3, .int x_1), (0, .ref (hs_q X p0)), (1, .int x1), (2, .int x2)]) C dX1_sumFor_11 (by decide) rfl ?_
  refine hs_iconst (v := 0) C dX1_sumFor_13 (by decide) ?_
  refine hs_istore (lv' := [(5, .int (0 : Int32)), (4, .int x_2), (3, .int x_1), (0, .ref (hs_q X p0)), (1, .int x1), (2, .int x2)]) C dX1_sumFor_14 (by decide) rfl ?_
  refine hs_sub [3, 4, 5, 2, 1, 0] rfl ?_
  exact t_X1_sumFor_16l C hf  hs_fuel p0 gp0 x1 x2 x_1 x_2 (0 : Int32) S h
theorem m_X1_sumFor (i0 : Nat) (gi0 : hs_K i0 = 1) (a1 : Int32) (a2 : Int32) (S : hs_M) {r : Int32} {S' : hs_M} (h : f_X1_sumFor i0 a1 a2 S = some (r, S')) : hs_met 0 yX1_sumFor cX1_sumFor 6 (some .int) 2 (fun q => [.ref (q i0), .int a1, .int a2]) S (fun q => some (.int r)) S' :=
  hs_mkI (res := (r, S')) (by decide +kernel) (by decide) (fun q => Nat.le_of_ble_eq_true rfl) fun X C hf => (t_X1_sumFor_0 C hf i0 gi0 a1 a2 S h)
end
section
theorem i_vc : Claimed_1_1 ∧ Claimed_1_2 := sorry
end
