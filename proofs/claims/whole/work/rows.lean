section
-- ===== PART A: goes FIRST, ahead of the names: the tables' words, and 'selects' of the private methods out of them =====
/-- a private method of a class that the tables say can be made, by its rows of tables_1 -/
def lw_okq (q : MethodName × Nat) : Prop := (q.1.cls ≠ "java/lang/invoke/MethodHandle" ∧ q.1.cls ≠ "java/lang/invoke/VarHandle") ∧ Cond.instantiable q.1.cls q.2 ∈ tables_1 ∧ Cond.privateMethod q.1 ∈ tables_1 ∧ Cond.instanceMethod q.1 ∈ tables_1
theorem lw_p0 : lw_okq (⟨"java/lang/Throwable", "fillInStackTrace", "(I)Ljava/lang/Throwable;"⟩, 6) := ⟨⟨by decide +kernel, by decide +kernel⟩, List.mem_of_getElem? (i := 275) (by decide +kernel), List.mem_of_getElem? (i := 273) (by decide +kernel), List.mem_of_getElem? (i := 274) (by decide +kernel)⟩
theorem lw_p1 : lw_okq (⟨"HeaderSqueeze$Sender", "enter", "(I)V"⟩, 8) := ⟨⟨by decide +kernel, by decide +kernel⟩, List.mem_of_getElem? (i := 123) (by decide +kernel), List.mem_of_getElem? (i := 391) (by decide +kernel), List.mem_of_getElem? (i := 392) (by decide +kernel)⟩
theorem lw_p2 : lw_okq (⟨"HeaderSqueeze$Sender", "smallestKind", "(LHeaderSqueeze$Head;)I"⟩, 8) := ⟨⟨by decide +kernel, by decide +kernel⟩, List.mem_of_getElem? (i := 123) (by decide +kernel), List.mem_of_getElem? (i := 411) (by decide +kernel), List.mem_of_getElem? (i := 412) (by decide +kernel)⟩
theorem lw_p3 : lw_okq (⟨"HeaderSqueeze$Sender", "isEnough", "(II)Z"⟩, 8) := ⟨⟨by decide +kernel, by decide +kernel⟩, List.mem_of_getElem? (i := 123) (by decide +kernel), List.mem_of_getElem? (i := 415) (by decide +kernel), List.mem_of_getElem? (i := 416) (by decide +kernel)⟩
theorem lw_p4 : lw_okq (⟨"HeaderSqueeze$Packet", "put", "(I)V"⟩, 5) := ⟨⟨by decide +kernel, by decide +kernel⟩, List.mem_of_getElem? (i := 83) (by decide +kernel), List.mem_of_getElem? (i := 455) (by decide +kernel), List.mem_of_getElem? (i := 456) (by decide +kernel)⟩
theorem lw_p5 : lw_okq (⟨"HeaderSqueeze$Packet", "putMoving", "(LHeaderSqueeze$Head;I)V"⟩, 5) := ⟨⟨by decide +kernel, by decide +kernel⟩, List.mem_of_getElem? (i := 83) (by decide +kernel), List.mem_of_getElem? (i := 460) (by decide +kernel), List.mem_of_getElem? (i := 461) (by decide +kernel)⟩
theorem lw_p6 : lw_okq (⟨"HeaderSqueeze$Packet", "putTwo", "(I)V"⟩, 5) := ⟨⟨by decide +kernel, by decide +kernel⟩, List.mem_of_getElem? (i := 83) (by decide +kernel), List.mem_of_getElem? (i := 465) (by decide +kernel), List.mem_of_getElem? (i := 466) (by decide +kernel)⟩
theorem lw_p7 : lw_okq (⟨"HeaderSqueeze", "isNoPacket", "(I)Z"⟩, 7) := ⟨⟨by decide +kernel, by decide +kernel⟩, List.mem_of_getElem? (i := 20) (by decide +kernel), List.mem_of_getElem? (i := 484) (by decide +kernel), List.mem_of_getElem? (i := 485) (by decide +kernel)⟩
theorem lw_p8 : lw_okq (⟨"HeaderSqueeze", "isNoByte", "(II)Z"⟩, 7) := ⟨⟨by decide +kernel, by decide +kernel⟩, List.mem_of_getElem? (i := 20) (by decide +kernel), List.mem_of_getElem? (i := 495) (by decide +kernel), List.mem_of_getElem? (i := 496) (by decide +kernel)⟩
theorem lw_p9 : lw_okq (⟨"HeaderSqueeze$Packet", "isMisshapen", "()Z"⟩, 5) := ⟨⟨by decide +kernel, by decide +kernel⟩, List.mem_of_getElem? (i := 83) (by decide +kernel), List.mem_of_getElem? (i := 546) (by decide +kernel), List.mem_of_getElem? (i := 547) (by decide +kernel)⟩
theorem lw_p10 : lw_okq (⟨"HeaderSqueeze$Packet", "own", "(I)I"⟩, 5) := ⟨⟨by decide +kernel, by decide +kernel⟩, List.mem_of_getElem? (i := 83) (by decide +kernel), List.mem_of_getElem? (i := 552) (by decide +kernel), List.mem_of_getElem? (i := 553) (by decide +kernel)⟩
theorem lw_p11 : lw_okq (⟨"HeaderSqueeze$Receiver", "makeSmall", "(LHeaderSqueeze$Packet;LHeaderSqueeze$Head;)I"⟩, 5) := ⟨⟨by decide +kernel, by decide +kernel⟩, List.mem_of_getElem? (i := 186) (by decide +kernel), List.mem_of_getElem? (i := 582) (by decide +kernel), List.mem_of_getElem? (i := 583) (by decide +kernel)⟩
theorem lw_p12 : lw_okq (⟨"HeaderSqueeze$Receiver", "fits", "(LHeaderSqueeze$Packet;LHeaderSqueeze$Head;I)Z"⟩, 5) := ⟨⟨by decide +kernel, by decide +kernel⟩, List.mem_of_getElem? (i := 186) (by decide +kernel), List.mem_of_getElem? (i := 596) (by decide +kernel), List.mem_of_getElem? (i := 597) (by decide +kernel)⟩
theorem lw_p13 : lw_okq (⟨"HeaderSqueeze$Receiver", "makeMoving", "(LHeaderSqueeze$Packet;LHeaderSqueeze$Head;)I"⟩, 5) := ⟨⟨by decide +kernel, by decide +kernel⟩, List.mem_of_getElem? (i := 186) (by decide +kernel), List.mem_of_getElem? (i := 614) (by decide +kernel), List.mem_of_getElem? (i := 615) (by decide +kernel)⟩
theorem lw_p14 : lw_okq (⟨"HeaderSqueeze$Packet", "ownTwo", "(I)I"⟩, 5) := ⟨⟨by decide +kernel, by decide +kernel⟩, List.mem_of_getElem? (i := 83) (by decide +kernel), List.mem_of_getElem? (i := 622) (by decide +kernel), List.mem_of_getElem? (i := 623) (by decide +kernel)⟩
theorem lw_p15 : lw_okq (⟨"HeaderSqueeze$Receiver", "noteFailure", "()V"⟩, 5) := ⟨⟨by decide +kernel, by decide +kernel⟩, List.mem_of_getElem? (i := 186) (by decide +kernel), List.mem_of_getElem? (i := 636) (by decide +kernel), List.mem_of_getElem? (i := 637) (by decide +kernel)⟩
def lw_privs_1 : List (MethodName × Nat) := [(⟨"java/lang/Throwable", "fillInStackTrace", "(I)Ljava/lang/Throwable;"⟩, 6), (⟨"HeaderSqueeze$Sender", "enter", "(I)V"⟩, 8), (⟨"HeaderSqueeze$Sender", "smallestKind", "(LHeaderSqueeze$Head;)I"⟩, 8), (⟨"HeaderSqueeze$Sender", "isEnough", "(II)Z"⟩, 8), (⟨"HeaderSqueeze$Packet", "put", "(I)V"⟩, 5), (⟨"HeaderSqueeze$Packet", "putMoving", "(LHeaderSqueeze$Head;I)V"⟩, 5), (⟨"HeaderSqueeze$Packet", "putTwo", "(I)V"⟩, 5), (⟨"HeaderSqueeze", "isNoPacket", "(I)Z"⟩, 7), (⟨"HeaderSqueeze", "isNoByte", "(II)Z"⟩, 7), (⟨"HeaderSqueeze$Packet", "isMisshapen", "()Z"⟩, 5), (⟨"HeaderSqueeze$Packet", "own", "(I)I"⟩, 5), (⟨"HeaderSqueeze$Receiver", "makeSmall", "(LHeaderSqueeze$Packet;LHeaderSqueeze$Head;)I"⟩, 5), (⟨"HeaderSqueeze$Receiver", "fits", "(LHeaderSqueeze$Packet;LHeaderSqueeze$Head;I)Z"⟩, 5), (⟨"HeaderSqueeze$Receiver", "makeMoving", "(LHeaderSqueeze$Packet;LHeaderSqueeze$Head;)I"⟩, 5), (⟨"HeaderSqueeze$Packet", "ownTwo", "(I)I"⟩, 5), (⟨"HeaderSqueeze$Receiver", "noteFailure", "()V"⟩, 5)]
theorem lw_r1 : ∀ q ∈ lw_privs_1, lw_okq q := List.forall_mem_cons.mpr ⟨lw_p0, List.forall_mem_cons.mpr ⟨lw_p1, List.forall_mem_cons.mpr ⟨lw_p2, List.forall_mem_cons.mpr ⟨lw_p3, List.forall_mem_cons.mpr ⟨lw_p4, List.forall_mem_cons.mpr ⟨lw_p5, List.forall_mem_cons.mpr ⟨lw_p6, List.forall_mem_cons.mpr ⟨lw_p7, List.forall_mem_cons.mpr ⟨lw_p8, List.forall_mem_cons.mpr ⟨lw_p9, List.forall_mem_cons.mpr ⟨lw_p10, List.forall_mem_cons.mpr ⟨lw_p11, List.forall_mem_cons.mpr ⟨lw_p12, List.forall_mem_cons.mpr ⟨lw_p13, List.forall_mem_cons.mpr ⟨lw_p14, List.forall_mem_cons.mpr ⟨lw_p15, fun _ h => absurd h List.not_mem_nil⟩⟩⟩⟩⟩⟩⟩⟩⟩⟩⟩⟩⟩⟩⟩⟩
theorem lw_p16 : lw_okq (⟨"HeaderSqueeze$Receiver", "noteMade", "(I)V"⟩, 5) := ⟨⟨by decide +kernel, by decide +kernel⟩, List.mem_of_getElem? (i := 186) (by decide +kernel), List.mem_of_getElem? (i := 643) (by decide +kernel), List.mem_of_getElem? (i := 644) (by decide +kernel)⟩
theorem lw_p17 : lw_okq (⟨"HeaderSqueeze", "keepTrial", "()V"⟩, 7) := ⟨⟨by decide +kernel, by decide +kernel⟩, List.mem_of_getElem? (i := 20) (by decide +kernel), List.mem_of_getElem? (i := 652) (by decide +kernel), List.mem_of_getElem? (i := 653) (by decide +kernel)⟩
theorem lw_p18 : lw_okq (⟨"HeaderSqueezeModel", "noFlow", "(I)Z"⟩, 33) := ⟨⟨by decide +kernel, by decide +kernel⟩, List.mem_of_getElem? (i := 685) (by decide +kernel), List.mem_of_getElem? (i := 800) (by decide +kernel), List.mem_of_getElem? (i := 801) (by decide +kernel)⟩
theorem lw_p19 : lw_okq (⟨"HeaderSqueezeModel", "outside", "(I)Z"⟩, 33) := ⟨⟨by decide +kernel, by decide +kernel⟩, List.mem_of_getElem? (i := 685) (by decide +kernel), List.mem_of_getElem? (i := 804) (by decide +kernel), List.mem_of_getElem? (i := 805) (by decide +kernel)⟩
theorem lw_p20 : lw_okq (⟨"HeaderSqueezeModel", "choose", "(II)I"⟩, 33) := ⟨⟨by decide +kernel, by decide +kernel⟩, List.mem_of_getElem? (i := 685) (by decide +kernel), List.mem_of_getElem? (i := 817) (by decide +kernel), List.mem_of_getElem? (i := 818) (by decide +kernel)⟩
theorem lw_p21 : lw_okq (⟨"HeaderSqueezeModel", "enough", "(III)Z"⟩, 33) := ⟨⟨by decide +kernel, by decide +kernel⟩, List.mem_of_getElem? (i := 685) (by decide +kernel), List.mem_of_getElem? (i := 821) (by decide +kernel), List.mem_of_getElem? (i := 822) (by decide +kernel)⟩
theorem lw_p22 : lw_okq (⟨"HeaderSqueezeModel", "backOf", "(I)I"⟩, 33) := ⟨⟨by decide +kernel, by decide +kernel⟩, List.mem_of_getElem? (i := 685) (by decide +kernel), List.mem_of_getElem? (i := 825) (by decide +kernel), List.mem_of_getElem? (i := 826) (by decide +kernel)⟩
theorem lw_p23 : lw_okq (⟨"HeaderSqueezeModel", "bitsOf", "(I)I"⟩, 33) := ⟨⟨by decide +kernel, by decide +kernel⟩, List.mem_of_getElem? (i := 685) (by decide +kernel), List.mem_of_getElem? (i := 829) (by decide +kernel), List.mem_of_getElem? (i := 830) (by decide +kernel)⟩
theorem lw_p24 : lw_okq (⟨"HeaderSqueezeModel", "fill", "(IIZIII)V"⟩, 33) := ⟨⟨by decide +kernel, by decide +kernel⟩, List.mem_of_getElem? (i := 685) (by decide +kernel), List.mem_of_getElem? (i := 833) (by decide +kernel), List.mem_of_getElem? (i := 834) (by decide +kernel)⟩
theorem lw_p25 : lw_okq (⟨"HeaderSqueezeModel", "write", "(III)V"⟩, 33) := ⟨⟨by decide +kernel, by decide +kernel⟩, List.mem_of_getElem? (i := 685) (by decide +kernel), List.mem_of_getElem? (i := 837) (by decide +kernel), List.mem_of_getElem? (i := 838) (by decide +kernel)⟩
theorem lw_p26 : lw_okq (⟨"HeaderSqueezeModel", "put", "(I)V"⟩, 33) := ⟨⟨by decide +kernel, by decide +kernel⟩, List.mem_of_getElem? (i := 685) (by decide +kernel), List.mem_of_getElem? (i := 841) (by decide +kernel), List.mem_of_getElem? (i := 842) (by decide +kernel)⟩
theorem lw_p27 : lw_okq (⟨"HeaderSqueezeModel", "sum", "(II)I"⟩, 33) := ⟨⟨by decide +kernel, by decide +kernel⟩, List.mem_of_getElem? (i := 685) (by decide +kernel), List.mem_of_getElem? (i := 845) (by decide +kernel), List.mem_of_getElem? (i := 846) (by decide +kernel)⟩
theorem lw_p28 : lw_okq (⟨"HeaderSqueezeModel", "putRest", "(I)V"⟩, 33) := ⟨⟨by decide +kernel, by decide +kernel⟩, List.mem_of_getElem? (i := 685) (by decide +kernel), List.mem_of_getElem? (i := 849) (by decide +kernel), List.mem_of_getElem? (i := 850) (by decide +kernel)⟩
theorem lw_p29 : lw_okq (⟨"HeaderSqueezeModel", "note", "(II)V"⟩, 33) := ⟨⟨by decide +kernel, by decide +kernel⟩, List.mem_of_getElem? (i := 685) (by decide +kernel), List.mem_of_getElem? (i := 853) (by decide +kernel), List.mem_of_getElem? (i := 854) (by decide +kernel)⟩
theorem lw_p30 : lw_okq (⟨"HeaderSqueezeModel", "noPacket", "(I)Z"⟩, 33) := ⟨⟨by decide +kernel, by decide +kernel⟩, List.mem_of_getElem? (i := 685) (by decide +kernel), List.mem_of_getElem? (i := 865) (by decide +kernel), List.mem_of_getElem? (i := 866) (by decide +kernel)⟩
theorem lw_p31 : lw_okq (⟨"HeaderSqueezeModel", "noByte", "(II)Z"⟩, 33) := ⟨⟨by decide +kernel, by decide +kernel⟩, List.mem_of_getElem? (i := 685) (by decide +kernel), List.mem_of_getElem? (i := 873) (by decide +kernel), List.mem_of_getElem? (i := 874) (by decide +kernel)⟩
def lw_privs_2 : List (MethodName × Nat) := [(⟨"HeaderSqueeze$Receiver", "noteMade", "(I)V"⟩, 5), (⟨"HeaderSqueeze", "keepTrial", "()V"⟩, 7), (⟨"HeaderSqueezeModel", "noFlow", "(I)Z"⟩, 33), (⟨"HeaderSqueezeModel", "outside", "(I)Z"⟩, 33), (⟨"HeaderSqueezeModel", "choose", "(II)I"⟩, 33), (⟨"HeaderSqueezeModel", "enough", "(III)Z"⟩, 33), (⟨"HeaderSqueezeModel", "backOf", "(I)I"⟩, 33), (⟨"HeaderSqueezeModel", "bitsOf", "(I)I"⟩, 33), (⟨"HeaderSqueezeModel", "fill", "(IIZIII)V"⟩, 33), (⟨"HeaderSqueezeModel", "write", "(III)V"⟩, 33), (⟨"HeaderSqueezeModel", "put", "(I)V"⟩, 33), (⟨"HeaderSqueezeModel", "sum", "(II)I"⟩, 33), (⟨"HeaderSqueezeModel", "putRest", "(I)V"⟩, 33), (⟨"HeaderSqueezeModel", "note", "(II)V"⟩, 33), (⟨"HeaderSqueezeModel", "noPacket", "(I)Z"⟩, 33), (⟨"HeaderSqueezeModel", "noByte", "(II)Z"⟩, 33)]
theorem lw_r2 : ∀ q ∈ lw_privs_2, lw_okq q := List.forall_mem_cons.mpr ⟨lw_p16, List.forall_mem_cons.mpr ⟨lw_p17, List.forall_mem_cons.mpr ⟨lw_p18, List.forall_mem_cons.mpr ⟨lw_p19, List.forall_mem_cons.mpr ⟨lw_p20, List.forall_mem_cons.mpr ⟨lw_p21, List.forall_mem_cons.mpr ⟨lw_p22, List.forall_mem_cons.mpr ⟨lw_p23, List.forall_mem_cons.mpr ⟨lw_p24, List.forall_mem_cons.mpr ⟨lw_p25, List.forall_mem_cons.mpr ⟨lw_p26, List.forall_mem_cons.mpr ⟨lw_p27, List.forall_mem_cons.mpr ⟨lw_p28, List.forall_mem_cons.mpr ⟨lw_p29, List.forall_mem_cons.mpr ⟨lw_p30, List.forall_mem_cons.mpr ⟨lw_p31, fun _ h => absurd h List.not_mem_nil⟩⟩⟩⟩⟩⟩⟩⟩⟩⟩⟩⟩⟩⟩⟩⟩
theorem lw_p32 : lw_okq (⟨"HeaderSqueezeModel", "off", "(I)V"⟩, 33) := ⟨⟨by decide +kernel, by decide +kernel⟩, List.mem_of_getElem? (i := 685) (by decide +kernel), List.mem_of_getElem? (i := 885) (by decide +kernel), List.mem_of_getElem? (i := 886) (by decide +kernel)⟩
theorem lw_p33 : lw_okq (⟨"HeaderSqueezeModel", "kindOf", "(I)I"⟩, 33) := ⟨⟨by decide +kernel, by decide +kernel⟩, List.mem_of_getElem? (i := 685) (by decide +kernel), List.mem_of_getElem? (i := 893) (by decide +kernel), List.mem_of_getElem? (i := 894) (by decide +kernel)⟩
theorem lw_p34 : lw_okq (⟨"HeaderSqueezeModel", "broken", "(II)Z"⟩, 33) := ⟨⟨by decide +kernel, by decide +kernel⟩, List.mem_of_getElem? (i := 685) (by decide +kernel), List.mem_of_getElem? (i := 897) (by decide +kernel), List.mem_of_getElem? (i := 898) (by decide +kernel)⟩
theorem lw_p35 : lw_okq (⟨"HeaderSqueezeModel", "sizeOf", "(I)I"⟩, 33) := ⟨⟨by decide +kernel, by decide +kernel⟩, List.mem_of_getElem? (i := 685) (by decide +kernel), List.mem_of_getElem? (i := 901) (by decide +kernel), List.mem_of_getElem? (i := 902) (by decide +kernel)⟩
theorem lw_p36 : lw_okq (⟨"HeaderSqueezeModel", "comeSmall", "(III)I"⟩, 33) := ⟨⟨by decide +kernel, by decide +kernel⟩, List.mem_of_getElem? (i := 685) (by decide +kernel), List.mem_of_getElem? (i := 905) (by decide +kernel), List.mem_of_getElem? (i := 906) (by decide +kernel)⟩
theorem lw_p37 : lw_okq (⟨"HeaderSqueezeModel", "near", "(III)I"⟩, 33) := ⟨⟨by decide +kernel, by decide +kernel⟩, List.mem_of_getElem? (i := 685) (by decide +kernel), List.mem_of_getElem? (i := 909) (by decide +kernel), List.mem_of_getElem? (i := 910) (by decide +kernel)⟩
theorem lw_p38 : lw_okq (⟨"HeaderSqueezeModel", "fits", "(IIIZI)Z"⟩, 33) := ⟨⟨by decide +kernel, by decide +kernel⟩, List.mem_of_getElem? (i := 685) (by decide +kernel), List.mem_of_getElem? (i := 913) (by decide +kernel), List.mem_of_getElem? (i := 914) (by decide +kernel)⟩
theorem lw_p39 : lw_okq (⟨"HeaderSqueezeModel", "keep", "(II)V"⟩, 33) := ⟨⟨by decide +kernel, by decide +kernel⟩, List.mem_of_getElem? (i := 685) (by decide +kernel), List.mem_of_getElem? (i := 917) (by decide +kernel), List.mem_of_getElem? (i := 918) (by decide +kernel)⟩
theorem lw_p40 : lw_okq (⟨"HeaderSqueezeModel", "comeWhole", "(III)Z"⟩, 33) := ⟨⟨by decide +kernel, by decide +kernel⟩, List.mem_of_getElem? (i := 685) (by decide +kernel), List.mem_of_getElem? (i := 921) (by decide +kernel), List.mem_of_getElem? (i := 922) (by decide +kernel)⟩
theorem lw_p41 : lw_okq (⟨"HeaderSqueezeModel", "two", "(I)I"⟩, 33) := ⟨⟨by decide +kernel, by decide +kernel⟩, List.mem_of_getElem? (i := 685) (by decide +kernel), List.mem_of_getElem? (i := 925) (by decide +kernel), List.mem_of_getElem? (i := 926) (by decide +kernel)⟩
theorem lw_p42 : lw_okq (⟨"HeaderSqueezeModel", "fail", "(I)V"⟩, 33) := ⟨⟨by decide +kernel, by decide +kernel⟩, List.mem_of_getElem? (i := 685) (by decide +kernel), List.mem_of_getElem? (i := 929) (by decide +kernel), List.mem_of_getElem? (i := 930) (by decide +kernel)⟩
def lw_privs_3 : List (MethodName × Nat) := [(⟨"HeaderSqueezeModel", "off", "(I)V"⟩, 33), (⟨"HeaderSqueezeModel", "kindOf", "(I)I"⟩, 33), (⟨"HeaderSqueezeModel", "broken", "(II)Z"⟩, 33), (⟨"HeaderSqueezeModel", "sizeOf", "(I)I"⟩, 33), (⟨"HeaderSqueezeModel", "comeSmall", "(III)I"⟩, 33), (⟨"HeaderSqueezeModel", "near", "(III)I"⟩, 33), (⟨"HeaderSqueezeModel", "fits", "(IIIZI)Z"⟩, 33), (⟨"HeaderSqueezeModel", "keep", "(II)V"⟩, 33), (⟨"HeaderSqueezeModel", "comeWhole", "(III)Z"⟩, 33), (⟨"HeaderSqueezeModel", "two", "(I)I"⟩, 33), (⟨"HeaderSqueezeModel", "fail", "(I)V"⟩, 33)]
theorem lw_r3 : ∀ q ∈ lw_privs_3, lw_okq q := List.forall_mem_cons.mpr ⟨lw_p32, List.forall_mem_cons.mpr ⟨lw_p33, List.forall_mem_cons.mpr ⟨lw_p34, List.forall_mem_cons.mpr ⟨lw_p35, List.forall_mem_cons.mpr ⟨lw_p36, List.forall_mem_cons.mpr ⟨lw_p37, List.forall_mem_cons.mpr ⟨lw_p38, List.forall_mem_cons.mpr ⟨lw_p39, List.forall_mem_cons.mpr ⟨lw_p40, List.forall_mem_cons.mpr ⟨lw_p41, List.forall_mem_cons.mpr ⟨lw_p42, fun _ h => absurd h List.not_mem_nil⟩⟩⟩⟩⟩⟩⟩⟩⟩⟩⟩
def lw_privs : List (MethodName × Nat) := lw_privs_1 ++ (lw_privs_2 ++ (lw_privs_3))
def lw_tbl : List Cond := k2_sels lw_privs ++ tables_1
theorem lw_privs_ok : ∀ q ∈ lw_privs, lw_okq q := by
  show ∀ q ∈ lw_privs_1 ++ (lw_privs_2 ++ (lw_privs_3)), lw_okq q
  exact List.forall_mem_append.mpr ⟨lw_r1, List.forall_mem_append.mpr ⟨lw_r2, lw_r3⟩⟩
-- ===== end of PART A
end
section
/-! ===== BEGIN words of one list among another's, by their places ===== -/
theorem goodIn_r {big : List Cond} (ws : List Cond) (ps : List Nat) (hp : ws = ps.filterMap (fun i => big[i]?)) (h : ws.all goodWord = true) : GoodIn big ws := by
  intro w hw
  have h1 := List.all_eq_true.mp h w hw
  rw [hp] at hw
  obtain ⟨i, -, hi⟩ := List.mem_filterMap.mp hw
  have hm : w ∈ big := by first | exact List.mem_of_getElem? hi | exact List.getElem?_mem hi
  exact ⟨hm, good_of_word h1⟩
theorem goodIn_app {big a b : List Cond} (ha : GoodIn big a) (hb : GoodIn big b) : GoodIn big (a ++ b) := fun w h => (List.mem_append.mp h).elim (ha w) (hb w)
theorem goodIn_ca {big a b : List Cond} {c : Cond} (ha : GoodIn big (c :: a)) (hb : GoodIn big b) : GoodIn big (c :: (a ++ b)) := fun w h => (List.mem_cons.mp h).elim (fun e => ha w (List.mem_cons.mpr (Or.inl e))) (fun h => (List.mem_append.mp h).elim (fun h => ha w (List.mem_cons.mpr (Or.inr h))) (hb w))
theorem goodIn_sub {big ws : List Cond} (hm : ∀ w ∈ ws, w ∈ big) (h : ws.all goodWord = true) : GoodIn big ws := fun w hw => ⟨hm w hw, good_of_word (List.all_eq_true.mp h w hw)⟩
/-! ===== END ===== -/

/-! ===== BEGIN exceptions that leave a method, and their catching by the caller (launches without stack traces) ===== -/
section VXA
/-! The laws vx_back, vx_callV, vx_callS, vx_callSW, vx_throw0, vx_throwS follow proofs of the library, with one case more: JvmDerived/Free/Laws.lean (Back.of_free), Shelf42/LK1.lean (callV, callS), Shelf/KitTraced.lean (throwNew0V, throwNewS). -/
/-- where a method has thrown q: the class by its name, the cell, what was written, the world -/
def vx_T (XC : String → State → State → Prop) (st : State) (q : Addr) (t : State) (mc ms : Nat) (free : Addr → Prop) : Prop :=
  ∃ (E : String) (ce : Cell) (L : List Loc), XC E st t ∧ t.heap[q]? = some ce ∧ ce.vm = .none ∧ st.vm.findClass E = some ce.cls ∧ st.WarmedH t.vm ∧ st.sameButNew ({ t with vm := st.vm } : State) L mc ms ∧ ∀ z ∈ L, free z.base
def vx_Q (Qc : Array Value → State → Outcome → State → Prop) (XC : String → State → State → Prop) (mc ms : Nat) (free : Addr → Prop) : Array Value → State → Outcome → State → Prop := fun a st o t =>
  (Qc a st o t ∧ ∃ L, FrameEnd st o t L mc ms ∧ ∀ q ∈ L, free q.base) ∨ ∃ q, o = .threw q ∧ vx_T XC st q t mc ms free
/-- a callee that returns or throws -/
def vx_Met (l : Launch) (y : MethodName) (ws : List Cond) (rm : Room) (Pc : Array Value → State → Prop) (Qc : Array Value → State → Outcome → State → Prop) (XC : String → State → State → Prop) (mc ms : Nat) (free : Addr → Prop) : Prop :=
  MetFree l y (headSpec ws rm) Pc (fun _ _ _ _ _ => True) (vx_Q Qc XC mc ms free)
def vx_Post (XC : String → State → State → Prop) (mc ms : Nat) (free : Addr → Prop) : Pt → Array Value → Addr → Pt → Prop := fun A a q B =>
  ∃ (g : JFrame) (mk : MethodId) (t : State) (L : List Loc) (E : String) (ce : Cell), B.U.heap = t.heap ∧ B.U.vm = t.vm ∧ XC E (A.U.calling g mk a) t ∧ t.heap[q]? = some ce ∧ ce.vm = .none ∧ A.U.vm.findClass E = some ce.cls ∧ B.locs = A.locs ++ L ∧ (∀ z ∈ L, free z.base) ∧ B.cells = A.cells + mc ∧ B.slots = A.slots + ms
def vx_Back (l : Launch) (R : Room) (p : Program) (e : Env) (below : List Frame) (s : State) (sargs : Array Value) (y : MethodName) (len W9 : Nat)
    (Pre : Pt → Array Value → Prop) (Post : Pt → Array Value → Option Value → Pt → Prop) (PostX : Pt → Array Value → Addr → Pt → Prop) : Prop :=
  ∀ (m : MethodId) (meth : Method) (c : Code) (A : Pt) (g : JFrame) (ig : Instr) (mk : MethodId) (a : Array Value),
    Stand p l e R s m sargs below meth c A.U A.locs A.cells A.slots → g.method = m → g.locals.size = c.maxLocals → decode c.code g.pc = .ok (ig, len) →
    2 * g.monitorRoom + (g.stack.map fun v => v.category).sum ≤ W9 → A.U.methodNamed? y = some mk → Pre A a →
    (∃ (v : Option Value) (B : Pt), Stand p l e R s m sargs below meth c B.U B.locs B.cells B.slots ∧ Post A a v B ∧
      Steps p.tables e below (doInvoke e (A.U.setTop g) [] mk a).1 (B.U.setTop { g with pc := g.pc + len, stack := v.toList ++ g.stack })) ∨
    (∃ (q : Addr) (B : Pt), Stand p l e R s m sargs below meth c B.U B.locs B.cells B.slots ∧ PostX A a q B ∧
      Steps p.tables e below (doInvoke e (A.U.setTop g) [] mk a).1 ((B.U.setTop g).pushFrame (.throwing q)))
section Payer
variable {l : Launch} {R : Room} {p : Program} {e : Env} {below : List Frame} {s : State} {sargs : Array Value} {y : MethodName} {len W9 : Nat}
theorem vx_back {ws : List Cond} {rm : Room} {Pc : Array Value → State → Prop} {Qc : Array Value → State → Outcome → State → Prop} {XC : String → State → State → Prop} {mc ms : Nat} {free : Addr → Prop} {bytes : ByteArray} {maxL : Nat} {ret : Option FieldType}
    (hM : vx_Met l y ws rm Pc Qc XC mc ms free) (hblind : FrameBlind Pc) (hrc : rm.cells = mc) (hrs : rm.slots = ms)
    (hframes : rm.frames + 1 ≤ R.frames) (hlocals : W9 + (maxL + 11) + rm.locals ≤ R.locals)
    (hws : ∀ w ∈ ws, ∀ a' U, s.WarmedH U.vm → w.before a' U = true) (hcode : Cond.code y bytes maxL ret ∈ ws) (hinit : ∀ a' U, s.WarmedH U.vm → (Cond.initialized y.cls).before a' U = true) :
    vx_Back l R p e below s sargs y len W9 (PreOf R mc ms Pc) (PostOf Qc mc ms free) (vx_Post XC mc ms free) := by
  intro m meth c A g ig mk a X hg hsize hdg hW hn hp
  have h1 : (headSpec ws rm).pre.before a A.U = true := atoms_intro fun w hw => hws w hw _ _ X.warmed
  have h2 : (Cond.code y bytes maxL ret).before a A.U = true := hws _ hcode _ _ X.warmed
  have h3 : (Cond.initialized y.cls).before a A.U = true := hinit _ _ X.warmed
  have h4 : A.cells + (headSpec ws rm).room.cells ≤ R.cells := by rw [show (headSpec ws rm).room.cells = mc from hrc]; exact hp.1
  have h5 : A.slots + (headSpec ws rm).room.slots ≤ R.slots := by rw [show (headSpec ws rm).room.slots = ms from hrs]; exact hp.2.1
  have hPc : Pc a (A.U.calling g mk a) := hblind _ _ _ _ hp.2.2
  obtain ⟨U, Ls, c0, s0⟩ := A
  dsimp only [Pt.U, Pt.locs, Pt.cells, Pt.slots] at h1 h2 h3 h4 h5 X hn hPc ⊢
  obtain ⟨methY, cY, hmY, hcY, -, hlY, -, -, -, -⟩ := Cond.code_spec hn h2
  obtain ⟨kY, hkY, -⟩ := className_of_methodNamed hn
  have hinitY : kY.init = .initialized := Cond.initialized_spec (findClass_of_methodNamed hn) hkY h3
  have h : At U g.method c below := by rw [hg]; exact X.here
  have hlocals9 : W9 + (maxL + 11) + (headSpec ws rm).room.locals ≤ R.locals := hlocals
  have happ : (headSpec ws rm).appliesLoose y e.platform (U.calling g mk a) = true :=
    Spec.appliesLoose_calling (g := g) h hdg hn hkY hinitY
      (X.room_calling (g := g) (R' := (headSpec ws rm).room) hsize hmY hcY hframes (by rw [hlY]; omega) h4 h5) h1
  obtain ⟨mid, hmid⟩ := h.above
  have hfr : (U.setTop g).frames = (.java g :: mid) ++ below := by rw [State.frames_setTop' g h.top, hmid]; rfl
  obtain ⟨o, s₂, hsteps, -, hend, hq⟩ := Steps.callFree hM p X.admits X.cas X.clock (acts := []) hfr happ hPc trivial
  have hq' : vx_Q Qc XC mc ms free a (U.calling g mk a) o s₂ := hq
  rw [State.frames_setTop' g h.top] at hend
  obtain ⟨g₀, hg0⟩ := Option.isSome_iff_exists.mp h.top
  obtain ⟨r, hr⟩ := State.topJava?_eq_some.mp hg0
  have hr' : (({ U with heap := s₂.heap, slotsUsed := s₂.slotsUsed } : State).setVm s₂.vm).frames = .java g₀ :: r := hr
  rcases hq' with ⟨hqc, L, hfe, hL⟩ | ⟨q, rfl, E, ce, L, hx, hce, hcv, hcl, hW₂, hsm, hL⟩
  · obtain ⟨⟨v, rfl⟩, hW₂, e2, q2, q3, q4, q5, q6⟩ := id hfe
    have e3 : s₂ = ({ (U.calling g mk a).setFrames s₂.frames with heap := s₂.heap, slotsUsed := s₂.slotsUsed } : State).setVm s₂.vm := by
      have : s₂ = ({ s₂ with vm := (U.calling g mk a).vm } : State).setVm s₂.vm := rfl
      rw [e2] at this
      exact this
    obtain ⟨c₂, i₂, len₂, hc₂, hd₂, hf₂⟩ := hend
    have hW' : U.WarmedH s₂.vm := hW₂
    have hcc : c₂ = c := by
      have h1 : s₂.code? g.method = U.code? g.method := by
        rw [State.code?_eq, State.code?_eq, hW'.alike.method?]
      exact Option.some.inj (hc₂.symm.trans (h1.trans h.code))
    subst hcc
    have hlen : len₂ = len := by rw [hdg] at hd₂; cases hd₂; rfl
    subst hlen
    have hs₂ : s₂ = (({ U with heap := s₂.heap, slotsUsed := s₂.slotsUsed } : State).setVm s₂.vm).setTop { g with pc := g.pc + len₂, stack := v.toList ++ g.stack } := by
      refine e3.trans ?_
      rw [hf₂, State.calling_eq h.top, State.setFrames_setFrames, State.setTop_of_frames _ hr', hr]
      rfl
    have hsame : U.sameButNew ({ U with heap := s₂.heap, slotsUsed := s₂.slotsUsed } : State) L mc ms := by
      refine ⟨?_, q2, q3, q4, q5, q6⟩
      obtain ⟨t, ht, -⟩ := State.frames_cons hr
      show ({ U with heap := s₂.heap, slotsUsed := s₂.slotsUsed } : State) = { U.setFrames U.frames with heap := s₂.heap, slotsUsed := s₂.slotsUsed }
      rw [State.setFrames_self ht]
    subst hg
    refine Or.inl ⟨v, ⟨(({ U with heap := s₂.heap, slotsUsed := s₂.slotsUsed } : State).setVm s₂.vm), Ls ++ L, c0 + mc, s0 + ms⟩,
      ⟨X.admits, X.cas, X.clock, X.frames, X.room, X.hears, X.method, X.code, (X.here.setHeapUsed s₂.heap s₂.slotsUsed).setVm hW'.alike, X.tail, State.WarmedH.trans X.warmed hW', X.limits, X.bytes, X.same.trans (hsame.setVm s.vm)⟩,
      ⟨g, mk, s₂, L, rfl, rfl, hqc, rfl, hL, rfl, rfl⟩, ?_⟩
    show Steps p.tables e below _ ((({ U with heap := s₂.heap, slotsUsed := s₂.slotsUsed } : State).setVm s₂.vm).setTop { g with pc := g.pc + len₂, stack := v.toList ++ g.stack })
    rw [← hs₂]
    exact hsteps
  · obtain ⟨e2, q2, q3, q4, q5, q6⟩ := id hsm
    have e3 : s₂ = ({ (U.calling g mk a).setFrames s₂.frames with heap := s₂.heap, slotsUsed := s₂.slotsUsed } : State).setVm s₂.vm := by
      have : s₂ = ({ s₂ with vm := (U.calling g mk a).vm } : State).setVm s₂.vm := rfl
      rw [e2] at this
      exact this
    have hf₂ : s₂.frames = .throwing q :: .java g :: U.frames.tail := hend
    have hW' : U.WarmedH s₂.vm := hW₂
    have hs₂ : s₂ = ((({ U with heap := s₂.heap, slotsUsed := s₂.slotsUsed } : State).setVm s₂.vm).setTop g).pushFrame (.throwing q) := by
      refine e3.trans ?_
      rw [hf₂, State.calling_eq h.top, State.setFrames_setFrames, State.pushFrame, State.frames_setTop _ hr', State.setTop_of_frames _ hr', State.setFrames_setFrames, hr]
      rfl
    have hsame : U.sameButNew ({ U with heap := s₂.heap, slotsUsed := s₂.slotsUsed } : State) L mc ms := by
      refine ⟨?_, q2, q3, q4, q5, q6⟩
      obtain ⟨t, ht, -⟩ := State.frames_cons hr
      show ({ U with heap := s₂.heap, slotsUsed := s₂.slotsUsed } : State) = { U.setFrames U.frames with heap := s₂.heap, slotsUsed := s₂.slotsUsed }
      rw [State.setFrames_self ht]
    subst hg
    refine Or.inr ⟨q, ⟨(({ U with heap := s₂.heap, slotsUsed := s₂.slotsUsed } : State).setVm s₂.vm), Ls ++ L, c0 + mc, s0 + ms⟩,
      ⟨X.admits, X.cas, X.clock, X.frames, X.room, X.hears, X.method, X.code, (X.here.setHeapUsed s₂.heap s₂.slotsUsed).setVm hW'.alike, X.tail, State.WarmedH.trans X.warmed hW', X.limits, X.bytes, X.same.trans (hsame.setVm s.vm)⟩,
      ⟨g, mk, s₂, L, E, ce, rfl, rfl, hx, hce, hcv, hcl, rfl, hL, rfl, rfl⟩, ?_⟩
    show Steps p.tables e below _ (((({ U with heap := s₂.heap, slotsUsed := s₂.slotsUsed } : State).setVm s₂.vm).setTop g).pushFrame (.throwing q))
    rw [← hs₂]
    exact hsteps
end Payer
section Calls
variable {p : Program} {l : Launch} {e : Env} {R : Room} {s : State} {m : MethodId} {args : Array Value} {below : List Frame} {meth : Method} {c : Code} {T : State} {locs : List Loc} {cells slots : Nat}
theorem vx_callV (X : Stand p l e R s m args below meth c T locs cells slots) (hexec : p.tables.exec = Jvm.exec) {own C : String} {index : Nat} {y : MethodName} {bytes : ByteArray} {maxL : Nat} {ret : Option FieldType}
    (hown : s.vm.findClass own = some m.cls) (hlink : (Cond.methodLink own index y).before args s = true) (hinst : (Cond.instanceMethod y).before args s = true) (hsel : (Cond.selects C y y).before args s = true)
    (hcode : (Cond.code y bytes maxL ret).before args s = true) (hy : y.cls ≠ "java/lang/invoke/MethodHandle" ∧ y.cls ≠ "java/lang/invoke/VarHandle")
    {W9 : Nat} {Pre : Pt → Array Value → Prop} {Post : Pt → Array Value → Option Value → Pt → Prop} {PostX : Pt → Array Value → Addr → Pt → Prop} (hK : vx_Back l R p e below s args y 3 W9 Pre Post PostX)
    {b : Addr} {cellB : Cell} (hcell : T.heap[b]? = some cellB) (hobj : cellB.vm.isStatics = false) (hcls : s.vm.findClass C = some cellB.cls)
    {g : JFrame} (hg : g.method = m) (hsize : g.locals.size = c.maxLocals) {argsL rest : List Value} (hlen : ∀ sig, parseMethodDescriptor y.desc = some sig → argsL.length = sig.parameters.length)
    (hstack : g.stack = argsL.reverse ++ .ref b :: rest) (hW : 2 * g.monitorRoom + (rest.map fun v => v.category).sum ≤ W9) (hdg : decode c.code g.pc = .ok (.invokevirtual index, 3))
    (hpre : ∀ vm₁, s.WarmedH vm₁ → Pre ⟨T.setVm vm₁, locs, cells, slots⟩ (Value.ref b :: argsL).toArray) :
    (∃ (v : Option Value) (vm₁ : Vm) (B : Pt), s.WarmedH vm₁ ∧ Stand p l e R s m args below meth c B.U B.locs B.cells B.slots ∧ Post ⟨T.setVm vm₁, locs, cells, slots⟩ (Value.ref b :: argsL).toArray v B ∧
      ∀ target, Steps p.tables e below (B.U.setTop { g with pc := g.pc + 3, stack := v.toList ++ rest }) target → Steps p.tables e below (T.setTop g) target) ∨
    (∃ (q : Addr) (vm₁ : Vm) (B : Pt), s.WarmedH vm₁ ∧ Stand p l e R s m args below meth c B.U B.locs B.cells B.slots ∧ PostX ⟨T.setVm vm₁, locs, cells, slots⟩ (Value.ref b :: argsL).toArray q B ∧
      Steps p.tables e below (T.setTop g) ((B.U.setTop { g with stack := rest }).pushFrame (.throwing q))) := by
  obtain ⟨mk, methM, hnamed, hmethM, hstM, habM⟩ := Cond.instanceMethod_spec hinst
  obtain ⟨methM', cM, hmethM', -, -, -, -, -, -, hsigM⟩ := Cond.code_spec hnamed hcode
  cases hmethM.symm.trans hmethM'
  obtain ⟨c2, r2, m2, q1, q2, q3, q4, kP, hkP, hkPi⟩ := Cond.selects_spec hsel
  cases hcls.symm.trans q1
  cases (State.methodFound?_of_named hnamed hy).symm.trans q2
  cases hnamed.symm.trans q3
  have hselP : selectMethod e.platform s.vm cellB.cls mk = .method mk := by rw [Launch.admits_selectMethod X.admits]; exact q4
  obtain ⟨vm₁, X₁, hstep₁⟩ := X.invokevirtual hexec hown hlink hnamed hmethM hstM hkP hkPi hy (a := b) (cell := cellB) hcell
    (fun z h => by rw [h] at hobj; cases hobj) hselP hmethM habM hkP hkPi (g := g) hg (argsL := argsL) (rest := rest) (hlen _ hsigM) hstack hdg
  rcases hK m meth c ⟨T.setVm vm₁, locs, cells, slots⟩ { g with stack := rest } (.invokevirtual index) mk (Value.ref b :: argsL).toArray X₁ hg hsize hdg hW (X₁.named hnamed) (hpre vm₁ X₁.warmed) with ⟨v, B, X', hpost, hsteps⟩ | ⟨q, B, X', hpost, hsteps⟩
  · exact Or.inl ⟨v, vm₁, B, X₁.warmed, X', hpost, fun target h => hstep₁ _ fun acts => by rw [doInvoke_state]; exact hsteps.trans h⟩
  · exact Or.inr ⟨q, vm₁, B, X₁.warmed, X', hpost, hstep₁ _ fun acts => by rw [doInvoke_state]; exact hsteps⟩
theorem vx_callS (X : Stand p l e R s m args below meth c T locs cells slots) (hexec : p.tables.exec = Jvm.exec) {own : String} {index : Nat} {y : MethodName} {bytes : ByteArray} {maxL : Nat} {ret : Option FieldType}
    (hown : s.vm.findClass own = some m.cls) (hlink : (Cond.methodLink own index y).before args s = true) (hstat : (Cond.static y).before args s = true) (hinit : (Cond.initialized y.cls).before args s = true)
    (hcode : (Cond.code y bytes maxL ret).before args s = true) (hy : y.cls ≠ "java/lang/invoke/MethodHandle" ∧ y.cls ≠ "java/lang/invoke/VarHandle")
    {W9 : Nat} {Pre : Pt → Array Value → Prop} {Post : Pt → Array Value → Option Value → Pt → Prop} {PostX : Pt → Array Value → Addr → Pt → Prop} (hK : vx_Back l R p e below s args y 3 W9 Pre Post PostX)
    {g : JFrame} (hg : g.method = m) (hsize : g.locals.size = c.maxLocals) {argsL rest : List Value} (hlen : ∀ sig, parseMethodDescriptor y.desc = some sig → argsL.length = sig.parameters.length)
    (hstack : g.stack = argsL.reverse ++ rest) (hW : 2 * g.monitorRoom + (rest.map fun v => v.category).sum ≤ W9) (hdg : decode c.code g.pc = .ok (.invokestatic index, 3))
    (hpre : ∀ vm₁, s.WarmedH vm₁ → Pre ⟨T.setVm vm₁, locs, cells, slots⟩ argsL.toArray) :
    (∃ (v : Option Value) (vm₁ : Vm) (B : Pt), s.WarmedH vm₁ ∧ Stand p l e R s m args below meth c B.U B.locs B.cells B.slots ∧ Post ⟨T.setVm vm₁, locs, cells, slots⟩ argsL.toArray v B ∧
      ∀ target, Steps p.tables e below (B.U.setTop { g with pc := g.pc + 3, stack := v.toList ++ rest }) target → Steps p.tables e below (T.setTop g) target) ∨
    (∃ (q : Addr) (vm₁ : Vm) (B : Pt), s.WarmedH vm₁ ∧ Stand p l e R s m args below meth c B.U B.locs B.cells B.slots ∧ PostX ⟨T.setVm vm₁, locs, cells, slots⟩ argsL.toArray q B ∧
      Steps p.tables e below (T.setTop g) ((B.U.setTop { g with stack := rest }).pushFrame (.throwing q))) := by
  obtain ⟨mk, hnamed⟩ := Cond.code_named hcode
  obtain ⟨methM, cM, hmethM, -, -, -, -, -, -, hsigM⟩ := Cond.code_spec hnamed hcode
  have hstatic : methM.isStatic = true := Cond.static_spec hnamed hmethM hstat
  obtain ⟨kP, hkP, -⟩ := className_of_methodNamed hnamed
  have hinitP : kP.init = .initialized := Cond.initialized_spec (findClass_of_methodNamed hnamed) hkP hinit
  obtain ⟨vm₁, X₁, hstep₁⟩ := X.invokestatic hexec hown hlink hnamed hmethM hstatic hkP hinitP hy (g := g) hg (argsL := argsL) (rest := rest) (hlen _ hsigM) hstack hdg
  rcases hK m meth c ⟨T.setVm vm₁, locs, cells, slots⟩ { g with stack := rest } (.invokestatic index) mk argsL.toArray X₁ hg hsize hdg hW (X₁.named hnamed) (hpre vm₁ X₁.warmed) with ⟨v, B, X', hpost, hsteps⟩ | ⟨q, B, X', hpost, hsteps⟩
  · exact Or.inl ⟨v, vm₁, B, X₁.warmed, X', hpost, fun target h => hstep₁ _ fun acts => by rw [doInvoke_state]; exact hsteps.trans h⟩
  · exact Or.inr ⟨q, vm₁, B, X₁.warmed, X', hpost, hstep₁ _ fun acts => by rw [doInvoke_state]; exact hsteps⟩
end Calls
theorem vx_cls {s : State} {T : State} {vm₁ : Vm} {E : String} {k : ClassId} (hW : s.WarmedH vm₁) (h : (T.setVm vm₁).vm.findClass E = some k) : s.vm.findClass E = some k := by
  have h1 : vm₁.findClass E = some k := h
  rw [hW.alike.findClass] at h1
  exact h1
/-- the method's frame g, with q thrown over it -/
def vx_W (p : Program) (l : Launch) (e : Env) (R : Room) (s : State) (m : MethodId) (args : Array Value) (below : List Frame) (meth : Method) (c : Code) (H : Heap) (locs : List Loc) (cells slots : Nat) (Q : State → Prop) (g : JFrame) (q : Addr) : Prop :=
  ∀ T : State, T.heap = H → Stand p l e R s m args below meth c T locs cells slots → ∃ t, Steps p.tables e below ((T.setTop g).pushFrame (.throwing q)) t ∧ Q t
def vx_Run (p : Program) (l : Launch) (e : Env) (R : Room) (s : State) (m : MethodId) (args : Array Value) (below : List Frame) (meth : Method) (c : Code) (H : Heap) (locs : List Loc) (cells slots mc ms : Nat) (g : JFrame) (rest : List Value) (Qa : State → Outcome → State → Prop) (XC : String → State → State → Prop) (free : Addr → Prop) : Prop :=
  ∀ T : State, T.heap = H → Stand p l e R s m args below meth c T locs cells slots →
    (∃ (v : Option Value) (st₀ t T' : State) (L : List Loc), st₀.heap = H ∧ Stand p l e R s m args below meth c T' (locs ++ L) (cells + mc) (slots + ms) ∧ (∀ q ∈ L, free q.base) ∧ T'.heap = t.heap ∧ T'.vm = t.vm ∧ Qa st₀ (.returned v) t ∧
      Goes p e below T g T' { g with pc := g.pc + 3, stack := v.toList ++ rest }) ∨
    (∃ (q : Addr) (st₀ t T' : State) (L : List Loc) (E : String) (ce : Cell), st₀.heap = H ∧ Stand p l e R s m args below meth c T' (locs ++ L) (cells + mc) (slots + ms) ∧ (∀ z ∈ L, free z.base) ∧ T'.heap = t.heap ∧ T'.vm = t.vm ∧ XC E st₀ t ∧ t.heap[q]? = some ce ∧ ce.vm = .none ∧ s.vm.findClass E = some ce.cls ∧
      Steps p.tables e below (T.setTop g) ((T'.setTop { g with stack := rest }).pushFrame (.throwing q)))
def vx_X {S : Type} (px : S → Prop) (B : String → S → State → Prop) (A : Nat → Prop) : String → State → State → Prop := fun E st t => ∃ u : S, px u ∧ B E u t ∧ va_F A st t
section Runs
variable {p : Program} {l : Launch} {e : Env} {R : Room} {s : State} {m : MethodId} {args : Array Value} {below : List Frame} {meth : Method} {c : Code} {H : Heap} {locs : List Loc} {cells slots : Nat}
variable {y : MethodName} {bytes cc : ByteArray} {maxL nL mc ms n index : Nat} {ret : Option FieldType} {ws : List Cond} {rm : Room} {Pc : Array Value → State → Prop} {Qc : Array Value → State → Outcome → State → Prop} {XC : String → State → State → Prop} {free : Addr → Prop} {Ts : List Cond} {own C : String} {b : Addr} {As rest : List Value} {g : JFrame}
theorem vx_callBack (cb : CallB R s args own index y bytes maxL ret ws rm mc ms n) (hM : vx_Met l y ws rm Pc Qc XC mc ms free) (hbl : FrameBlind Pc) : vx_Back l R p e below s args y 3 8 (PreOf R mc ms Pc) (PostOf Qc mc ms free) (vx_Post XC mc ms free) := by
  obtain ⟨hrc, hrs, hfr, hlo, hws, hcw, -, hini, -⟩ := cb
  exact vx_back (bytes := bytes) (maxL := maxL) (ret := ret) hM hbl hrc hrs hfr hlo hws hcw (fun a' U hW => word_at hW (Or.inl (by first | rfl | simp [Cond.onTables, Cond.keeps, Cond.steady])) hini)
theorem vx_runV (S : CallFix p m c cc nL s args Ts own) (hM : vx_Met l y ws rm Pc Qc XC mc ms free) (cw : CallW R s args own C index y bytes maxL ret ws rm mc ms n) (hp : PreV s H C b Pc As)
    (hg : g.method = m) (hn : As.length = n) (hsize : g.locals.size = nL) (hstack : g.stack = As.reverse ++ .ref b :: rest) (hW : 2 * g.monitorRoom + (rest.map fun v => v.category).sum ≤ 8) (hdg : decode cc g.pc = .ok (.invokevirtual index, 3)) (hf : cells + mc ≤ R.cells ∧ slots + ms ≤ R.slots) :
    vx_Run p l e R s m args below meth c H locs cells slots mc ms g rest (Qc (Value.ref b :: As).toArray) XC free := by
  have hK : vx_Back l R p e below s args y 3 8 (PreOf R mc ms Pc) (PostOf Qc mc ms free) (vx_Post XC mc ms free) := vx_callBack cw.1 hM hp.1
  obtain ⟨⟨-, -, -, -, -, -, hcode, -, hy, hlen, hl⟩, hin, hse⟩ := cw
  obtain ⟨hx, hb, hml, ho, -⟩ := S
  obtain ⟨-, ⟨cellB, hcB, hoB, hclB⟩, hPc⟩ := hp
  intro T hT X
  rcases vx_callV X hx (C := C) (bytes := bytes) (maxL := maxL) (ret := ret) ho hl hin hse hcode hy hK (by rw [hT]; exact hcB) hoB hclB hg (hsize.trans hml.symm) (argsL := As) (rest := rest) (fun sig h => hn.trans (hlen sig h)) hstack hW (by rw [hb]; exact hdg)
    (fun vm₁ hW₁ => ⟨hf.1, hf.2, hPc (T.setVm vm₁) hT hW₁⟩) with ⟨v, vm₁, ⟨U', l2, c2, s2⟩, hW₁, X', ⟨g', mk, t, L, e1, e2, hq, h1, hL, h2, h3⟩, st⟩ | ⟨q, vm₁, ⟨U', l2, c2, s2⟩, hW₁, X', ⟨g', mk, t, L, E, ce, e1, e2, hq, hce, hcv, hcl, h1, hL, h2, h3⟩, st⟩
  · dsimp only [Pt.U, Pt.locs, Pt.cells, Pt.slots] at X' e1 e2 h1 h2 h3 st
    subst h1; subst h2; subst h3
    exact Or.inl ⟨v, (T.setVm vm₁).calling g' mk (Value.ref b :: As).toArray, t, U', L, hT, X', hL, e1, e2, hq, st⟩
  · dsimp only [Pt.U, Pt.locs, Pt.cells, Pt.slots] at X' e1 e2 h1 h2 h3 st hcl
    subst h1; subst h2; subst h3
    exact Or.inr ⟨q, (T.setVm vm₁).calling g' mk (Value.ref b :: As).toArray, t, U', L, E, ce, hT, X', hL, e1, e2, hq, hce, hcv, vx_cls hW₁ hcl, st⟩
theorem vx_runS (S : CallFix p m c cc nL s args Ts own) (hM : vx_Met l y ws rm Pc Qc XC mc ms free) (cw : CallB R s args own index y bytes maxL ret ws rm mc ms n ∧ (Cond.static y).before args s = true) (hp : PreS s H Pc As)
    (hg : g.method = m) (hn : As.length = n) (hsize : g.locals.size = nL) (hstack : g.stack = As.reverse ++ rest) (hW : 2 * g.monitorRoom + (rest.map fun v => v.category).sum ≤ 8) (hdg : decode cc g.pc = .ok (.invokestatic index, 3)) (hf : cells + mc ≤ R.cells ∧ slots + ms ≤ R.slots) :
    vx_Run p l e R s m args below meth c H locs cells slots mc ms g rest (Qc As.toArray) XC free := by
  have hK : vx_Back l R p e below s args y 3 8 (PreOf R mc ms Pc) (PostOf Qc mc ms free) (vx_Post XC mc ms free) := vx_callBack cw.1 hM hp.1
  obtain ⟨⟨-, -, -, -, -, -, hcode, hini, hy, hlen, hl⟩, hstt⟩ := cw
  obtain ⟨hx, hb, hml, ho, -⟩ := S
  intro T hT X
  rcases vx_callS X hx (bytes := bytes) (maxL := maxL) (ret := ret) ho hl hstt hini hcode hy hK hg (hsize.trans hml.symm) (argsL := As) (rest := rest) (fun sig h => hn.trans (hlen sig h)) hstack hW (by rw [hb]; exact hdg)
    (fun vm₁ hW₁ => ⟨hf.1, hf.2, hp.2 (T.setVm vm₁) hT hW₁⟩) with ⟨v, vm₁, ⟨U', l2, c2, s2⟩, hW₁, X', ⟨g', mk, t, L, e1, e2, hq, h1, hL, h2, h3⟩, st⟩ | ⟨q, vm₁, ⟨U', l2, c2, s2⟩, hW₁, X', ⟨g', mk, t, L, E, ce, e1, e2, hq, hce, hcv, hcl, h1, hL, h2, h3⟩, st⟩
  · dsimp only [Pt.U, Pt.locs, Pt.cells, Pt.slots] at X' e1 e2 h1 h2 h3 st
    subst h1; subst h2; subst h3
    exact Or.inl ⟨v, (T.setVm vm₁).calling g' mk As.toArray, t, U', L, hT, X', hL, e1, e2, hq, st⟩
  · dsimp only [Pt.U, Pt.locs, Pt.cells, Pt.slots] at X' e1 e2 h1 h2 h3 st hcl
    subst h1; subst h2; subst h3
    exact Or.inr ⟨q, (T.setVm vm₁).calling g' mk As.toArray, t, U', L, E, ce, hT, X', hL, e1, e2, hq, hce, hcv, vx_cls hW₁ hcl, st⟩
end Runs
section Rows
variable {p : Program} {l : Launch} {e : Env} {R : Room} {s : State} {m : MethodId} {args : Array Value} {below : List Frame} {meth : Method} {c : Code} {H : Heap} {locs : List Loc} {cells slots : Nat} {Q : State → Prop}
variable {mc ms : Nat} {free : Addr → Prop} {A0 A1 : Nat → Prop} {H0 : Heap} {a : Array Value} {pc : Nat} {ls : Array Slot} {st0 rest : List Value}
theorem vx_keep {st₀ t T' : State} {L : List Loc} (h0 : st₀.heap = H) (e1 : T'.heap = t.heap) (hS : va_S A0 H0 H locs) (hA : ∀ q, q < H.size → A1 q → A0 q) (hf : ∀ q, free q → A0 q) (hL : ∀ q ∈ L, free q.base) (hF : va_F A1 st₀ t) :
    H.size ≤ T'.heap.size ∧ (∀ q : Nat, q < H.size → ¬ A1 q → T'.heap[q]? = H[q]?) ∧ va_S A0 H0 T'.heap (locs ++ L) := by
  obtain ⟨hz, hk⟩ := hF
  rw [h0] at hz hk
  exact ⟨by rw [e1]; exact hz, fun q h1 h2 => by rw [e1]; exact hk q h1 h2,
    ⟨Nat.le_trans hS.1 (by rw [e1]; exact hz), fun q h1 h2 => by rw [e1, hk q (Nat.lt_of_lt_of_le h1 hS.1) (fun z => h2 (hA q (Nat.lt_of_lt_of_le h1 hS.1) z))]; exact hS.2.1 q h1 h2, fun q hq => by
      rcases List.mem_append.mp hq with h | h
      · exact hS.2.2 q h
      · exact hf _ (hL q h)⟩⟩
theorem vx_calli {S SX : Type} {post : Int32 → S → Prop} {px : SX → Prop} {B : S → State → Prop} {BX : String → SX → State → Prop} {AX : Nat → Prop} (hr : vx_Run p l e R s m args below meth c H locs cells slots mc ms (F0 m pc ls st0) rest (va_Qi post B A1 a) (vx_X px BX AX) free) (hS : va_S A0 H0 H locs) (hA : ∀ q, q < H.size → A1 q → A0 q) (hf : ∀ q, free q → A0 q) (hAX : ∀ q, q < H.size → AX q → A0 q)
    (kx : ∀ (E : String) (ce : Cell) (q9 : Addr) (u : SX) (t : State) (H1 : Heap) (locs1 : List Loc), t.heap = H1 → s.vm.Alike t.vm → px u → BX E u t → H.size ≤ H1.size → (∀ q : Nat, q < H.size → ¬ AX q → H1[q]? = H[q]?) → va_S A0 H0 H1 locs1 → H1[q9]? = some ce → ce.vm = .none → s.vm.findClass E = some ce.cls → vx_W p l e R s m args below meth c H1 locs1 (cells + mc) (slots + ms) Q (F0 m pc ls rest) q9)
    (kk : ∀ (r : Int32) (u : S) (t : State) (H1 : Heap) (locs1 : List Loc), t.heap = H1 → s.vm.Alike t.vm → post r u → B u t → H.size ≤ H1.size → (∀ q : Nat, q < H.size → ¬ A1 q → H1[q]? = H[q]?) → va_S A0 H0 H1 locs1 → W p l e R s m args below meth c H1 locs1 (cells + mc) (slots + ms) Q (F0 m (pc + 3) ls (.int r :: rest))) : W p l e R s m args below meth c H locs cells slots Q (F0 m pc ls st0) := by
  intro T hT X
  rcases hr T hT X with ⟨v, st₀, t, T', L, h0, X', hL, e1, e2, ⟨⟨r, u, hv, hp, hb⟩, hF⟩, st⟩ | ⟨q, st₀, t, T', L, E, ce, h0, X', hL, e1, e2, ⟨u, hp, hb, hF⟩, hce, hcv, hcl, st⟩
  · cases hv
    obtain ⟨k1, k2, k3⟩ := vx_keep h0 e1 hS hA hf hL hF
    obtain ⟨t2, a1, b1⟩ := kk r u t T'.heap (locs ++ L) e1.symm (by rw [← e2]; exact X'.warmed.alike) hp hb k1 k2 k3 T' rfl X'
    exact ⟨t2, st t2 a1, b1⟩
  · obtain ⟨k1, k2, k3⟩ := vx_keep h0 e1 hS hAX hf hL hF
    obtain ⟨t2, a1, b1⟩ := kx E ce q u t T'.heap (locs ++ L) e1.symm (by rw [← e2]; exact X'.warmed.alike) hp hb k1 k2 k3 (by rw [e1]; exact hce) hcv hcl T' rfl X'
    exact ⟨t2, st.trans a1, b1⟩
theorem vx_calll {S SX : Type} {post : Int64 → S → Prop} {px : SX → Prop} {B : S → State → Prop} {BX : String → SX → State → Prop} {AX : Nat → Prop} (hr : vx_Run p l e R s m args below meth c H locs cells slots mc ms (F0 m pc ls st0) rest (va_Ql post B A1 a) (vx_X px BX AX) free) (hS : va_S A0 H0 H locs) (hA : ∀ q, q < H.size → A1 q → A0 q) (hf : ∀ q, free q → A0 q) (hAX : ∀ q, q < H.size → AX q → A0 q)
    (kx : ∀ (E : String) (ce : Cell) (q9 : Addr) (u : SX) (t : State) (H1 : Heap) (locs1 : List Loc), t.heap = H1 → s.vm.Alike t.vm → px u → BX E u t → H.size ≤ H1.size → (∀ q : Nat, q < H.size → ¬ AX q → H1[q]? = H[q]?) → va_S A0 H0 H1 locs1 → H1[q9]? = some ce → ce.vm = .none → s.vm.findClass E = some ce.cls → vx_W p l e R s m args below meth c H1 locs1 (cells + mc) (slots + ms) Q (F0 m pc ls rest) q9)
    (kk : ∀ (r : Int64) (u : S) (t : State) (H1 : Heap) (locs1 : List Loc), t.heap = H1 → s.vm.Alike t.vm → post r u → B u t → H.size ≤ H1.size → (∀ q : Nat, q < H.size → ¬ A1 q → H1[q]? = H[q]?) → va_S A0 H0 H1 locs1 → W p l e R s m args below meth c H1 locs1 (cells + mc) (slots + ms) Q (F0 m (pc + 3) ls (.long r :: rest))) : W p l e R s m args below meth c H locs cells slots Q (F0 m pc ls st0) := by
  intro T hT X
  rcases hr T hT X with ⟨v, st₀, t, T', L, h0, X', hL, e1, e2, ⟨⟨r, u, hv, hp, hb⟩, hF⟩, st⟩ | ⟨q, st₀, t, T', L, E, ce, h0, X', hL, e1, e2, ⟨u, hp, hb, hF⟩, hce, hcv, hcl, st⟩
  · cases hv
    obtain ⟨k1, k2, k3⟩ := vx_keep h0 e1 hS hA hf hL hF
    obtain ⟨t2, a1, b1⟩ := kk r u t T'.heap (locs ++ L) e1.symm (by rw [← e2]; exact X'.warmed.alike) hp hb k1 k2 k3 T' rfl X'
    exact ⟨t2, st t2 a1, b1⟩
  · obtain ⟨k1, k2, k3⟩ := vx_keep h0 e1 hS hAX hf hL hF
    obtain ⟨t2, a1, b1⟩ := kx E ce q u t T'.heap (locs ++ L) e1.symm (by rw [← e2]; exact X'.warmed.alike) hp hb k1 k2 k3 (by rw [e1]; exact hce) hcv hcl T' rfl X'
    exact ⟨t2, st.trans a1, b1⟩
theorem vx_callf {S SX : Type} {post : UInt32 → S → Prop} {px : SX → Prop} {B : S → State → Prop} {BX : String → SX → State → Prop} {AX : Nat → Prop} (hr : vx_Run p l e R s m args below meth c H locs cells slots mc ms (F0 m pc ls st0) rest (va_Qf post B A1 a) (vx_X px BX AX) free) (hS : va_S A0 H0 H locs) (hA : ∀ q, q < H.size → A1 q → A0 q) (hf : ∀ q, free q → A0 q) (hAX : ∀ q, q < H.size → AX q → A0 q)
    (kx : ∀ (E : String) (ce : Cell) (q9 : Addr) (u : SX) (t : State) (H1 : Heap) (locs1 : List Loc), t.heap = H1 → s.vm.Alike t.vm → px u → BX E u t → H.size ≤ H1.size → (∀ q : Nat, q < H.size → ¬ AX q → H1[q]? = H[q]?) → va_S A0 H0 H1 locs1 → H1[q9]? = some ce → ce.vm = .none → s.vm.findClass E = some ce.cls → vx_W p l e R s m args below meth c H1 locs1 (cells + mc) (slots + ms) Q (F0 m pc ls rest) q9)
    (kk : ∀ (r : UInt32) (u : S) (t : State) (H1 : Heap) (locs1 : List Loc), t.heap = H1 → s.vm.Alike t.vm → post r u → B u t → H.size ≤ H1.size → (∀ q : Nat, q < H.size → ¬ A1 q → H1[q]? = H[q]?) → va_S A0 H0 H1 locs1 → W p l e R s m args below meth c H1 locs1 (cells + mc) (slots + ms) Q (F0 m (pc + 3) ls (.float r :: rest))) : W p l e R s m args below meth c H locs cells slots Q (F0 m pc ls st0) := by
  intro T hT X
  rcases hr T hT X with ⟨v, st₀, t, T', L, h0, X', hL, e1, e2, ⟨⟨r, u, hv, hp, hb⟩, hF⟩, st⟩ | ⟨q, st₀, t, T', L, E, ce, h0, X', hL, e1, e2, ⟨u, hp, hb, hF⟩, hce, hcv, hcl, st⟩
  · cases hv
    obtain ⟨k1, k2, k3⟩ := vx_keep h0 e1 hS hA hf hL hF
    obtain ⟨t2, a1, b1⟩ := kk r u t T'.heap (locs ++ L) e1.symm (by rw [← e2]; exact X'.warmed.alike) hp hb k1 k2 k3 T' rfl X'
    exact ⟨t2, st t2 a1, b1⟩
  · obtain ⟨k1, k2, k3⟩ := vx_keep h0 e1 hS hAX hf hL hF
    obtain ⟨t2, a1, b1⟩ := kx E ce q u t T'.heap (locs ++ L) e1.symm (by rw [← e2]; exact X'.warmed.alike) hp hb k1 k2 k3 (by rw [e1]; exact hce) hcv hcl T' rfl X'
    exact ⟨t2, st.trans a1, b1⟩
theorem vx_calld {S SX : Type} {post : UInt64 → S → Prop} {px : SX → Prop} {B : S → State → Prop} {BX : String → SX → State → Prop} {AX : Nat → Prop} (hr : vx_Run p l e R s m args below meth c H locs cells slots mc ms (F0 m pc ls st0) rest (va_Qd post B A1 a) (vx_X px BX AX) free) (hS : va_S A0 H0 H locs) (hA : ∀ q, q < H.size → A1 q → A0 q) (hf : ∀ q, free q → A0 q) (hAX : ∀ q, q < H.size → AX q → A0 q)
    (kx : ∀ (E : String) (ce : Cell) (q9 : Addr) (u : SX) (t : State) (H1 : Heap) (locs1 : List Loc), t.heap = H1 → s.vm.Alike t.vm → px u → BX E u t → H.size ≤ H1.size → (∀ q : Nat, q < H.size → ¬ AX q → H1[q]? = H[q]?) → va_S A0 H0 H1 locs1 → H1[q9]? = some ce → ce.vm = .none → s.vm.findClass E = some ce.cls → vx_W p l e R s m args below meth c H1 locs1 (cells + mc) (slots + ms) Q (F0 m pc ls rest) q9)
    (kk : ∀ (r : UInt64) (u : S) (t : State) (H1 : Heap) (locs1 : List Loc), t.heap = H1 → s.vm.Alike t.vm → post r u → B u t → H.size ≤ H1.size → (∀ q : Nat, q < H.size → ¬ A1 q → H1[q]? = H[q]?) → va_S A0 H0 H1 locs1 → W p l e R s m args below meth c H1 locs1 (cells + mc) (slots + ms) Q (F0 m (pc + 3) ls (.double r :: rest))) : W p l e R s m args below meth c H locs cells slots Q (F0 m pc ls st0) := by
  intro T hT X
  rcases hr T hT X with ⟨v, st₀, t, T', L, h0, X', hL, e1, e2, ⟨⟨r, u, hv, hp, hb⟩, hF⟩, st⟩ | ⟨q, st₀, t, T', L, E, ce, h0, X', hL, e1, e2, ⟨u, hp, hb, hF⟩, hce, hcv, hcl, st⟩
  · cases hv
    obtain ⟨k1, k2, k3⟩ := vx_keep h0 e1 hS hA hf hL hF
    obtain ⟨t2, a1, b1⟩ := kk r u t T'.heap (locs ++ L) e1.symm (by rw [← e2]; exact X'.warmed.alike) hp hb k1 k2 k3 T' rfl X'
    exact ⟨t2, st t2 a1, b1⟩
  · obtain ⟨k1, k2, k3⟩ := vx_keep h0 e1 hS hAX hf hL hF
    obtain ⟨t2, a1, b1⟩ := kx E ce q u t T'.heap (locs ++ L) e1.symm (by rw [← e2]; exact X'.warmed.alike) hp hb k1 k2 k3 (by rw [e1]; exact hce) hcv hcl T' rfl X'
    exact ⟨t2, st.trans a1, b1⟩
theorem vx_callv {S SX : Type} {post : S → Prop} {px : SX → Prop} {B : S → State → Prop} {BX : String → SX → State → Prop} {AX : Nat → Prop} (hr : vx_Run p l e R s m args below meth c H locs cells slots mc ms (F0 m pc ls st0) rest (va_Qv post B A1 a) (vx_X px BX AX) free) (hS : va_S A0 H0 H locs) (hA : ∀ q, q < H.size → A1 q → A0 q) (hf : ∀ q, free q → A0 q) (hAX : ∀ q, q < H.size → AX q → A0 q)
    (kx : ∀ (E : String) (ce : Cell) (q9 : Addr) (u : SX) (t : State) (H1 : Heap) (locs1 : List Loc), t.heap = H1 → s.vm.Alike t.vm → px u → BX E u t → H.size ≤ H1.size → (∀ q : Nat, q < H.size → ¬ AX q → H1[q]? = H[q]?) → va_S A0 H0 H1 locs1 → H1[q9]? = some ce → ce.vm = .none → s.vm.findClass E = some ce.cls → vx_W p l e R s m args below meth c H1 locs1 (cells + mc) (slots + ms) Q (F0 m pc ls rest) q9)
    (kk : ∀ (u : S) (t : State) (H1 : Heap) (locs1 : List Loc), t.heap = H1 → s.vm.Alike t.vm → post u → B u t → H.size ≤ H1.size → (∀ q : Nat, q < H.size → ¬ A1 q → H1[q]? = H[q]?) → va_S A0 H0 H1 locs1 → W p l e R s m args below meth c H1 locs1 (cells + mc) (slots + ms) Q (F0 m (pc + 3) ls (rest))) : W p l e R s m args below meth c H locs cells slots Q (F0 m pc ls st0) := by
  intro T hT X
  rcases hr T hT X with ⟨v, st₀, t, T', L, h0, X', hL, e1, e2, ⟨⟨u, hv, hp, hb⟩, hF⟩, st⟩ | ⟨q, st₀, t, T', L, E, ce, h0, X', hL, e1, e2, ⟨u, hp, hb, hF⟩, hce, hcv, hcl, st⟩
  · cases hv
    obtain ⟨k1, k2, k3⟩ := vx_keep h0 e1 hS hA hf hL hF
    obtain ⟨t2, a1, b1⟩ := kk u t T'.heap (locs ++ L) e1.symm (by rw [← e2]; exact X'.warmed.alike) hp hb k1 k2 k3 T' rfl X'
    exact ⟨t2, st t2 a1, b1⟩
  · obtain ⟨k1, k2, k3⟩ := vx_keep h0 e1 hS hAX hf hL hF
    obtain ⟨t2, a1, b1⟩ := kx E ce q u t T'.heap (locs ++ L) e1.symm (by rw [← e2]; exact X'.warmed.alike) hp hb k1 k2 k3 (by rw [e1]; exact hce) hcv hcl T' rfl X'
    exact ⟨t2, st.trans a1, b1⟩
/-- caught by the row x of this method's table; the rows ahead don't take it -/
theorem vx_catch {own name : String} {E : String} {ce : Cell} {q : Addr} (hown : s.vm.findClass own = some m.cls) (pre : List ExceptionTableEntry) (x : ExceptionTableEntry) (suf : List ExceptionTableEntry) (hsplit : c.exceptionTable.toList = pre ++ x :: suf)
    (hpass : ∀ z ∈ pre, covers z pc = false ∨ (z.catchType ≠ 0 ∧ ∃ nm : String, (Cond.classLink own z.catchType nm).before args s = true ∧ va_Nc E nm s)) (hx : covers x pc = true) (h0 : x.catchType ≠ 0)
    (hlink : (Cond.classLink own x.catchType name).before args s = true) (hcast : (Cond.castable E name).before args s = true) (hcell : H[q]? = some ce) (hv : ce.vm = .none) (hcl : s.vm.findClass E = some ce.cls)
    (kk : W p l e R s m args below meth c H locs cells slots Q (F0 m x.handlerPc ls [.ref q])) : vx_W p l e R s m args below meth c H locs cells slots Q (F0 m pc ls rest) q := by
  intro T hT X
  have hpl : e.platform.magicAccessors = ({} : Platform).magicAccessors := by rw [X.admits.platform]
  obtain ⟨c3, c4, hc3, hc4, hasg⟩ := Cond.castable_spec hcast
  cases Option.some.inj (hc3.symm.trans hcl)
  obtain ⟨c5, hc5, hcl5⟩ := Cond.classLink_spec hown hlink e.platform hpl
  cases Option.some.inj (hc4.symm.trans hc5)
  obtain ⟨vm', X', st⟩ := X.thenCaughtThrough q (g := F0 m pc ls rest) rfl (Steps.refl _) (by rw [hT]; exact hcell) (by rw [hv]; rfl) (by obtain ⟨k9, h9, -⟩ := Vm.findClass_spec hcl; exact ⟨k9, h9⟩) pre x suf hsplit
    (fun z hz => by
      rcases hpass z hz with h | ⟨hz0, nm, hl1, hn1⟩
      · exact Or.inl h
      · obtain ⟨c6, hc6, hcl6⟩ := Cond.classLink_spec hown hl1 e.platform hpl
        obtain ⟨a8, b8, h1, h2, h3⟩ := hn1
        cases Option.some.inj (h1.symm.trans hcl)
        cases Option.some.inj (h2.symm.trans hc6)
        exact Or.inr ⟨hz0, _, hcl6, h3⟩) hx (Or.inr ⟨h0, c4, hcl5, hasg⟩)
  obtain ⟨t, a1, b1⟩ := kk (T.setVm vm') hT X'
  exact ⟨t, st.trans a1, b1⟩
end Rows
section Ends
variable {p : Program} {l : Launch} {e : Env} {R : Room} {s : State} {m : MethodId} {args : Array Value} {below : List Frame} {meth : Method} {c : Code} {H : Heap} {locs : List Loc} {cells slots : Nat} {Q : State → Prop}
variable {mc ms : Nat} {free : Addr → Prop} {A0 A1 : Nat → Prop} {H0 : Heap} {a : Array Value} {ls : Array Slot} {st0 rest : List Value}
variable {Qc : Array Value → State → Outcome → State → Prop} {XC : String → State → State → Prop}
/-- what a body that may throw owes at its end -/
def vx_MQ (below : List Frame) (Qc : Array Value → State → Outcome → State → Prop) (XC : String → State → State → Prop) (a : Array Value) (s : State) (mc ms : Nat) (free : Addr → Prop) : State → Prop := fun t =>
  ∃ o, t.status = .running ∧ Ended t below o ∧ vx_Q Qc XC mc ms free a s o t
theorem vx_ret {g : JFrame} {mc ms : Nat} (k : W p l e R s m args below meth c H locs cells slots (MQ below Qc args s mc ms free) g) : W p l e R s m args below meth c H locs cells slots (vx_MQ below Qc XC args s mc ms free) g := by
  intro T hT X
  obtain ⟨t, a1, o, b1, b2, b3, b4⟩ := k T hT X
  exact ⟨t, a1, o, b1, b2, Or.inl ⟨b3, b4⟩⟩
/-- not caught here: it goes on to the caller -/
theorem vx_widen {g : JFrame} {q : Addr} {k n : Nat} (h1 : cells ≤ k) (h2 : slots ≤ n) (kk : vx_W p l e R s m args below meth c H locs k n Q g q) : vx_W p l e R s m args below meth c H locs cells slots Q g q := fun T hT X => kk T hT (stand_widen X h1 h2)
theorem vx_out {pc : Nat} {E : String} {ce : Cell} {q : Addr} {mc ms : Nat} (hout : ∀ x ∈ c.exceptionTable.toList, covers x pc = false) (hlocks : meth.locks = false) (hcell : H[q]? = some ce) (hv : ce.vm = .none) (hcl : s.vm.findClass E = some ce.cls)
    (hx : ∀ t : State, t.heap = H → s.vm.Alike t.vm → XC E s t) (hf : ∀ z ∈ locs, free z.base) (hc : cells ≤ mc) (hs : slots ≤ ms) :
    vx_W p l e R s m args below meth c H locs cells slots (vx_MQ below Qc XC args s mc ms free) (F0 m pc ls rest) q := by
  intro T hT X
  obtain ⟨st1, hrun, hend, hW, hsm⟩ := X.leaveThrown q (g := F0 m pc ls rest) rfl rfl rfl hout hlocks
  have hcell9 : (T.setFrames (.throwing q :: below)).heap[q]? = some ce := by
    show T.heap[q]? = some ce
    rw [hT]; exact hcell
  exact ⟨_, st1, .threw q, hrun, hend, Or.inr ⟨q, rfl, E, ce, locs, hx _ hT hW.alike, hcell9, hv, hcl, hW, hsm.mono hc hs, hf⟩⟩
theorem vx_frame {U : State} {k n : Nat} (h : s.sameButNew ({ U with vm := s.vm } : State) locs k n) : s.heap.size ≤ U.heap.size ∧ ∀ q : Nat, q < s.heap.size → (∀ z ∈ locs, z.base ≠ q) → U.heap[q]? = s.heap[q]? := by
  obtain ⟨-, h2, -, -, -, h6⟩ := h
  refine ⟨h2, fun q hq hz => ?_⟩
  obtain ⟨c9, e1, e2, e3, e4⟩ := h6 q _ (Array.getElem?_eq_getElem hq)
  have hs : c9.slots = (s.heap[q]).slots := Array.ext_getElem? fun i => e4 i fun hm => hz _ hm rfl
  have h9 : c9 = s.heap[q] := by
    rw [hs] at e2
    exact e2
  have e5 : U.heap[q]? = some c9 := e1
  rw [e5, h9, Array.getElem?_eq_getElem hq]
/-- the words of a throw but the four that speak of the heap -/
def vx_no (w : Cond) : Bool := decide (w ≠ .isRef (.static Bundle.tN "UNASSIGNED_STACK" Bundle.steD)) && decide (w ≠ .isRef (.static Bundle.tN "SUPPRESSED_SENTINEL" Bundle.listD)) && decide (w ≠ .laysStatic Bundle.tN "UNASSIGNED_STACK" Bundle.steD) && decide (w ≠ .laysStatic Bundle.tN "SUPPRESSED_SENTINEL" Bundle.listD)
def vx_at0 (own : String) (ic : Nat) (X : String) (names : List String) : List Cond := (Bundle.ownAtoms0 own ic X names).filter vx_no
def vx_atS (own : String) (ic : Nat) (X : String) (names : List String) : List Cond := (Bundle.ownAtoms own ic X names).filter vx_no
/-- a word that the tables alone decide, or a good one -/
def vx_ot (w : Cond) : Bool := w.onTables || goodWord w
theorem vx_ot_at {args a' : Array Value} {s U : State} {w : Cond} (hW : s.WarmedH U.vm) (hvm : s.vm = U.vm) (hg : vx_ot w = true) (h : w.before args s = true) : w.before a' U = true := by
  simp only [vx_ot, Bool.or_eq_true] at hg
  rcases hg with hg | hg
  · exact va_tabs hg hvm h
  · exact word_at hW (good_of_word hg) h
/-- a list's words: the good ones out of the method's own list, the others by premises of their own -/
theorem vx_hat {args : Array Value} {s : State} {L B : List Cond} (h1 : ∀ w ∈ L.filter goodWord, w.before args s = true) (h2 : ∀ w ∈ L.filter (fun w => !goodWord w), w ∈ B) (h3 : ∀ w ∈ B, w.before args s = true) : ∀ w ∈ L, w.before args s = true := by
  intro w hw
  by_cases g : goodWord w = true
  · exact h1 w (List.mem_filter.mpr ⟨hw, g⟩)
  · refine h3 w (h2 w (List.mem_filter.mpr ⟨hw, ?_⟩))
    show (!goodWord w) = true
    cases hgw : goodWord w
    · rfl
    · exact absurd hgw g
theorem vx_c {args : Array Value} {s : State} {w : Cond} {B : List Cond} (h : w.before args s = true) (t : ∀ w ∈ B, w.before args s = true) : ∀ w' ∈ w :: B, w'.before args s = true := fun w' h' => (List.mem_cons.mp h').elim (fun e => by rw [e]; exact h) (t w')
theorem vx_n {args : Array Value} {s : State} : ∀ w ∈ ([] : List Cond), w.before args s = true := fun _ h => nomatch h
theorem vx_own {args : Array Value} {s : State} {L : List Cond} (h1 : ∀ w ∈ L.filter vx_no, w.before args s = true)
    (hU : (Cond.isRef (.static Bundle.tN "UNASSIGNED_STACK" Bundle.steD)).before args s = true) (hN : (Cond.isRef (.static Bundle.tN "SUPPRESSED_SENTINEL" Bundle.listD)).before args s = true)
    (lU : (Cond.laysStatic Bundle.tN "UNASSIGNED_STACK" Bundle.steD).before args s = true) (lN : (Cond.laysStatic Bundle.tN "SUPPRESSED_SENTINEL" Bundle.listD).before args s = true) : ∀ w ∈ L, w.before args s = true := by
  intro w hw
  by_cases e1 : w = .isRef (.static Bundle.tN "UNASSIGNED_STACK" Bundle.steD)
  · rw [e1]; exact hU
  · by_cases e2 : w = .isRef (.static Bundle.tN "SUPPRESSED_SENTINEL" Bundle.listD)
    · rw [e2]; exact hN
    · by_cases e3 : w = .laysStatic Bundle.tN "UNASSIGNED_STACK" Bundle.steD
      · rw [e3]; exact lU
      · by_cases e4 : w = .laysStatic Bundle.tN "SUPPRESSED_SENTINEL" Bundle.listD
        · rw [e4]; exact lN
        · exact h1 w (List.mem_filter.mpr ⟨hw, by unfold vx_no; rw [decide_eq_true e1, decide_eq_true e2, decide_eq_true e3, decide_eq_true e4]; rfl⟩)
/-- where a static field lies, its class's statics cell in H -/
def vx_L (C n d : String) (A : Nat → Prop) (U : State) (H : Heap) : Prop := ∃ (c : ClassId) (k : Class) (i : Nat) (f : Field) (a : Nat) (cell : Cell), U.vm.findClass C = some c ∧ U.fieldFound? C n d = some (c, k, i, f) ∧ f.isStatic = true ∧ k.statics = some a ∧ H[a]? = some cell ∧ cell.vm.isStatics = true ∧ cell.cls = c ∧ f.slot < cell.slots.size ∧ k.staticTypes[f.slot]? = some f.type ∧ ¬ A a
theorem vx_L.moved {C n d : String} {A : Nat → Prop} {u U : State} {H : Heap} (hvm : u.vm.Alike U.vm) (h : vx_L C n d A u H) : vx_L C n d A U H := by
  obtain ⟨c, k, i, f, a, cell, h1, h2, h3, h4, h5, h6, h7, h8, h9, h10⟩ := h
  obtain ⟨k', hi', he⟩ := State.fieldFound?_setVm hvm h2
  exact ⟨c, k', i, f, a, cell, by rw [hvm.findClass]; exact h1, hi', h3, by rw [he]; exact h4, h5, h6, h7, h8, by rw [he]; exact h9, h10⟩
theorem vx_L.kept {C n d : String} {A : Nat → Prop} {U : State} {H H1 : Heap} (h : vx_L C n d A U H) (hq : ∀ a : Nat, a < H.size → ¬ A a → H1[a]? = H[a]?) : vx_L C n d A U H1 := by
  obtain ⟨c, k, i, f, a, cell, h1, h2, h3, h4, h5, h6, h7, h8, h9, h10⟩ := h
  exact ⟨c, k, i, f, a, cell, h1, h2, h3, h4, by rw [hq a (Array.getElem?_eq_some_iff.mp h5).1 h10]; exact h5, h6, h7, h8, h9, h10⟩
theorem vx_L.narrow {C n d : String} {A B : Nat → Prop} {U : State} {H : Heap} (h : vx_L C n d A U H) (hAB : ∀ q, B q → A q) : vx_L C n d B U H := by
  obtain ⟨c, k, i, f, a, cell, h1, h2, h3, h4, h5, h6, h7, h8, h9, h10⟩ := h
  exact ⟨c, k, i, f, a, cell, h1, h2, h3, h4, h5, h6, h7, h8, h9, fun z => h10 (hAB _ z)⟩
theorem vx_L.word {C n d : String} {A : Nat → Prop} {s : State} {args : Array Value} (h : vx_L C n d A s s.heap) : (Cond.laysStatic C n d).before args s = true := by
  obtain ⟨c, k, i, f, a, cell, h1, h2, h3, h4, h5, h6, h7, h8, h9, -⟩ := h
  show (Cond.laysStatic C n d).holds args s none s [] = true
  exact Cond.laysStatic_of h1 h2 h3 h4 h5 h6 h7 h8 h9
/-- .. and what it holds: null or some reference -/
def vx_Zq (C n d : String) (A : Nat → Prop) (U : State) (H : Heap) : Prop := va_Zq C n d A U H ∧ vx_L C n d A U H
theorem vx_Zq.moved {C n d : String} {A : Nat → Prop} {u U : State} {H : Heap} (hvm : u.vm.Alike U.vm) (h : vx_Zq C n d A u H) : vx_Zq C n d A U H := ⟨va_Zq.moved hvm h.1, vx_L.moved hvm h.2⟩
theorem vx_Zq.kept {C n d : String} {A : Nat → Prop} {U : State} {H H1 : Heap} (h : vx_Zq C n d A U H) (hq : ∀ a : Nat, a < H.size → ¬ A a → H1[a]? = H[a]?) : vx_Zq C n d A U H1 := ⟨va_Zq.kept h.1 hq, vx_L.kept h.2 hq⟩
theorem vx_Zq.narrow {C n d : String} {A B : Nat → Prop} {U : State} {H : Heap} (h : vx_Zq C n d A U H) (hAB : ∀ q, B q → A q) : vx_Zq C n d B U H := ⟨va_Zq.narrow h.1 hAB, vx_L.narrow h.2 hAB⟩
theorem vx_Zqof {args : Array Value} {s : State} {C n d : String} {A : Nat → Prop} (hl : (Cond.laysStatic C n d).before args s = true) (hini : (Cond.initialized C).before args s = true) (h : (Cond.isRef (.static C n d)).before args s = true) (hA : ∀ a : Nat, a < s.heap.size → ¬ A a) : vx_Zq C n d A s s.heap := by
  refine ⟨va_Zqof hl hini h hA, ?_⟩
  obtain ⟨c, k, i, f, a, cell, h1, h2, h3, h4, h5, h6, h7, h8, h9⟩ := Cond.laysStatic_spec hl
  exact ⟨c, k, i, f, a, cell, h1, h2, h3, h4, h5, h6, h7, h8, h9, hA a (Array.getElem?_eq_some_iff.mp h5).1⟩
theorem vx_isRef {C n d : String} {v : Value} {A : Nat → Prop} {s : State} {args : Array Value} (h : va_Z C n d v A s s.heap) (hv : v.isRef = true) : (Cond.isRef (.static C n d)).before args s = true := by
  obtain ⟨cf, kf, fi, f, a, cell, h1, h2, h3, h4, h5, h6, h7, -⟩ := h
  have he : (Term.static C n d).eval args s none [] s = some v := by
    simp [Term.eval, State.fieldNamed?, h1, h2, h4, h5, h6, h7]
  simp only [Cond.before, Cond.holds, Cond.value, he]
  cases v <;> simp_all [Value.isRef]
theorem vx_isRefq {C n d : String} {A : Nat → Prop} {s : State} {args : Array Value} (h : va_Zq C n d A s s.heap) : (Cond.isRef (.static C n d)).before args s = true := by
  rcases h with h | ⟨t, h⟩
  · exact vx_isRef h rfl
  · exact vx_isRef h rfl
/-- the same frame, seen from here: as if the method were called anew in this heap -/
theorem vx_rebase {T : State} (X : Stand p l e R s m args below meth c T locs cells slots) {R' : Room} (hf : R'.frames ≤ R.frames) (hl : R'.locals ≤ R.locals) (hc : cells + R'.cells ≤ R.cells) (hs : slots + R'.slots ≤ R.slots) :
    Stand p l e R' ((T.setVm s.vm).setFrames (.invoking m args :: below)) m args below meth c T [] 0 0 := by
  have htop : (T.setVm s.vm).topJava?.isSome := X.here.top
  have hF : ((T.setVm s.vm).setFrames (.invoking m args :: below)).frames = .invoking m args :: below := State.frames_setFrames _ (State.cur_lt_of_top htop)
  obtain ⟨g₀, hg0⟩ := Option.isSome_iff_exists.mp htop
  obtain ⟨r, hr⟩ := State.topJava?_eq_some.mp hg0
  have hl9 : e.platform.stackLimits (T.setVm s.vm).me = e.platform.stackLimits s.me := X.limits
  have hb9 : (T.setVm s.vm).me.stackBytes = s.me.stackBytes := X.bytes
  refine ⟨X.admits, X.cas, X.clock, hF, ?_, X.hears, X.method, X.code, X.here, X.tail, X.warmed, ?_, ?_, ?_⟩
  · have h := X.room
    have hU : ((T.setVm s.vm).setFrames (.invoking m args :: below)).localsInUse = s.localsInUse := by
      rw [State.localsInUse_invoking hF (meth := meth) (c := c) X.method X.code, State.localsInUse_invoking X.frames X.method X.code]
    simp only [State.hasRoom, Bool.and_eq_true, decide_eq_true_eq] at h ⊢
    obtain ⟨⟨⟨⟨h1, h2, h3, h4, h5, h6⟩, h7⟩, h8⟩, h9⟩ := h
    rw [X.frames, List.length_cons] at h2 h3
    have q1 := X.heapSize
    have q2 := X.used
    simp only [hF, hU, List.length_cons, State.stackLimits_setFrames, State.stackBytes_setFrames, hl9, hb9]
    refine ⟨⟨⟨⟨by omega, by omega, by omega, by omega, by omega, h6⟩, ?_⟩, ?_⟩, X.book⟩
    · show T.heap.size + R'.cells ≤ e.platform.maxCells
      omega
    · show T.slotsUsed + R'.slots ≤ e.platform.maxSlots
      omega
  · rw [State.stackLimits_setFrames]; rfl
  · rw [State.stackBytes_setFrames]; rfl
  · refine ⟨?_, Nat.le_refl _, Nat.le_refl _, ?_, ?_, fun a c9 h9 => ⟨c9, h9, rfl, rfl, fun _ _ => rfl⟩⟩
    · obtain ⟨t, ht, -⟩ := State.frames_cons hr
      show T.setVm s.vm = { ((T.setVm s.vm).setFrames (.invoking m args :: below)).setFrames (T.setVm s.vm).frames with heap := T.heap, slotsUsed := T.slotsUsed }
      rw [State.setFrames_setFrames, State.setFrames_self ht]
      rfl
    · show T.slotsUsed = T.slotsUsed + ((T.heap.toList.drop T.heap.size).map (·.slots.size)).sum
      rw [List.drop_eq_nil_of_le (Nat.le_of_eq Array.length_toList)]
      rfl
    · show ((T.heap.toList.drop T.heap.size).map (·.slots.size)).sum ≤ 0
      rw [List.drop_eq_nil_of_le (Nat.le_of_eq Array.length_toList)]
      exact Nat.le_refl _
/-- 'throw new E()': new; dup; invokespecial; athrow -/
theorem vx_throw0 {cc : ByteArray} {pc : Nat} (hexec : p.tables.exec = Jvm.exec) (hb : c.code = cc) (hl : l.stackTraces = false) {own cls : String} {names : List String} {ik ic mc ms : Nat} {A : Nat → Prop}
    (hown : s.vm.findClass own = some m.cls) (hcls : Bundle.fit cls = true) (hnames : ∀ n ∈ names, Bundle.fit n = true)
    (hk : (Cond.classLink own ik cls).before args s = true) (hini : (Cond.initialized cls).before args s = true) (hat : ∀ w ∈ vx_at0 own ic cls names, w.before args s = true)
    (hgood : ∀ w ∈ Cond.classLink own ik cls :: Cond.initialized cls :: vx_at0 own ic cls names, vx_ot w = true)
    (hU : vx_Zq Bundle.tN "UNASSIGNED_STACK" Bundle.steD A s s.heap) (hN : vx_Zq Bundle.tN "SUPPRESSED_SENTINEL" Bundle.listD A s s.heap) (hS : va_S A s.heap H locs) (hsize : ls.size = c.maxLocals)
    (d0 : decode cc pc = .ok (.new ik, 3)) (d3 : decode cc (pc + 3) = .ok (.dup, 1)) (d4 : decode cc (pc + 4) = .ok (.invokespecial ic, 3)) (d7 : decode cc (pc + 7) = .ok (.athrow, 1))
    (hout : ∀ x ∈ c.exceptionTable.toList, covers x (pc + 7) = false)
    (hRframes : names.length + 3 < R.frames) (hRlocals : (rest.map fun v => v.category).sum + (13 * (names.length + 1) + 42) ≤ R.locals) (hRcells : cells + 1 ≤ R.cells) (hRslots : slots + 6 ≤ R.slots) (hlocks : meth.locks = false)
    (hx : ∀ t : State, s.vm.Alike t.vm → H.size ≤ t.heap.size → (∀ q : Nat, q < H.size → t.heap[q]? = H[q]?) → XC cls s t)
    (hf : ∀ z ∈ locs, free z.base) (hc : cells + 1 ≤ mc) (hs : slots + 6 ≤ ms) :
    W p l e R s m args below meth c H locs cells slots (vx_MQ below Qc XC args s mc ms free) (F0 m pc ls rest) := by
  intro T hT X
  have htr : e.platform.stackTraces = false := (show e.platform.stackTraces = l.stackTraces by rw [X.admits.platform]).trans hl
  have Y := vx_rebase X (R' := { frames := R.frames, locals := R.locals, cells := 1, slots := 6 }) (Nat.le_refl _) (Nat.le_refl _) hRcells hRslots
  obtain ⟨s', hA⟩ : ∃ z, z = (T.setVm s.vm).setFrames (.invoking m args :: below) := ⟨_, rfl⟩
  rw [← hA] at Y
  have hvm : s'.vm = s.vm := by rw [hA]; rfl
  have hhp : s'.heap = H := by rw [hA]; exact hT
  have hW0 : s.WarmedH s'.vm := by rw [hvm]; exact State.WarmedH.refl s
  have hat' : ∀ w ∈ vx_at0 own ic cls names, w.before args s' = true := fun w hw => vx_ot_at hW0 hvm.symm (hgood w (List.mem_cons_of_mem _ (List.mem_cons_of_mem _ hw))) (hat w hw)
  have hk' : (Cond.classLink own ik cls).before args s' = true := vx_ot_at hW0 hvm.symm (hgood _ List.mem_cons_self) hk
  have hini' : (Cond.initialized cls).before args s' = true := vx_ot_at hW0 hvm.symm (hgood _ (List.mem_cons_of_mem _ List.mem_cons_self)) hini
  have hU' : vx_Zq Bundle.tN "UNASSIGNED_STACK" Bundle.steD A s' s'.heap := by rw [hhp]; exact vx_Zq.moved hW0.alike (hU.kept hS.2.1)
  have hN' : vx_Zq Bundle.tN "SUPPRESSED_SENTINEL" Bundle.listD A s' s'.heap := by rw [hhp]; exact vx_Zq.moved hW0.alike (hN.kept hS.2.1)
  have h : ∀ w ∈ Bundle.ownAtoms0 own ic cls names, w.before args s' = true := vx_own hat' (vx_isRefq hU'.1) (vx_isRefq hN'.1) hU'.2.word hN'.2.word
  have hown' : s'.vm.findClass own = some m.cls := by rw [hvm]; exact hown
  have hins : (Cond.instantiable cls 6).before args s' = true := h _ (by simp [Bundle.ownAtoms0])
  obtain ⟨vm₁, cX, kX, hfX, hkX, -, -, X₁, st1⟩ := Y.newCold hexec (own := own) (C := cls) (index := ik) (n := 6) hown' hk' hins hini'
    (g := F0 m pc ls rest) rfl (by rw [hb]; exact d0) (Nat.le_refl _) (Nat.le_refl _)
  generalize hT1 : (T.setVm vm₁).pushCell { cls := cX, slots := kX.instanceTypes.map defaultValue, vm := .none } = T1 at X₁ st1
  have hcat : (Value.ref T.heap.size).category = 1 := rfl
  have hcellA : T1.heap[T.heap.size]? = some (freshCell cX kX) := by rw [← hT1]; exact State.heap_pushCell_size _ _
  have d3' : decode c.code (pc + 3) = .ok (.dup, 1) := by rw [hb]; exact d3
  obtain ⟨U, hsteps, hrun, hend, hW, hsame, ce, hce, hO⟩ := X₁.ctorThrow0 hexec htr (own := own) (cls := cls) (names := names) (ic := ic) hown' hcls hnames h (fun x hx => nomatch hx) hfX hkX hcellA (by rw [hhp, hT]; exact Nat.le_refl _)
    (g := { method := m, pc := pc + 4, locals := ls, stack := .ref T.heap.size :: .ref T.heap.size :: rest, locked := none }) rfl hsize rfl rfl (rest := rest) rfl
    (by rw [hb]; exact d4) (by rw [hb]; exact d7) hout hRframes (by simp only [List.map_cons, List.sum_cons, hcat]; omega) hlocks
  obtain ⟨f1, f2⟩ := vx_frame hsame
  rw [hhp] at f1 f2
  have hWs : s.WarmedH U.vm := State.WarmedH.trans hW0 hW
  have hcl : s.vm.findClass cls = some ce.cls := by
    have h9 := hO.cls
    rw [hvm] at h9
    exact h9
  have hall : s.sameButNew ({ U with vm := s.vm } : State) locs mc ms := by
    subst hA
    obtain ⟨e1, e2⟩ := hsame
    rw [State.setFrames_setFrames] at e1
    have h2 : (T.setVm s.vm).sameButNew ({ U with vm := s.vm } : State) [] (0 + 1) (0 + 6) := ⟨e1, e2⟩
    have h3 := X.same.trans h2
    rw [List.append_nil] at h3
    exact h3.mono hc hs
  refine ⟨U, ?_, .threw T.heap.size, hrun, hend, Or.inr ⟨T.heap.size, rfl, cls, ce, locs, hx U hWs.alike f1 (fun q hq => f2 q hq (fun z hz => nomatch hz)), hce, hO.vm, hcl, hWs, hall, hf⟩⟩
  refine st1 _ ?_
  show Steps p.tables e below (T1.setTop { method := m, pc := pc + 3, locals := ls, stack := .ref T.heap.size :: rest, locked := none }) _
  jvm_step X₁.here [X₁.here.top, hexec, d3', Value.category]
  exact hsteps
/-- 'throw new E("text")': new; dup; ldc; invokespecial; athrow -/
theorem vx_throwS {cc : ByteArray} {pc : Nat} (hexec : p.tables.exec = Jvm.exec) (hb : c.code = cc) (hl : l.stackTraces = false) {own cls text : String} {names : List String} {ik is ic mc ms sa : Nat} {A : Nat → Prop}
    (hown : s.vm.findClass own = some m.cls) (hcls : Bundle.fit cls = true) (hnames : ∀ n ∈ names, Bundle.fit n = true)
    (hk : (Cond.classLink own ik cls).before args s = true) (hini : (Cond.initialized cls).before args s = true) (hstr : vk_R own is text sa s) (hat : ∀ w ∈ vx_atS own ic cls names, w.before args s = true)
    (hgood : ∀ w ∈ Cond.classLink own ik cls :: Cond.initialized cls :: vx_atS own ic cls names, vx_ot w = true)
    (hU : vx_Zq Bundle.tN "UNASSIGNED_STACK" Bundle.steD A s s.heap) (hN : vx_Zq Bundle.tN "SUPPRESSED_SENTINEL" Bundle.listD A s s.heap) (hS : va_S A s.heap H locs) (hsize : ls.size = c.maxLocals)
    (d0 : decode cc pc = .ok (.new ik, 3)) (d3 : decode cc (pc + 3) = .ok (.dup, 1)) (d4 : decode cc (pc + 4) = .ok (.ldc is, 2)) (d6 : decode cc (pc + 6) = .ok (.invokespecial ic, 3)) (d9 : decode cc (pc + 9) = .ok (.athrow, 1))
    (hout : ∀ x ∈ c.exceptionTable.toList, covers x (pc + 9) = false)
    (hRframes : names.length + 3 < R.frames) (hRlocals : (rest.map fun v => v.category).sum + (13 * (names.length + 1) + 43) ≤ R.locals) (hRcells : cells + 1 ≤ R.cells) (hRslots : slots + 6 ≤ R.slots) (hlocks : meth.locks = false)
    (hx : ∀ t : State, s.vm.Alike t.vm → H.size ≤ t.heap.size → (∀ q : Nat, q < H.size → t.heap[q]? = H[q]?) → XC cls s t)
    (hf : ∀ z ∈ locs, free z.base) (hc : cells + 1 ≤ mc) (hs : slots + 6 ≤ ms) :
    W p l e R s m args below meth c H locs cells slots (vx_MQ below Qc XC args s mc ms free) (F0 m pc ls rest) := by
  intro T hT X
  have htr : e.platform.stackTraces = false := (show e.platform.stackTraces = l.stackTraces by rw [X.admits.platform]).trans hl
  have Y := vx_rebase X (R' := { frames := R.frames, locals := R.locals, cells := 1, slots := 6 }) (Nat.le_refl _) (Nat.le_refl _) hRcells hRslots
  obtain ⟨s', hA⟩ : ∃ z, z = (T.setVm s.vm).setFrames (.invoking m args :: below) := ⟨_, rfl⟩
  rw [← hA] at Y
  have hvm : s'.vm = s.vm := by rw [hA]; rfl
  have hhp : s'.heap = H := by rw [hA]; exact hT
  have hW0 : s.WarmedH s'.vm := by rw [hvm]; exact State.WarmedH.refl s
  have hat' : ∀ w ∈ vx_atS own ic cls names, w.before args s' = true := fun w hw => vx_ot_at hW0 hvm.symm (hgood w (List.mem_cons_of_mem _ (List.mem_cons_of_mem _ hw))) (hat w hw)
  have hk' : (Cond.classLink own ik cls).before args s' = true := vx_ot_at hW0 hvm.symm (hgood _ List.mem_cons_self) hk
  have hini' : (Cond.initialized cls).before args s' = true := vx_ot_at hW0 hvm.symm (hgood _ (List.mem_cons_of_mem _ List.mem_cons_self)) hini
  have hU' : vx_Zq Bundle.tN "UNASSIGNED_STACK" Bundle.steD A s' s'.heap := by rw [hhp]; exact vx_Zq.moved hW0.alike (hU.kept hS.2.1)
  have hN' : vx_Zq Bundle.tN "SUPPRESSED_SENTINEL" Bundle.listD A s' s'.heap := by rw [hhp]; exact vx_Zq.moved hW0.alike (hN.kept hS.2.1)
  have h : ∀ w ∈ Bundle.ownAtoms own ic cls names, w.before args s' = true := vx_own hat' (vx_isRefq hU'.1) (vx_isRefq hN'.1) hU'.2.word hN'.2.word
  have hown' : s'.vm.findClass own = some m.cls := by rw [hvm]; exact hown
  have hins : (Cond.instantiable cls 6).before args s' = true := h _ (by simp [Bundle.ownAtoms])
  obtain ⟨vm₁, cX, kX, hfX, hkX, -, -, X₁, st1⟩ := Y.newCold hexec (own := own) (C := cls) (index := ik) (n := 6) hown' hk' hins hini'
    (g := F0 m pc ls rest) rfl (by rw [hb]; exact d0) (Nat.le_refl _) (Nat.le_refl _)
  generalize hT1 : (T.setVm vm₁).pushCell { cls := cX, slots := kX.instanceTypes.map defaultValue, vm := .none } = T1 at X₁ st1
  have hcat : (Value.ref T.heap.size).category = 1 := rfl
  have hcellA : T1.heap[T.heap.size]? = some (freshCell cX kX) := by rw [← hT1]; exact State.heap_pushCell_size _ _
  have d3' : decode c.code (pc + 3) = .ok (.dup, 1) := by rw [hb]; exact d3
  have d4' : decode c.code (pc + 4) = .ok (.ldc is, 2) := by rw [hb]; exact d4
  have hstr' : vk_R own is text sa s' := vk_R.warm hW0 hstr
  obtain ⟨U, hsteps, hrun, hend, hW, hsame, ce, hce, hO⟩ := X₁.ctorThrowS hexec htr (own := own) (cls := cls) (names := names) (ic := ic) hown' hcls hnames h (fun x hx => nomatch hx) hfX hkX hcellA (by rw [hhp, hT]; exact Nat.le_refl _) (msg := .ref sa) rfl
    (g := { method := m, pc := pc + 6, locals := ls, stack := .ref sa :: .ref T.heap.size :: .ref T.heap.size :: rest, locked := none }) rfl hsize rfl rfl (rest := rest) rfl
    (by rw [hb]; exact d6) (by rw [hb]; exact d9) hout hRframes (by simp only [List.map_cons, List.sum_cons, hcat]; omega) hlocks
  obtain ⟨f1, f2⟩ := vx_frame hsame
  rw [hhp] at f1 f2
  have hWs : s.WarmedH U.vm := State.WarmedH.trans hW0 hW
  have hcl : s.vm.findClass cls = some ce.cls := by
    have h9 := hO.cls
    rw [hvm] at h9
    exact h9
  have hall : s.sameButNew ({ U with vm := s.vm } : State) locs mc ms := by
    subst hA
    obtain ⟨e1, e2⟩ := hsame
    rw [State.setFrames_setFrames] at e1
    have h2 : (T.setVm s.vm).sameButNew ({ U with vm := s.vm } : State) [] (0 + 1) (0 + 6) := ⟨e1, e2⟩
    have h3 := X.same.trans h2
    rw [List.append_nil] at h3
    exact h3.mono hc hs
  refine ⟨U, ?_, .threw T.heap.size, hrun, hend, Or.inr ⟨T.heap.size, rfl, cls, ce, locs, hx U hWs.alike f1 (fun q hq => f2 q hq (fun z hz => nomatch hz)), hce, hO.vm, hcl, hWs, hall, hf⟩⟩
  refine st1 _ ?_
  show Steps p.tables e below (T1.setTop { method := m, pc := pc + 3, locals := ls, stack := .ref T.heap.size :: rest, locked := none }) _
  jvm_step X₁.here [X₁.here.top, hexec, d3', Value.category]
  exact X₁.ldcString hexec (own := own) (text := text) (index := is) (a := sa) hown' hstr'.1 hstr'.2
    (g := { method := m, pc := pc + 4, locals := ls, stack := .ref T.heap.size :: .ref T.heap.size :: rest, locked := none }) rfl d4' _ hsteps
/-- 'throw new E("text")', the text by a wide index -/
theorem vx_throwSW {cc : ByteArray} {pc : Nat} (hexec : p.tables.exec = Jvm.exec) (hb : c.code = cc) (hl : l.stackTraces = false) {own cls text : String} {names : List String} {ik is ic mc ms sa : Nat} {A : Nat → Prop}
    (hown : s.vm.findClass own = some m.cls) (hcls : Bundle.fit cls = true) (hnames : ∀ n ∈ names, Bundle.fit n = true)
    (hk : (Cond.classLink own ik cls).before args s = true) (hini : (Cond.initialized cls).before args s = true) (hstr : vk_R own is text sa s) (hat : ∀ w ∈ vx_atS own ic cls names, w.before args s = true)
    (hgood : ∀ w ∈ Cond.classLink own ik cls :: Cond.initialized cls :: vx_atS own ic cls names, vx_ot w = true)
    (hU : vx_Zq Bundle.tN "UNASSIGNED_STACK" Bundle.steD A s s.heap) (hN : vx_Zq Bundle.tN "SUPPRESSED_SENTINEL" Bundle.listD A s s.heap) (hS : va_S A s.heap H locs) (hsize : ls.size = c.maxLocals)
    (d0 : decode cc pc = .ok (.new ik, 3)) (d3 : decode cc (pc + 3) = .ok (.dup, 1)) (d4 : decode cc (pc + 4) = .ok (.ldc_w is, 3)) (d7 : decode cc (pc + 7) = .ok (.invokespecial ic, 3)) (d10 : decode cc (pc + 10) = .ok (.athrow, 1))
    (hout : ∀ x ∈ c.exceptionTable.toList, covers x (pc + 10) = false)
    (hRframes : names.length + 3 < R.frames) (hRlocals : (rest.map fun v => v.category).sum + (13 * (names.length + 1) + 43) ≤ R.locals) (hRcells : cells + 1 ≤ R.cells) (hRslots : slots + 6 ≤ R.slots) (hlocks : meth.locks = false)
    (hx : ∀ t : State, s.vm.Alike t.vm → H.size ≤ t.heap.size → (∀ q : Nat, q < H.size → t.heap[q]? = H[q]?) → XC cls s t)
    (hf : ∀ z ∈ locs, free z.base) (hc : cells + 1 ≤ mc) (hs : slots + 6 ≤ ms) :
    W p l e R s m args below meth c H locs cells slots (vx_MQ below Qc XC args s mc ms free) (F0 m pc ls rest) := by
  intro T hT X
  have htr : e.platform.stackTraces = false := (show e.platform.stackTraces = l.stackTraces by rw [X.admits.platform]).trans hl
  have Y := vx_rebase X (R' := { frames := R.frames, locals := R.locals, cells := 1, slots := 6 }) (Nat.le_refl _) (Nat.le_refl _) hRcells hRslots
  obtain ⟨s', hA⟩ : ∃ z, z = (T.setVm s.vm).setFrames (.invoking m args :: below) := ⟨_, rfl⟩
  rw [← hA] at Y
  have hvm : s'.vm = s.vm := by rw [hA]; rfl
  have hhp : s'.heap = H := by rw [hA]; exact hT
  have hW0 : s.WarmedH s'.vm := by rw [hvm]; exact State.WarmedH.refl s
  have hat' : ∀ w ∈ vx_atS own ic cls names, w.before args s' = true := fun w hw => vx_ot_at hW0 hvm.symm (hgood w (List.mem_cons_of_mem _ (List.mem_cons_of_mem _ hw))) (hat w hw)
  have hk' : (Cond.classLink own ik cls).before args s' = true := vx_ot_at hW0 hvm.symm (hgood _ List.mem_cons_self) hk
  have hini' : (Cond.initialized cls).before args s' = true := vx_ot_at hW0 hvm.symm (hgood _ (List.mem_cons_of_mem _ List.mem_cons_self)) hini
  have hU' : vx_Zq Bundle.tN "UNASSIGNED_STACK" Bundle.steD A s' s'.heap := by rw [hhp]; exact vx_Zq.moved hW0.alike (hU.kept hS.2.1)
  have hN' : vx_Zq Bundle.tN "SUPPRESSED_SENTINEL" Bundle.listD A s' s'.heap := by rw [hhp]; exact vx_Zq.moved hW0.alike (hN.kept hS.2.1)
  have h : ∀ w ∈ Bundle.ownAtoms own ic cls names, w.before args s' = true := vx_own hat' (vx_isRefq hU'.1) (vx_isRefq hN'.1) hU'.2.word hN'.2.word
  have hown' : s'.vm.findClass own = some m.cls := by rw [hvm]; exact hown
  have hins : (Cond.instantiable cls 6).before args s' = true := h _ (by simp [Bundle.ownAtoms])
  obtain ⟨vm₁, cX, kX, hfX, hkX, -, -, X₁, st1⟩ := Y.newCold hexec (own := own) (C := cls) (index := ik) (n := 6) hown' hk' hins hini'
    (g := F0 m pc ls rest) rfl (by rw [hb]; exact d0) (Nat.le_refl _) (Nat.le_refl _)
  generalize hT1 : (T.setVm vm₁).pushCell { cls := cX, slots := kX.instanceTypes.map defaultValue, vm := .none } = T1 at X₁ st1
  have hcat : (Value.ref T.heap.size).category = 1 := rfl
  have hcellA : T1.heap[T.heap.size]? = some (freshCell cX kX) := by rw [← hT1]; exact State.heap_pushCell_size _ _
  have d3' : decode c.code (pc + 3) = .ok (.dup, 1) := by rw [hb]; exact d3
  have d4' : decode c.code (pc + 4) = .ok (.ldc_w is, 3) := by rw [hb]; exact d4
  have hstr' : vk_R own is text sa s' := vk_R.warm hW0 hstr
  obtain ⟨U, hsteps, hrun, hend, hW, hsame, ce, hce, hO⟩ := X₁.ctorThrowS hexec htr (own := own) (cls := cls) (names := names) (ic := ic) hown' hcls hnames h (fun x hx => nomatch hx) hfX hkX hcellA (by rw [hhp, hT]; exact Nat.le_refl _) (msg := .ref sa) rfl
    (g := { method := m, pc := pc + 7, locals := ls, stack := .ref sa :: .ref T.heap.size :: .ref T.heap.size :: rest, locked := none }) rfl hsize rfl rfl (rest := rest) rfl
    (by rw [hb]; exact d7) (by rw [hb]; exact d10) hout hRframes (by simp only [List.map_cons, List.sum_cons, hcat]; omega) hlocks
  obtain ⟨f1, f2⟩ := vx_frame hsame
  rw [hhp] at f1 f2
  have hWs : s.WarmedH U.vm := State.WarmedH.trans hW0 hW
  have hcl : s.vm.findClass cls = some ce.cls := by
    have h9 := hO.cls
    rw [hvm] at h9
    exact h9
  have hall : s.sameButNew ({ U with vm := s.vm } : State) locs mc ms := by
    subst hA
    obtain ⟨e1, e2⟩ := hsame
    rw [State.setFrames_setFrames] at e1
    have h2 : (T.setVm s.vm).sameButNew ({ U with vm := s.vm } : State) [] (0 + 1) (0 + 6) := ⟨e1, e2⟩
    have h3 := X.same.trans h2
    rw [List.append_nil] at h3
    exact h3.mono hc hs
  refine ⟨U, ?_, .threw T.heap.size, hrun, hend, Or.inr ⟨T.heap.size, rfl, cls, ce, locs, hx U hWs.alike f1 (fun q hq => f2 q hq (fun z hz => nomatch hz)), hce, hO.vm, hcl, hWs, hall, hf⟩⟩
  refine st1 _ ?_
  show Steps p.tables e below (T1.setTop { method := m, pc := pc + 3, locals := ls, stack := .ref T.heap.size :: rest, locked := none }) _
  jvm_step X₁.here [X₁.here.top, hexec, d3', Value.category]
  exact X₁.ldcStringW hexec (own := own) (text := text) (index := is) (a := sa) hown' hstr'.1 hstr'.2
    (g := { method := m, pc := pc + 4, locals := ls, stack := .ref T.heap.size :: .ref T.heap.size :: rest, locked := none }) rfl d4' _ hsteps
end Ends
section Bodies
variable {l : Launch}
theorem vx_ofW {y : MethodName} {ws ws' : List Cond} {rm : Room} {Pc : Array Value → State → Prop} {Qc : Array Value → State → Outcome → State → Prop} {XC : String → State → State → Prop} {mc ms : Nat} {free : Addr → Prop} {cc : ByteArray} {maxL : Nat} {ret : Option FieldType}
    (hy : plainName y.cls = true) (hw : ws = Cond.code y cc maxL ret :: ws')
    (body : ∀ p e s m args below meth c s₁, BodyLoose p l y (headSpec ws rm) cc maxL ret e s m args below meth c s₁ → c.maxLocals = maxL → (∀ x ∈ c.exceptionTable.toList, False) → Pc args s →
      W p l e (headSpec ws rm).room s m args below meth c s.heap [] 0 0 (vx_MQ below Qc XC args s mc ms free) (entryFrame m args maxL)) : vx_Met l y ws rm Pc Qc XC mc ms free := by
  refine MetFree.of_bodyS (code := cc) (maxLocals := maxL) (ret := ret) hy ?_ ?_
  · intro args s m h hn
    obtain ⟨meth, c, h1, h2, h3, h4, h5, h6, -, -⟩ := Cond.code_spec hn (atoms_spec (ws := ws) h _ (by rw [hw]; exact List.mem_cons_self))
    exact ⟨meth, c, h1, h2, h3, h4, h5, h6⟩
  · intro p e s m args below meth c s₁ B hml hP _
    have hh0 : s₁.heap = s.heap := by rw [B.state]; rfl
    have ht : ∀ x ∈ c.exceptionTable.toList, False := by
      obtain ⟨meth9, c9, h1, h2, -, -, -, -, h7, -⟩ := Cond.code_spec B.named (atoms_spec (ws := ws) B.pre _ (by rw [hw]; exact List.mem_cons_self))
      cases Option.some.inj (h1.symm.trans B.method)
      cases Option.some.inj (h2.symm.trans (Stand.of_body B).code)
      intro x hx
      rw [Array.isEmpty_iff.mp h7] at hx
      cases hx
    obtain ⟨t, a1, o, b1, b2, b3⟩ := body p e s m args below meth c s₁ B hml ht hP s₁ hh0 (Stand.of_body B)
    exact ⟨t, o, a1, b1, b2, b3⟩
/-- the table of a body with handlers -/
theorem vx_table {p : Program} {x y : MethodName} {S : Spec} {cc bytes : ByteArray} {maxL maxL' : Nat} {ret ret' : Option FieldType} {e : Env} {s s₁ : State} {m : MethodId} {args : Array Value} {below : List Frame} {meth : Method} {c : Code} {hh : List (Nat × Nat × Nat × Nat)}
    (B : BodyLoose p l y S cc maxL ret e s m args below meth c s₁) (h : (Cond.codeWith y bytes maxL' ret' hh).before args s = true) : c.exceptionTable.toList = tableOf hh := by
  obtain ⟨m9, meth9, c9, hn9, h1, h2, -, -, h6, -⟩ := Cond.codeWith_spec h
  cases Option.some.inj (hn9.symm.trans B.named)
  cases Option.some.inj (h1.symm.trans B.method)
  cases Option.some.inj (h2.symm.trans (Stand.of_body B).code)
  rw [← h6, table_eq]
end Bodies
end VXA
/-! ===== END ===== -/
/-! ===== BEGIN a static call of a method with an exception table ===== -/
section VXS
variable {p : Program} {l : Launch} {e : Env} {R : Room} {s : State} {m : MethodId} {args : Array Value} {below : List Frame} {meth : Method} {c : Code} {T : State} {H : Heap} {locs : List Loc} {cells slots : Nat}
abbrev vx_CSW (R : Room) (s : State) (args : Array Value) (own : String) (index : Nat) (y : MethodName) (bytes : ByteArray) (maxL : Nat) (ret : Option FieldType) (hh : List (Nat × Nat × Nat × Nat)) (ws : List Cond) (rm : Room) (mc ms n : Nat) : Prop :=
  (rm.cells = mc ∧ rm.slots = ms ∧ rm.frames + 1 ≤ R.frames ∧ 8 + (maxL + 11) + rm.locals ≤ R.locals ∧ (∀ w ∈ ws, ∀ (a' : Array Value) (U : State), s.WarmedH U.vm → w.before a' U = true) ∧ Cond.codeWith y bytes maxL ret hh ∈ ws) ∧
  (Cond.codeWith y bytes maxL ret hh).before args s = true ∧ (Cond.initialized y.cls).before args s = true ∧ (y.cls ≠ "java/lang/invoke/MethodHandle" ∧ y.cls ≠ "java/lang/invoke/VarHandle") ∧
  (∀ sig, parseMethodDescriptor y.desc = some sig → n = sig.parameters.length) ∧ (Cond.methodLink own index y).before args s = true ∧ (Cond.static y).before args s = true
theorem vx_cwSW {own : String} {index maxL mc ms : Nat} {y : MethodName} {bytes : ByteArray} {ret : Option FieldType} {hh : List (Nat × Nat × Nat × Nat)} {Ts ws ws' : List Cond} {rm : Room} (n : Nat) (ht : ∀ w ∈ Ts, w.before args s = true) (hT : GoodIn Ts (va_wsS own index y ws)) (hw : ws = Cond.codeWith y bytes maxL ret hh :: ws') (hrc : rm.cells = mc) (hrs : rm.slots = ms)
    (hd : y.cls ≠ "java/lang/invoke/MethodHandle" ∧ y.cls ≠ "java/lang/invoke/VarHandle" ∧ (parseMethodDescriptor y.desc).map (fun d => d.parameters.length) = some n) (hR : rm.frames + 1 ≤ R.frames ∧ 8 + (maxL + 11) + rm.locals ≤ R.locals) :
    vx_CSW R s args own index y bytes maxL ret hh ws rm mc ms n := by
  have ok : ∀ w ∈ va_wsS own index y ws, w.before args s = true := fun w h => ht w (hT w h).1
  have hG : GoodIn Ts ws := fun w h => hT w (by unfold va_wsS; exact List.mem_append_right _ h)
  have hc : Cond.codeWith y bytes maxL ret hh ∈ ws := by rw [hw]; exact List.mem_cons_self
  refine ⟨⟨hrc, hrs, hR.1, hR.2, pay_in ht hG, hc⟩, ht _ (hG _ hc).1, ok _ (by simp [va_wsS]), ⟨hd.1, hd.2.1⟩, fun sig h => ?_, ok _ (by simp [va_wsS]), ok _ (by simp [va_wsS])⟩
  have h2 := hd.2.2
  rw [h] at h2
  exact (Option.some.inj h2).symm
theorem vx_callSW (X : Stand p l e R s m args below meth c T locs cells slots) (hexec : p.tables.exec = Jvm.exec) {own : String} {index : Nat} {y : MethodName} {bytes : ByteArray} {maxL : Nat} {ret : Option FieldType} {hh : List (Nat × Nat × Nat × Nat)}
    (hown : s.vm.findClass own = some m.cls) (hlink : (Cond.methodLink own index y).before args s = true) (hstat : (Cond.static y).before args s = true) (hinit : (Cond.initialized y.cls).before args s = true)
    (hcode : (Cond.codeWith y bytes maxL ret hh).before args s = true) (hy : y.cls ≠ "java/lang/invoke/MethodHandle" ∧ y.cls ≠ "java/lang/invoke/VarHandle")
    {W9 : Nat} {Pre : Pt → Array Value → Prop} {Post : Pt → Array Value → Option Value → Pt → Prop} (hK : Back l R p e below s args y 3 W9 Pre Post)
    {g : JFrame} (hg : g.method = m) (hsize : g.locals.size = c.maxLocals) {argsL rest : List Value} (hlen : ∀ sig, parseMethodDescriptor y.desc = some sig → argsL.length = sig.parameters.length)
    (hstack : g.stack = argsL.reverse ++ rest) (hW : 2 * g.monitorRoom + (rest.map fun v => v.category).sum ≤ W9) (hdg : decode c.code g.pc = .ok (.invokestatic index, 3))
    (hpre : ∀ vm₁, s.WarmedH vm₁ → Pre ⟨T.setVm vm₁, locs, cells, slots⟩ argsL.toArray) :
    ∃ (v : Option Value) (vm₁ : Vm) (B : Pt), s.WarmedH vm₁ ∧ Stand p l e R s m args below meth c B.U B.locs B.cells B.slots ∧ Post ⟨T.setVm vm₁, locs, cells, slots⟩ argsL.toArray v B ∧
      ∀ target, Steps p.tables e below (B.U.setTop { g with pc := g.pc + 3, stack := v.toList ++ rest }) target → Steps p.tables e below (T.setTop g) target := by
  obtain ⟨mk, methM, cM, hnamed, hmethM, -, -, -, -, -, -, hsigM⟩ := Cond.codeWith_spec hcode
  have hstatic : methM.isStatic = true := Cond.static_spec hnamed hmethM hstat
  obtain ⟨kP, hkP, -⟩ := className_of_methodNamed hnamed
  have hinitP : kP.init = .initialized := Cond.initialized_spec (findClass_of_methodNamed hnamed) hkP hinit
  obtain ⟨vm₁, X₁, hstep₁⟩ := X.invokestatic hexec hown hlink hnamed hmethM hstatic hkP hinitP hy (g := g) hg (argsL := argsL) (rest := rest) (hlen _ hsigM) hstack hdg
  obtain ⟨v, B, X', hpost, hsteps⟩ := hK m meth c ⟨T.setVm vm₁, locs, cells, slots⟩ { g with stack := rest } (.invokestatic index) mk argsL.toArray X₁ hg hsize hdg hW (X₁.named hnamed) (hpre vm₁ X₁.warmed)
  exact ⟨v, vm₁, B, X₁.warmed, X', hpost, fun target h => hstep₁ _ fun acts => by rw [doInvoke_state]; exact hsteps.trans h⟩
theorem vx_runSW {y : MethodName} {bytes cc : ByteArray} {maxL nL mc ms n index : Nat} {ret : Option FieldType} {hh : List (Nat × Nat × Nat × Nat)} {ws : List Cond} {rm : Room} {Pc : Array Value → State → Prop} {Qc : Array Value → State → Outcome → State → Prop} {free : Addr → Prop} {Ts : List Cond} {own : String} {As rest : List Value} {g : JFrame}
    (S : CallFix p m c cc nL s args Ts own) (hM : Met l y ws rm Pc Qc mc ms free) (cw : vx_CSW R s args own index y bytes maxL ret hh ws rm mc ms n) (hp : PreS s H Pc As)
    (hg : g.method = m) (hn : As.length = n) (hsize : g.locals.size = nL) (hstack : g.stack = As.reverse ++ rest) (hW : 2 * g.monitorRoom + (rest.map fun v => v.category).sum ≤ 8) (hdg : decode cc g.pc = .ok (.invokestatic index, 3)) (hf : cells + mc ≤ R.cells ∧ slots + ms ≤ R.slots) :
    va_Run p l e R s m args below meth c H locs cells slots mc ms g rest (Qc As.toArray) (free) := by
  obtain ⟨⟨hrc, hrs, hfr, hlo, hws, hcw⟩, hcode, hini, hy, hlen, hl, hstt⟩ := cw
  have hK : Back l R p e below s args y 3 8 (PreOf R mc ms Pc) (PostOf Qc mc ms free) := va_backW (hh := hh) (bytes := bytes) (maxL := maxL) (ret := ret) hM hp.1 hrc hrs hfr hlo hws hcw (fun a' U hW => word_at hW (Or.inl (by first | rfl | simp [Cond.onTables, Cond.keeps, Cond.steady])) hini)
  obtain ⟨hx, hb, hml, ho, -⟩ := S
  intro T hT X
  obtain ⟨v, vm₁, ⟨U', l2, c2, s2⟩, hW₁, X', ⟨g', mk, t, L, e1, e2, hq, h1, hL, h2, h3⟩, st⟩ := vx_callSW X hx (hh := hh) (bytes := bytes) (maxL := maxL) (ret := ret) ho hl hstt hini hcode hy hK hg (hsize.trans hml.symm) (argsL := As) (rest := rest) (fun sig h => hn.trans (hlen sig h)) hstack hW (by rw [hb]; exact hdg)
    (fun vm₁ hW₁ => ⟨hf.1, hf.2, hp.2 (T.setVm vm₁) hT hW₁⟩)
  dsimp only [Pt.U, Pt.locs, Pt.cells, Pt.slots] at X' e1 e2 h1 h2 h3 st
  subst h1; subst h2; subst h3
  exact ⟨v, (T.setVm vm₁).calling g' mk As.toArray, t, U', L, hT, X', hL, e1, e2, hq, st⟩
/-- not caught here, past rows that name other classes: it goes on to the caller -/
theorem vx_outP {p : Program} {l : Launch} {e : Env} {R : Room} {s : State} {m : MethodId} {args : Array Value} {below : List Frame} {meth : Method} {c : Code} {H : Heap} {locs : List Loc} {cells slots : Nat} {free : Addr → Prop} {ls : Array Slot} {rest : List Value} {Qc : Array Value → State → Outcome → State → Prop} {XC : String → State → State → Prop}
    {pc : Nat} {own E : String} {ce : Cell} {q : Addr} {mc ms : Nat} (hown : s.vm.findClass own = some m.cls) (hlocks : meth.locks = false)
    (hpass : ∀ z ∈ c.exceptionTable.toList, covers z pc = false ∨ (z.catchType ≠ 0 ∧ ∃ nm : String, (Cond.classLink own z.catchType nm).before args s = true ∧ va_Nc E nm s)) (hcell : H[q]? = some ce) (hv : ce.vm = .none) (hcl : s.vm.findClass E = some ce.cls)
    (hx : ∀ t : State, t.heap = H → s.vm.Alike t.vm → XC E s t) (hf : ∀ z ∈ locs, free z.base) (hc : cells ≤ mc) (hs : slots ≤ ms) :
    vx_W p l e R s m args below meth c H locs cells slots (vx_MQ below Qc XC args s mc ms free) (F0 m pc ls rest) q := by
  intro T hT X
  have hpl : e.platform.magicAccessors = ({} : Platform).magicAccessors := by rw [X.admits.platform]
  obtain ⟨vm', hW', X', st⟩ := X.outThrough hlocks q (g := F0 m pc ls rest) rfl rfl rfl (cell := ce) (by rw [hT]; exact hcell) (by rw [hv]; rfl)
    (by obtain ⟨k9, h9, -⟩ := Vm.findClass_spec hcl; exact ⟨k9, h9⟩) (fun z hz => by
      rcases hpass z hz with h | ⟨hz0, nm, hl1, hn1⟩
      · exact Or.inl h
      · obtain ⟨c6, hc6, hcl6⟩ := Cond.classLink_spec hown hl1 e.platform hpl
        obtain ⟨a8, b8, h1, h2, h3⟩ := hn1
        cases Option.some.inj (h1.symm.trans hcl)
        cases Option.some.inj (h2.symm.trans hc6)
        exact Or.inr ⟨hz0, _, hcl6, h3⟩)
  obtain ⟨g₀, hfr⟩ := X'.frames_eq
  have hcell9 : ((T.setVm vm').setFrames (.throwing q :: below)).heap[q]? = some ce := by
    show T.heap[q]? = some ce
    rw [hT]; exact hcell
  have hend : Ended ((T.setVm vm').setFrames (.throwing q :: below)) below (.threw q) := State.frames_setFrames _ (State.cur_lt_of_frames hfr)
  refine ⟨(T.setVm vm').setFrames (.throwing q :: below), ?_, .threw q, X'.here.running, hend, Or.inr ⟨q, rfl, E, ce, locs, hx _ hT (X'.ends _).1.alike, hcell9, hv, hcl, (X'.ends _).1, (X'.ends _).2.mono hc hs, hf⟩⟩
  rw [X.pushThrowing_eq]
  exact st
/-- a thing of a world lies in the heap -/
theorem vx_lt {D : va_G} {cl : List vw_C} {ws : va_W} {H1 : Heap} (h : va_P D cl ws H1) {k : Nat} {q : Nat × va_E} (hk : ws[k]? = some q) : q.1 < H1.size := (h k q hk).lt
end VXS
/-! ===== END ===== -/
/-! ===== BEGIN methods with a table of their own: called by a name, returning or throwing ===== -/
section VXH
/-! vx_backW, vx_callVX, vx_callSX, vx_callVW, vx_runVW, vx_runVX, vx_runSX, vx_ofWH follow the same proofs as their sisters above (Free/Laws.lean, Shelf42/LK1.lean); vx_outP calls Shelf42/NT130.lean (outThrough). -/
section
variable {l : Launch} {R : Room} {p : Program} {e : Env} {below : List Frame} {s : State} {sargs : Array Value} {y : MethodName} {len W9 : Nat}
theorem vx_backW {ws : List Cond} {rm : Room} {Pc : Array Value → State → Prop} {Qc : Array Value → State → Outcome → State → Prop} {XC : String → State → State → Prop} {mc ms : Nat} {free : Addr → Prop} {bytes : ByteArray} {maxL : Nat} {ret : Option FieldType} {hh : List (Nat × Nat × Nat × Nat)}
    (hM : vx_Met l y ws rm Pc Qc XC mc ms free) (hblind : FrameBlind Pc) (hrc : rm.cells = mc) (hrs : rm.slots = ms)
    (hframes : rm.frames + 1 ≤ R.frames) (hlocals : W9 + (maxL + 11) + rm.locals ≤ R.locals)
    (hws : ∀ w ∈ ws, ∀ a' U, s.WarmedH U.vm → w.before a' U = true) (hcode : Cond.codeWith y bytes maxL ret hh ∈ ws) (hinit : ∀ a' U, s.WarmedH U.vm → (Cond.initialized y.cls).before a' U = true) :
    vx_Back l R p e below s sargs y len W9 (PreOf R mc ms Pc) (PostOf Qc mc ms free) (vx_Post XC mc ms free) := by
  intro m meth c A g ig mk a X hg hsize hdg hW hn hp
  have h1 : (headSpec ws rm).pre.before a A.U = true := atoms_intro fun w hw => hws w hw _ _ X.warmed
  have h2 : (Cond.codeWith y bytes maxL ret hh).before a A.U = true := hws _ hcode _ _ X.warmed
  have h3 : (Cond.initialized y.cls).before a A.U = true := hinit _ _ X.warmed
  have h4 : A.cells + (headSpec ws rm).room.cells ≤ R.cells := by rw [show (headSpec ws rm).room.cells = mc from hrc]; exact hp.1
  have h5 : A.slots + (headSpec ws rm).room.slots ≤ R.slots := by rw [show (headSpec ws rm).room.slots = ms from hrs]; exact hp.2.1
  have hPc : Pc a (A.U.calling g mk a) := hblind _ _ _ _ hp.2.2
  obtain ⟨U, Ls, c0, s0⟩ := A
  dsimp only [Pt.U, Pt.locs, Pt.cells, Pt.slots] at h1 h2 h3 h4 h5 X hn hPc ⊢
  obtain ⟨m9, methY, cY, hn9, hmY, hcY, -, hlY, -⟩ := Cond.codeWith_spec h2
  cases Option.some.inj (hn9.symm.trans hn)
  obtain ⟨kY, hkY, -⟩ := className_of_methodNamed hn
  have hinitY : kY.init = .initialized := Cond.initialized_spec (findClass_of_methodNamed hn) hkY h3
  have h : At U g.method c below := by rw [hg]; exact X.here
  have hlocals9 : W9 + (maxL + 11) + (headSpec ws rm).room.locals ≤ R.locals := hlocals
  have happ : (headSpec ws rm).appliesLoose y e.platform (U.calling g mk a) = true :=
    Spec.appliesLoose_calling (g := g) h hdg hn hkY hinitY
      (X.room_calling (g := g) (R' := (headSpec ws rm).room) hsize hmY hcY hframes (by rw [hlY]; omega) h4 h5) h1
  obtain ⟨mid, hmid⟩ := h.above
  have hfr : (U.setTop g).frames = (.java g :: mid) ++ below := by rw [State.frames_setTop' g h.top, hmid]; rfl
  obtain ⟨o, s₂, hsteps, -, hend, hq⟩ := Steps.callFree hM p X.admits X.cas X.clock (acts := []) hfr happ hPc trivial
  have hq' : vx_Q Qc XC mc ms free a (U.calling g mk a) o s₂ := hq
  rw [State.frames_setTop' g h.top] at hend
  obtain ⟨g₀, hg0⟩ := Option.isSome_iff_exists.mp h.top
  obtain ⟨r, hr⟩ := State.topJava?_eq_some.mp hg0
  have hr' : (({ U with heap := s₂.heap, slotsUsed := s₂.slotsUsed } : State).setVm s₂.vm).frames = .java g₀ :: r := hr
  rcases hq' with ⟨hqc, L, hfe, hL⟩ | ⟨q, rfl, E, ce, L, hx, hce, hcv, hcl, hW₂, hsm, hL⟩
  · obtain ⟨⟨v, rfl⟩, hW₂, e2, q2, q3, q4, q5, q6⟩ := id hfe
    have e3 : s₂ = ({ (U.calling g mk a).setFrames s₂.frames with heap := s₂.heap, slotsUsed := s₂.slotsUsed } : State).setVm s₂.vm := by
      have : s₂ = ({ s₂ with vm := (U.calling g mk a).vm } : State).setVm s₂.vm := rfl
      rw [e2] at this
      exact this
    obtain ⟨c₂, i₂, len₂, hc₂, hd₂, hf₂⟩ := hend
    have hW' : U.WarmedH s₂.vm := hW₂
    have hcc : c₂ = c := by
      have h1 : s₂.code? g.method = U.code? g.method := by
        rw [State.code?_eq, State.code?_eq, hW'.alike.method?]
      exact Option.some.inj (hc₂.symm.trans (h1.trans h.code))
    subst hcc
    have hlen : len₂ = len := by rw [hdg] at hd₂; cases hd₂; rfl
    subst hlen
    have hs₂ : s₂ = (({ U with heap := s₂.heap, slotsUsed := s₂.slotsUsed } : State).setVm s₂.vm).setTop { g with pc := g.pc + len₂, stack := v.toList ++ g.stack } := by
      refine e3.trans ?_
      rw [hf₂, State.calling_eq h.top, State.setFrames_setFrames, State.setTop_of_frames _ hr', hr]
      rfl
    have hsame : U.sameButNew ({ U with heap := s₂.heap, slotsUsed := s₂.slotsUsed } : State) L mc ms := by
      refine ⟨?_, q2, q3, q4, q5, q6⟩
      obtain ⟨t, ht, -⟩ := State.frames_cons hr
      show ({ U with heap := s₂.heap, slotsUsed := s₂.slotsUsed } : State) = { U.setFrames U.frames with heap := s₂.heap, slotsUsed := s₂.slotsUsed }
      rw [State.setFrames_self ht]
    subst hg
    refine Or.inl ⟨v, ⟨(({ U with heap := s₂.heap, slotsUsed := s₂.slotsUsed } : State).setVm s₂.vm), Ls ++ L, c0 + mc, s0 + ms⟩,
      ⟨X.admits, X.cas, X.clock, X.frames, X.room, X.hears, X.method, X.code, (X.here.setHeapUsed s₂.heap s₂.slotsUsed).setVm hW'.alike, X.tail, State.WarmedH.trans X.warmed hW', X.limits, X.bytes, X.same.trans (hsame.setVm s.vm)⟩,
      ⟨g, mk, s₂, L, rfl, rfl, hqc, rfl, hL, rfl, rfl⟩, ?_⟩
    show Steps p.tables e below _ ((({ U with heap := s₂.heap, slotsUsed := s₂.slotsUsed } : State).setVm s₂.vm).setTop { g with pc := g.pc + len₂, stack := v.toList ++ g.stack })
    rw [← hs₂]
    exact hsteps
  · obtain ⟨e2, q2, q3, q4, q5, q6⟩ := id hsm
    have e3 : s₂ = ({ (U.calling g mk a).setFrames s₂.frames with heap := s₂.heap, slotsUsed := s₂.slotsUsed } : State).setVm s₂.vm := by
      have : s₂ = ({ s₂ with vm := (U.calling g mk a).vm } : State).setVm s₂.vm := rfl
      rw [e2] at this
      exact this
    have hf₂ : s₂.frames = .throwing q :: .java g :: U.frames.tail := hend
    have hW' : U.WarmedH s₂.vm := hW₂
    have hs₂ : s₂ = ((({ U with heap := s₂.heap, slotsUsed := s₂.slotsUsed } : State).setVm s₂.vm).setTop g).pushFrame (.throwing q) := by
      refine e3.trans ?_
      rw [hf₂, State.calling_eq h.top, State.setFrames_setFrames, State.pushFrame, State.frames_setTop _ hr', State.setTop_of_frames _ hr', State.setFrames_setFrames, hr]
      rfl
    have hsame : U.sameButNew ({ U with heap := s₂.heap, slotsUsed := s₂.slotsUsed } : State) L mc ms := by
      refine ⟨?_, q2, q3, q4, q5, q6⟩
      obtain ⟨t, ht, -⟩ := State.frames_cons hr
      show ({ U with heap := s₂.heap, slotsUsed := s₂.slotsUsed } : State) = { U.setFrames U.frames with heap := s₂.heap, slotsUsed := s₂.slotsUsed }
      rw [State.setFrames_self ht]
    subst hg
    refine Or.inr ⟨q, ⟨(({ U with heap := s₂.heap, slotsUsed := s₂.slotsUsed } : State).setVm s₂.vm), Ls ++ L, c0 + mc, s0 + ms⟩,
      ⟨X.admits, X.cas, X.clock, X.frames, X.room, X.hears, X.method, X.code, (X.here.setHeapUsed s₂.heap s₂.slotsUsed).setVm hW'.alike, X.tail, State.WarmedH.trans X.warmed hW', X.limits, X.bytes, X.same.trans (hsame.setVm s.vm)⟩,
      ⟨g, mk, s₂, L, E, ce, rfl, rfl, hx, hce, hcv, hcl, rfl, hL, rfl, rfl⟩, ?_⟩
    show Steps p.tables e below _ (((({ U with heap := s₂.heap, slotsUsed := s₂.slotsUsed } : State).setVm s₂.vm).setTop g).pushFrame (.throwing q))
    rw [← hs₂]
    exact hsteps
end
variable {p : Program} {l : Launch} {e : Env} {R : Room} {s : State} {m : MethodId} {args : Array Value} {below : List Frame} {meth : Method} {c : Code} {T : State} {H : Heap} {locs : List Loc} {cells slots : Nat}
theorem vx_callVX (X : Stand p l e R s m args below meth c T locs cells slots) (hexec : p.tables.exec = Jvm.exec) {own C : String} {index : Nat} {y : MethodName} {bytes : ByteArray} {maxL : Nat} {ret : Option FieldType} {hh : List (Nat × Nat × Nat × Nat)}
    (hown : s.vm.findClass own = some m.cls) (hlink : (Cond.methodLink own index y).before args s = true) (hinst : (Cond.instanceMethod y).before args s = true) (hsel : (Cond.selects C y y).before args s = true)
    (hcode : (Cond.codeWith y bytes maxL ret hh).before args s = true) (hy : y.cls ≠ "java/lang/invoke/MethodHandle" ∧ y.cls ≠ "java/lang/invoke/VarHandle")
    {W9 : Nat} {Pre : Pt → Array Value → Prop} {Post : Pt → Array Value → Option Value → Pt → Prop} {PostX : Pt → Array Value → Addr → Pt → Prop} (hK : vx_Back l R p e below s args y 3 W9 Pre Post PostX)
    {b : Addr} {cellB : Cell} (hcell : T.heap[b]? = some cellB) (hobj : cellB.vm.isStatics = false) (hcls : s.vm.findClass C = some cellB.cls)
    {g : JFrame} (hg : g.method = m) (hsize : g.locals.size = c.maxLocals) {argsL rest : List Value} (hlen : ∀ sig, parseMethodDescriptor y.desc = some sig → argsL.length = sig.parameters.length)
    (hstack : g.stack = argsL.reverse ++ .ref b :: rest) (hW : 2 * g.monitorRoom + (rest.map fun v => v.category).sum ≤ W9) (hdg : decode c.code g.pc = .ok (.invokevirtual index, 3))
    (hpre : ∀ vm₁, s.WarmedH vm₁ → Pre ⟨T.setVm vm₁, locs, cells, slots⟩ (Value.ref b :: argsL).toArray) :
    (∃ (v : Option Value) (vm₁ : Vm) (B : Pt), s.WarmedH vm₁ ∧ Stand p l e R s m args below meth c B.U B.locs B.cells B.slots ∧ Post ⟨T.setVm vm₁, locs, cells, slots⟩ (Value.ref b :: argsL).toArray v B ∧
      ∀ target, Steps p.tables e below (B.U.setTop { g with pc := g.pc + 3, stack := v.toList ++ rest }) target → Steps p.tables e below (T.setTop g) target) ∨
    (∃ (q : Addr) (vm₁ : Vm) (B : Pt), s.WarmedH vm₁ ∧ Stand p l e R s m args below meth c B.U B.locs B.cells B.slots ∧ PostX ⟨T.setVm vm₁, locs, cells, slots⟩ (Value.ref b :: argsL).toArray q B ∧
      Steps p.tables e below (T.setTop g) ((B.U.setTop { g with stack := rest }).pushFrame (.throwing q))) := by
  obtain ⟨mk, methM, hnamed, hmethM, hstM, habM⟩ := Cond.instanceMethod_spec hinst
  obtain ⟨m8, methM', cM, hn8, hmethM', -, -, -, -, -, -, hsigM⟩ := Cond.codeWith_spec hcode
  cases Option.some.inj (hn8.symm.trans hnamed)
  cases hmethM.symm.trans hmethM'
  obtain ⟨c2, r2, m2, q1, q2, q3, q4, kP, hkP, hkPi⟩ := Cond.selects_spec hsel
  cases hcls.symm.trans q1
  cases (State.methodFound?_of_named hnamed hy).symm.trans q2
  cases hnamed.symm.trans q3
  have hselP : selectMethod e.platform s.vm cellB.cls mk = .method mk := by rw [Launch.admits_selectMethod X.admits]; exact q4
  obtain ⟨vm₁, X₁, hstep₁⟩ := X.invokevirtual hexec hown hlink hnamed hmethM hstM hkP hkPi hy (a := b) (cell := cellB) hcell
    (fun z h => by rw [h] at hobj; cases hobj) hselP hmethM habM hkP hkPi (g := g) hg (argsL := argsL) (rest := rest) (hlen _ hsigM) hstack hdg
  rcases hK m meth c ⟨T.setVm vm₁, locs, cells, slots⟩ { g with stack := rest } (.invokevirtual index) mk (Value.ref b :: argsL).toArray X₁ hg hsize hdg hW (X₁.named hnamed) (hpre vm₁ X₁.warmed) with ⟨v, B, X', hpost, hsteps⟩ | ⟨q, B, X', hpost, hsteps⟩
  · exact Or.inl ⟨v, vm₁, B, X₁.warmed, X', hpost, fun target h => hstep₁ _ fun acts => by rw [doInvoke_state]; exact hsteps.trans h⟩
  · exact Or.inr ⟨q, vm₁, B, X₁.warmed, X', hpost, hstep₁ _ fun acts => by rw [doInvoke_state]; exact hsteps⟩
theorem vx_callSX (X : Stand p l e R s m args below meth c T locs cells slots) (hexec : p.tables.exec = Jvm.exec) {own : String} {index : Nat} {y : MethodName} {bytes : ByteArray} {maxL : Nat} {ret : Option FieldType} {hh : List (Nat × Nat × Nat × Nat)}
    (hown : s.vm.findClass own = some m.cls) (hlink : (Cond.methodLink own index y).before args s = true) (hstat : (Cond.static y).before args s = true) (hinit : (Cond.initialized y.cls).before args s = true)
    (hcode : (Cond.codeWith y bytes maxL ret hh).before args s = true) (hy : y.cls ≠ "java/lang/invoke/MethodHandle" ∧ y.cls ≠ "java/lang/invoke/VarHandle")
    {W9 : Nat} {Pre : Pt → Array Value → Prop} {Post : Pt → Array Value → Option Value → Pt → Prop} {PostX : Pt → Array Value → Addr → Pt → Prop} (hK : vx_Back l R p e below s args y 3 W9 Pre Post PostX)
    {g : JFrame} (hg : g.method = m) (hsize : g.locals.size = c.maxLocals) {argsL rest : List Value} (hlen : ∀ sig, parseMethodDescriptor y.desc = some sig → argsL.length = sig.parameters.length)
    (hstack : g.stack = argsL.reverse ++ rest) (hW : 2 * g.monitorRoom + (rest.map fun v => v.category).sum ≤ W9) (hdg : decode c.code g.pc = .ok (.invokestatic index, 3))
    (hpre : ∀ vm₁, s.WarmedH vm₁ → Pre ⟨T.setVm vm₁, locs, cells, slots⟩ argsL.toArray) :
    (∃ (v : Option Value) (vm₁ : Vm) (B : Pt), s.WarmedH vm₁ ∧ Stand p l e R s m args below meth c B.U B.locs B.cells B.slots ∧ Post ⟨T.setVm vm₁, locs, cells, slots⟩ argsL.toArray v B ∧
      ∀ target, Steps p.tables e below (B.U.setTop { g with pc := g.pc + 3, stack := v.toList ++ rest }) target → Steps p.tables e below (T.setTop g) target) ∨
    (∃ (q : Addr) (vm₁ : Vm) (B : Pt), s.WarmedH vm₁ ∧ Stand p l e R s m args below meth c B.U B.locs B.cells B.slots ∧ PostX ⟨T.setVm vm₁, locs, cells, slots⟩ argsL.toArray q B ∧
      Steps p.tables e below (T.setTop g) ((B.U.setTop { g with stack := rest }).pushFrame (.throwing q))) := by
  obtain ⟨mk, methM, cM, hnamed, hmethM, -, -, -, -, -, -, hsigM⟩ := Cond.codeWith_spec hcode
  have hstatic : methM.isStatic = true := Cond.static_spec hnamed hmethM hstat
  obtain ⟨kP, hkP, -⟩ := className_of_methodNamed hnamed
  have hinitP : kP.init = .initialized := Cond.initialized_spec (findClass_of_methodNamed hnamed) hkP hinit
  obtain ⟨vm₁, X₁, hstep₁⟩ := X.invokestatic hexec hown hlink hnamed hmethM hstatic hkP hinitP hy (g := g) hg (argsL := argsL) (rest := rest) (hlen _ hsigM) hstack hdg
  rcases hK m meth c ⟨T.setVm vm₁, locs, cells, slots⟩ { g with stack := rest } (.invokestatic index) mk argsL.toArray X₁ hg hsize hdg hW (X₁.named hnamed) (hpre vm₁ X₁.warmed) with ⟨v, B, X', hpost, hsteps⟩ | ⟨q, B, X', hpost, hsteps⟩
  · exact Or.inl ⟨v, vm₁, B, X₁.warmed, X', hpost, fun target h => hstep₁ _ fun acts => by rw [doInvoke_state]; exact hsteps.trans h⟩
  · exact Or.inr ⟨q, vm₁, B, X₁.warmed, X', hpost, hstep₁ _ fun acts => by rw [doInvoke_state]; exact hsteps⟩
theorem vx_callVW (X : Stand p l e R s m args below meth c T locs cells slots) (hexec : p.tables.exec = Jvm.exec) {own C : String} {index : Nat} {y : MethodName} {bytes : ByteArray} {maxL : Nat} {ret : Option FieldType} {hh : List (Nat × Nat × Nat × Nat)}
    (hown : s.vm.findClass own = some m.cls) (hlink : (Cond.methodLink own index y).before args s = true) (hinst : (Cond.instanceMethod y).before args s = true) (hsel : (Cond.selects C y y).before args s = true)
    (hcode : (Cond.codeWith y bytes maxL ret hh).before args s = true) (hy : y.cls ≠ "java/lang/invoke/MethodHandle" ∧ y.cls ≠ "java/lang/invoke/VarHandle")
    {W9 : Nat} {Pre : Pt → Array Value → Prop} {Post : Pt → Array Value → Option Value → Pt → Prop} (hK : Back l R p e below s args y 3 W9 Pre Post)
    {b : Addr} {cellB : Cell} (hcell : T.heap[b]? = some cellB) (hobj : cellB.vm.isStatics = false) (hcls : s.vm.findClass C = some cellB.cls)
    {g : JFrame} (hg : g.method = m) (hsize : g.locals.size = c.maxLocals) {argsL rest : List Value} (hlen : ∀ sig, parseMethodDescriptor y.desc = some sig → argsL.length = sig.parameters.length)
    (hstack : g.stack = argsL.reverse ++ .ref b :: rest) (hW : 2 * g.monitorRoom + (rest.map fun v => v.category).sum ≤ W9) (hdg : decode c.code g.pc = .ok (.invokevirtual index, 3))
    (hpre : ∀ vm₁, s.WarmedH vm₁ → Pre ⟨T.setVm vm₁, locs, cells, slots⟩ (Value.ref b :: argsL).toArray) :
    ∃ (v : Option Value) (vm₁ : Vm) (B : Pt), s.WarmedH vm₁ ∧ Stand p l e R s m args below meth c B.U B.locs B.cells B.slots ∧ Post ⟨T.setVm vm₁, locs, cells, slots⟩ (Value.ref b :: argsL).toArray v B ∧
      ∀ target, Steps p.tables e below (B.U.setTop { g with pc := g.pc + 3, stack := v.toList ++ rest }) target → Steps p.tables e below (T.setTop g) target := by
  obtain ⟨mk, methM, hnamed, hmethM, hstM, habM⟩ := Cond.instanceMethod_spec hinst
  obtain ⟨m8, methM', cM, hn8, hmethM', -, -, -, -, -, -, hsigM⟩ := Cond.codeWith_spec hcode
  cases Option.some.inj (hn8.symm.trans hnamed)
  cases hmethM.symm.trans hmethM'
  obtain ⟨c2, r2, m2, q1, q2, q3, q4, kP, hkP, hkPi⟩ := Cond.selects_spec hsel
  cases hcls.symm.trans q1
  cases (State.methodFound?_of_named hnamed hy).symm.trans q2
  cases hnamed.symm.trans q3
  have hselP : selectMethod e.platform s.vm cellB.cls mk = .method mk := by rw [Launch.admits_selectMethod X.admits]; exact q4
  obtain ⟨vm₁, X₁, hstep₁⟩ := X.invokevirtual hexec hown hlink hnamed hmethM hstM hkP hkPi hy (a := b) (cell := cellB) hcell
    (fun z h => by rw [h] at hobj; cases hobj) hselP hmethM habM hkP hkPi (g := g) hg (argsL := argsL) (rest := rest) (hlen _ hsigM) hstack hdg
  obtain ⟨v, B, X', hpost, hsteps⟩ := hK m meth c ⟨T.setVm vm₁, locs, cells, slots⟩ { g with stack := rest } (.invokevirtual index) mk (Value.ref b :: argsL).toArray X₁ hg hsize hdg hW (X₁.named hnamed) (hpre vm₁ X₁.warmed)
  exact ⟨v, vm₁, B, X₁.warmed, X', hpost, fun target h => hstep₁ _ fun acts => by rw [doInvoke_state]; exact hsteps.trans h⟩
abbrev vx_CVW (R : Room) (s : State) (args : Array Value) (own C : String) (index : Nat) (y : MethodName) (bytes : ByteArray) (maxL : Nat) (ret : Option FieldType) (hh : List (Nat × Nat × Nat × Nat)) (ws : List Cond) (rm : Room) (mc ms n : Nat) : Prop :=
  (rm.cells = mc ∧ rm.slots = ms ∧ rm.frames + 1 ≤ R.frames ∧ 8 + (maxL + 11) + rm.locals ≤ R.locals ∧ (∀ w ∈ ws, ∀ (a' : Array Value) (U : State), s.WarmedH U.vm → w.before a' U = true) ∧ Cond.codeWith y bytes maxL ret hh ∈ ws) ∧
  (Cond.codeWith y bytes maxL ret hh).before args s = true ∧ (Cond.initialized y.cls).before args s = true ∧ (y.cls ≠ "java/lang/invoke/MethodHandle" ∧ y.cls ≠ "java/lang/invoke/VarHandle") ∧
  (∀ sig, parseMethodDescriptor y.desc = some sig → n = sig.parameters.length) ∧ (Cond.methodLink own index y).before args s = true ∧ (Cond.instanceMethod y).before args s = true ∧ (Cond.selects C y y).before args s = true
theorem vx_cwVW {own C : String} {index maxL mc ms : Nat} {y : MethodName} {bytes : ByteArray} {ret : Option FieldType} {hh : List (Nat × Nat × Nat × Nat)} {Ts ws ws' : List Cond} {rm : Room} (n : Nat) (ht : ∀ w ∈ Ts, w.before args s = true) (hT : GoodIn Ts (wsV own index C y ws)) (hw : ws = Cond.codeWith y bytes maxL ret hh :: ws') (hrc : rm.cells = mc) (hrs : rm.slots = ms)
    (hd : y.cls = C ∧ y.cls ≠ "java/lang/invoke/MethodHandle" ∧ y.cls ≠ "java/lang/invoke/VarHandle" ∧ (parseMethodDescriptor y.desc).map (fun d => d.parameters.length) = some n) (hR : rm.frames + 1 ≤ R.frames ∧ 8 + (maxL + 11) + rm.locals ≤ R.locals) :
    vx_CVW R s args own C index y bytes maxL ret hh ws rm mc ms n := by
  obtain ⟨hC, hd⟩ := hd
  subst hC
  have ok : ∀ w ∈ wsV own index y.cls y ws, w.before args s = true := fun w h => ht w (hT w h).1
  have hG : GoodIn Ts ws := fun w h => hT w (by unfold wsV; exact List.mem_append_right _ h)
  have hc : Cond.codeWith y bytes maxL ret hh ∈ ws := by rw [hw]; exact List.mem_cons_self
  refine ⟨⟨hrc, hrs, hR.1, hR.2, pay_in ht hG, hc⟩, ht _ (hG _ hc).1, ok _ (by simp [wsV]), ⟨hd.1, hd.2.1⟩, fun sig h => ?_, ok _ (by simp [wsV]), ok _ (by simp [wsV]), ok _ (by simp [wsV])⟩
  have h2 := hd.2.2
  rw [h] at h2
  exact (Option.some.inj h2).symm
theorem vx_runVW {y : MethodName} {bytes cc : ByteArray} {maxL nL mc ms n index : Nat} {ret : Option FieldType} {hh : List (Nat × Nat × Nat × Nat)} {ws : List Cond} {rm : Room} {Pc : Array Value → State → Prop} {Qc : Array Value → State → Outcome → State → Prop} {free : Addr → Prop} {Ts : List Cond} {own C : String} {b : Addr} {As rest : List Value} {g : JFrame}
    (S : CallFix p m c cc nL s args Ts own) (hM : Met l y ws rm Pc Qc mc ms free) (cw : vx_CVW R s args own C index y bytes maxL ret hh ws rm mc ms n) (hp : PreV s H C b Pc As)
    (hg : g.method = m) (hn : As.length = n) (hsize : g.locals.size = nL) (hstack : g.stack = As.reverse ++ .ref b :: rest) (hW : 2 * g.monitorRoom + (rest.map fun v => v.category).sum ≤ 8) (hdg : decode cc g.pc = .ok (.invokevirtual index, 3)) (hf : cells + mc ≤ R.cells ∧ slots + ms ≤ R.slots) :
    va_Run p l e R s m args below meth c H locs cells slots mc ms g rest (Qc (Value.ref b :: As).toArray) free := by
  obtain ⟨⟨hrc, hrs, hfr, hlo, hws, hcw⟩, hcode, hini, hy, hlen, hl, hin, hse⟩ := cw
  have hK : Back l R p e below s args y 3 8 (PreOf R mc ms Pc) (PostOf Qc mc ms free) := va_backW (hh := hh) (bytes := bytes) (maxL := maxL) (ret := ret) hM hp.1 hrc hrs hfr hlo hws hcw (fun a' U hW => word_at hW (Or.inl (by first | rfl | simp [Cond.onTables, Cond.keeps, Cond.steady])) hini)
  obtain ⟨hx, hb, hml, ho, -⟩ := S
  obtain ⟨-, ⟨cellB, hcB, hoB, hclB⟩, hPc⟩ := hp
  intro T hT X
  obtain ⟨v, vm₁, ⟨U', l2, c2, s2⟩, hW₁, X', ⟨g', mk, t, L, e1, e2, hq, h1, hL, h2, h3⟩, st⟩ := vx_callVW X hx (C := C) (hh := hh) (bytes := bytes) (maxL := maxL) (ret := ret) ho hl hin hse hcode hy hK (by rw [hT]; exact hcB) hoB hclB hg (hsize.trans hml.symm) (argsL := As) (rest := rest) (fun sig h => hn.trans (hlen sig h)) hstack hW (by rw [hb]; exact hdg)
    (fun vm₁ hW₁ => ⟨hf.1, hf.2, hPc (T.setVm vm₁) hT hW₁⟩)
  dsimp only [Pt.U, Pt.locs, Pt.cells, Pt.slots] at X' e1 e2 h1 h2 h3 st
  subst h1; subst h2; subst h3
  exact ⟨v, (T.setVm vm₁).calling g' mk (Value.ref b :: As).toArray, t, U', L, hT, X', hL, e1, e2, hq, st⟩
section
variable {y : MethodName} {bytes cc : ByteArray} {maxL nL mc ms n index : Nat} {ret : Option FieldType} {ws : List Cond} {rm : Room} {Pc : Array Value → State → Prop} {Qc : Array Value → State → Outcome → State → Prop} {XC : String → State → State → Prop} {free : Addr → Prop} {Ts : List Cond} {own C : String} {b : Addr} {As rest : List Value} {g : JFrame}
theorem vx_runVX {hh : List (Nat × Nat × Nat × Nat)} (S : CallFix p m c cc nL s args Ts own) (hM : vx_Met l y ws rm Pc Qc XC mc ms free) (cw : vx_CVW R s args own C index y bytes maxL ret hh ws rm mc ms n) (hp : PreV s H C b Pc As)
    (hg : g.method = m) (hn : As.length = n) (hsize : g.locals.size = nL) (hstack : g.stack = As.reverse ++ .ref b :: rest) (hW : 2 * g.monitorRoom + (rest.map fun v => v.category).sum ≤ 8) (hdg : decode cc g.pc = .ok (.invokevirtual index, 3)) (hf : cells + mc ≤ R.cells ∧ slots + ms ≤ R.slots) :
    vx_Run p l e R s m args below meth c H locs cells slots mc ms g rest (Qc (Value.ref b :: As).toArray) XC free := by
  obtain ⟨⟨hrc, hrs, hfr, hlo, hws, hcw⟩, hcode, hini, hy, hlen, hl, hin, hse⟩ := cw
  have hK : vx_Back l R p e below s args y 3 8 (PreOf R mc ms Pc) (PostOf Qc mc ms free) (vx_Post XC mc ms free) := vx_backW (hh := hh) (bytes := bytes) (maxL := maxL) (ret := ret) hM hp.1 hrc hrs hfr hlo hws hcw (fun a' U hW => word_at hW (Or.inl (by first | rfl | simp [Cond.onTables, Cond.keeps, Cond.steady])) hini)
  obtain ⟨hx, hb, hml, ho, -⟩ := S
  obtain ⟨-, ⟨cellB, hcB, hoB, hclB⟩, hPc⟩ := hp
  intro T hT X
  rcases vx_callVX X hx (C := C) (hh := hh) (bytes := bytes) (maxL := maxL) (ret := ret) ho hl hin hse hcode hy hK (by rw [hT]; exact hcB) hoB hclB hg (hsize.trans hml.symm) (argsL := As) (rest := rest) (fun sig h => hn.trans (hlen sig h)) hstack hW (by rw [hb]; exact hdg)
    (fun vm₁ hW₁ => ⟨hf.1, hf.2, hPc (T.setVm vm₁) hT hW₁⟩) with ⟨v, vm₁, ⟨U', l2, c2, s2⟩, hW₁, X', ⟨g', mk, t, L, e1, e2, hq, h1, hL, h2, h3⟩, st⟩ | ⟨q, vm₁, ⟨U', l2, c2, s2⟩, hW₁, X', ⟨g', mk, t, L, E, ce, e1, e2, hq, hce, hcv, hcl, h1, hL, h2, h3⟩, st⟩
  · dsimp only [Pt.U, Pt.locs, Pt.cells, Pt.slots] at X' e1 e2 h1 h2 h3 st
    subst h1; subst h2; subst h3
    exact Or.inl ⟨v, (T.setVm vm₁).calling g' mk (Value.ref b :: As).toArray, t, U', L, hT, X', hL, e1, e2, hq, st⟩
  · dsimp only [Pt.U, Pt.locs, Pt.cells, Pt.slots] at X' e1 e2 h1 h2 h3 st hcl
    subst h1; subst h2; subst h3
    exact Or.inr ⟨q, (T.setVm vm₁).calling g' mk (Value.ref b :: As).toArray, t, U', L, E, ce, hT, X', hL, e1, e2, hq, hce, hcv, vx_cls hW₁ hcl, st⟩
theorem vx_runSX {hh : List (Nat × Nat × Nat × Nat)} (S : CallFix p m c cc nL s args Ts own) (hM : vx_Met l y ws rm Pc Qc XC mc ms free) (cw : vx_CSW R s args own index y bytes maxL ret hh ws rm mc ms n) (hp : PreS s H Pc As)
    (hg : g.method = m) (hn : As.length = n) (hsize : g.locals.size = nL) (hstack : g.stack = As.reverse ++ rest) (hW : 2 * g.monitorRoom + (rest.map fun v => v.category).sum ≤ 8) (hdg : decode cc g.pc = .ok (.invokestatic index, 3)) (hf : cells + mc ≤ R.cells ∧ slots + ms ≤ R.slots) :
    vx_Run p l e R s m args below meth c H locs cells slots mc ms g rest (Qc As.toArray) XC free := by
  obtain ⟨⟨hrc, hrs, hfr, hlo, hws, hcw⟩, hcode, hini, hy, hlen, hl, hstt⟩ := cw
  have hK : vx_Back l R p e below s args y 3 8 (PreOf R mc ms Pc) (PostOf Qc mc ms free) (vx_Post XC mc ms free) := vx_backW (hh := hh) (bytes := bytes) (maxL := maxL) (ret := ret) hM hp.1 hrc hrs hfr hlo hws hcw (fun a' U hW => word_at hW (Or.inl (by first | rfl | simp [Cond.onTables, Cond.keeps, Cond.steady])) hini)
  obtain ⟨hx, hb, hml, ho, -⟩ := S
  intro T hT X
  rcases vx_callSX X hx (hh := hh) (bytes := bytes) (maxL := maxL) (ret := ret) ho hl hstt hini hcode hy hK hg (hsize.trans hml.symm) (argsL := As) (rest := rest) (fun sig h => hn.trans (hlen sig h)) hstack hW (by rw [hb]; exact hdg)
    (fun vm₁ hW₁ => ⟨hf.1, hf.2, hp.2 (T.setVm vm₁) hT hW₁⟩) with ⟨v, vm₁, ⟨U', l2, c2, s2⟩, hW₁, X', ⟨g', mk, t, L, e1, e2, hq, h1, hL, h2, h3⟩, st⟩ | ⟨q, vm₁, ⟨U', l2, c2, s2⟩, hW₁, X', ⟨g', mk, t, L, E, ce, e1, e2, hq, hce, hcv, hcl, h1, hL, h2, h3⟩, st⟩
  · dsimp only [Pt.U, Pt.locs, Pt.cells, Pt.slots] at X' e1 e2 h1 h2 h3 st
    subst h1; subst h2; subst h3
    exact Or.inl ⟨v, (T.setVm vm₁).calling g' mk As.toArray, t, U', L, hT, X', hL, e1, e2, hq, st⟩
  · dsimp only [Pt.U, Pt.locs, Pt.cells, Pt.slots] at X' e1 e2 h1 h2 h3 st hcl
    subst h1; subst h2; subst h3
    exact Or.inr ⟨q, (T.setVm vm₁).calling g' mk As.toArray, t, U', L, E, ce, hT, X', hL, e1, e2, hq, hce, hcv, vx_cls hW₁ hcl, st⟩
end
end VXH
theorem vx_ofWH {l : Launch} {y : MethodName} {ws ws' : List Cond} {rm : Room} {Pc : Array Value → State → Prop} {Qc : Array Value → State → Outcome → State → Prop} {XC : String → State → State → Prop} {mc ms : Nat} {free : Addr → Prop} {cc : ByteArray} {maxL : Nat} {ret : Option FieldType} {hh : List (Nat × Nat × Nat × Nat)}
    (hy : plainName y.cls = true) (hw : ws = Cond.codeWith y cc maxL ret hh :: ws')
    (body : ∀ p e s m args below meth c s₁, BodyLoose p l y (headSpec ws rm) cc maxL ret e s m args below meth c s₁ → c.maxLocals = maxL → Pc args s →
      W p l e (headSpec ws rm).room s m args below meth c s.heap [] 0 0 (vx_MQ below Qc XC args s mc ms free) (entryFrame m args maxL)) : vx_Met l y ws rm Pc Qc XC mc ms free := by
  refine MetFree.of_bodyS (code := cc) (maxLocals := maxL) (ret := ret) hy ?_ ?_
  · intro args s m h hn
    obtain ⟨m9, meth, c, hn9, h1, h2, h3, h4, -, h5, h6, -⟩ := Cond.codeWith_spec (atoms_spec (ws := ws) h _ (by rw [hw]; exact List.mem_cons_self))
    cases hn.symm.trans hn9
    exact ⟨meth, c, h1, h2, h3, h4, h5, h6⟩
  · intro p e s m args below meth c s₁ B hml hP _
    have hh0 : s₁.heap = s.heap := by rw [B.state]; rfl
    obtain ⟨t, a1, o, b1, b2, b3⟩ := body p e s m args below meth c s₁ B hml hP s₁ hh0 (Stand.of_body B)
    exact ⟨t, o, a1, b1, b2, b3⟩
/-! ===== END ===== -/
end
section
def RX0 : String := "HeaderSqueeze$Context"
def TX0 : u_T := fun k => match k with
  | 0 => ("HeaderSqueeze$Context", "address", "I", false)
  | 1 => ("HeaderSqueeze$Context", "type", "I", false)
  | 2 => ("HeaderSqueeze$Context", "stride", "I", false)
  | 3 => ("HeaderSqueeze$Context", "phase", "I", false)
  | _ => ("HeaderSqueeze$Context", "offset", "I", false)
def tyX0 : Nat → FieldType := fun k => match k with
  | 0 => .int
  | 1 => .int
  | 2 => .int
  | 3 => .int
  | _ => .int
abbrev wsX00 : List Cond := u_ws RX0 TX0 5
theorem nmX0 : ∀ a, a < 5 → ∀ b, b < 5 → a ≠ b → (TX0 a).2.1 ≠ (TX0 b).2.1 := by decide +kernel
theorem tyX0_ok : ∀ k, k < 5 → parseFieldDescriptor (TX0 k).2.2.1 = some (tyX0 k) := by decide +kernel
abbrev cX0_init : ByteArray := prog_2_method_1_code
def yX0_init : MethodName := ⟨RX0, "<init>", "()V"⟩
abbrev cX0_isOf : ByteArray := prog_2_method_2_code
def yX0_isOf : MethodName := ⟨RX0, "isOf", "(LHeaderSqueeze$Head;)Z"⟩
abbrev cX0_goesAlong : ByteArray := prog_2_method_3_code
def yX0_goesAlong : MethodName := ⟨RX0, "goesAlong", "(LHeaderSqueeze$Head;)Z"⟩
abbrev cX0_follow : ByteArray := prog_2_method_4_code
def yX0_follow : MethodName := ⟨RX0, "follow", "(LHeaderSqueeze$Head;I)V"⟩
abbrev cX0_complete : ByteArray := prog_2_method_5_code
def yX0_complete : MethodName := ⟨RX0, "complete", "(LHeaderSqueeze$Head;I)V"⟩
abbrev cX0_phaseOf : ByteArray := prog_2_method_6_code
def yX0_phaseOf : MethodName := ⟨RX0, "phaseOf", "(LHeaderSqueeze$Head;I)I"⟩
abbrev cX0_offsetOf : ByteArray := prog_2_method_7_code
def yX0_offsetOf : MethodName := ⟨RX0, "offsetOf", "(LHeaderSqueeze$Head;)I"⟩
def RX1 : String := "HeaderSqueeze$Head"
def TX1 : u_T := fun k => match k with
  | 0 => ("HeaderSqueeze$Head", "address", "I", false)
  | 1 => ("HeaderSqueeze$Head", "type", "I", false)
  | 2 => ("HeaderSqueeze$Head", "mark", "Z", false)
  | 3 => ("HeaderSqueeze$Head", "number", "I", false)
  | 4 => ("HeaderSqueeze$Head", "time", "I", false)
  | _ => ("HeaderSqueeze$Head", "id", "I", false)
def tyX1 : Nat → FieldType := fun k => match k with
  | 0 => .int
  | 1 => .int
  | 2 => .boolean
  | 3 => .int
  | 4 => .int
  | _ => .int
abbrev wsX10 : List Cond := u_ws RX1 TX1 6
theorem nmX1 : ∀ a, a < 6 → ∀ b, b < 6 → a ≠ b → (TX1 a).2.1 ≠ (TX1 b).2.1 := by decide +kernel
theorem tyX1_ok : ∀ k, k < 6 → parseFieldDescriptor (TX1 k).2.2.1 = some (tyX1 k) := by decide +kernel
abbrev cX1_init : ByteArray := prog_3_method_1_code
def yX1_init : MethodName := ⟨RX1, "<init>", "()V"⟩
abbrev cX1_part : ByteArray := prog_3_method_2_code
def yX1_part : MethodName := ⟨RX1, "part", "(I)I"⟩
abbrev cX1_markBit : ByteArray := prog_3_method_3_code
def yX1_markBit : MethodName := ⟨RX1, "markBit", "()I"⟩
abbrev cX1_sumFor : ByteArray := prog_3_method_4_code
def yX1_sumFor : MethodName := ⟨RX1, "sumFor", "(II)I"⟩
abbrev cX1_sumBehind : ByteArray := prog_3_method_5_code
def yX1_sumBehind : MethodName := ⟨RX1, "sumBehind", "(III)I"⟩
def RX2 : String := "HeaderSqueeze$Line"
def TX2 : u_T := fun k => match k with
  | 0 => ("HeaderSqueeze$Line", "rows", "[LHeaderSqueeze$Packet;", true)
  | _ => ("HeaderSqueeze$Line", "packets", "I", false)
def tyX2 : Nat → FieldType := fun k => match k with
  | 0 => .array (.object "HeaderSqueeze$Packet")
  | _ => .int
abbrev wsX20 : List Cond := u_ws RX2 TX2 2
theorem nmX2 : ∀ a, a < 2 → ∀ b, b < 2 → a ≠ b → (TX2 a).2.1 ≠ (TX2 b).2.1 := by decide +kernel
theorem tyX2_ok : ∀ k, k < 2 → parseFieldDescriptor (TX2 k).2.2.1 = some (tyX2 k) := by decide +kernel
abbrev cX2_init : ByteArray := prog_4_method_1_code
def yX2_init : MethodName := ⟨RX2, "<init>", "()V"⟩
abbrev cX2_rowBehind : ByteArray := prog_4_method_2_code
def yX2_rowBehind : MethodName := ⟨RX2, "rowBehind", "()LHeaderSqueeze$Packet;"⟩
abbrev cX2_addRowBehind : ByteArray := prog_4_method_3_code
def yX2_addRowBehind : MethodName := ⟨RX2, "addRowBehind", "()Z"⟩
abbrev cX2_takeOff : ByteArray := prog_4_method_4_code
def yX2_takeOff : MethodName := ⟨RX2, "takeOff", "(I)LHeaderSqueeze$Packet;"⟩
def RX3 : String := "HeaderSqueeze$Packet"
def TX3 : u_T := fun k => match k with
  | 0 => ("HeaderSqueeze$Packet", "bytes", "[I", true)
  | 1 => ("HeaderSqueeze$Packet", "length", "I", false)
  | 2 => ("HeaderSqueeze$Packet", "flow", "I", false)
  | 3 => ("HeaderSqueeze$Packet", "kind", "I", false)
  | _ => ("HeaderSqueeze$Packet", "start", "I", false)
def tyX3 : Nat → FieldType := fun k => match k with
  | 0 => .array .int
  | 1 => .int
  | 2 => .int
  | 3 => .int
  | _ => .int
abbrev wsX30 : List Cond := u_ws RX3 TX3 5
theorem nmX3 : ∀ a, a < 5 → ∀ b, b < 5 → a ≠ b → (TX3 a).2.1 ≠ (TX3 b).2.1 := by decide +kernel
theorem tyX3_ok : ∀ k, k < 5 → parseFieldDescriptor (TX3 k).2.2.1 = some (tyX3 k) := by decide +kernel
abbrev cX3_init : ByteArray := prog_5_method_1_code
def yX3_init : MethodName := ⟨RX3, "<init>", "()V"⟩
abbrev cX3_write : ByteArray := prog_5_method_2_code
def yX3_write : MethodName := ⟨RX3, "write", "(IILHeaderSqueeze$Head;I)V"⟩
abbrev cX3_putMoving : ByteArray := prog_5_method_3_code
def yX3_putMoving : MethodName := ⟨RX3, "putMoving", "(LHeaderSqueeze$Head;I)V"⟩
abbrev cX3_putTwo : ByteArray := prog_5_method_4_code
def yX3_putTwo : MethodName := ⟨RX3, "putTwo", "(I)V"⟩
abbrev cX3_put : ByteArray := prog_5_method_5_code
def yX3_put : MethodName := ⟨RX3, "put", "(I)V"⟩
abbrev cX3_read : ByteArray := prog_5_method_6_code
def yX3_read : MethodName := ⟨RX3, "read", "()V"⟩
abbrev cX3_kindTold : ByteArray := prog_5_method_7_code
def yX3_kindTold : MethodName := ⟨RX3, "kindTold", "(I)I"⟩
abbrev cX3_isMisshapen : ByteArray := prog_5_method_8_code
def yX3_isMisshapen : MethodName := ⟨RX3, "isMisshapen", "()Z"⟩
abbrev cX3_isNoMark : ByteArray := prog_5_method_9_code
def yX3_isNoMark : MethodName := ⟨RX3, "isNoMark", "(I)Z"⟩
abbrev cX3_own : ByteArray := prog_5_method_10_code
def yX3_own : MethodName := ⟨RX3, "own", "(I)I"⟩
abbrev cX3_ownTwo : ByteArray := prog_5_method_11_code
def yX3_ownTwo : MethodName := ⟨RX3, "ownTwo", "(I)I"⟩
abbrev cX3_sumTold : ByteArray := prog_5_method_12_code
def yX3_sumTold : MethodName := ⟨RX3, "sumTold", "()I"⟩
abbrev cX3_lowTold : ByteArray := prog_5_method_13_code
def yX3_lowTold : MethodName := ⟨RX3, "lowTold", "()I"⟩
abbrev cX3_markTold : ByteArray := prog_5_method_14_code
def yX3_markTold : MethodName := ⟨RX3, "markTold", "()Z"⟩
abbrev cX3_strideTold : ByteArray := prog_5_method_15_code
def yX3_strideTold : MethodName := ⟨RX3, "strideTold", "()I"⟩
abbrev cX3_readFixed : ByteArray := prog_5_method_16_code
def yX3_readFixed : MethodName := ⟨RX3, "readFixed", "(LHeaderSqueeze$Head;)V"⟩
abbrev cX3_readMoving : ByteArray := prog_5_method_17_code
def yX3_readMoving : MethodName := ⟨RX3, "readMoving", "(LHeaderSqueeze$Head;)V"⟩
def RX4 : String := "HeaderSqueeze$Receiver"
def TX4 : u_T := fun k => match k with
  | 0 => ("HeaderSqueeze$Receiver", "context", "LHeaderSqueeze$Context;", true)
  | 1 => ("HeaderSqueeze$Receiver", "level", "I", false)
  | 2 => ("HeaderSqueeze$Receiver", "last", "I", false)
  | 3 => ("HeaderSqueeze$Receiver", "former", "I", false)
  | _ => ("HeaderSqueeze$Receiver", "failures", "I", false)
def tyX4 : Nat → FieldType := fun k => match k with
  | 0 => .object "HeaderSqueeze$Context"
  | 1 => .int
  | 2 => .int
  | 3 => .int
  | _ => .int
abbrev wsX40 : List Cond := u_ws RX4 TX4 5
theorem nmX4 : ∀ a, a < 5 → ∀ b, b < 5 → a ≠ b → (TX4 a).2.1 ≠ (TX4 b).2.1 := by decide +kernel
theorem tyX4_ok : ∀ k, k < 5 → parseFieldDescriptor (TX4 k).2.2.1 = some (tyX4 k) := by decide +kernel
abbrev cX4_init : ByteArray := prog_6_method_1_code
def yX4_init : MethodName := ⟨RX4, "<init>", "()V"⟩
abbrev cX4_hasUseFor : ByteArray := prog_6_method_2_code
def yX4_hasUseFor : MethodName := ⟨RX4, "hasUseFor", "(I)Z"⟩
abbrev cX4_take : ByteArray := prog_6_method_3_code
def yX4_take : MethodName := ⟨RX4, "take", "(LHeaderSqueeze$Packet;LHeaderSqueeze$Head;)I"⟩
abbrev cX4_makeMoving : ByteArray := prog_6_method_4_code
def yX4_makeMoving : MethodName := ⟨RX4, "makeMoving", "(LHeaderSqueeze$Packet;LHeaderSqueeze$Head;)I"⟩
abbrev cX4_makeSmall : ByteArray := prog_6_method_5_code
def yX4_makeSmall : MethodName := ⟨RX4, "makeSmall", "(LHeaderSqueeze$Packet;LHeaderSqueeze$Head;)I"⟩
abbrev cX4_numberNear : ByteArray := prog_6_method_6_code
def yX4_numberNear : MethodName := ⟨RX4, "numberNear", "(ILHeaderSqueeze$Packet;)I"⟩
abbrev cX4_fits : ByteArray := prog_6_method_7_code
def yX4_fits : MethodName := ⟨RX4, "fits", "(LHeaderSqueeze$Packet;LHeaderSqueeze$Head;I)Z"⟩
abbrev cX4_noteMade : ByteArray := prog_6_method_8_code
def yX4_noteMade : MethodName := ⟨RX4, "noteMade", "(I)V"⟩
abbrev cX4_noteFailure : ByteArray := prog_6_method_9_code
def yX4_noteFailure : MethodName := ⟨RX4, "noteFailure", "()V"⟩
def RX5 : String := "HeaderSqueeze$Sender"
def TX5 : u_T := fun k => match k with
  | 0 => ("HeaderSqueeze$Sender", "context", "LHeaderSqueeze$Context;", true)
  | 1 => ("HeaderSqueeze$Sender", "wishedStride", "I", false)
  | 2 => ("HeaderSqueeze$Sender", "state", "I", false)
  | 3 => ("HeaderSqueeze$Sender", "sentInState", "I", false)
  | 4 => ("HeaderSqueeze$Sender", "age", "I", false)
  | 5 => ("HeaderSqueeze$Sender", "hasContext", "Z", false)
  | 6 => ("HeaderSqueeze$Sender", "numbers", "[I", true)
  | _ => ("HeaderSqueeze$Sender", "numbersSent", "I", false)
def tyX5 : Nat → FieldType := fun k => match k with
  | 0 => .object "HeaderSqueeze$Context"
  | 1 => .int
  | 2 => .int
  | 3 => .int
  | 4 => .int
  | 5 => .boolean
  | 6 => .array .int
  | _ => .int
abbrev wsX50 : List Cond := u_ws RX5 TX5 8
theorem nmX5 : ∀ a, a < 8 → ∀ b, b < 8 → a ≠ b → (TX5 a).2.1 ≠ (TX5 b).2.1 := by decide +kernel
theorem tyX5_ok : ∀ k, k < 8 → parseFieldDescriptor (TX5 k).2.2.1 = some (tyX5 k) := by decide +kernel
abbrev cX5_init : ByteArray := prog_7_method_1_code
def yX5_init : MethodName := ⟨RX5, "<init>", "()V"⟩
abbrev cX5_chooseKind : ByteArray := prog_7_method_2_code
def yX5_chooseKind : MethodName := ⟨RX5, "chooseKind", "(LHeaderSqueeze$Head;)I"⟩
abbrev cX5_noteSent : ByteArray := prog_7_method_3_code
def yX5_noteSent : MethodName := ⟨RX5, "noteSent", "(II)V"⟩
abbrev cX5_enter : ByteArray := prog_7_method_4_code
def yX5_enter : MethodName := ⟨RX5, "enter", "(I)V"⟩
abbrev cX5_smallestKind : ByteArray := prog_7_method_5_code
def yX5_smallestKind : MethodName := ⟨RX5, "smallestKind", "(LHeaderSqueeze$Head;)I"⟩
abbrev cX5_isEnough : ByteArray := prog_7_method_6_code
def yX5_isEnough : MethodName := ⟨RX5, "isEnough", "(II)Z"⟩
def RX6 : String := "HeaderSqueeze"
def TX6 : u_T := fun k => match k with
  | 0 => ("HeaderSqueeze", "next", "LHeaderSqueeze$Head;", true)
  | 1 => ("HeaderSqueeze", "onTheWay", "LHeaderSqueeze$Line;", true)
  | 2 => ("HeaderSqueeze", "senders", "[LHeaderSqueeze$Sender;", true)
  | 3 => ("HeaderSqueeze", "receivers", "[LHeaderSqueeze$Receiver;", true)
  | 4 => ("HeaderSqueeze", "counts", "[I", true)
  | 5 => ("HeaderSqueeze", "latest", "LHeaderSqueeze$Head;", false)
  | _ => ("HeaderSqueeze", "trial", "LHeaderSqueeze$Head;", false)
def tyX6 : Nat → FieldType := fun k => match k with
  | 0 => .object "HeaderSqueeze$Head"
  | 1 => .object "HeaderSqueeze$Line"
  | 2 => .array (.object "HeaderSqueeze$Sender")
  | 3 => .array (.object "HeaderSqueeze$Receiver")
  | 4 => .array .int
  | 5 => .object "HeaderSqueeze$Head"
  | _ => .object "HeaderSqueeze$Head"
abbrev wsX60 : List Cond := u_ws RX6 TX6 7
theorem nmX6 : ∀ a, a < 7 → ∀ b, b < 7 → a ≠ b → (TX6 a).2.1 ≠ (TX6 b).2.1 := by decide +kernel
theorem tyX6_ok : ∀ k, k < 7 → parseFieldDescriptor (TX6 k).2.2.1 = some (tyX6 k) := by decide +kernel
abbrev cX6_init : ByteArray := prog_1_method_1_code
def yX6_init : MethodName := ⟨RX6, "<init>", "()V"⟩
abbrev cX6_stride : ByteArray := prog_1_method_2_code
def yX6_stride : MethodName := ⟨RX6, "stride", "(II)V"⟩
abbrev cX6_head : ByteArray := prog_1_method_3_code
def yX6_head : MethodName := ⟨RX6, "head", "(IIZ)V"⟩
abbrev cX6_send : ByteArray := prog_1_method_4_code
def yX6_send : MethodName := ⟨RX6, "send", "(IIII)I"⟩
abbrev cX6_line : ByteArray := prog_1_method_5_code
def yX6_line : MethodName := ⟨RX6, "line", "()I"⟩
abbrev cX6_size : ByteArray := prog_1_method_6_code
def yX6_size : MethodName := ⟨RX6, "size", "(I)I"⟩
abbrev cX6_byteAt : ByteArray := prog_1_method_7_code
def yX6_byteAt : MethodName := ⟨RX6, "byteAt", "(II)I"⟩
abbrev cX6_spoil : ByteArray := prog_1_method_8_code
def yX6_spoil : MethodName := ⟨RX6, "spoil", "(III)V"⟩
abbrev cX6_lose : ByteArray := prog_1_method_9_code
def yX6_lose : MethodName := ⟨RX6, "lose", "(I)V"⟩
abbrev cX6_deliver : ByteArray := prog_1_method_10_code
def yX6_deliver : MethodName := ⟨RX6, "deliver", "(I)I"⟩
abbrev cX6_made : ByteArray := prog_1_method_11_code
def yX6_made : MethodName := ⟨RX6, "made", "(I)I"⟩
abbrev cX6_sender : ByteArray := prog_1_method_12_code
def yX6_sender : MethodName := ⟨RX6, "sender", "(II)I"⟩
abbrev cX6_receiver : ByteArray := prog_1_method_13_code
def yX6_receiver : MethodName := ⟨RX6, "receiver", "(II)I"⟩
abbrev cX6_count : ByteArray := prog_1_method_14_code
def yX6_count : MethodName := ⟨RX6, "count", "(I)I"⟩
abbrev cX6_keepTrial : ByteArray := prog_1_method_15_code
def yX6_keepTrial : MethodName := ⟨RX6, "keepTrial", "()V"⟩
abbrev cX6_isNoPacket : ByteArray := prog_1_method_16_code
def yX6_isNoPacket : MethodName := ⟨RX6, "isNoPacket", "(I)Z"⟩
abbrev cX6_isNoByte : ByteArray := prog_1_method_17_code
def yX6_isNoByte : MethodName := ⟨RX6, "isNoByte", "(II)Z"⟩
abbrev cX6_isNoFlow : ByteArray := prog_1_method_18_code
def yX6_isNoFlow : MethodName := ⟨RX6, "isNoFlow", "(I)Z"⟩
abbrev cX6_isNotInTwoBytes : ByteArray := prog_1_method_19_code
def yX6_isNotInTwoBytes : MethodName := ⟨RX6, "isNotInTwoBytes", "(I)Z"⟩
def RX7 : String := "HeaderSqueezeModel"
def TX7 : u_T := fun k => match k with
  | 0 => ("HeaderSqueezeModel", "thrown", "I", false)
  | 1 => ("HeaderSqueezeModel", "address", "I", false)
  | 2 => ("HeaderSqueezeModel", "type", "I", false)
  | 3 => ("HeaderSqueezeModel", "mark", "Z", false)
  | 4 => ("HeaderSqueezeModel", "wished", "[I", false)
  | 5 => ("HeaderSqueezeModel", "has", "[Z", false)
  | 6 => ("HeaderSqueezeModel", "sendAddress", "[I", false)
  | 7 => ("HeaderSqueezeModel", "sendType", "[I", false)
  | 8 => ("HeaderSqueezeModel", "sendStride", "[I", false)
  | 9 => ("HeaderSqueezeModel", "sendPhase", "[I", false)
  | 10 => ("HeaderSqueezeModel", "sendOffset", "[I", false)
  | 11 => ("HeaderSqueezeModel", "state", "[I", false)
  | 12 => ("HeaderSqueezeModel", "sent", "[I", false)
  | 13 => ("HeaderSqueezeModel", "age", "[I", false)
  | 14 => ("HeaderSqueezeModel", "known", "[I", false)
  | 15 => ("HeaderSqueezeModel", "numbers", "[I", false)
  | 16 => ("HeaderSqueezeModel", "packets", "I", false)
  | 17 => ("HeaderSqueezeModel", "sizes", "[I", false)
  | 18 => ("HeaderSqueezeModel", "bytes", "[I", false)
  | 19 => ("HeaderSqueezeModel", "level", "[I", false)
  | 20 => ("HeaderSqueezeModel", "getAddress", "[I", false)
  | 21 => ("HeaderSqueezeModel", "getType", "[I", false)
  | 22 => ("HeaderSqueezeModel", "getStride", "[I", false)
  | 23 => ("HeaderSqueezeModel", "getPhase", "[I", false)
  | 24 => ("HeaderSqueezeModel", "getOffset", "[I", false)
  | 25 => ("HeaderSqueezeModel", "last", "[I", false)
  | 26 => ("HeaderSqueezeModel", "former", "[I", false)
  | 27 => ("HeaderSqueezeModel", "failed", "[I", false)
  | 28 => ("HeaderSqueezeModel", "made", "[I", false)
  | 29 => ("HeaderSqueezeModel", "counts", "[I", false)
  | 30 => ("HeaderSqueezeModel", "head", "[I", false)
  | 31 => ("HeaderSqueezeModel", "length", "I", false)
  | _ => ("HeaderSqueezeModel", "packet", "[I", false)
def tyX7 : Nat → FieldType := fun k => match k with
  | 0 => .int
  | 1 => .int
  | 2 => .int
  | 3 => .boolean
  | 4 => .array .int
  | 5 => .array .boolean
  | 6 => .array .int
  | 7 => .array .int
  | 8 => .array .int
  | 9 => .array .int
  | 10 => .array .int
  | 11 => .array .int
  | 12 => .array .int
  | 13 => .array .int
  | 14 => .array .int
  | 15 => .array .int
  | 16 => .int
  | 17 => .array .int
  | 18 => .array .int
  | 19 => .array .int
  | 20 => .array .int
  | 21 => .array .int
  | 22 => .array .int
  | 23 => .array .int
  | 24 => .array .int
  | 25 => .array .int
  | 26 => .array .int
  | 27 => .array .int
  | 28 => .array .int
  | 29 => .array .int
  | 30 => .array .int
  | 31 => .int
  | _ => .array .int
abbrev wsX70 : List Cond := u_ws RX7 TX7 33
theorem nmX7 : ∀ a, a < 33 → ∀ b, b < 33 → a ≠ b → (TX7 a).2.1 ≠ (TX7 b).2.1 := by decide +kernel
theorem tyX7_ok : ∀ k, k < 33 → parseFieldDescriptor (TX7 k).2.2.1 = some (tyX7 k) := by decide +kernel
abbrev cX7_init : ByteArray := prog_9_method_1_code
def yX7_init : MethodName := ⟨RX7, "<init>", "()V"⟩
abbrev cX7_thrown : ByteArray := prog_9_method_2_code
def yX7_thrown : MethodName := ⟨RX7, "thrown", "()I"⟩
abbrev cX7_fill : ByteArray := prog_9_method_3_code
def yX7_fill : MethodName := ⟨RX7, "fill", "(IIZIII)V"⟩
abbrev cX7_sum : ByteArray := prog_9_method_4_code
def yX7_sum : MethodName := ⟨RX7, "sum", "(II)I"⟩
abbrev cX7_bitsOf : ByteArray := prog_9_method_5_code
def yX7_bitsOf : MethodName := ⟨RX7, "bitsOf", "(I)I"⟩
abbrev cX7_backOf : ByteArray := prog_9_method_6_code
def yX7_backOf : MethodName := ⟨RX7, "backOf", "(I)I"⟩
abbrev cX7_noFlow : ByteArray := prog_9_method_7_code
def yX7_noFlow : MethodName := ⟨RX7, "noFlow", "(I)Z"⟩
abbrev cX7_outside : ByteArray := prog_9_method_8_code
def yX7_outside : MethodName := ⟨RX7, "outside", "(I)Z"⟩
abbrev cX7_stride : ByteArray := prog_9_method_9_code
def yX7_stride : MethodName := ⟨RX7, "stride", "(II)V"⟩
abbrev cX7_head : ByteArray := prog_9_method_10_code
def yX7_head : MethodName := ⟨RX7, "head", "(IIZ)V"⟩
abbrev cX7_enough : ByteArray := prog_9_method_11_code
def yX7_enough : MethodName := ⟨RX7, "enough", "(III)Z"⟩
abbrev cX7_put : ByteArray := prog_9_method_12_code
def yX7_put : MethodName := ⟨RX7, "put", "(I)V"⟩
abbrev cX7_putRest : ByteArray := prog_9_method_13_code
def yX7_putRest : MethodName := ⟨RX7, "putRest", "(I)V"⟩
abbrev cX7_write : ByteArray := prog_9_method_14_code
def yX7_write : MethodName := ⟨RX7, "write", "(III)V"⟩
abbrev cX7_choose : ByteArray := prog_9_method_15_code
def yX7_choose : MethodName := ⟨RX7, "choose", "(II)I"⟩
abbrev cX7_note : ByteArray := prog_9_method_16_code
def yX7_note : MethodName := ⟨RX7, "note", "(II)V"⟩
abbrev cX7_send : ByteArray := prog_9_method_17_code
def yX7_send : MethodName := ⟨RX7, "send", "(IIII)I"⟩
abbrev cX7_noPacket : ByteArray := prog_9_method_18_code
def yX7_noPacket : MethodName := ⟨RX7, "noPacket", "(I)Z"⟩
abbrev cX7_noByte : ByteArray := prog_9_method_19_code
def yX7_noByte : MethodName := ⟨RX7, "noByte", "(II)Z"⟩
abbrev cX7_line : ByteArray := prog_9_method_20_code
def yX7_line : MethodName := ⟨RX7, "line", "()I"⟩
abbrev cX7_size : ByteArray := prog_9_method_21_code
def yX7_size : MethodName := ⟨RX7, "size", "(I)I"⟩
abbrev cX7_byteAt : ByteArray := prog_9_method_22_code
def yX7_byteAt : MethodName := ⟨RX7, "byteAt", "(II)I"⟩
abbrev cX7_spoil : ByteArray := prog_9_method_23_code
def yX7_spoil : MethodName := ⟨RX7, "spoil", "(III)V"⟩
abbrev cX7_off : ByteArray := prog_9_method_24_code
def yX7_off : MethodName := ⟨RX7, "off", "(I)V"⟩
abbrev cX7_lose : ByteArray := prog_9_method_25_code
def yX7_lose : MethodName := ⟨RX7, "lose", "(I)V"⟩
abbrev cX7_kindOf : ByteArray := prog_9_method_26_code
def yX7_kindOf : MethodName := ⟨RX7, "kindOf", "(I)I"⟩
abbrev cX7_sizeOf : ByteArray := prog_9_method_27_code
def yX7_sizeOf : MethodName := ⟨RX7, "sizeOf", "(I)I"⟩
abbrev cX7_broken : ByteArray := prog_9_method_28_code
def yX7_broken : MethodName := ⟨RX7, "broken", "(II)Z"⟩
abbrev cX7_two : ByteArray := prog_9_method_29_code
def yX7_two : MethodName := ⟨RX7, "two", "(I)I"⟩
abbrev cX7_near : ByteArray := prog_9_method_30_code
def yX7_near : MethodName := ⟨RX7, "near", "(III)I"⟩
abbrev cX7_fits : ByteArray := prog_9_method_31_code
def yX7_fits : MethodName := ⟨RX7, "fits", "(IIIZI)Z"⟩
abbrev cX7_keep : ByteArray := prog_9_method_32_code
def yX7_keep : MethodName := ⟨RX7, "keep", "(II)V"⟩
abbrev cX7_fail : ByteArray := prog_9_method_33_code
def yX7_fail : MethodName := ⟨RX7, "fail", "(I)V"⟩
abbrev cX7_comeSmall : ByteArray := prog_9_method_34_code
def yX7_comeSmall : MethodName := ⟨RX7, "comeSmall", "(III)I"⟩
abbrev cX7_comeWhole : ByteArray := prog_9_method_35_code
def yX7_comeWhole : MethodName := ⟨RX7, "comeWhole", "(III)Z"⟩
abbrev cX7_deliver : ByteArray := prog_9_method_36_code
def yX7_deliver : MethodName := ⟨RX7, "deliver", "(I)I"⟩
abbrev cX7_made : ByteArray := prog_9_method_37_code
def yX7_made : MethodName := ⟨RX7, "made", "(I)I"⟩
abbrev cX7_sender : ByteArray := prog_9_method_38_code
def yX7_sender : MethodName := ⟨RX7, "sender", "(II)I"⟩
abbrev cX7_receiver : ByteArray := prog_9_method_39_code
def yX7_receiver : MethodName := ⟨RX7, "receiver", "(II)I"⟩
abbrev cX7_count : ByteArray := prog_9_method_40_code
def yX7_count : MethodName := ⟨RX7, "count", "(I)I"⟩
def RJx00060 : String := "java/lang/ArrayIndexOutOfBoundsException"
def TJx00060 : u_T := fun k => match k with
  | 0 => ("java/lang/Throwable", "backtrace", "Ljava/lang/Object;", false)
  | 1 => ("java/lang/Throwable", "detailMessage", "Ljava/lang/String;", false)
  | 2 => ("java/lang/Throwable", "cause", "Ljava/lang/Throwable;", false)
  | 3 => ("java/lang/Throwable", "stackTrace", "[Ljava/lang/StackTraceElement;", false)
  | 4 => ("java/lang/Throwable", "depth", "I", false)
  | _ => ("java/lang/Throwable", "suppressedExceptions", "Ljava/util/List;", false)
def tyJx00060 : Nat → FieldType := fun k => match k with
  | 0 => .object "java/lang/Object"
  | 1 => .object "java/lang/String"
  | 2 => .object "java/lang/Throwable"
  | 3 => .array (.object "java/lang/StackTraceElement")
  | 4 => .int
  | _ => .object "java/util/List"
abbrev wsJx000600 : List Cond := u_ws RJx00060 TJx00060 6
theorem nmJx00060 : ∀ a, a < 6 → ∀ b, b < 6 → a ≠ b → (TJx00060 a).2.1 ≠ (TJx00060 b).2.1 := by decide +kernel
theorem tyJx00060_ok : ∀ k, k < 6 → parseFieldDescriptor (TJx00060 k).2.2.1 = some (tyJx00060 k) := by decide +kernel
abbrev cJx00060_init_a7421 : ByteArray := prog_11_method_2_code
def yJx00060_init_a7421 : MethodName := ⟨RJx00060, "<init>", "(Ljava/lang/String;)V"⟩
def RJ9 : String := "java/lang/Math"
def TJ9 : u_T := fun k => match k with
  | _ => ("", "", "", false)
def tyJ9 : Nat → FieldType := fun k => match k with
  | _ => .int
abbrev wsJ90 : List Cond := u_ws RJ9 TJ9 0
theorem nmJ9 : ∀ a, a < 0 → ∀ b, b < 0 → a ≠ b → (TJ9 a).2.1 ≠ (TJ9 b).2.1 := by decide +kernel
theorem tyJ9_ok : ∀ k, k < 0 → parseFieldDescriptor (TJ9 k).2.2.1 = some (tyJ9 k) := by decide +kernel
abbrev cJ9_max_7cf53 : ByteArray := prog_16_method_65_code
def yJ9_max_7cf53 : MethodName := ⟨RJ9, "max", "(II)I"⟩
abbrev cJ9_min_7cf53 : ByteArray := prog_16_method_69_code
def yJ9_min_7cf53 : MethodName := ⟨RJ9, "min", "(II)I"⟩
def RJ0 : String := "java/lang/String"
def TJ0 : u_T := fun k => match k with
  | 0 => ("java/lang/String", "value", "[B", true)
  | _ => ("java/lang/String", "coder", "B", true)
def tyJ0 : Nat → FieldType := fun k => match k with
  | 0 => .array .byte
  | _ => .byte
abbrev wsJ00 : List Cond := u_ws RJ0 TJ0 2
theorem nmJ0 : ∀ a, a < 2 → ∀ b, b < 2 → a ≠ b → (TJ0 a).2.1 ≠ (TJ0 b).2.1 := by decide +kernel
theorem tyJ0_ok : ∀ k, k < 2 → parseFieldDescriptor (TJ0 k).2.2.1 = some (tyJ0 k) := by decide +kernel
def RL : String := "HeaderSqueezeLaw"
abbrev cL_stride : ByteArray := method_3_code
def yL_stride : MethodName := ⟨RL, "stride", "(LHeaderSqueeze;II)I"⟩
abbrev cL_head : ByteArray := method_4_code
def yL_head : MethodName := ⟨RL, "head", "(LHeaderSqueeze;IIZ)I"⟩
abbrev cL_send : ByteArray := method_5_code
def yL_send : MethodName := ⟨RL, "send", "(LHeaderSqueeze;IIII[J)I"⟩
abbrev cL_size : ByteArray := method_6_code
def yL_size : MethodName := ⟨RL, "size", "(LHeaderSqueeze;I[J)I"⟩
abbrev cL_byteAt : ByteArray := method_7_code
def yL_byteAt : MethodName := ⟨RL, "byteAt", "(LHeaderSqueeze;II[J)I"⟩
abbrev cL_spoil : ByteArray := method_8_code
def yL_spoil : MethodName := ⟨RL, "spoil", "(LHeaderSqueeze;III)I"⟩
abbrev cL_lose : ByteArray := method_9_code
def yL_lose : MethodName := ⟨RL, "lose", "(LHeaderSqueeze;I)I"⟩
abbrev cL_deliver : ByteArray := method_10_code
def yL_deliver : MethodName := ⟨RL, "deliver", "(LHeaderSqueeze;I[J)I"⟩
abbrev cL_made : ByteArray := method_11_code
def yL_made : MethodName := ⟨RL, "made", "(LHeaderSqueeze;I[J)I"⟩
abbrev cL_sender : ByteArray := method_12_code
def yL_sender : MethodName := ⟨RL, "sender", "(LHeaderSqueeze;II[J)I"⟩
abbrev cL_receiver : ByteArray := method_13_code
def yL_receiver : MethodName := ⟨RL, "receiver", "(LHeaderSqueeze;II[J)I"⟩
abbrev cL_count : ByteArray := method_14_code
def yL_count : MethodName := ⟨RL, "count", "(LHeaderSqueeze;I[J)I"⟩
abbrev cL_law : ByteArray := code
def yL_law : MethodName := ⟨RL, "law", "([I)Z"⟩
def wsJx00060_init_a7421 : List Cond := .code yJx00060_init_a7421 cJx00060_init_a7421 2 none :: ([])
def wsJ9_max_7cf53 : List Cond := .code yJ9_max_7cf53 cJ9_max_7cf53 2 (some .int) :: ([])
def wsJ9_min_7cf53 : List Cond := .code yJ9_min_7cf53 cJ9_min_7cf53 2 (some .int) :: ([])
abbrev vwCl : List vw_C := [(RJ0, TJ0, 2), (RJx00060, TJx00060, 6), (RX0, TX0, 5), (RX1, TX1, 6), (RX2, TX2, 2), (RX3, TX3, 5), (RX4, TX4, 5), (RX5, TX5, 8), (RX6, TX6, 7), (RX7, TX7, 33)]
theorem inX0 : ∀ w ∈ wsX00, w ∈ lw_tbl := by decide +kernel
theorem inX1 : ∀ w ∈ wsX10, w ∈ lw_tbl := by decide +kernel
theorem inX2 : ∀ w ∈ wsX20, w ∈ lw_tbl := by decide +kernel
theorem inX3 : ∀ w ∈ wsX30, w ∈ lw_tbl := by decide +kernel
theorem inX4 : ∀ w ∈ wsX40, w ∈ lw_tbl := by decide +kernel
theorem inX5 : ∀ w ∈ wsX50, w ∈ lw_tbl := by decide +kernel
theorem inX6 : ∀ w ∈ wsX60, w ∈ lw_tbl := by decide +kernel
theorem inX7 : ∀ w ∈ wsX70, w ∈ lw_tbl := by decide +kernel
end
section
/-! ===== memories: what stands in place k of cell i; a pointer is the number of a cell ===== -/
abbrev hs_M : Type := Nat → Nat → Int32
def hs_U (S : hs_M) (i k : Nat) (x : Int32) : hs_M := fun a b => if a = i ∧ b = k then x else S a b
theorem hs_U_row (S : hs_M) (i k : Nat) (x : Int32) : hs_U S i k x i = upd (S i) k x := by
  funext b
  simp [hs_U, upd]
theorem hs_U_ne (S : hs_M) {i a : Nat} (k : Nat) (x : Int32) (h : a ≠ i) : hs_U S i k x a = S a := by
  funext b
  simp [hs_U, h]
/-- the kind of a cell: 0 .. 7 an object of a class, 8 .. 15 an array -/
def hs_K (i : Nat) : Nat := if i = 0 then 6 else if i < 4 then 1 else if i = 4 then 2 else if i = 5 then 10 else if i < 15 then 3 else if i < 24 then 8 else if i = 24 then 12 else if i < 29 then 5 else if i < 33 then 0 else if i < 37 then 8 else if i = 37 then 11 else if i < 42 then 4 else if i < 46 then 0 else if i = 46 then 8 else if i = 47 then 13 else if i < 100 then 99 else if i = 100 then 7 else if i = 102 then 15 else if i < 128 then 14 else 99
/-- how long an array is -/
def hs_N (i : Nat) : Nat := if i = 5 then 9 else if i < 24 then 17 else if i < 46 then 4 else if i = 46 then 11 else if i = 47 then 1 else if i = 112 then 16 else if i = 113 then 8 else if i = 114 then 160 else if i = 124 then 11 else if i = 125 then 11 else if i = 126 then 13 else if i = 127 then 20 else 4
/-- how many fields an object has -/
def hs_nf (kd : Nat) : Nat := if kd = 0 then 5 else if kd = 1 then 6 else if kd = 2 then 2 else if kd = 3 then 5 else if kd = 4 then 5 else if kd = 5 then 8 else if kd = 6 then 7 else 33
/-- a field's sort: 0 a number, 1 a pointer that the memory holds, o + 2 the cell o further on -/
def hs_rk (kd k : Nat) : Nat :=
  if kd = 2 then (if k = 0 then 3 else 0) else if kd = 3 then (if k = 0 then 11 else 0) else if kd = 4 then (if k = 0 then 6 else 0) else if kd = 5 then (if k = 0 then 6 else if k = 6 then 10 else 0)
  else if kd = 6 then (if k = 0 then 3 else if k = 1 then 6 else if k = 2 then 26 else if k = 3 then 39 else if k = 4 then 48 else 1)
  else if kd = 7 then (if k < 4 then 0 else if k < 16 then k - 1 else if k = 16 then 0 else if k < 31 then k - 2 else if k = 31 then 0 else k - 3) else 0
def hs_v (q : Nat → Nat) (S : hs_M) (kd i k : Nat) : Value := if hs_rk kd k = 0 then .int (S i k) else if hs_rk kd k = 1 then .ref (q (S i k).toNatClampNeg) else .ref (q (i + (hs_rk kd k - 2)))
def hs_ar (q : Nat → Nat) (S : hs_M) (kd i : Nat) : (Nat → Int32) ⊕ (Nat → Int64) ⊕ (Nat → UInt32) ⊕ (Nat → UInt64) ⊕ (Nat → Option Nat) :=
  if kd = 10 then .inr (.inr (.inr (.inr (fun j => some (q (S i j).toNatClampNeg))))) else if kd = 11 then .inr (.inr (.inr (.inr (fun j => some (q (38 + j)))))) else if kd = 12 then .inr (.inr (.inr (.inr (fun j => some (q (25 + j)))))) else if kd = 13 then .inr (.inl (fun j => (S i j).toInt64)) else .inl (S i)
def hs_e (q : Nat → Nat) (cy : Nat → ClassId) (S : hs_M) (i : Nat) : va_E :=
  if hs_K i < 8 then .inr (hs_K i + 2, (List.range (hs_nf (hs_K i))).map (hs_v q S (hs_K i) i)) else .inl (cy (hs_K i), hs_N i, hs_ar q S (hs_K i) i)
/-- the world of a kind: 0 the class's, 1 the reference's -/
def hs_wk (kd : Nat) : Nat := if kd = 7 then 1 else if kd = 14 then 1 else if kd = 15 then 1 else if kd = 99 then 2 else 0
def hs_bs (wd : Nat) : Nat := if wd = 0 then 0 else 100
def hs_nn (wd : Nat) : Nat := if wd = 0 then 48 else 28
def hs_ws (q : Nat → Nat) (cy : Nat → ClassId) (wd : Nat) (S : hs_M) : va_W := (List.range (hs_nn wd)).map (fun p => (q (hs_bs wd + p), hs_e q cy S (hs_bs wd + p)))
def hs_tys (cy : Nat → ClassId) : List (ClassId × FieldType) := [(cy 8, .int), (cy 10, .object RX3), (cy 11, .object RX4), (cy 12, .object RX5), (cy 13, .long), (cy 14, .int), (cy 15, .boolean)]
theorem hs_Kdec (P : Nat → Nat → Prop) (h : ∀ i, i < 128 → P i (hs_K i)) (h2 : ∀ i, P i 99) (i : Nat) : P i (hs_K i) := by
  by_cases hi : i < 128
  · exact h i hi
  · have e : hs_K i = 99 := by
      unfold hs_K
      repeat (first | rw [if_neg (show ¬ _ by omega)] | rfl)
    rw [e]
    exact h2 i
theorem hs_inw0 : ∀ i : Nat, hs_wk (hs_K i) = 0 → i < 48 := hs_Kdec (fun i k => hs_wk k = 0 → i < 48) (by decide +kernel) (fun i h => absurd h (by decide))
theorem hs_inw1 : ∀ i : Nat, hs_wk (hs_K i) = 1 → 100 ≤ i ∧ i < 128 := hs_Kdec (fun i k => hs_wk k = 1 → 100 ≤ i ∧ i < 128) (by decide +kernel) (fun i h => absurd h (by decide))
theorem hs_inw {i wd : Nat} (hw : hs_wk (hs_K i) = wd) (h1 : wd ≤ 1) : hs_bs wd ≤ i ∧ i < hs_bs wd + hs_nn wd := by
  rcases (show wd = 0 ∨ wd = 1 by omega) with rfl | rfl
  · have := hs_inw0 i hw
    simp [hs_bs, hs_nn]
    exact this
  · have := hs_inw1 i hw
    simp [hs_bs, hs_nn]
    exact this
theorem hs_at {q : Nat → Nat} {cy : Nat → ClassId} {S : hs_M} {wd i : Nat} (h : hs_bs wd ≤ i ∧ i < hs_bs wd + hs_nn wd) : (hs_ws q cy wd S)[i - hs_bs wd]? = some (q i, hs_e q cy S i) := by
  have e : hs_bs wd + (i - hs_bs wd) = i := by omega
  unfold hs_ws
  rw [List.getElem?_map, List.getElem?_range (by omega)]
  simp only [Option.map_some]
  rw [e]
theorem hs_atL {q : Nat → Nat} {cy : Nat → ClassId} {S : hs_M} {wd p : Nat} {x : Nat × va_E} (h : (hs_ws q cy wd S)[p]? = some x) : p < hs_nn wd ∧ x = (q (hs_bs wd + p), hs_e q cy S (hs_bs wd + p)) := by
  unfold hs_ws at h
  rw [List.getElem?_map] at h
  by_cases hp : p < hs_nn wd
  · rw [List.getElem?_range hp] at h
    exact ⟨hp, (Option.some.inj h).symm⟩
  · rw [List.getElem?_eq_none (by rw [List.length_range]; omega)] at h
    cases h
theorem hs_v_c {q : Nat → Nat} {S S' : hs_M} {i : Nat} (h : S' i = S i) (kd : Nat) : hs_v q S' kd i = hs_v q S kd i := by
  funext k
  simp only [hs_v, h]
theorem hs_e_c {q : Nat → Nat} {cy : Nat → ClassId} {S S' : hs_M} {i : Nat} (h : S' i = S i) : hs_e q cy S' i = hs_e q cy S i := by
  simp only [hs_e, hs_v_c h, hs_ar, h]
theorem hs_setw {q : Nat → Nat} {cy : Nat → ClassId} {S S' : hs_M} {wd i : Nat} (h : hs_bs wd ≤ i ∧ i < hs_bs wd + hs_nn wd) (ho : ∀ j, j ≠ i → S' j = S j) {e : va_E} (he : hs_e q cy S' i = e) : (hs_ws q cy wd S).set (i - hs_bs wd) (q i, e) = hs_ws q cy wd S' := by
  apply List.ext_getElem?
  intro n
  by_cases hn : n = i - hs_bs wd
  · subst hn
    have hl := (List.getElem?_eq_some_iff.mp (hs_at (q := q) (cy := cy) (S := S) h)).1
    rw [List.getElem?_set_self hl, hs_at h, he]
  · rw [List.getElem?_set_ne (Ne.symm hn)]
    unfold hs_ws
    rw [List.getElem?_map, List.getElem?_map]
    by_cases hp : n < hs_nn wd
    · rw [List.getElem?_range hp]
      simp only [Option.map_some]
      rw [hs_e_c (ho (hs_bs wd + n) (by omega))]
    · rw [List.getElem?_eq_none (by rw [List.length_range]; omega)]
      rfl
theorem hs_Dmv {q : Nat → Nat} {cy : Nat → ClassId} {S S' : hs_M} {wd : Nat} {A : Nat → Prop} (h : va_D A (hs_ws q cy wd S)) : va_D A (hs_ws q cy wd S') := by
  have key : ∀ (k : Nat) (x : Nat × va_E), (hs_ws q cy wd S')[k]? = some x → (hs_ws q cy wd S)[k]? = some (x.1, hs_e q cy S (hs_bs wd + k)) := by
    intro k x hk
    obtain ⟨h1, rfl⟩ := hs_atL hk
    have h2 := hs_at (q := q) (cy := cy) (S := S) (wd := wd) (i := hs_bs wd + k) (by omega)
    rw [show hs_bs wd + k - hs_bs wd = k by omega] at h2
    exact h2
  exact ⟨fun i j x y hi hj hxy => h.1 i j _ _ (key i x hi) (key j y hj) hxy, fun k x hk => h.2 k (x.1, hs_e q cy S (hs_bs wd + k)) (key k x hk)⟩
theorem hs_Amv {q : Nat → Nat} {cy : Nat → ClassId} {S S' : hs_M} {wd sz a : Nat} (h : va_A (hs_ws q cy wd S) sz a) : va_A (hs_ws q cy wd S') sz a := by
  rcases h with ⟨k, e, h⟩ | h
  · obtain ⟨h1, h3⟩ := hs_atL h
    have h2 := hs_at (q := q) (cy := cy) (S := S') (wd := wd) (i := hs_bs wd + k) (by omega)
    rw [show hs_bs wd + k - hs_bs wd = k by omega] at h2
    refine Or.inl ⟨k, hs_e q cy S' (hs_bs wd + k), ?_⟩
    rw [h2, (Prod.mk.inj h3).1]
  · exact Or.inr h
theorem hs_e_o {q : Nat → Nat} {cy : Nat → ClassId} {S : hs_M} {i kd : Nat} (hk : hs_K i = kd) (h8 : kd < 8) : hs_e q cy S i = .inr (kd + 2, (List.range (hs_nf kd)).map (hs_v q S kd i)) := by
  subst hk
  unfold hs_e
  rw [if_pos h8]
theorem hs_e_a {q : Nat → Nat} {cy : Nat → ClassId} {S : hs_M} {i kd : Nat} (hk : hs_K i = kd) (h8 : ¬ kd < 8) : hs_e q cy S i = .inl (cy kd, hs_N i, hs_ar q S kd i) := by
  subst hk
  unfold hs_e
  rw [if_neg h8]
theorem hs_fs {q : Nat → Nat} {S : hs_M} {kd i k : Nat} (hk : k < hs_nf kd) : ((List.range (hs_nf kd)).map (hs_v q S kd i))[k]? = some (hs_v q S kd i k) := by
  rw [List.getElem?_map, List.getElem?_range hk]
  rfl
theorem hs_fsl {q : Nat → Nat} {S : hs_M} {kd i : Nat} : ((List.range (hs_nf kd)).map (hs_v q S kd i)).length = hs_nf kd := by simp
theorem hs_fset {q : Nat → Nat} {S : hs_M} {kd i k : Nat} {x : Int32} {v : Value} (hk : k < hs_nf kd) (hv : hs_v q (hs_U S i k x) kd i k = v) : ((List.range (hs_nf kd)).map (hs_v q S kd i)).set k v = (List.range (hs_nf kd)).map (hs_v q (hs_U S i k x) kd i) := by
  apply List.ext_getElem?
  intro n
  by_cases hn : n = k
  · subst hn
    rw [List.getElem?_set_self (by rw [hs_fsl]; exact hk), hs_fs hk, hv]
  · rw [List.getElem?_set_ne (Ne.symm hn)]
    by_cases hp : n < hs_nf kd
    · rw [hs_fs hp, hs_fs hp]
      have e : hs_U S i k x i n = S i n := by simp [hs_U, hn]
      simp only [hs_v, e]
    · rw [List.getElem?_eq_none (by rw [hs_fsl]; omega), List.getElem?_eq_none (by rw [hs_fsl]; omega)]
/-! statics: rows that nobody writes -/
def hs_sf (j : Nat) : String := if j = 0 then "PACKET_BYTES" else if j = 1 then "SUM_AT_FIRST" else if j = 2 then "SUM_CHANGE" else if j = 3 then "LOW_BITS" else "STEPS_BACK"
def hs_sl (j : Nat) : List Int32 := if j = 0 then [1, 2, 3, 11, 16] else if j = 1 then [7, 127, 255, 255, 255] else if j = 2 then [6, 121, 224, 224, 224] else if j = 3 then [15, 63, 1023] else [1, 3, 31]
def hs_sn (j : Nat) : Nat := if j < 3 then 5 else 3
def hs_sv (j k : Nat) : Int32 := (hs_sl j).getD k 0
def hs_St (tb : Nat → Nat) (A : Nat → Prop) (U : State) (H : Heap) : Prop := ∀ j, j < 5 → va_Z "HeaderSqueeze" (hs_sf j) "[I" (.ref (tb j)) A U H ∧ va_T .int (tb j) (hs_sn j) (fun k => .int (hs_sv j k)) A U H
theorem hs_St_go {tb : Nat → Nat} {A B : Nat → Prop} {u U : State} {H H1 : Heap} (h : hs_St tb A u H) (hvm : u.vm.Alike U.vm) (hAB : ∀ a, B a → A a) (hq : ∀ a : Nat, a < H.size → ¬ A a → H1[a]? = H[a]?) : hs_St tb B U H1 := fun j hj =>
  ⟨(va_Z.moved hvm ((h j hj).1.kept hq)).narrow hAB, (va_T.moved hvm ((h j hj).2.kept hq)).narrow hAB⟩
/-! ===== the guards of a denotation ===== -/
def hs_l {α β : Type} (v : α) (f : α → β) : β := f v
def hs_ix {ρ : Type} (x : Int32) (n : Nat) (G : Option ρ) : Option ρ := if x < 0 ∨ n ≤ x.toNatClampNeg then none else G
def hs_kg {ρ : Type} (i kd : Nat) (G : Option ρ) : Option ρ := if hs_K i = kd then G else none
def hs_bg {ρ : Type} (x : Int32) (G : Option ρ) : Option ρ := if x = 0 ∨ x = 1 then G else none
def hs_ushr (x y : Int32) : Int32 := (x.toUInt32 >>> (y.toUInt32 &&& Int32.toUInt32 31)).toInt32
def hs_min (x y : Int32) : Int32 := if y < x then y else x
def hs_max (x y : Int32) : Int32 := if x < y then y else x
theorem hs_ix_s {ρ : Type} {x : Int32} {n : Nat} {G : Option ρ} {res : ρ} (h : hs_ix x n G = some res) : vp_in x n ∧ G = some res := by
  unfold hs_ix at h
  by_cases hc : x < 0 ∨ n ≤ x.toNatClampNeg
  · rw [if_pos hc] at h
    cases h
  · rw [if_neg hc] at h
    exact ⟨hc, h⟩
theorem hs_kg_s {ρ : Type} {i kd : Nat} {G : Option ρ} {res : ρ} (h : hs_kg i kd G = some res) : hs_K i = kd ∧ G = some res := by
  unfold hs_kg at h
  by_cases hc : hs_K i = kd
  · rw [if_pos hc] at h
    exact ⟨hc, h⟩
  · rw [if_neg hc] at h
    cases h
theorem hs_bg_s {ρ : Type} {x : Int32} {G : Option ρ} {res : ρ} (h : hs_bg x G = some res) : (x = 0 ∨ x = 1) ∧ G = some res := by
  unfold hs_bg at h
  by_cases hc : x = 0 ∨ x = 1
  · rw [if_pos hc] at h
    exact ⟨hc, h⟩
  · rw [if_neg hc] at h
    cases h
theorem hs_if_s {ρ : Type} {c : Prop} [Decidable c] {A B : Option ρ} {res : ρ} (h : (if c then A else B) = some res) : (c ∧ A = some res) ∨ (¬ c ∧ B = some res) := by
  by_cases hc : c
  · rw [if_pos hc] at h
    exact Or.inl ⟨hc, h⟩
  · rw [if_neg hc] at h
    exact Or.inr ⟨hc, h⟩
theorem hs_bd_s {α ρ : Type} {o : Option α} {G : α → Option ρ} {res : ρ} (h : o.bind G = some res) : ∃ a, o = some a ∧ G a = some res := by
  cases o with
  | none => cases h
  | some a => exact ⟨a, rfl, h⟩
/-! ===== a walk's standing ===== -/
abbrev hs_T : Type := (Program × Launch × Env × Room × State × MethodId) × (Array Value × List Frame × Method × Code) × (va_G × (Nat → ClassId) × (Nat → Nat) × (Nat → Nat)) × (Nat × (Nat → Prop) × (State → Prop))
abbrev hs_s (X : hs_T) : State := X.1.2.2.2.2.1
abbrev hs_m (X : hs_T) : MethodId := X.1.2.2.2.2.2
abbrev hs_a (X : hs_T) : Array Value := X.2.1.1
abbrev hs_q (X : hs_T) : Nat → Nat := X.2.2.1.2.2.1
abbrev hs_cy (X : hs_T) : Nat → ClassId := X.2.2.1.2.1
abbrev hs_D (X : hs_T) : va_G := X.2.2.1.1
abbrev hs_tbl (X : hs_T) : Nat → Nat := X.2.2.1.2.2.2
abbrev hs_wd (X : hs_T) : Nat := X.2.2.2.1
abbrev hs_A (X : hs_T) : Nat → Prop := X.2.2.2.2.1
abbrev hs_Q (X : hs_T) : State → Prop := X.2.2.2.2.2
abbrev hs_W (X : hs_T) (H : Heap) (locs : List Loc) (g : JFrame) : Prop := W X.1.1 X.1.2.1 X.1.2.2.1 X.1.2.2.2.1 (hs_s X) (hs_m X) (hs_a X) X.2.1.2.1 X.2.1.2.2.1 X.2.1.2.2.2 H locs 0 0 (hs_Q X) g
def hs_Z (X : hs_T) (nL : Nat) (S : hs_M) (lv : List (Nat × Value)) (st : List Value) (pc : Nat) : Prop := ∀ (H : Heap) (locs : List Loc) (ls : Array Slot), va_P (hs_D X) vwCl (hs_ws (hs_q X) (hs_cy X) (hs_wd X) S) H → va_S (hs_A X) (hs_s X).heap H locs → lv_has ls nL lv → hs_W X H locs (F0 (hs_m X) pc ls st)
def hs_rm (h : Nat) : Room := { frames := h, cells := 0, slots := 0, locals := 64 * h }
def hs_tb : List Cond := lw_tbl.filter goodWord
theorem hs_w1 {k : Nat} {w : Cond} (h : tables_1[k]? = some w) (g : goodWord w = true) : w ∈ hs_tb := List.mem_filter.mpr ⟨List.mem_append_right _ (List.mem_of_getElem? h), g⟩
theorem hs_w2 {k : Nat} {w : Cond} (h : (k2_sels lw_privs)[k]? = some w) (g : goodWord w = true) : w ∈ hs_tb := List.mem_filter.mpr ⟨List.mem_append_left _ (List.mem_of_getElem? h), g⟩
theorem hs_w3 {ws : List Cond} (h : ∀ w ∈ ws, w ∈ lw_tbl) (g : ws.all goodWord = true) : ∀ w ∈ ws, w ∈ hs_tb := fun w hw => List.mem_filter.mpr ⟨h w hw, List.all_eq_true.mp g w hw⟩
def hs_C (X : hs_T) (wd : Nat) (own : String) (cc : ByteArray) (nL hh : Nat) : Prop :=
  X.1.1.tables.exec = Jvm.exec ∧ X.2.1.2.2.2.code = cc ∧ X.2.1.2.2.2.maxLocals = nL ∧ (hs_s X).vm.findClass own = some (hs_m X).cls ∧ (∀ w ∈ hs_tb, w.before (hs_a X) (hs_s X) = true) ∧ X.1.2.2.2.1 = hs_rm hh ∧ hs_wd X = wd ∧ wd ≤ 1 ∧ va_K (hs_D X) vwCl (hs_tys (hs_cy X)) (hs_s X) ∧ (∀ S : hs_M, va_D (hs_A X) (hs_ws (hs_q X) (hs_cy X) wd S)) ∧ (∀ a : Nat, (hs_s X).heap.size ≤ a → hs_A X a) ∧ hs_St (hs_tbl X) (hs_A X) (hs_s X) (hs_s X).heap
end
section
/-! ===== rows: an instruction each, over memories ===== -/
section HSR
variable {X : hs_T} {wd nL hh pc : Nat} {own : String} {cc : ByteArray} {S : hs_M} {lv : List (Nat × Value)} {st : List Value}
theorem hs_iconst (C : hs_C X wd own cc nL hh) {n : Int} {v : Int32} (hd : decode cc pc = .ok (.iconst n, 1)) (hv : Int32.ofInt n = v) (k : hs_Z X nL S lv (.int v :: st) (pc + 1)) : hs_Z X nL S lv st pc :=
  fun H locs ls hP hS hl => lv_iconst C.1 C.2.1 hd hv (k H locs ls hP hS hl)
theorem hs_bipush (C : hs_C X wd own cc nL hh) {n : Int} {v : Int32} (hd : decode cc pc = .ok (.bipush n, 2)) (hv : (Int8.ofInt n).toInt32 = v) (k : hs_Z X nL S lv (.int v :: st) (pc + 2)) : hs_Z X nL S lv st pc :=
  fun H locs ls hP hS hl => lv_bipush C.1 C.2.1 hd hv (k H locs ls hP hS hl)
theorem hs_sipush (C : hs_C X wd own cc nL hh) {n : Int} {v : Int32} (hd : decode cc pc = .ok (.sipush n, 3)) (hv : (Int16.ofInt n).toInt32 = v) (k : hs_Z X nL S lv (.int v :: st) (pc + 3)) : hs_Z X nL S lv st pc :=
  fun H locs ls hP hS hl => lv_sipush C.1 C.2.1 hd hv (k H locs ls hP hS hl)
theorem hs_ldc (C : hs_C X wd own cc nL hh) {idx : Nat} {v : Int32} (w : Jvm.Cond.constant own idx v ∈ hs_tb) (hd : decode cc pc = .ok (.ldc idx, 2)) (k : hs_Z X nL S lv (.int v :: st) (pc + 2)) : hs_Z X nL S lv st pc :=
  fun H locs ls hP hS hl => lv_ldc C.1 C.2.1 C.2.2.2.1 (C.2.2.2.2.1 _ w) hd (k H locs ls hP hS hl)
theorem hs_iload_n (C : hs_C X wd own cc nL hh) {j : Fin 4} {i p : Nat} {x : Int32} (hd : decode cc pc = .ok (.iload_n j, 1)) (p : Nat) (hi : (j : Nat) = i) (hp : lv[p]? = some (i, .int x)) (k : hs_Z X nL S lv (.int x :: st) (pc + 1)) : hs_Z X nL S lv st pc :=
  fun H locs ls hP hS hl => lv_iload_n C.1 C.2.1 hd hi (lv_at hl p hp) (k H locs ls hP hS hl)
theorem hs_iload (C : hs_C X wd own cc nL hh) {i : Nat} {x : Int32} (hd : decode cc pc = .ok (.iload i, 2)) (p : Nat) (hp : lv[p]? = some (i, .int x)) (k : hs_Z X nL S lv (.int x :: st) (pc + 2)) : hs_Z X nL S lv st pc :=
  fun H locs ls hP hS hl => lv_iload C.1 C.2.1 hd (lv_at hl p hp) (k H locs ls hP hS hl)
theorem hs_aload_n (C : hs_C X wd own cc nL hh) {j : Fin 4} {i x : Nat} (hd : decode cc pc = .ok (.aload_n j, 1)) (p : Nat) (hi : (j : Nat) = i) (hp : lv[p]? = some (i, .ref x)) (k : hs_Z X nL S lv (.ref x :: st) (pc + 1)) : hs_Z X nL S lv st pc :=
  fun H locs ls hP hS hl => lv_aload_n C.1 C.2.1 hd hi (lv_at hl p hp) (k H locs ls hP hS hl)
theorem hs_aload (C : hs_C X wd own cc nL hh) {i x : Nat} (hd : decode cc pc = .ok (.aload i, 2)) (p : Nat) (hp : lv[p]? = some (i, .ref x)) (k : hs_Z X nL S lv (.ref x :: st) (pc + 2)) : hs_Z X nL S lv st pc :=
  fun H locs ls hP hS hl => lv_aload C.1 C.2.1 hd (lv_at hl p hp) (k H locs ls hP hS hl)
theorem hs_istore_n (C : hs_C X wd own cc nL hh) {j : Fin 4} {i : Nat} {x : Int32} {lv' : List (Nat × Value)} (hd : decode cc pc = .ok (.istore_n j, 1)) (hi : (j : Nat) = i) (hn : i < nL) (hl' : (i, Value.int x) :: lv.filter (fun q => !(q.1 == i) && !(q.1 + 1 == i && q.2.category == 2)) = lv') (k : hs_Z X nL S lv' st (pc + 1)) : hs_Z X nL S lv (.int x :: st) pc :=
  fun H locs ls hP hS hl => lv_istore_n C.1 C.2.1 hd hi hl hn hl' (fun ls' h' => k H locs ls' hP hS h')
theorem hs_istore (C : hs_C X wd own cc nL hh) {i : Nat} {x : Int32} {lv' : List (Nat × Value)} (hd : decode cc pc = .ok (.istore i, 2)) (hn : i < nL) (hl' : (i, Value.int x) :: lv.filter (fun q => !(q.1 == i) && !(q.1 + 1 == i && q.2.category == 2)) = lv') (k : hs_Z X nL S lv' st (pc + 2)) : hs_Z X nL S lv (.int x :: st) pc :=
  fun H locs ls hP hS hl => lv_istore C.1 C.2.1 hd hl hn hl' (fun ls' h' => k H locs ls' hP hS h')
theorem hs_astore_n (C : hs_C X wd own cc nL hh) {j : Fin 4} {i x : Nat} {lv' : List (Nat × Value)} (hd : decode cc pc = .ok (.astore_n j, 1)) (hi : (j : Nat) = i) (hn : i < nL) (hl' : (i, Value.ref x) :: lv.filter (fun q => !(q.1 == i) && !(q.1 + 1 == i && q.2.category == 2)) = lv') (k : hs_Z X nL S lv' st (pc + 1)) : hs_Z X nL S lv (.ref x :: st) pc :=
  fun H locs ls hP hS hl => lv_astore_n C.1 C.2.1 hd hi hl hn hl' (fun ls' h' => k H locs ls' hP hS h')
theorem hs_astore (C : hs_C X wd own cc nL hh) {i x : Nat} {lv' : List (Nat × Value)} (hd : decode cc pc = .ok (.astore i, 2)) (hn : i < nL) (hl' : (i, Value.ref x) :: lv.filter (fun q => !(q.1 == i) && !(q.1 + 1 == i && q.2.category == 2)) = lv') (k : hs_Z X nL S lv' st (pc + 2)) : hs_Z X nL S lv (.ref x :: st) pc :=
  fun H locs ls hP hS hl => lv_astore C.1 C.2.1 hd hl hn hl' (fun ls' h' => k H locs ls' hP hS h')
theorem hs_iinc (C : hs_C X wd own cc nL hh) {i : Nat} {n : Int} {x v : Int32} {lv' : List (Nat × Value)} (hd : decode cc pc = .ok (.iinc i n, 3)) (p : Nat) (hp : lv[p]? = some (i, .int x)) (hv : x + Int32.ofInt n = v) (hn : i < nL) (hl' : (i, Value.int v) :: lv.filter (fun q => !(q.1 == i) && !(q.1 + 1 == i && q.2.category == 2)) = lv') (k : hs_Z X nL S lv' st (pc + 3)) : hs_Z X nL S lv st pc :=
  fun H locs ls hP hS hl => lv_iinc C.1 C.2.1 hd hl hp hv hn hl' (fun ls' h' => k H locs ls' hP hS h')
theorem hs_sub {lv' : List (Nat × Value)} (ks : List Nat) (hk : lv_pick lv ks = lv') (k : hs_Z X nL S lv' st pc) : hs_Z X nL S lv st pc :=
  fun H locs ls hP hS hl => k H locs ls hP hS (lv_sub hl ks hk)
theorem hs_iadd (C : hs_C X wd own cc nL hh) {x y : Int32} (hd : decode cc pc = .ok (.iadd, 1)) (k : hs_Z X nL S lv (.int (x + y) :: st) (pc + 1)) : hs_Z X nL S lv (.int y :: .int x :: st) pc :=
  fun H locs ls hP hS hl => lv_iadd C.1 C.2.1 hd (k H locs ls hP hS hl)
theorem hs_isub (C : hs_C X wd own cc nL hh) {x y : Int32} (hd : decode cc pc = .ok (.isub, 1)) (k : hs_Z X nL S lv (.int (x - y) :: st) (pc + 1)) : hs_Z X nL S lv (.int y :: .int x :: st) pc :=
  fun H locs ls hP hS hl => lv_isub C.1 C.2.1 hd (k H locs ls hP hS hl)
theorem hs_imul (C : hs_C X wd own cc nL hh) {x y : Int32} (hd : decode cc pc = .ok (.imul, 1)) (k : hs_Z X nL S lv (.int (x * y) :: st) (pc + 1)) : hs_Z X nL S lv (.int y :: .int x :: st) pc :=
  fun H locs ls hP hS hl => lv_imul C.1 C.2.1 hd (k H locs ls hP hS hl)
theorem hs_idiv (C : hs_C X wd own cc nL hh) {x y : Int32} (hd : decode cc pc = .ok (.idiv, 1)) (hy : ¬ y = 0) (k : hs_Z X nL S lv (.int (x / y) :: st) (pc + 1)) : hs_Z X nL S lv (.int y :: .int x :: st) pc :=
  fun H locs ls hP hS hl => lv_idiv C.1 C.2.1 hd hy (k H locs ls hP hS hl)
theorem hs_irem (C : hs_C X wd own cc nL hh) {x y : Int32} (hd : decode cc pc = .ok (.irem, 1)) (hy : ¬ y = 0) (k : hs_Z X nL S lv (.int (x - x / y * y) :: st) (pc + 1)) : hs_Z X nL S lv (.int y :: .int x :: st) pc :=
  fun H locs ls hP hS hl => lv_irem C.1 C.2.1 hd hy (k H locs ls hP hS hl)
theorem hs_iand (C : hs_C X wd own cc nL hh) {x y : Int32} (hd : decode cc pc = .ok (.iand, 1)) (k : hs_Z X nL S lv (.int (x &&& y) :: st) (pc + 1)) : hs_Z X nL S lv (.int y :: .int x :: st) pc :=
  fun H locs ls hP hS hl => lv_iand C.1 C.2.1 hd (k H locs ls hP hS hl)
theorem hs_ior (C : hs_C X wd own cc nL hh) {x y : Int32} (hd : decode cc pc = .ok (.ior, 1)) (k : hs_Z X nL S lv (.int (x ||| y) :: st) (pc + 1)) : hs_Z X nL S lv (.int y :: .int x :: st) pc :=
  fun H locs ls hP hS hl => lv_ior C.1 C.2.1 hd (k H locs ls hP hS hl)
theorem hs_ixor (C : hs_C X wd own cc nL hh) {x y : Int32} (hd : decode cc pc = .ok (.ixor, 1)) (k : hs_Z X nL S lv (.int (x ^^^ y) :: st) (pc + 1)) : hs_Z X nL S lv (.int y :: .int x :: st) pc :=
  fun H locs ls hP hS hl => lv_ixor C.1 C.2.1 hd (k H locs ls hP hS hl)
theorem hs_ishl (C : hs_C X wd own cc nL hh) {x y : Int32} (hd : decode cc pc = .ok (.ishl, 1)) (k : hs_Z X nL S lv (.int (x <<< (y &&& 31)) :: st) (pc + 1)) : hs_Z X nL S lv (.int y :: .int x :: st) pc :=
  fun H locs ls hP hS hl => lv_ishl C.1 C.2.1 hd (k H locs ls hP hS hl)
theorem hs_ishr (C : hs_C X wd own cc nL hh) {x y : Int32} (hd : decode cc pc = .ok (.ishr, 1)) (k : hs_Z X nL S lv (.int (x >>> (y &&& 31)) :: st) (pc + 1)) : hs_Z X nL S lv (.int y :: .int x :: st) pc :=
  fun H locs ls hP hS hl => lv_ishr C.1 C.2.1 hd (k H locs ls hP hS hl)
theorem hs_iushr (C : hs_C X wd own cc nL hh) {x y : Int32} (hd : decode cc pc = .ok (.iushr, 1)) (k : hs_Z X nL S lv (.int (hs_ushr x y) :: st) (pc + 1)) : hs_Z X nL S lv (.int y :: .int x :: st) pc :=
  fun H locs ls hP hS hl => lv_iushr C.1 C.2.1 hd rfl (k H locs ls hP hS hl)
theorem hs_dup (C : hs_C X wd own cc nL hh) {v : Value} (hd : decode cc pc = .ok (.dup, 1)) (hv : v.category = 1) (k : hs_Z X nL S lv (v :: v :: st) (pc + 1)) : hs_Z X nL S lv (v :: st) pc :=
  fun H locs ls hP hS hl => lv_dup C.1 C.2.1 hd hv (k H locs ls hP hS hl)
theorem hs_dup2 (C : hs_C X wd own cc nL hh) {v w : Value} (hd : decode cc pc = .ok (.dup2, 1)) (hv : v.category = 1) (hw : w.category = 1) (k : hs_Z X nL S lv (v :: w :: v :: w :: st) (pc + 1)) : hs_Z X nL S lv (v :: w :: st) pc :=
  fun H locs ls hP hS hl => lv_dup2_11 C.1 C.2.1 hd hv hw (k H locs ls hP hS hl)
theorem hs_pop (C : hs_C X wd own cc nL hh) {v : Value} (hd : decode cc pc = .ok (.pop, 1)) (hv : v.category = 1) (k : hs_Z X nL S lv st (pc + 1)) : hs_Z X nL S lv (v :: st) pc :=
  fun H locs ls hP hS hl => lv_pop C.1 C.2.1 hd hv (k H locs ls hP hS hl)
theorem hs_goto (C : hs_C X wd own cc nL hh) {off : Int} {tgt : Nat} (hd : decode cc pc = .ok (.goto off, 3)) (ht : (pc : Int) + off = (tgt : Int)) (k : hs_Z X nL S lv st tgt) : hs_Z X nL S lv st pc :=
  fun H locs ls hP hS hl => lv_goto C.1 C.2.1 hd ht (k H locs ls hP hS hl)
theorem hs_top {ρ : Type} {v : Int32} {G : Int32 → Option ρ} {res : ρ} (h : hs_l v G = some res) (k : ∀ y : Int32, G y = some res → hs_Z X nL S lv (.int y :: st) pc) : hs_Z X nL S lv (.int v :: st) pc := k v h
/-! branches -/
section HSB
variable {ρ : Type} {A B : Option ρ} {res : ρ} {off : Int} {tgt : Nat} {x y : Int32}
theorem hs_if_eq (C : hs_C X wd own cc nL hh) (hd : decode cc pc = .ok (.ifCond .eq off, 3)) (ht : (pc : Int) + off = (tgt : Int)) (h : (if x = 0 then A else B) = some res) (kt : A = some res → hs_Z X nL S lv st tgt) (kf : B = some res → hs_Z X nL S lv st (pc + 3)) : hs_Z X nL S lv (.int x :: st) pc :=
  fun H locs ls hP hS hl => lv_if_eq C.1 C.2.1 hd ht (fun c => kt (by rw [if_pos c] at h; exact h) H locs ls hP hS hl) (fun c => kf (by rw [if_neg c] at h; exact h) H locs ls hP hS hl)
theorem hs_if_ne (C : hs_C X wd own cc nL hh) (hd : decode cc pc = .ok (.ifCond .ne off, 3)) (ht : (pc : Int) + off = (tgt : Int)) (h : (if x = 0 then B else A) = some res) (kt : A = some res → hs_Z X nL S lv st tgt) (kf : B = some res → hs_Z X nL S lv st (pc + 3)) : hs_Z X nL S lv (.int x :: st) pc :=
  fun H locs ls hP hS hl => lv_if_ne C.1 C.2.1 hd ht (fun c => kt (by rw [if_neg c] at h; exact h) H locs ls hP hS hl) (fun c => kf (by rw [if_pos c] at h; exact h) H locs ls hP hS hl)
theorem hs_if_lt (C : hs_C X wd own cc nL hh) (hd : decode cc pc = .ok (.ifCond .lt off, 3)) (ht : (pc : Int) + off = (tgt : Int)) (h : (if x < 0 then A else B) = some res) (kt : A = some res → hs_Z X nL S lv st tgt) (kf : B = some res → hs_Z X nL S lv st (pc + 3)) : hs_Z X nL S lv (.int x :: st) pc :=
  fun H locs ls hP hS hl => lv_if_lt C.1 C.2.1 hd ht (fun c => kt (by rw [if_pos c] at h; exact h) H locs ls hP hS hl) (fun c => kf (by rw [if_neg c] at h; exact h) H locs ls hP hS hl)
theorem hs_if_le (C : hs_C X wd own cc nL hh) (hd : decode cc pc = .ok (.ifCond .le off, 3)) (ht : (pc : Int) + off = (tgt : Int)) (h : (if x ≤ 0 then A else B) = some res) (kt : A = some res → hs_Z X nL S lv st tgt) (kf : B = some res → hs_Z X nL S lv st (pc + 3)) : hs_Z X nL S lv (.int x :: st) pc :=
  fun H locs ls hP hS hl => lv_if_le C.1 C.2.1 hd ht (fun c => kt (by rw [if_pos c] at h; exact h) H locs ls hP hS hl) (fun c => kf (by rw [if_neg c] at h; exact h) H locs ls hP hS hl)
theorem hs_if_ge (C : hs_C X wd own cc nL hh) (hd : decode cc pc = .ok (.ifCond .ge off, 3)) (ht : (pc : Int) + off = (tgt : Int)) (h : (if 0 ≤ x then A else B) = some res) (kt : A = some res → hs_Z X nL S lv st tgt) (kf : B = some res → hs_Z X nL S lv st (pc + 3)) : hs_Z X nL S lv (.int x :: st) pc :=
  fun H locs ls hP hS hl => lv_if_ge C.1 C.2.1 hd ht (fun c => kt (by rw [if_pos c] at h; exact h) H locs ls hP hS hl) (fun c => kf (by rw [if_neg c] at h; exact h) H locs ls hP hS hl)
theorem hs_if_gt (C : hs_C X wd own cc nL hh) (hd : decode cc pc = .ok (.ifCond .gt off, 3)) (ht : (pc : Int) + off = (tgt : Int)) (h : (if 0 < x then A else B) = some res) (kt : A = some res → hs_Z X nL S lv st tgt) (kf : B = some res → hs_Z X nL S lv st (pc + 3)) : hs_Z X nL S lv (.int x :: st) pc :=
  fun H locs ls hP hS hl => lv_if_gt C.1 C.2.1 hd ht (fun c => kt (by rw [if_pos c] at h; exact h) H locs ls hP hS hl) (fun c => kf (by rw [if_neg c] at h; exact h) H locs ls hP hS hl)
theorem hs_icmp_eq (C : hs_C X wd own cc nL hh) (hd : decode cc pc = .ok (.if_icmp .eq off, 3)) (ht : (pc : Int) + off = (tgt : Int)) (h : (if x = y then A else B) = some res) (kt : A = some res → hs_Z X nL S lv st tgt) (kf : B = some res → hs_Z X nL S lv st (pc + 3)) : hs_Z X nL S lv (.int y :: .int x :: st) pc :=
  fun H locs ls hP hS hl => lv_icmp_eq C.1 C.2.1 hd ht (fun c => kt (by rw [if_pos c] at h; exact h) H locs ls hP hS hl) (fun c => kf (by rw [if_neg c] at h; exact h) H locs ls hP hS hl)
theorem hs_icmp_ne (C : hs_C X wd own cc nL hh) (hd : decode cc pc = .ok (.if_icmp .ne off, 3)) (ht : (pc : Int) + off = (tgt : Int)) (h : (if x = y then B else A) = some res) (kt : A = some res → hs_Z X nL S lv st tgt) (kf : B = some res → hs_Z X nL S lv st (pc + 3)) : hs_Z X nL S lv (.int y :: .int x :: st) pc :=
  fun H locs ls hP hS hl => lv_icmp_ne C.1 C.2.1 hd ht (fun c => kt (by rw [if_neg c] at h; exact h) H locs ls hP hS hl) (fun c => kf (by rw [if_pos c] at h; exact h) H locs ls hP hS hl)
theorem hs_icmp_lt (C : hs_C X wd own cc nL hh) (hd : decode cc pc = .ok (.if_icmp .lt off, 3)) (ht : (pc : Int) + off = (tgt : Int)) (h : (if x < y then A else B) = some res) (kt : A = some res → hs_Z X nL S lv st tgt) (kf : B = some res → hs_Z X nL S lv st (pc + 3)) : hs_Z X nL S lv (.int y :: .int x :: st) pc :=
  fun H locs ls hP hS hl => lv_icmp_lt C.1 C.2.1 hd ht (fun c => kt (by rw [if_pos c] at h; exact h) H locs ls hP hS hl) (fun c => kf (by rw [if_neg c] at h; exact h) H locs ls hP hS hl)
theorem hs_icmp_le (C : hs_C X wd own cc nL hh) (hd : decode cc pc = .ok (.if_icmp .le off, 3)) (ht : (pc : Int) + off = (tgt : Int)) (h : (if x ≤ y then A else B) = some res) (kt : A = some res → hs_Z X nL S lv st tgt) (kf : B = some res → hs_Z X nL S lv st (pc + 3)) : hs_Z X nL S lv (.int y :: .int x :: st) pc :=
  fun H locs ls hP hS hl => lv_icmp_le C.1 C.2.1 hd ht (fun c => kt (by rw [if_pos c] at h; exact h) H locs ls hP hS hl) (fun c => kf (by rw [if_neg c] at h; exact h) H locs ls hP hS hl)
theorem hs_icmp_ge (C : hs_C X wd own cc nL hh) (hd : decode cc pc = .ok (.if_icmp .ge off, 3)) (ht : (pc : Int) + off = (tgt : Int)) (h : (if y ≤ x then A else B) = some res) (kt : A = some res → hs_Z X nL S lv st tgt) (kf : B = some res → hs_Z X nL S lv st (pc + 3)) : hs_Z X nL S lv (.int y :: .int x :: st) pc :=
  fun H locs ls hP hS hl => lv_icmp_ge C.1 C.2.1 hd ht (fun c => kt (by rw [if_pos c] at h; exact h) H locs ls hP hS hl) (fun c => kf (by rw [if_neg c] at h; exact h) H locs ls hP hS hl)
theorem hs_icmp_gt (C : hs_C X wd own cc nL hh) (hd : decode cc pc = .ok (.if_icmp .gt off, 3)) (ht : (pc : Int) + off = (tgt : Int)) (h : (if y < x then A else B) = some res) (kt : A = some res → hs_Z X nL S lv st tgt) (kf : B = some res → hs_Z X nL S lv st (pc + 3)) : hs_Z X nL S lv (.int y :: .int x :: st) pc :=
  fun H locs ls hP hS hl => lv_icmp_gt C.1 C.2.1 hd ht (fun c => kt (by rw [if_pos c] at h; exact h) H locs ls hP hS hl) (fun c => kf (by rw [if_neg c] at h; exact h) H locs ls hP hS hl)
end HSB
theorem hs_lookup (C : hs_C X wd own cc nL hh) {dflt : Int} {ps : Array (Int × Int)} {len : Nat} {x : Int32} {off : Int} {tgt : Nat} (hd : decode cc pc = .ok (.lookupswitch dflt ps, len)) (hp : (ps.toList.zip (ps.toList.drop 1)).all (fun (a, next) => a.1 < next.1) = true) (ho : Op.lookupswitch.offset ps.toList dflt x.toInt = off) (ht : (pc : Int) + off = (tgt : Int)) (k : hs_Z X nL S lv st tgt) : hs_Z X nL S lv (.int x :: st) pc :=
  fun H locs ls hP hS hl => lv_lookup C.1 C.2.1 hd hp ho ht (k H locs ls hP hS hl)
theorem hs_tableIn (C : hs_C X wd own cc nL hh) {dflt lo hi : Int} {offs : Array Int} {len : Nat} {x : Int32} {off : Int} {tgt : Nat} (hd : decode cc pc = .ok (.tableswitch dflt lo hi offs, len)) (h1 : ¬ x.toInt < lo) (h2 : ¬ hi < x.toInt) (ho : offs[(x.toInt - lo).toNat]? = some off) (ht : (pc : Int) + off = (tgt : Int)) (k : hs_Z X nL S lv st tgt) : hs_Z X nL S lv (.int x :: st) pc :=
  fun H locs ls hP hS hl => lv_tableIn C.1 C.2.1 hd h1 h2 ho ht (k H locs ls hP hS hl)
theorem hs_tableOut (C : hs_C X wd own cc nL hh) {dflt lo hi : Int} {offs : Array Int} {len : Nat} {x : Int32} {tgt : Nat} (hd : decode cc pc = .ok (.tableswitch dflt lo hi offs, len)) (h1 : x.toInt < lo ∨ hi < x.toInt) (ht : (pc : Int) + dflt = (tgt : Int)) (k : hs_Z X nL S lv st tgt) : hs_Z X nL S lv (.int x :: st) pc :=
  fun H locs ls hP hS hl => lv_tableOut C.1 C.2.1 hd h1 ht (k H locs ls hP hS hl)
/-! fields -/
section HSF
variable {kd i k idx N : Nat} {Cn : String} {T : u_T}
theorem hs_get (C : hs_C X wd own cc nL hh) (hc : vwCl[kd + 2]? = some (Cn, T, N)) (hin : ∀ w ∈ u_ws Cn T N, w ∈ hs_tb) (hN : N = hs_nf kd) (h8 : kd < 8) (hw : hs_wk kd = wd) (hkN : k < N) (w : Jvm.Cond.fieldLink own idx (T k).1 (T k).2.1 (T k).2.2.1 ∈ hs_tb) {v : Value} (hk : hs_K i = kd) (hv : hs_v (hs_q X) S kd i k = v) (hd : decode cc pc = .ok (.getfield idx, 3)) (kk : hs_Z X nL S lv (v :: st) (pc + 3)) : hs_Z X nL S lv (.ref (hs_q X i) :: st) pc := by
  intro H locs ls hP hS hl
  obtain ⟨c1, c2, c3, c4, c5, c6, c7, c8, c9, c10⟩ := C
  subst c7
  have hiw := hs_inw (by rw [hk]; exact hw) c8
  have he := hs_at (q := hs_q X) (cy := hs_cy X) (S := S) hiw
  rw [hs_e_o hk h8] at he
  exact va_get (D := hs_D X) (v := v) c1 c2 c5 hin c4 c9 hP _ he hc k hkN (c5 _ w) (fun _ h9 => h9) (by rw [hs_fs (hN ▸ hkN), hv]) hd (kk H locs ls hP hS hl)
theorem hs_put (C : hs_C X wd own cc nL hh) (ty0 : Nat → FieldType) (hty : ∀ k, k < N → parseFieldDescriptor (T k).2.2.1 = some (ty0 k)) (hnm : ∀ a, a < N → ∀ b, b < N → a ≠ b → (T a).2.1 ≠ (T b).2.1) (hc : vwCl[kd + 2]? = some (Cn, T, N)) (hin : ∀ w ∈ u_ws Cn T N, w ∈ hs_tb) (hN : N = hs_nf kd) (h8 : kd < 8) (hw : hs_wk kd = wd) (hkN : k < N) (hfin : (T k).2.2.2 = false) (w : Jvm.Cond.fieldLink own idx (T k).1 (T k).2.1 (T k).2.2.1 ∈ hs_tb) {v : Value} {x : Int32} (hk : hs_K i = kd) (hn : narrow (ty0 k) v = v) (hfit : fits (ty0 k) v = true) (hv : hs_v (hs_q X) (hs_U S i k x) kd i k = v) {ρ : Type} {G : hs_M → Option ρ} {res : ρ} (h : hs_l (hs_U S i k x) G = some res) (hd : decode cc pc = .ok (.putfield idx, 3)) (kk : ∀ S1 : hs_M, G S1 = some res → hs_Z X nL S1 lv st (pc + 3)) : hs_Z X nL S lv (v :: .ref (hs_q X i) :: st) pc := by
  intro H locs ls hP hS hl
  obtain ⟨c1, c2, c3, c4, c5, c6, c7, c8, c9, c10, c11, c12⟩ := C
  subst c7
  have hiw := hs_inw (by rw [hk]; exact hw) c8
  have he := hs_at (q := hs_q X) (cy := hs_cy X) (S := S) hiw
  rw [hs_e_o hk h8] at he
  refine va_put (D := hs_D X) (v := v) (ty := ty0 k) c1 c2 c5 hin ty0 hty hnm c4 c9 hP (c10 S) hS _ he hc k hkN (c5 _ w) (fun _ h9 => h9) hfin (hty k hkN) hn hfit (by rw [hs_fsl, ← hN]; exact hkN) hd (fun H1 locs1 hP1 _ hS1 => ?_)
  rw [hs_fset (hN ▸ hkN) hv, hs_setw (S' := hs_U S i k x) hiw (fun j hj => hs_U_ne S k x hj) (hs_e_o hk h8)] at hP1
  exact kk (hs_U S i k x) h H1 locs1 ls hP1 hS1 hl
end HSF
/-! arrays -/
section HSA
variable {kd i : Nat} {x y : Int32} {ρ : Type} {res : ρ}
theorem hs_ald (C : hs_C X wd own cc nL hh) (hkd : kd = 8 ∨ kd = 14) (hw : hs_wk kd = wd) (hk : hs_K i = kd) {G : Option ρ} (h : hs_ix x (hs_N i) G = some res) (hd : decode cc pc = .ok (.iaload, 1)) (kk : G = some res → hs_Z X nL S lv (.int (S i x.toNatClampNeg) :: st) (pc + 1)) : hs_Z X nL S lv (.int x :: .ref (hs_q X i) :: st) pc := by
  intro H locs ls hP hS hl
  obtain ⟨c1, c2, c3, c4, c5, c6, c7, c8, c9, c10⟩ := C
  subst c7
  obtain ⟨hx, h⟩ := hs_ix_s h
  have hiw := hs_inw (by rw [hk]; exact hw) c8
  have he := hs_at (q := hs_q X) (cy := hs_cy X) (S := S) hiw
  rcases hkd with rfl | rfl
  · rw [hs_e_a hk (by decide)] at he
    exact va_iald (f := S i) c1 c2 c9 hP _ 0 he rfl hx hd (kk h H locs ls hP hS hl)
  · rw [hs_e_a hk (by decide)] at he
    exact va_iald (f := S i) c1 c2 c9 hP _ 5 he rfl hx hd (kk h H locs ls hP hS hl)
theorem hs_ast (C : hs_C X wd own cc nL hh) (hkd : kd = 8 ∨ kd = 14) (hw : hs_wk kd = wd) (hk : hs_K i = kd) {G : hs_M → Option ρ} (h : hs_ix x (hs_N i) (hs_l (hs_U S i x.toNatClampNeg y) G) = some res) (hd : decode cc pc = .ok (.iastore, 1)) (kk : ∀ S1 : hs_M, G S1 = some res → hs_Z X nL S1 lv st (pc + 1)) : hs_Z X nL S lv (.int y :: .int x :: .ref (hs_q X i) :: st) pc := by
  intro H locs ls hP hS hl
  obtain ⟨c1, c2, c3, c4, c5, c6, c7, c8, c9, c10, c11, c12⟩ := C
  subst c7
  obtain ⟨hx, h⟩ := hs_ix_s h
  have hiw := hs_inw (by rw [hk]; exact hw) c8
  have he := hs_at (q := hs_q X) (cy := hs_cy X) (S := S) hiw
  have he' : hs_e (hs_q X) (hs_cy X) (hs_U S i x.toNatClampNeg y) i = .inl (hs_cy X kd, hs_N i, .inl (upd (S i) x.toNatClampNeg y)) := by
    rw [hs_e_a hk (by omega)]
    rcases hkd with rfl | rfl <;> simp [hs_ar, hs_U_row]
  rcases hkd with rfl | rfl
  · rw [hs_e_a hk (by decide)] at he
    refine va_iast (f := S i) c1 c2 c9 hP (c10 S) hS _ 0 he rfl hx hd (fun H1 locs1 hP1 _ hS1 => ?_)
    rw [hs_setw (S' := hs_U S i x.toNatClampNeg y) hiw (fun j hj => hs_U_ne S _ y hj) he'] at hP1
    exact kk _ h H1 locs1 ls hP1 hS1 hl
  · rw [hs_e_a hk (by decide)] at he
    refine va_iast (f := S i) c1 c2 c9 hP (c10 S) hS _ 5 he rfl hx hd (fun H1 locs1 hP1 _ hS1 => ?_)
    rw [hs_setw (S' := hs_U S i x.toNatClampNeg y) hiw (fun j hj => hs_U_ne S _ y hj) he'] at hP1
    exact kk _ h H1 locs1 ls hP1 hS1 hl
theorem hs_zld (C : hs_C X wd own cc nL hh) (hw : wd = 1) (hk : hs_K i = 15) {G : Option ρ} (h : hs_ix x (hs_N i) G = some res) (hd : decode cc pc = .ok (.baload, 1)) (kk : G = some res → hs_Z X nL S lv (.int (S i x.toNatClampNeg) :: st) (pc + 1)) : hs_Z X nL S lv (.int x :: .ref (hs_q X i) :: st) pc := by
  intro H locs ls hP hS hl
  obtain ⟨c1, c2, c3, c4, c5, c6, c7, c8, c9, c10⟩ := C
  subst c7
  obtain ⟨hx, h⟩ := hs_ix_s h
  have hiw := hs_inw (by rw [hk]; exact hw.symm) c8
  have he := hs_at (q := hs_q X) (cy := hs_cy X) (S := S) hiw
  rw [hs_e_a hk (by decide)] at he
  exact va_zald (f := S i) c1 c2 c9 hP _ 6 he rfl hx hd (kk h H locs ls hP hS hl)
theorem hs_zst (C : hs_C X wd own cc nL hh) (hw : wd = 1) (hk : hs_K i = 15) {G : hs_M → Option ρ} (h : hs_ix x (hs_N i) (hs_bg y (hs_l (hs_U S i x.toNatClampNeg y) G)) = some res) (hd : decode cc pc = .ok (.bastore, 1)) (kk : ∀ S1 : hs_M, G S1 = some res → hs_Z X nL S1 lv st (pc + 1)) : hs_Z X nL S lv (.int y :: .int x :: .ref (hs_q X i) :: st) pc := by
  intro H locs ls hP hS hl
  obtain ⟨c1, c2, c3, c4, c5, c6, c7, c8, c9, c10, c11, c12⟩ := C
  subst c7
  obtain ⟨hx, h⟩ := hs_ix_s h
  obtain ⟨hy, h⟩ := hs_bg_s h
  have hn : vp_nar .boolean y = y := by rcases hy with rfl | rfl <;> rfl
  have hiw := hs_inw (by rw [hk]; exact hw.symm) c8
  have he := hs_at (q := hs_q X) (cy := hs_cy X) (S := S) hiw
  have he' : hs_e (hs_q X) (hs_cy X) (hs_U S i x.toNatClampNeg y) i = .inl (hs_cy X 15, hs_N i, .inl (upd (S i) x.toNatClampNeg y)) := by
    rw [hs_e_a hk (by decide)]
    simp [hs_ar, hs_U_row]
  rw [hs_e_a hk (by decide)] at he
  refine va_zast (f := S i) c1 c2 c9 hP (c10 S) hS _ 6 he rfl hx hd (fun H1 locs1 hP1 _ hS1 => ?_)
  rw [hn, hs_setw (S' := hs_U S i x.toNatClampNeg y) hiw (fun j hj => hs_U_ne S _ y hj) he'] at hP1
  exact kk _ h H1 locs1 ls hP1 hS1 hl
theorem hs_rld (C : hs_C X wd own cc nL hh) (hw : wd = 0) {tgt t0 : Nat} {Cn : String} {f : Nat → Option Nat} (ht : (hs_tys (hs_cy X))[t0]? = some (hs_cy X kd, .object Cn)) (hk : hs_K i = kd) (hw0 : hs_wk kd = 0) (h8 : ¬ kd < 8) (hf : hs_ar (hs_q X) S kd i = .inr (.inr (.inr (.inr f)))) (hft : f x.toNatClampNeg = some (hs_q X tgt)) {G : Option ρ} (h : hs_ix x (hs_N i) G = some res) (hd : decode cc pc = .ok (.aaload, 1)) (kk : G = some res → hs_Z X nL S lv (.ref (hs_q X tgt) :: st) (pc + 1)) : hs_Z X nL S lv (.int x :: .ref (hs_q X i) :: st) pc := by
  intro H locs ls hP hS hl
  obtain ⟨c1, c2, c3, c4, c5, c6, c7, c8, c9, c10⟩ := C
  subst c7
  obtain ⟨hx, h⟩ := hs_ix_s h
  have hiw := hs_inw (by rw [hk, hw0]; exact hw.symm) c8
  have he := hs_at (q := hs_q X) (cy := hs_cy X) (S := S) hiw
  rw [hs_e_a hk h8, hf] at he
  refine va_aldq (f := f) c1 c2 c9 hP _ t0 he ht hx hd ?_
  rw [hft]
  exact kk h H locs ls hP hS hl
/-- a packet's cell into the line's rows -/
theorem hs_rst (C : hs_C X wd own cc nL hh) (hw : wd = 0) {j : Nat} (hk : hs_K i = 10) (hj : hs_K j = 3) {G : hs_M → Option ρ} (h : hs_ix x (hs_N i) (hs_l (hs_U S i x.toNatClampNeg (nI j)) G) = some res) (hd : decode cc pc = .ok (.aastore, 1)) (kk : ∀ S1 : hs_M, G S1 = some res → hs_Z X nL S1 lv st (pc + 1)) : hs_Z X nL S lv (.ref (hs_q X j) :: .int x :: .ref (hs_q X i) :: st) pc := by
  intro H locs ls hP hS hl
  obtain ⟨c1, c2, c3, c4, c5, c6, c7, c8, c9, c10, c11, c12⟩ := C
  subst c7
  obtain ⟨hx, h⟩ := hs_ix_s h
  have hiw := hs_inw (by rw [hk]; exact hw.symm) c8
  have hjw := hs_inw (by rw [hj]; exact hw.symm) c8
  have hj48 : j < 48 := hs_inw0 j (by rw [hj]; rfl)
  have he := hs_at (q := hs_q X) (cy := hs_cy X) (S := S) hiw
  have hv := hs_at (q := hs_q X) (cy := hs_cy X) (S := S) hjw
  have he' : hs_e (hs_q X) (hs_cy X) (hs_U S i x.toNatClampNeg (nI j)) i = .inl (hs_cy X 10, hs_N i, .inr (.inr (.inr (.inr (va_up (fun j => some (hs_q X (S i j).toNatClampNeg)) x.toNatClampNeg (some (hs_q X j))))))) := by
    rw [hs_e_a hk (by decide)]
    simp only [hs_ar, if_pos]
    congr 7
    funext b
    by_cases hb : b = x.toNatClampNeg
    · subst hb
      simp [hs_U, va_up, nI_clamp (show j < 2 ^ 31 by omega)]
    · simp [hs_U, va_up, hb]
  rw [hs_e_a hk (by decide)] at he
  rw [hs_e_o hj (by decide)] at hv
  refine va_astq (f := fun j => some (hs_q X (S i j).toNatClampNeg)) (r := (RX3, TX3, 5)) c1 c2 c9 hP (c10 S) hS _ 1 _ 5 he rfl hv rfl hx hd (fun H1 locs1 hP1 _ hS1 => ?_)
  rw [hs_setw (S' := hs_U S i x.toNatClampNeg (nI j)) hiw (fun j hj => hs_U_ne S _ _ hj) he'] at hP1
  exact kk _ h H1 locs1 ls hP1 hS1 hl
end HSA
/-! statics -/
theorem hs_gets (C : hs_C X wd own cc nL hh) {j idx : Nat} (hj : j < 5) (w : Jvm.Cond.fieldLinkNest own idx "HeaderSqueeze" (hs_sf j) "[I" "HeaderSqueeze" ∈ hs_tb) (hd : decode cc pc = .ok (.getstatic idx, 3)) (kk : hs_Z X nL S lv (.ref (hs_tbl X j) :: st) (pc + 3)) : hs_Z X nL S lv st pc := by
  intro H locs ls hP hS hl
  obtain ⟨c1, c2, c3, c4, c5, c6, c7, c8, c9, c10, c11, c12⟩ := C
  exact va_getsN c1 c2 (c12 j hj).1 hS c4 (c5 _ w) (fun _ h9 => h9) hd (kk H locs ls hP hS hl)
theorem hs_sld (C : hs_C X wd own cc nL hh) {j : Nat} {x : Int32} (hj : j < 5) {ρ : Type} {res : ρ} {G : Option ρ} (h : hs_ix x (hs_sn j) G = some res) (hd : decode cc pc = .ok (.iaload, 1)) (kk : G = some res → hs_Z X nL S lv (.int (hs_sv j x.toNatClampNeg) :: st) (pc + 1)) : hs_Z X nL S lv (.int x :: .ref (hs_tbl X j) :: st) pc := by
  intro H locs ls hP hS hl
  obtain ⟨c1, c2, c3, c4, c5, c6, c7, c8, c9, c10, c11, c12⟩ := C
  obtain ⟨hx, h⟩ := hs_ix_s h
  exact va_ti c1 c2 (c12 j hj).2 hS hx rfl hd (kk h H locs ls hP hS hl)
end HSR
end
section
/-! ===== contracts over memories, and calls ===== -/
def hs_w (y : MethodName) (b : ByteArray) (n : Nat) (ret : Option FieldType) : List Cond := .code y b n ret :: hs_tb
def hs_Pre (D : va_G) (cy : Nat → ClassId) (q tb : Nat → Nat) (wd : Nat) (S : hs_M) (sz : Nat) : State → Prop := fun U => U.heap.size = sz ∧ va_P D vwCl (hs_ws q cy wd S) U.heap ∧ va_K D vwCl (hs_tys cy) U ∧ va_D (fun _ => True) (hs_ws q cy wd S) ∧ hs_St tb (va_A (hs_ws q cy wd S) sz) U U.heap
def hs_Qc (D : va_G) (cy : Nat → ClassId) (q : Nat → Nat) (wd : Nat) (A : Nat → Prop) (ov : Option Value) (S : hs_M) : Array Value → State → Outcome → State → Prop := fun _ st oc t => oc = .returned ov ∧ va_P D vwCl (hs_ws q cy wd S) t.heap ∧ va_F A st t
/-- a method's contract: from every state that holds the memory S it returns ov and the state holds S' -/
def hs_met (wd : Nat) (y : MethodName) (b : ByteArray) (n : Nat) (ret : Option FieldType) (h : Nat) (args : (Nat → Nat) → List Value) (S : hs_M) (ov : (Nat → Nat) → Option Value) (S' : hs_M) : Prop :=
  ∀ (l : Launch) (D : va_G) (cy : Nat → ClassId) (q tb : Nat → Nat) (sz : Nat), Met l y (hs_w y b n ret) (hs_rm h) (va_Pc (args q) (hs_Pre D cy q tb wd S sz)) (hs_Qc D cy q wd (va_A (hs_ws q cy wd S) sz) (ov q) S') 0 0 (va_A (hs_ws q cy wd S) sz)
theorem hs_mk0 {wd : Nat} {y : MethodName} {b : ByteArray} {n : Nat} {ret : Option FieldType} {hh : Nat} {args : (Nat → Nat) → List Value} {S : hs_M} {ov : (Nat → Nat) → Option Value} {S' : hs_M} (hy : plainName y.cls = true) (hwd : wd ≤ 1) (hlen : ∀ q, (lg_sl (args q)).length ≤ n)
    (body : ∀ X : hs_T, hs_C X wd y.cls b n hh → hs_Q X = MQ X.2.1.2.1 (hs_Qc (hs_D X) (hs_cy X) (hs_q X) wd (hs_A X) (ov (hs_q X)) S') (hs_a X) (hs_s X) 0 0 (hs_A X) → X.2.1.2.2.1.sig.returnType = ret → X.2.1.2.2.1.locks = false → hs_Z X n S (lv_args 0 (args (hs_q X))) [] 0) : hs_met wd y b n ret hh args S ov S' := by
  intro l D cy q tb sz
  refine Met.ofW (cc := b) (maxL := n) (ret := ret) hy rfl ?_
  intro p e s m args' below meth c s₁ B hml hv
  obtain ⟨rfl, hsz, hP, hK, hD0, hSt⟩ := hv
  subst hsz
  have hts := atoms_spec (ws := hs_w y b n ret) B.pre
  have hD := hD0.self (sz := s.heap.size)
  have Z := body ((p, l, e, (headSpec (hs_w y b n ret) (hs_rm hh)).room, s, m), ((args q).toArray, below, meth, c), (D, cy, q, tb), (wd, va_A (hs_ws q cy wd S) s.heap.size, MQ below (hs_Qc D cy q wd (va_A (hs_ws q cy wd S) s.heap.size) (ov q) S') (args q).toArray s 0 0 (va_A (hs_ws q cy wd S) s.heap.size)))
    ⟨B.exec, B.bytes, hml, findClass_of_methodNamed B.named, fun w h => hts w (List.mem_cons_of_mem _ h), rfl, rfl, hwd, hK, fun S2 => hs_Dmv hD, fun a h => Or.inr h, hSt⟩ rfl B.returns B.notSynchronized
  rw [lg_entry_eq]
  exact Z s.heap [] _ hP va_S.rf (lv_entry (args q) (hlen q))
/-! ends -/
def hs_FI (X : hs_T) (cc : ByteArray) (res : Int32 × hs_M) : Prop := ∀ (H : Heap) (locs : List Loc) (ls : Array Slot) (pc : Nat), va_P (hs_D X) vwCl (hs_ws (hs_q X) (hs_cy X) (hs_wd X) res.2) H → va_S (hs_A X) (hs_s X).heap H locs → decode cc pc = .ok (.ireturn, 1) → hs_W X H locs (F0 (hs_m X) pc ls [.int res.1])
def hs_FB (X : hs_T) (cc : ByteArray) (res : Int32 × hs_M) : Prop := (res.1 = 0 ∨ res.1 = 1) → hs_FI X cc res
def hs_FV (X : hs_T) (cc : ByteArray) (res : hs_M) : Prop := ∀ (H : Heap) (locs : List Loc) (ls : Array Slot) (pc : Nat), va_P (hs_D X) vwCl (hs_ws (hs_q X) (hs_cy X) (hs_wd X) res) H → va_S (hs_A X) (hs_s X).heap H locs → decode cc pc = .ok (.return_, 1) → hs_W X H locs (F0 (hs_m X) pc ls [])
def hs_FR (X : hs_T) (cc : ByteArray) (res : Nat × hs_M) : Prop := ∀ (H : Heap) (locs : List Loc) (ls : Array Slot) (pc : Nat), va_P (hs_D X) vwCl (hs_ws (hs_q X) (hs_cy X) (hs_wd X) res.2) H → va_S (hs_A X) (hs_s X).heap H locs → decode cc pc = .ok (.areturn, 1) → hs_W X H locs (F0 (hs_m X) pc ls [.ref (hs_q X res.1)])
section HSE
variable {X : hs_T} {wd nL hh pc : Nat} {own : String} {cc : ByteArray} {S : hs_M} {lv : List (Nat × Value)}
theorem hs_ireti (C : hs_C X wd own cc nL hh) {res : Int32 × hs_M} (hf : hs_FI X cc res) {x : Int32} (h : some (x, S) = some res) (hd : decode cc pc = .ok (.ireturn, 1)) : hs_Z X nL S lv [.int x] pc := by
  cases h
  exact fun H locs ls hP hS _ => hf H locs ls pc hP hS hd
theorem hs_iretb (C : hs_C X wd own cc nL hh) {res : Int32 × hs_M} (hf : hs_FB X cc res) {x : Int32} (h : hs_bg x (some (x, S)) = some res) (hd : decode cc pc = .ok (.ireturn, 1)) : hs_Z X nL S lv [.int x] pc := by
  obtain ⟨hx, h⟩ := hs_bg_s h
  cases h
  exact fun H locs ls hP hS _ => hf hx H locs ls pc hP hS hd
theorem hs_vret (C : hs_C X wd own cc nL hh) {res : hs_M} (hf : hs_FV X cc res) (h : some S = some res) (hd : decode cc pc = .ok (.return_, 1)) : hs_Z X nL S lv [] pc := by
  cases h
  exact fun H locs ls hP hS _ => hf H locs ls pc hP hS hd
theorem hs_aret (C : hs_C X wd own cc nL hh) {res : Nat × hs_M} (hf : hs_FR X cc res) {i : Nat} (h : some (i, S) = some res) (hd : decode cc pc = .ok (.areturn, 1)) : hs_Z X nL S lv [.ref (hs_q X i)] pc := by
  cases h
  exact fun H locs ls hP hS _ => hf H locs ls pc hP hS hd
end HSE
section HSM
variable {wd n hh : Nat} {y : MethodName} {b : ByteArray} {args : (Nat → Nat) → List Value} {S : hs_M}
theorem hs_mkI {res : Int32 × hs_M} (hy : plainName y.cls = true) (hwd : wd ≤ 1) (hlen : ∀ q, (lg_sl (args q)).length ≤ n) (body : ∀ X : hs_T, hs_C X wd y.cls b n hh → hs_FI X b res → hs_Z X n S (lv_args 0 (args (hs_q X))) [] 0) : hs_met wd y b n (some .int) hh args S (fun _ => some (.int res.1)) res.2 := by
  refine hs_mk0 hy hwd hlen fun X C hQ hr hlocks => body X C fun H locs ls pc hP hS hd => ?_
  have hwdX := C.2.2.2.2.2.2.1
  show W _ _ _ _ _ _ _ _ _ _ _ _ _ _ (hs_Q X) _
  rw [hQ]
  exact W.iret C.1 C.2.1 hr (fun t ht _ => ⟨rfl, by rw [ht, ← hwdX]; exact hP, hS.F ht⟩) hS.2.2 hd
theorem hs_mkB {res : Int32 × hs_M} (hy : plainName y.cls = true) (hwd : wd ≤ 1) (hlen : ∀ q, (lg_sl (args q)).length ≤ n) (body : ∀ X : hs_T, hs_C X wd y.cls b n hh → hs_FB X b res → hs_Z X n S (lv_args 0 (args (hs_q X))) [] 0) : hs_met wd y b n (some .boolean) hh args S (fun _ => some (.int res.1)) res.2 := by
  refine hs_mk0 hy hwd hlen fun X C hQ hr hlocks => body X C fun hx H locs ls pc hP hS hd => ?_
  have hwdX := C.2.2.2.2.2.2.1
  have hn : narrow .boolean (.int res.1) = .int res.1 := by rcases hx with e | e <;> rw [e] <;> rfl
  show W _ _ _ _ _ _ _ _ _ _ _ _ _ _ (hs_Q X) _
  rw [hQ]
  exact W.zret C.1 C.2.1 hr hn (fun t ht _ => ⟨rfl, by rw [ht, ← hwdX]; exact hP, hS.F ht⟩) hS.2.2 hd
theorem hs_mkV {res : hs_M} (hy : plainName y.cls = true) (hwd : wd ≤ 1) (hlen : ∀ q, (lg_sl (args q)).length ≤ n) (body : ∀ X : hs_T, hs_C X wd y.cls b n hh → hs_FV X b res → hs_Z X n S (lv_args 0 (args (hs_q X))) [] 0) : hs_met wd y b n none hh args S (fun _ => none) res := by
  refine hs_mk0 hy hwd hlen fun X C hQ hr hlocks => body X C fun H locs ls pc hP hS hd => ?_
  have hwdX := C.2.2.2.2.2.2.1
  show W _ _ _ _ _ _ _ _ _ _ _ _ _ _ (hs_Q X) _
  rw [hQ]
  exact W.vret C.1 C.2.1 hr (fun t ht _ => ⟨rfl, by rw [ht, ← hwdX]; exact hP, hS.F ht⟩) hS.2.2 hd
theorem hs_mkR {res : Nat × hs_M} {cn : String} (hy : plainName y.cls = true) (hwd : wd ≤ 1) (hlen : ∀ q, (lg_sl (args q)).length ≤ n) (body : ∀ X : hs_T, hs_C X wd y.cls b n hh → hs_FR X b res → hs_Z X n S (lv_args 0 (args (hs_q X))) [] 0) : hs_met wd y b n (some (.object cn)) hh args S (fun q => some (.ref (q res.1))) res.2 := by
  refine hs_mk0 hy hwd hlen fun X C hQ hr hlocks => body X C fun H locs ls pc hP hS hd => ?_
  have hwdX := C.2.2.2.2.2.2.1
  show W _ _ _ _ _ _ _ _ _ _ _ _ _ _ (hs_Q X) _
  rw [hQ]
  exact W.aret C.1 C.2.1 hr (Or.inl ⟨cn, rfl⟩) (Or.inr ⟨_, rfl⟩) (fun t ht _ => ⟨rfl, by rw [ht, ← hwdX]; exact hP, hS.F ht⟩) hS.2.2 hd
end HSM
section HSL
variable {X : hs_T} {wd nL hh pc : Nat} {own : String} {cc : ByteArray} {S : hs_M} {lv : List (Nat × Value)} {st : List Value}
theorem hs_Ain (C : hs_C X wd own cc nL hh) {H : Heap} {locs : List Loc} (hS : va_S (hs_A X) (hs_s X).heap H locs) (S : hs_M) : ∀ a, va_A (hs_ws (hs_q X) (hs_cy X) wd S) H.size a → hs_A X a := by
  intro a h
  rcases h with ⟨k, e, h⟩ | h
  · exact (C.2.2.2.2.2.2.2.2.2.1 S).2 k _ h
  · exact C.2.2.2.2.2.2.2.2.2.2.1 a (Nat.le_trans hS.1 h)
theorem hs_back (C : hs_C X wd own cc nL hh) {S' : hs_M} {ov : Option Value} {a : Array Value} {st0 : List Value} {H : Heap} {locs : List Loc} {ls : Array Slot}
    (hrun : va_Run X.1.1 X.1.2.1 X.1.2.2.1 X.1.2.2.2.1 (hs_s X) (hs_m X) (hs_a X) X.2.1.2.1 X.2.1.2.2.1 X.2.1.2.2.2 H locs 0 0 0 0 (F0 (hs_m X) pc ls st0) st ((hs_Qc (hs_D X) (hs_cy X) (hs_q X) wd (va_A (hs_ws (hs_q X) (hs_cy X) wd S) H.size) ov S') a) (va_A (hs_ws (hs_q X) (hs_cy X) wd S) H.size))
    (hS : va_S (hs_A X) (hs_s X).heap H locs) (hl : lv_has ls nL lv) (kk : hs_Z X nL S' lv (ov.toList ++ st) (pc + 3)) : hs_W X H locs (F0 (hs_m X) pc ls st0) := by
  intro T hT X0
  obtain ⟨v, st₀, t, T', L, h0, X', hL, e1, e2, ⟨hv, hp, hz, hk⟩, st⟩ := hrun T hT X0
  cases hv
  rw [h0] at hz hk
  have hA := hs_Ain C hS S
  have hwdX := C.2.2.2.2.2.2.1
  obtain ⟨t2, a1, b1⟩ := kk T'.heap (locs ++ L) ls (by rw [e1, hwdX]; exact hp)
    ⟨Nat.le_trans hS.1 (by rw [e1]; exact hz), fun q h1 h2 => by rw [e1, hk q (Nat.lt_of_lt_of_le h1 hS.1) (fun z => h2 (hA q z))]; exact hS.2.1 q h1 h2, fun q hq => by
      rcases List.mem_append.mp hq with h | h
      · exact hS.2.2 q h
      · exact hA _ (hL q h)⟩ hl T' rfl X'
  exact ⟨t2, st t2 a1, b1⟩
theorem hs_preO (C : hs_C X wd own cc nL hh) {H : Heap} {locs : List Loc} (hP : va_P (hs_D X) vwCl (hs_ws (hs_q X) (hs_cy X) (hs_wd X) S) H) (hS : va_S (hs_A X) (hs_s X).heap H locs) {U : State} (hU : U.heap = H) (hW : (hs_s X).WarmedH U.vm) : hs_Pre (hs_D X) (hs_cy X) (hs_q X) (hs_tbl X) wd S H.size U := by
  have hA := hs_Ain C hS S
  obtain ⟨c1, c2, c3, c4, c5, c6, c7, c8, c9, c10, c11, c12⟩ := C
  subst c7
  exact ⟨by rw [hU], by rw [hU]; exact hP, va_K.moved hW.alike c9, (c10 S).weaken (fun _ _ _ _ => trivial), by rw [hU]; exact hs_St_go c12 hW.alike hA (fun a h1 h2 => hS.2.1 a h1 h2)⟩
theorem hs_blind {D : va_G} {cy : Nat → ClassId} {q tb : Nat → Nat} {wd sz : Nat} {S : hs_M} {av : List Value} : FrameBlind (va_Pc av (hs_Pre D cy q tb wd S sz)) := by
  intro a U g mk h
  obtain ⟨h0, h1, h2, h3, h4, h5⟩ := h
  exact ⟨h0, h1, h2, va_K.moved (u := U) (U := U.calling g mk a) (Vm.Alike.refl U.vm) h3, h4, hs_St_go h5 (U := U.calling g mk a) (Vm.Alike.refl U.vm) (fun _ h => h) (fun _ _ _ => rfl)⟩
theorem hs_callB (C : hs_C X wd own cc nL hh) {y : MethodName} {b : ByteArray} {n : Nat} {ret : Option FieldType} {h idx k : Nat} (w1 : Jvm.Cond.methodLink own idx y ∈ hs_tb) (w4 : Jvm.Cond.initialized y.cls ∈ hs_tb) (w5 : Jvm.Cond.code y b n ret ∈ hs_tb) (hdd : (parseMethodDescriptor y.desc).map (fun d => d.parameters.length) = some k) (hmh : y.cls ≠ "java/lang/invoke/MethodHandle" ∧ y.cls ≠ "java/lang/invoke/VarHandle") (hh1 : h < hh) (hn : n ≤ 45) : CallB X.1.2.2.2.1 (hs_s X) (hs_a X) own idx y b n ret (hs_w y b n ret) (hs_rm h) 0 0 k := by
  obtain ⟨c1, c2, c3, c4, c5, c6, c7⟩ := C
  have hG : GoodIn hs_tb (hs_w y b n ret) := by
    intro w hw
    have hm : w ∈ hs_tb := by
      rcases List.mem_cons.mp hw with rfl | hw
      · exact w5
      · exact hw
    exact ⟨hm, good_of_word (List.mem_filter.mp hm).2⟩
  refine callB_of k c5 hG rfl rfl rfl (c5 _ w4) (c5 _ w1) ⟨hmh.1, hmh.2, hdd⟩ ?_
  rw [c6]
  show h + 1 ≤ hh ∧ 8 + (n + 11) + 64 * h ≤ 64 * hh
  omega
theorem hs_callV (C : hs_C X wd own cc nL hh) {y : MethodName} {b : ByteArray} {n : Nat} {ret : Option FieldType} {h idx kd i N : Nat} {T : u_T} {args : (Nat → Nat) → List Value} {ov : (Nat → Nat) → Option Value} {As st0 : List Value} {S' : hs_M}
    (w1 : Jvm.Cond.methodLink own idx y ∈ hs_tb) (w2 : Jvm.Cond.instanceMethod y ∈ hs_tb) (w3 : Jvm.Cond.selects y.cls y y ∈ hs_tb) (w4 : Jvm.Cond.initialized y.cls ∈ hs_tb) (w5 : Jvm.Cond.code y b n ret ∈ hs_tb) (hmh : y.cls ≠ "java/lang/invoke/MethodHandle" ∧ y.cls ≠ "java/lang/invoke/VarHandle") (hn : n ≤ 45) (hc : vwCl[kd + 2]? = some (y.cls, T, N)) (h8 : kd < 8) (hw : hs_wk kd = wd)
    (hM : hs_met wd y b n ret h args S ov S') (ha : args (hs_q X) = .ref (hs_q X i) :: As) (hst : st0 = As.reverse ++ .ref (hs_q X i) :: st) (hdd : (parseMethodDescriptor y.desc).map (fun d => d.parameters.length) = some As.length) (hk : hs_K i = kd) (hh1 : h < hh) (hrest : (st.map fun v => v.category).sum ≤ 8) (hd : decode cc pc = .ok (.invokevirtual idx, 3)) (kk : hs_Z X nL S' lv ((ov (hs_q X)).toList ++ st) (pc + 3)) : hs_Z X nL S lv st0 pc := by
  intro H locs ls hP hS hl
  have hB := hs_callB C w1 w4 w5 hdd hmh hh1 hn
  have hpre := fun (U : State) (hU : U.heap = H) (hW : (hs_s X).WarmedH U.vm) => hs_preO C hP hS hU hW
  have CC := C
  obtain ⟨c1, c2, c3, c4, c5, c6, c7, c8, c9, c10, c11, c12⟩ := C
  have hiw := hs_inw (by rw [hk]; exact hw) c8
  have he := hs_at (q := hs_q X) (cy := hs_cy X) (S := S) hiw
  rw [hs_e_o hk h8, ← c7] at he
  have hrec := va_recv (ci := kd + 2) c9 hP hc he
  refine hs_back CC (a := (Value.ref (hs_q X i) :: As).toArray) (va_runV (As := As) (rest := st) ⟨c1, c2, c3, c4, c5⟩ (hM X.1.2.1 (hs_D X) (hs_cy X) (hs_q X) (hs_tbl X) H.size) ⟨hB, c5 _ w2, c5 _ w3⟩ ⟨hs_blind, hrec, fun U hU hW => ⟨by rw [ha], hpre U hU hW⟩⟩ rfl rfl hl.1 hst (lv_room hrest) hd ⟨Nat.zero_le _, Nat.zero_le _⟩) hS hl kk
theorem hs_callS (C : hs_C X wd own cc nL hh) {y : MethodName} {b : ByteArray} {n : Nat} {ret : Option FieldType} {h idx : Nat} {args : (Nat → Nat) → List Value} {ov : (Nat → Nat) → Option Value} {As st0 : List Value} {S' : hs_M}
    (w1 : Jvm.Cond.methodLink own idx y ∈ hs_tb) (w2 : Jvm.Cond.static y ∈ hs_tb) (w4 : Jvm.Cond.initialized y.cls ∈ hs_tb) (w5 : Jvm.Cond.code y b n ret ∈ hs_tb) (hmh : y.cls ≠ "java/lang/invoke/MethodHandle" ∧ y.cls ≠ "java/lang/invoke/VarHandle") (hn : n ≤ 45)
    (hM : hs_met wd y b n ret h args S ov S') (ha : args (hs_q X) = As) (hst : st0 = As.reverse ++ st) (hdd : (parseMethodDescriptor y.desc).map (fun d => d.parameters.length) = some As.length) (hh1 : h < hh) (hrest : (st.map fun v => v.category).sum ≤ 8) (hd : decode cc pc = .ok (.invokestatic idx, 3)) (kk : hs_Z X nL S' lv ((ov (hs_q X)).toList ++ st) (pc + 3)) : hs_Z X nL S lv st0 pc := by
  intro H locs ls hP hS hl
  have hB := hs_callB C w1 w4 w5 hdd hmh hh1 hn
  have hpre := fun (U : State) (hU : U.heap = H) (hW : (hs_s X).WarmedH U.vm) => hs_preO C hP hS hU hW
  have CC := C
  obtain ⟨c1, c2, c3, c4, c5, c6, c7, c8, c9, c10, c11, c12⟩ := C
  refine hs_back CC (a := As.toArray) (va_runS (As := As) (rest := st) ⟨c1, c2, c3, c4, c5⟩ (hM X.1.2.1 (hs_D X) (hs_cy X) (hs_q X) (hs_tbl X) H.size) ⟨hB, c5 _ w2⟩ ⟨hs_blind, fun U hU hW => ⟨by rw [ha], hpre U hU hW⟩⟩ rfl rfl hl.1 hst (lv_room hrest) hd ⟨Nat.zero_le _, Nat.zero_le _⟩) hS hl kk
theorem hs_cmin (C : hs_C X wd own cc nL hh) {idx : Nat} {x y : Int32} (w1 : Jvm.Cond.methodLink own idx Lib.Math.min.name ∈ hs_tb) (w2 : Jvm.Cond.static Lib.Math.min.name ∈ hs_tb) (w3 : Jvm.Cond.initialized "java/lang/Math" ∈ hs_tb) (w4 : Jvm.Cond.code Lib.Math.min.name Lib.Math.min.code 2 (some .int) ∈ hs_tb) (hh1 : 0 < hh) (hrest : (st.map fun v => v.category).sum ≤ 8) (hd : decode cc pc = .ok (.invokestatic idx, 3)) (kk : hs_Z X nL S lv (.int (hs_min x y) :: st) (pc + 3)) : hs_Z X nL S lv (.int y :: .int x :: st) pc := by
  intro H locs ls hP hS hl
  obtain ⟨c1, c2, c3, c4, c5, c6, c7⟩ := C
  refine va_mmin c1 c2 (by rw [c3]; exact hl.1.symm) c4 (c5 _ w1) (c5 _ w2) (c5 _ w3) (c5 _ w4) (by rw [c6]; exact hh1) (by rw [c6]; show _ + 13 ≤ 64 * hh; omega) (Nat.zero_le _) (Nat.zero_le _) hd (kk H locs ls hP hS hl)
theorem hs_cmax (C : hs_C X wd own cc nL hh) {idx : Nat} {x y : Int32} (w1 : Jvm.Cond.methodLink own idx Lib.Math.max.name ∈ hs_tb) (w2 : Jvm.Cond.static Lib.Math.max.name ∈ hs_tb) (w3 : Jvm.Cond.initialized "java/lang/Math" ∈ hs_tb) (w4 : Jvm.Cond.code Lib.Math.max.name Lib.Math.max.code 2 (some .int) ∈ hs_tb) (hh1 : 0 < hh) (hrest : (st.map fun v => v.category).sum ≤ 8) (hd : decode cc pc = .ok (.invokestatic idx, 3)) (kk : hs_Z X nL S lv (.int (hs_max x y) :: st) (pc + 3)) : hs_Z X nL S lv (.int y :: .int x :: st) pc := by
  intro H locs ls hP hS hl
  obtain ⟨c1, c2, c3, c4, c5, c6, c7⟩ := C
  refine va_mmax c1 c2 (by rw [c3]; exact hl.1.symm) c4 (c5 _ w1) (c5 _ w2) (c5 _ w3) (c5 _ w4) (by rw [c6]; exact hh1) (by rw [c6]; show _ + 13 ≤ 64 * hh; omega) (Nat.zero_le _) (Nat.zero_le _) hd (kk H locs ls hP hS hl)
end HSL
end
section
theorem i_vc : Claimed_1_1 ∧ Claimed_1_2 := sorry
end
