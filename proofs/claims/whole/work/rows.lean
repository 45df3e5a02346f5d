section
-- ===== PART A: goes FIRST, ahead of the names: the tables' words, and 'selects' of the private methods out of them =====
/-- a private method of a class that the tables say can be made, by its rows of tables_1 -/
def lw_okq (q : MethodName × Nat) : Prop := (q.1.cls ≠ "java/lang/invoke/MethodHandle" ∧ q.1.cls ≠ "java/lang/invoke/VarHandle") ∧ Cond.instantiable q.1.cls q.2 ∈ tables_1 ∧ Cond.privateMethod q.1 ∈ tables_1 ∧ Cond.instanceMethod q.1 ∈ tables_1
theorem lw_p0 : lw_okq (⟨"StateChannels", "hasRoomForStates", "(I)Z"⟩, 11) := ⟨⟨by decide +kernel, by decide +kernel⟩, List.mem_of_getElem? (i := 11) (by decide +kernel), List.mem_of_getElem? (i := 87) (by decide +kernel), List.mem_of_getElem? (i := 88) (by decide +kernel)⟩
theorem lw_p1 : lw_okq (⟨"StateChannels", "allHave", "(II)Z"⟩, 11) := ⟨⟨by decide +kernel, by decide +kernel⟩, List.mem_of_getElem? (i := 11) (by decide +kernel), List.mem_of_getElem? (i := 91) (by decide +kernel), List.mem_of_getElem? (i := 92) (by decide +kernel)⟩
theorem lw_p2 : lw_okq (⟨"StateChannels", "newState", "(LStateChannels$Channel;)LStateChannels$State;"⟩, 11) := ⟨⟨by decide +kernel, by decide +kernel⟩, List.mem_of_getElem? (i := 11) (by decide +kernel), List.mem_of_getElem? (i := 156) (by decide +kernel), List.mem_of_getElem? (i := 157) (by decide +kernel)⟩
theorem lw_p3 : lw_okq (⟨"StateChannels", "channelAt", "(I)LStateChannels$Channel;"⟩, 11) := ⟨⟨by decide +kernel, by decide +kernel⟩, List.mem_of_getElem? (i := 11) (by decide +kernel), List.mem_of_getElem? (i := 219) (by decide +kernel), List.mem_of_getElem? (i := 220) (by decide +kernel)⟩
theorem lw_p4 : lw_okq (⟨"StateChannels", "newStateAsNewest", "(LStateChannels$Channel;)LStateChannels$State;"⟩, 11) := ⟨⟨by decide +kernel, by decide +kernel⟩, List.mem_of_getElem? (i := 11) (by decide +kernel), List.mem_of_getElem? (i := 223) (by decide +kernel), List.mem_of_getElem? (i := 224) (by decide +kernel)⟩
theorem lw_p5 : lw_okq (⟨"StateChannels", "stateAt", "(I)LStateChannels$State;"⟩, 11) := ⟨⟨by decide +kernel, by decide +kernel⟩, List.mem_of_getElem? (i := 11) (by decide +kernel), List.mem_of_getElem? (i := 241) (by decide +kernel), List.mem_of_getElem? (i := 242) (by decide +kernel)⟩
theorem lw_p6 : lw_okq (⟨"StateChannels", "isSecret", "(I)Z"⟩, 11) := ⟨⟨by decide +kernel, by decide +kernel⟩, List.mem_of_getElem? (i := 11) (by decide +kernel), List.mem_of_getElem? (i := 263) (by decide +kernel), List.mem_of_getElem? (i := 264) (by decide +kernel)⟩
theorem lw_p7 : lw_okq (⟨"StateChannels", "makeShown", "(LStateChannels$State;)V"⟩, 11) := ⟨⟨by decide +kernel, by decide +kernel⟩, List.mem_of_getElem? (i := 11) (by decide +kernel), List.mem_of_getElem? (i := 387) (by decide +kernel), List.mem_of_getElem? (i := 388) (by decide +kernel)⟩
theorem lw_p8 : lw_okq (⟨"StateChannels", "fulfil", "(LStateChannels$State;)V"⟩, 11) := ⟨⟨by decide +kernel, by decide +kernel⟩, List.mem_of_getElem? (i := 11) (by decide +kernel), List.mem_of_getElem? (i := 395) (by decide +kernel), List.mem_of_getElem? (i := 396) (by decide +kernel)⟩
theorem lw_p9 : lw_okq (⟨"StateChannels", "payOuts", "(LStateChannels$State;)V"⟩, 11) := ⟨⟨by decide +kernel, by decide +kernel⟩, List.mem_of_getElem? (i := 11) (by decide +kernel), List.mem_of_getElem? (i := 403) (by decide +kernel), List.mem_of_getElem? (i := 404) (by decide +kernel)⟩
theorem lw_p10 : lw_okq (⟨"StateChannels", "payFrom", "(LStateChannels$Channel;II)V"⟩, 11) := ⟨⟨by decide +kernel, by decide +kernel⟩, List.mem_of_getElem? (i := 11) (by decide +kernel), List.mem_of_getElem? (i := 407) (by decide +kernel), List.mem_of_getElem? (i := 408) (by decide +kernel)⟩
theorem lw_p11 : lw_okq (⟨"StateChannels", "endBy", "(LStateChannels$State;)V"⟩, 11) := ⟨⟨by decide +kernel, by decide +kernel⟩, List.mem_of_getElem? (i := 11) (by decide +kernel), List.mem_of_getElem? (i := 411) (by decide +kernel), List.mem_of_getElem? (i := 412) (by decide +kernel)⟩
theorem lw_p12 : lw_okq (⟨"StateChannels", "holdOrGiveBack", "(LStateChannels$Channel;ILStateChannels$Lock;)V"⟩, 11) := ⟨⟨by decide +kernel, by decide +kernel⟩, List.mem_of_getElem? (i := 11) (by decide +kernel), List.mem_of_getElem? (i := 415) (by decide +kernel), List.mem_of_getElem? (i := 416) (by decide +kernel)⟩
theorem lw_p13 : lw_okq (⟨"StateChannels", "hasRoomForSecret", "()Z"⟩, 11) := ⟨⟨by decide +kernel, by decide +kernel⟩, List.mem_of_getElem? (i := 11) (by decide +kernel), List.mem_of_getElem? (i := 426) (by decide +kernel), List.mem_of_getElem? (i := 427) (by decide +kernel)⟩
theorem lw_p14 : lw_okq (⟨"StateChannels", "newSecret", "(I)I"⟩, 11) := ⟨⟨by decide +kernel, by decide +kernel⟩, List.mem_of_getElem? (i := 11) (by decide +kernel), List.mem_of_getElem? (i := 430) (by decide +kernel), List.mem_of_getElem? (i := 431) (by decide +kernel)⟩
theorem lw_p15 : lw_okq (⟨"StateChannels", "isKnownBy", "(II)Z"⟩, 11) := ⟨⟨by decide +kernel, by decide +kernel⟩, List.mem_of_getElem? (i := 11) (by decide +kernel), List.mem_of_getElem? (i := 438) (by decide +kernel), List.mem_of_getElem? (i := 439) (by decide +kernel)⟩
def lw_privs_1 : List (MethodName × Nat) := [(⟨"StateChannels", "hasRoomForStates", "(I)Z"⟩, 11), (⟨"StateChannels", "allHave", "(II)Z"⟩, 11), (⟨"StateChannels", "newState", "(LStateChannels$Channel;)LStateChannels$State;"⟩, 11), (⟨"StateChannels", "channelAt", "(I)LStateChannels$Channel;"⟩, 11), (⟨"StateChannels", "newStateAsNewest", "(LStateChannels$Channel;)LStateChannels$State;"⟩, 11), (⟨"StateChannels", "stateAt", "(I)LStateChannels$State;"⟩, 11), (⟨"StateChannels", "isSecret", "(I)Z"⟩, 11), (⟨"StateChannels", "makeShown", "(LStateChannels$State;)V"⟩, 11), (⟨"StateChannels", "fulfil", "(LStateChannels$State;)V"⟩, 11), (⟨"StateChannels", "payOuts", "(LStateChannels$State;)V"⟩, 11), (⟨"StateChannels", "payFrom", "(LStateChannels$Channel;II)V"⟩, 11), (⟨"StateChannels", "endBy", "(LStateChannels$State;)V"⟩, 11), (⟨"StateChannels", "holdOrGiveBack", "(LStateChannels$Channel;ILStateChannels$Lock;)V"⟩, 11), (⟨"StateChannels", "hasRoomForSecret", "()Z"⟩, 11), (⟨"StateChannels", "newSecret", "(I)I"⟩, 11), (⟨"StateChannels", "isKnownBy", "(II)Z"⟩, 11)]
theorem lw_r1 : ∀ q ∈ lw_privs_1, lw_okq q := List.forall_mem_cons.mpr ⟨lw_p0, List.forall_mem_cons.mpr ⟨lw_p1, List.forall_mem_cons.mpr ⟨lw_p2, List.forall_mem_cons.mpr ⟨lw_p3, List.forall_mem_cons.mpr ⟨lw_p4, List.forall_mem_cons.mpr ⟨lw_p5, List.forall_mem_cons.mpr ⟨lw_p6, List.forall_mem_cons.mpr ⟨lw_p7, List.forall_mem_cons.mpr ⟨lw_p8, List.forall_mem_cons.mpr ⟨lw_p9, List.forall_mem_cons.mpr ⟨lw_p10, List.forall_mem_cons.mpr ⟨lw_p11, List.forall_mem_cons.mpr ⟨lw_p12, List.forall_mem_cons.mpr ⟨lw_p13, List.forall_mem_cons.mpr ⟨lw_p14, List.forall_mem_cons.mpr ⟨lw_p15, fun _ h => absurd h List.not_mem_nil⟩⟩⟩⟩⟩⟩⟩⟩⟩⟩⟩⟩⟩⟩⟩⟩
theorem lw_p16 : lw_okq (⟨"StateChannels", "claimHeld", "(LStateChannels$Channel;II)I"⟩, 11) := ⟨⟨by decide +kernel, by decide +kernel⟩, List.mem_of_getElem? (i := 11) (by decide +kernel), List.mem_of_getElem? (i := 449) (by decide +kernel), List.mem_of_getElem? (i := 450) (by decide +kernel)⟩
theorem lw_p17 : lw_okq (⟨"StateChannels", "canClaim", "(LStateChannels$Lock;I)Z"⟩, 11) := ⟨⟨by decide +kernel, by decide +kernel⟩, List.mem_of_getElem? (i := 11) (by decide +kernel), List.mem_of_getElem? (i := 459) (by decide +kernel), List.mem_of_getElem? (i := 460) (by decide +kernel)⟩
theorem lw_p18 : lw_okq (⟨"StateChannels", "payHeldLock", "(LStateChannels$Channel;III)V"⟩, 11) := ⟨⟨by decide +kernel, by decide +kernel⟩, List.mem_of_getElem? (i := 11) (by decide +kernel), List.mem_of_getElem? (i := 463) (by decide +kernel), List.mem_of_getElem? (i := 464) (by decide +kernel)⟩
theorem lw_p19 : lw_okq (⟨"StateChannels", "moveHeld", "(LStateChannels$Channel;LStateChannels$Game;I)V"⟩, 11) := ⟨⟨by decide +kernel, by decide +kernel⟩, List.mem_of_getElem? (i := 11) (by decide +kernel), List.mem_of_getElem? (i := 471) (by decide +kernel), List.mem_of_getElem? (i := 472) (by decide +kernel)⟩
theorem lw_p20 : lw_okq (⟨"StateChannels", "payHeldStake", "(LStateChannels$Channel;II)V"⟩, 11) := ⟨⟨by decide +kernel, by decide +kernel⟩, List.mem_of_getElem? (i := 11) (by decide +kernel), List.mem_of_getElem? (i := 475) (by decide +kernel), List.mem_of_getElem? (i := 476) (by decide +kernel)⟩
theorem lw_p21 : lw_okq (⟨"StateChannels", "oneHeightMore", "()V"⟩, 11) := ⟨⟨by decide +kernel, by decide +kernel⟩, List.mem_of_getElem? (i := 11) (by decide +kernel), List.mem_of_getElem? (i := 487) (by decide +kernel), List.mem_of_getElem? (i := 488) (by decide +kernel)⟩
theorem lw_p22 : lw_okq (⟨"StateChannels", "meetHeight", "(LStateChannels$Channel;)V"⟩, 11) := ⟨⟨by decide +kernel, by decide +kernel⟩, List.mem_of_getElem? (i := 11) (by decide +kernel), List.mem_of_getElem? (i := 491) (by decide +kernel), List.mem_of_getElem? (i := 492) (by decide +kernel)⟩
theorem lw_p23 : lw_okq (⟨"StateChannels", "watchFor", "(ILStateChannels$Channel;)V"⟩, 11) := ⟨⟨by decide +kernel, by decide +kernel⟩, List.mem_of_getElem? (i := 11) (by decide +kernel), List.mem_of_getElem? (i := 495) (by decide +kernel), List.mem_of_getElem? (i := 496) (by decide +kernel)⟩
theorem lw_p24 : lw_okq (⟨"StateChannels", "playFor", "(ILStateChannels$Channel;)V"⟩, 11) := ⟨⟨by decide +kernel, by decide +kernel⟩, List.mem_of_getElem? (i := 11) (by decide +kernel), List.mem_of_getElem? (i := 499) (by decide +kernel), List.mem_of_getElem? (i := 500) (by decide +kernel)⟩
theorem lw_p25 : lw_okq (⟨"StateChannels", "hasUrgentLock", "(LStateChannels$State;I)Z"⟩, 11) := ⟨⟨by decide +kernel, by decide +kernel⟩, List.mem_of_getElem? (i := 11) (by decide +kernel), List.mem_of_getElem? (i := 503) (by decide +kernel), List.mem_of_getElem? (i := 504) (by decide +kernel)⟩
theorem lw_p26 : lw_okq (⟨"StateChannels", "continuesRoute", "(LStateChannels$Channel;I)Z"⟩, 11) := ⟨⟨by decide +kernel, by decide +kernel⟩, List.mem_of_getElem? (i := 11) (by decide +kernel), List.mem_of_getElem? (i := 511) (by decide +kernel), List.mem_of_getElem? (i := 512) (by decide +kernel)⟩
theorem lw_p27 : lw_okq (⟨"StateChannels", "hopAt", "(I)LStateChannels$Hop;"⟩, 11) := ⟨⟨by decide +kernel, by decide +kernel⟩, List.mem_of_getElem? (i := 11) (by decide +kernel), List.mem_of_getElem? (i := 515) (by decide +kernel), List.mem_of_getElem? (i := 516) (by decide +kernel)⟩
theorem lw_p28 : lw_okq (⟨"StateChannels", "allCarry", "(II)Z"⟩, 11) := ⟨⟨by decide +kernel, by decide +kernel⟩, List.mem_of_getElem? (i := 11) (by decide +kernel), List.mem_of_getElem? (i := 541) (by decide +kernel), List.mem_of_getElem? (i := 542) (by decide +kernel)⟩
theorem lw_p29 : lw_okq (⟨"StateChannels", "firstExpiry", "(II)I"⟩, 11) := ⟨⟨by decide +kernel, by decide +kernel⟩, List.mem_of_getElem? (i := 11) (by decide +kernel), List.mem_of_getElem? (i := 551) (by decide +kernel), List.mem_of_getElem? (i := 552) (by decide +kernel)⟩
theorem lw_p30 : lw_okq (⟨"StateChannels", "payHop", "(LStateChannels$Hop;III)V"⟩, 11) := ⟨⟨by decide +kernel, by decide +kernel⟩, List.mem_of_getElem? (i := 11) (by decide +kernel), List.mem_of_getElem? (i := 555) (by decide +kernel), List.mem_of_getElem? (i := 556) (by decide +kernel)⟩
theorem lw_p31 : lw_okq (⟨"StateChannels", "allThereIs", "()I"⟩, 11) := ⟨⟨by decide +kernel, by decide +kernel⟩, List.mem_of_getElem? (i := 11) (by decide +kernel), List.mem_of_getElem? (i := 591) (by decide +kernel), List.mem_of_getElem? (i := 592) (by decide +kernel)⟩
def lw_privs_2 : List (MethodName × Nat) := [(⟨"StateChannels", "claimHeld", "(LStateChannels$Channel;II)I"⟩, 11), (⟨"StateChannels", "canClaim", "(LStateChannels$Lock;I)Z"⟩, 11), (⟨"StateChannels", "payHeldLock", "(LStateChannels$Channel;III)V"⟩, 11), (⟨"StateChannels", "moveHeld", "(LStateChannels$Channel;LStateChannels$Game;I)V"⟩, 11), (⟨"StateChannels", "payHeldStake", "(LStateChannels$Channel;II)V"⟩, 11), (⟨"StateChannels", "oneHeightMore", "()V"⟩, 11), (⟨"StateChannels", "meetHeight", "(LStateChannels$Channel;)V"⟩, 11), (⟨"StateChannels", "watchFor", "(ILStateChannels$Channel;)V"⟩, 11), (⟨"StateChannels", "playFor", "(ILStateChannels$Channel;)V"⟩, 11), (⟨"StateChannels", "hasUrgentLock", "(LStateChannels$State;I)Z"⟩, 11), (⟨"StateChannels", "continuesRoute", "(LStateChannels$Channel;I)Z"⟩, 11), (⟨"StateChannels", "hopAt", "(I)LStateChannels$Hop;"⟩, 11), (⟨"StateChannels", "allCarry", "(II)Z"⟩, 11), (⟨"StateChannels", "firstExpiry", "(II)I"⟩, 11), (⟨"StateChannels", "payHop", "(LStateChannels$Hop;III)V"⟩, 11), (⟨"StateChannels", "allThereIs", "()I"⟩, 11)]
theorem lw_r2 : ∀ q ∈ lw_privs_2, lw_okq q := List.forall_mem_cons.mpr ⟨lw_p16, List.forall_mem_cons.mpr ⟨lw_p17, List.forall_mem_cons.mpr ⟨lw_p18, List.forall_mem_cons.mpr ⟨lw_p19, List.forall_mem_cons.mpr ⟨lw_p20, List.forall_mem_cons.mpr ⟨lw_p21, List.forall_mem_cons.mpr ⟨lw_p22, List.forall_mem_cons.mpr ⟨lw_p23, List.forall_mem_cons.mpr ⟨lw_p24, List.forall_mem_cons.mpr ⟨lw_p25, List.forall_mem_cons.mpr ⟨lw_p26, List.forall_mem_cons.mpr ⟨lw_p27, List.forall_mem_cons.mpr ⟨lw_p28, List.forall_mem_cons.mpr ⟨lw_p29, List.forall_mem_cons.mpr ⟨lw_p30, List.forall_mem_cons.mpr ⟨lw_p31, fun _ h => absurd h List.not_mem_nil⟩⟩⟩⟩⟩⟩⟩⟩⟩⟩⟩⟩⟩⟩⟩⟩
theorem lw_p32 : lw_okq (⟨"StateChannelsModel", "blank", "(I)I"⟩, 24) := ⟨⟨by decide +kernel, by decide +kernel⟩, List.mem_of_getElem? (i := 596) (by decide +kernel), List.mem_of_getElem? (i := 688) (by decide +kernel), List.mem_of_getElem? (i := 689) (by decide +kernel)⟩
theorem lw_p33 : lw_okq (⟨"StateChannelsModel", "channelOf", "(I)I"⟩, 24) := ⟨⟨by decide +kernel, by decide +kernel⟩, List.mem_of_getElem? (i := 596) (by decide +kernel), List.mem_of_getElem? (i := 692) (by decide +kernel), List.mem_of_getElem? (i := 693) (by decide +kernel)⟩
theorem lw_p34 : lw_okq (⟨"StateChannelsModel", "isChannel", "(I)Z"⟩, 24) := ⟨⟨by decide +kernel, by decide +kernel⟩, List.mem_of_getElem? (i := 596) (by decide +kernel), List.mem_of_getElem? (i := 700) (by decide +kernel), List.mem_of_getElem? (i := 701) (by decide +kernel)⟩
theorem lw_p35 : lw_okq (⟨"StateChannelsModel", "copied", "(I)I"⟩, 24) := ⟨⟨by decide +kernel, by decide +kernel⟩, List.mem_of_getElem? (i := 596) (by decide +kernel), List.mem_of_getElem? (i := 704) (by decide +kernel), List.mem_of_getElem? (i := 705) (by decide +kernel)⟩
theorem lw_p36 : lw_okq (⟨"StateChannelsModel", "newest", "(I)I"⟩, 24) := ⟨⟨by decide +kernel, by decide +kernel⟩, List.mem_of_getElem? (i := 596) (by decide +kernel), List.mem_of_getElem? (i := 708) (by decide +kernel), List.mem_of_getElem? (i := 709) (by decide +kernel)⟩
theorem lw_p37 : lw_okq (⟨"StateChannelsModel", "counts", "(I)Z"⟩, 24) := ⟨⟨by decide +kernel, by decide +kernel⟩, List.mem_of_getElem? (i := 596) (by decide +kernel), List.mem_of_getElem? (i := 712) (by decide +kernel), List.mem_of_getElem? (i := 713) (by decide +kernel)⟩
theorem lw_p38 : lw_okq (⟨"StateChannelsModel", "whole", "(I)I"⟩, 24) := ⟨⟨by decide +kernel, by decide +kernel⟩, List.mem_of_getElem? (i := 596) (by decide +kernel), List.mem_of_getElem? (i := 716) (by decide +kernel), List.mem_of_getElem? (i := 717) (by decide +kernel)⟩
theorem lw_p39 : lw_okq (⟨"StateChannelsModel", "isOf", "(II)Z"⟩, 24) := ⟨⟨by decide +kernel, by decide +kernel⟩, List.mem_of_getElem? (i := 596) (by decide +kernel), List.mem_of_getElem? (i := 727) (by decide +kernel), List.mem_of_getElem? (i := 728) (by decide +kernel)⟩
theorem lw_p40 : lw_okq (⟨"StateChannelsModel", "isState", "(I)Z"⟩, 24) := ⟨⟨by decide +kernel, by decide +kernel⟩, List.mem_of_getElem? (i := 596) (by decide +kernel), List.mem_of_getElem? (i := 731) (by decide +kernel), List.mem_of_getElem? (i := 732) (by decide +kernel)⟩
theorem lw_p41 : lw_okq (⟨"StateChannelsModel", "isMember", "(II)Z"⟩, 24) := ⟨⟨by decide +kernel, by decide +kernel⟩, List.mem_of_getElem? (i := 596) (by decide +kernel), List.mem_of_getElem? (i := 735) (by decide +kernel), List.mem_of_getElem? (i := 736) (by decide +kernel)⟩
theorem lw_p42 : lw_okq (⟨"StateChannelsModel", "isFixed", "(I)Z"⟩, 24) := ⟨⟨by decide +kernel, by decide +kernel⟩, List.mem_of_getElem? (i := 596) (by decide +kernel), List.mem_of_getElem? (i := 742) (by decide +kernel), List.mem_of_getElem? (i := 743) (by decide +kernel)⟩
theorem lw_p43 : lw_okq (⟨"StateChannelsModel", "free", "(II)I"⟩, 24) := ⟨⟨by decide +kernel, by decide +kernel⟩, List.mem_of_getElem? (i := 596) (by decide +kernel), List.mem_of_getElem? (i := 747) (by decide +kernel), List.mem_of_getElem? (i := 748) (by decide +kernel)⟩
theorem lw_p44 : lw_okq (⟨"StateChannelsModel", "emptyPlace", "(I)I"⟩, 24) := ⟨⟨by decide +kernel, by decide +kernel⟩, List.mem_of_getElem? (i := 596) (by decide +kernel), List.mem_of_getElem? (i := 756) (by decide +kernel), List.mem_of_getElem? (i := 757) (by decide +kernel)⟩
theorem lw_p45 : lw_okq (⟨"StateChannelsModel", "locks", "(IIIIII)I"⟩, 24) := ⟨⟨by decide +kernel, by decide +kernel⟩, List.mem_of_getElem? (i := 596) (by decide +kernel), List.mem_of_getElem? (i := 760) (by decide +kernel), List.mem_of_getElem? (i := 761) (by decide +kernel)⟩
theorem lw_p46 : lw_okq (⟨"StateChannelsModel", "isLock", "(II)Z"⟩, 24) := ⟨⟨by decide +kernel, by decide +kernel⟩, List.mem_of_getElem? (i := 596) (by decide +kernel), List.mem_of_getElem? (i := 768) (by decide +kernel), List.mem_of_getElem? (i := 769) (by decide +kernel)⟩
theorem lw_p47 : lw_okq (⟨"StateChannelsModel", "shows", "(I)V"⟩, 24) := ⟨⟨by decide +kernel, by decide +kernel⟩, List.mem_of_getElem? (i := 596) (by decide +kernel), List.mem_of_getElem? (i := 792) (by decide +kernel), List.mem_of_getElem? (i := 793) (by decide +kernel)⟩
def lw_privs_3 : List (MethodName × Nat) := [(⟨"StateChannelsModel", "blank", "(I)I"⟩, 24), (⟨"StateChannelsModel", "channelOf", "(I)I"⟩, 24), (⟨"StateChannelsModel", "isChannel", "(I)Z"⟩, 24), (⟨"StateChannelsModel", "copied", "(I)I"⟩, 24), (⟨"StateChannelsModel", "newest", "(I)I"⟩, 24), (⟨"StateChannelsModel", "counts", "(I)Z"⟩, 24), (⟨"StateChannelsModel", "whole", "(I)I"⟩, 24), (⟨"StateChannelsModel", "isOf", "(II)Z"⟩, 24), (⟨"StateChannelsModel", "isState", "(I)Z"⟩, 24), (⟨"StateChannelsModel", "isMember", "(II)Z"⟩, 24), (⟨"StateChannelsModel", "isFixed", "(I)Z"⟩, 24), (⟨"StateChannelsModel", "free", "(II)I"⟩, 24), (⟨"StateChannelsModel", "emptyPlace", "(I)I"⟩, 24), (⟨"StateChannelsModel", "locks", "(IIIIII)I"⟩, 24), (⟨"StateChannelsModel", "isLock", "(II)Z"⟩, 24), (⟨"StateChannelsModel", "shows", "(I)V"⟩, 24)]
theorem lw_r3 : ∀ q ∈ lw_privs_3, lw_okq q := List.forall_mem_cons.mpr ⟨lw_p32, List.forall_mem_cons.mpr ⟨lw_p33, List.forall_mem_cons.mpr ⟨lw_p34, List.forall_mem_cons.mpr ⟨lw_p35, List.forall_mem_cons.mpr ⟨lw_p36, List.forall_mem_cons.mpr ⟨lw_p37, List.forall_mem_cons.mpr ⟨lw_p38, List.forall_mem_cons.mpr ⟨lw_p39, List.forall_mem_cons.mpr ⟨lw_p40, List.forall_mem_cons.mpr ⟨lw_p41, List.forall_mem_cons.mpr ⟨lw_p42, List.forall_mem_cons.mpr ⟨lw_p43, List.forall_mem_cons.mpr ⟨lw_p44, List.forall_mem_cons.mpr ⟨lw_p45, List.forall_mem_cons.mpr ⟨lw_p46, List.forall_mem_cons.mpr ⟨lw_p47, fun _ h => absurd h List.not_mem_nil⟩⟩⟩⟩⟩⟩⟩⟩⟩⟩⟩⟩⟩⟩⟩⟩
theorem lw_p48 : lw_okq (⟨"StateChannelsModel", "takesOut", "(II)V"⟩, 24) := ⟨⟨by decide +kernel, by decide +kernel⟩, List.mem_of_getElem? (i := 596) (by decide +kernel), List.mem_of_getElem? (i := 800) (by decide +kernel), List.mem_of_getElem? (i := 801) (by decide +kernel)⟩
theorem lw_p49 : lw_okq (⟨"StateChannelsModel", "end", "(II)V"⟩, 24) := ⟨⟨by decide +kernel, by decide +kernel⟩, List.mem_of_getElem? (i := 596) (by decide +kernel), List.mem_of_getElem? (i := 804) (by decide +kernel), List.mem_of_getElem? (i := 805) (by decide +kernel)⟩
theorem lw_p50 : lw_okq (⟨"StateChannelsModel", "pays", "(III)V"⟩, 24) := ⟨⟨by decide +kernel, by decide +kernel⟩, List.mem_of_getElem? (i := 596) (by decide +kernel), List.mem_of_getElem? (i := 808) (by decide +kernel), List.mem_of_getElem? (i := 809) (by decide +kernel)⟩
theorem lw_p51 : lw_okq (⟨"StateChannelsModel", "canClaim", "(III)Z"⟩, 24) := ⟨⟨by decide +kernel, by decide +kernel⟩, List.mem_of_getElem? (i := 596) (by decide +kernel), List.mem_of_getElem? (i := 824) (by decide +kernel), List.mem_of_getElem? (i := 825) (by decide +kernel)⟩
theorem lw_p52 : lw_okq (⟨"StateChannelsModel", "claims", "(III)I"⟩, 24) := ⟨⟨by decide +kernel, by decide +kernel⟩, List.mem_of_getElem? (i := 596) (by decide +kernel), List.mem_of_getElem? (i := 828) (by decide +kernel), List.mem_of_getElem? (i := 829) (by decide +kernel)⟩
theorem lw_p53 : lw_okq (⟨"StateChannelsModel", "steps", "(II)I"⟩, 24) := ⟨⟨by decide +kernel, by decide +kernel⟩, List.mem_of_getElem? (i := 596) (by decide +kernel), List.mem_of_getElem? (i := 836) (by decide +kernel), List.mem_of_getElem? (i := 837) (by decide +kernel)⟩
theorem lw_p54 : lw_okq (⟨"StateChannelsModel", "wins", "(II)V"⟩, 24) := ⟨⟨by decide +kernel, by decide +kernel⟩, List.mem_of_getElem? (i := 596) (by decide +kernel), List.mem_of_getElem? (i := 840) (by decide +kernel), List.mem_of_getElem? (i := 841) (by decide +kernel)⟩
theorem lw_p55 : lw_okq (⟨"StateChannelsModel", "oneMore", "()V"⟩, 24) := ⟨⟨by decide +kernel, by decide +kernel⟩, List.mem_of_getElem? (i := 596) (by decide +kernel), List.mem_of_getElem? (i := 852) (by decide +kernel), List.mem_of_getElem? (i := 853) (by decide +kernel)⟩
theorem lw_p56 : lw_okq (⟨"StateChannelsModel", "dues", "(I)V"⟩, 24) := ⟨⟨by decide +kernel, by decide +kernel⟩, List.mem_of_getElem? (i := 596) (by decide +kernel), List.mem_of_getElem? (i := 856) (by decide +kernel), List.mem_of_getElem? (i := 857) (by decide +kernel)⟩
theorem lw_p57 : lw_okq (⟨"StateChannelsModel", "watches", "(II)V"⟩, 24) := ⟨⟨by decide +kernel, by decide +kernel⟩, List.mem_of_getElem? (i := 596) (by decide +kernel), List.mem_of_getElem? (i := 860) (by decide +kernel), List.mem_of_getElem? (i := 861) (by decide +kernel)⟩
theorem lw_p58 : lw_okq (⟨"StateChannelsModel", "all", "()I"⟩, 24) := ⟨⟨by decide +kernel, by decide +kernel⟩, List.mem_of_getElem? (i := 596) (by decide +kernel), List.mem_of_getElem? (i := 901) (by decide +kernel), List.mem_of_getElem? (i := 902) (by decide +kernel)⟩
def lw_privs_4 : List (MethodName × Nat) := [(⟨"StateChannelsModel", "takesOut", "(II)V"⟩, 24), (⟨"StateChannelsModel", "end", "(II)V"⟩, 24), (⟨"StateChannelsModel", "pays", "(III)V"⟩, 24), (⟨"StateChannelsModel", "canClaim", "(III)Z"⟩, 24), (⟨"StateChannelsModel", "claims", "(III)I"⟩, 24), (⟨"StateChannelsModel", "steps", "(II)I"⟩, 24), (⟨"StateChannelsModel", "wins", "(II)V"⟩, 24), (⟨"StateChannelsModel", "oneMore", "()V"⟩, 24), (⟨"StateChannelsModel", "dues", "(I)V"⟩, 24), (⟨"StateChannelsModel", "watches", "(II)V"⟩, 24), (⟨"StateChannelsModel", "all", "()I"⟩, 24)]
theorem lw_r4 : ∀ q ∈ lw_privs_4, lw_okq q := List.forall_mem_cons.mpr ⟨lw_p48, List.forall_mem_cons.mpr ⟨lw_p49, List.forall_mem_cons.mpr ⟨lw_p50, List.forall_mem_cons.mpr ⟨lw_p51, List.forall_mem_cons.mpr ⟨lw_p52, List.forall_mem_cons.mpr ⟨lw_p53, List.forall_mem_cons.mpr ⟨lw_p54, List.forall_mem_cons.mpr ⟨lw_p55, List.forall_mem_cons.mpr ⟨lw_p56, List.forall_mem_cons.mpr ⟨lw_p57, List.forall_mem_cons.mpr ⟨lw_p58, fun _ h => absurd h List.not_mem_nil⟩⟩⟩⟩⟩⟩⟩⟩⟩⟩⟩
def lw_privs : List (MethodName × Nat) := lw_privs_1 ++ (lw_privs_2 ++ (lw_privs_3 ++ (lw_privs_4)))
def lw_tbl : List Cond := k2_sels lw_privs ++ tables_1
theorem lw_privs_ok : ∀ q ∈ lw_privs, lw_okq q := by
  show ∀ q ∈ lw_privs_1 ++ (lw_privs_2 ++ (lw_privs_3 ++ (lw_privs_4))), lw_okq q
  exact List.forall_mem_append.mpr ⟨lw_r1, List.forall_mem_append.mpr ⟨lw_r2, List.forall_mem_append.mpr ⟨lw_r3, lw_r4⟩⟩⟩
end
section
def RX0 : String := "StateChannels$Channel"
def TX0 : u_T := fun k => match k with
  | 0 => ("StateChannels$Channel", "number", "I", true)
  | 1 => ("StateChannels$Channel", "members", "I", true)
  | 2 => ("StateChannels$Channel", "delay", "I", true)
  | 3 => ("StateChannels$Channel", "sum", "I", false)
  | 4 => ("StateChannels$Channel", "phase", "I", false)
  | 5 => ("StateChannels$Channel", "statesMade", "I", false)
  | 6 => ("StateChannels$Channel", "newest", "LStateChannels$State;", false)
  | 7 => ("StateChannels$Channel", "by", "LStateChannels$State;", false)
  | 8 => ("StateChannels$Channel", "until", "I", false)
  | 9 => ("StateChannels$Channel", "heldPlaces", "I", false)
  | 10 => ("StateChannels$Channel", "heldGame", "LStateChannels$Game;", false)
  | _ => ("StateChannels$Channel", "deadline", "I", false)
def tyX0 : Nat → FieldType := fun k => match k with
  | 0 => .int
  | 1 => .int
  | 2 => .int
  | 3 => .int
  | 4 => .int
  | 5 => .int
  | 6 => .object "StateChannels$State"
  | 7 => .object "StateChannels$State"
  | 8 => .int
  | 9 => .int
  | 10 => .object "StateChannels$Game"
  | _ => .int
theorem nmX0 : ∀ a, a < 12 → ∀ b, b < 12 → a ≠ b → (TX0 a).2.1 ≠ (TX0 b).2.1 := by decide +kernel
theorem tyX0_ok : ∀ k, k < 12 → parseFieldDescriptor (TX0 k).2.2.1 = some (tyX0 k) := by decide +kernel
abbrev cX0_init : ByteArray := prog_2_method_1_code
def yX0_init : MethodName := ⟨RX0, "<init>", "(III)V"⟩
abbrev cX0_hasMember : ByteArray := prog_2_method_2_code
def yX0_hasMember : MethodName := ⟨RX0, "hasMember", "(I)Z"⟩
abbrev cX0_noteSigned : ByteArray := prog_2_method_3_code
def yX0_noteSigned : MethodName := ⟨RX0, "noteSigned", "(LStateChannels$State;)V"⟩
abbrev cX0_wouldTake : ByteArray := prog_2_method_4_code
def yX0_wouldTake : MethodName := ⟨RX0, "wouldTake", "(LStateChannels$State;)Z"⟩
abbrev cX0_heldLockAt : ByteArray := prog_2_method_5_code
def yX0_heldLockAt : MethodName := ⟨RX0, "heldLockAt", "(I)LStateChannels$Lock;"⟩
def RX1 : String := "StateChannels$Game"
def TX1 : u_T := fun k => match k with
  | 0 => ("StateChannels$Game", "turn", "I", true)
  | 1 => ("StateChannels$Game", "other", "I", true)
  | 2 => ("StateChannels$Game", "stake", "I", true)
  | _ => ("StateChannels$Game", "heap", "I", true)
def tyX1 : Nat → FieldType := fun k => match k with
  | 0 => .int
  | 1 => .int
  | 2 => .int
  | _ => .int
theorem nmX1 : ∀ a, a < 4 → ∀ b, b < 4 → a ≠ b → (TX1 a).2.1 ≠ (TX1 b).2.1 := by decide +kernel
theorem tyX1_ok : ∀ k, k < 4 → parseFieldDescriptor (TX1 k).2.2.1 = some (tyX1 k) := by decide +kernel
abbrev cX1_init : ByteArray := prog_3_method_1_code
def yX1_init : MethodName := ⟨RX1, "<init>", "(IIII)V"⟩
abbrev cX1_after : ByteArray := prog_3_method_2_code
def yX1_after : MethodName := ⟨RX1, "after", "(I)LStateChannels$Game;"⟩
def RX2 : String := "StateChannels$Hop"
def TX2 : u_T := fun k => match k with
  | 0 => ("StateChannels$Hop", "channel", "LStateChannels$Channel;", true)
  | 1 => ("StateChannels$Hop", "from", "I", true)
  | _ => ("StateChannels$Hop", "to", "I", true)
def tyX2 : Nat → FieldType := fun k => match k with
  | 0 => .object "StateChannels$Channel"
  | 1 => .int
  | _ => .int
theorem nmX2 : ∀ a, a < 3 → ∀ b, b < 3 → a ≠ b → (TX2 a).2.1 ≠ (TX2 b).2.1 := by decide +kernel
theorem tyX2_ok : ∀ k, k < 3 → parseFieldDescriptor (TX2 k).2.2.1 = some (tyX2 k) := by decide +kernel
abbrev cX2_init : ByteArray := prog_4_method_1_code
def yX2_init : MethodName := ⟨RX2, "<init>", "(LStateChannels$Channel;II)V"⟩
abbrev cX2_canCarry : ByteArray := prog_4_method_2_code
def yX2_canCarry : MethodName := ⟨RX2, "canCarry", "(I)Z"⟩
def RX3 : String := "StateChannels$Lock"
def TX3 : u_T := fun k => match k with
  | 0 => ("StateChannels$Lock", "from", "I", true)
  | 1 => ("StateChannels$Lock", "to", "I", true)
  | 2 => ("StateChannels$Lock", "amount", "I", true)
  | 3 => ("StateChannels$Lock", "secret", "I", true)
  | _ => ("StateChannels$Lock", "expiry", "I", true)
def tyX3 : Nat → FieldType := fun k => match k with
  | 0 => .int
  | 1 => .int
  | 2 => .int
  | 3 => .int
  | _ => .int
theorem nmX3 : ∀ a, a < 5 → ∀ b, b < 5 → a ≠ b → (TX3 a).2.1 ≠ (TX3 b).2.1 := by decide +kernel
theorem tyX3_ok : ∀ k, k < 5 → parseFieldDescriptor (TX3 k).2.2.1 = some (tyX3 k) := by decide +kernel
abbrev cX3_init : ByteArray := prog_5_method_1_code
def yX3_init : MethodName := ⟨RX3, "<init>", "(IIIII)V"⟩
def RX4 : String := "StateChannels$State"
def TX4 : u_T := fun k => match k with
  | 0 => ("StateChannels$State", "number", "I", true)
  | 1 => ("StateChannels$State", "channel", "LStateChannels$Channel;", true)
  | 2 => ("StateChannels$State", "rank", "I", true)
  | 3 => ("StateChannels$State", "shares", "LStateChannels$Sums;", true)
  | 4 => ("StateChannels$State", "outs", "LStateChannels$Sums;", true)
  | 5 => ("StateChannels$State", "locks", "[LStateChannels$Lock;", true)
  | 6 => ("StateChannels$State", "game", "LStateChannels$Game;", false)
  | 7 => ("StateChannels$State", "signed", "I", false)
  | _ => ("StateChannels$State", "agreed", "I", false)
def tyX4 : Nat → FieldType := fun k => match k with
  | 0 => .int
  | 1 => .object "StateChannels$Channel"
  | 2 => .int
  | 3 => .object "StateChannels$Sums"
  | 4 => .object "StateChannels$Sums"
  | 5 => .array (.object "StateChannels$Lock")
  | 6 => .object "StateChannels$Game"
  | 7 => .int
  | _ => .int
theorem nmX4 : ∀ a, a < 9 → ∀ b, b < 9 → a ≠ b → (TX4 a).2.1 ≠ (TX4 b).2.1 := by decide +kernel
theorem tyX4_ok : ∀ k, k < 9 → parseFieldDescriptor (TX4 k).2.2.1 = some (tyX4 k) := by decide +kernel
abbrev cX4_init : ByteArray := prog_6_method_1_code
def yX4_init : MethodName := ⟨RX4, "<init>", "(ILStateChannels$Channel;I)V"⟩
abbrev cX4_copyFrom : ByteArray := prog_6_method_2_code
def yX4_copyFrom : MethodName := ⟨RX4, "copyFrom", "(LStateChannels$State;)V"⟩
abbrev cX4_hasMember : ByteArray := prog_6_method_3_code
def yX4_hasMember : MethodName := ⟨RX4, "hasMember", "(I)Z"⟩
abbrev cX4_isFixed : ByteArray := prog_6_method_4_code
def yX4_isFixed : MethodName := ⟨RX4, "isFixed", "()Z"⟩
abbrev cX4_doesCount : ByteArray := prog_6_method_5_code
def yX4_doesCount : MethodName := ⟨RX4, "doesCount", "()Z"⟩
abbrev cX4_whole : ByteArray := prog_6_method_6_code
def yX4_whole : MethodName := ⟨RX4, "whole", "()I"⟩
abbrev cX4_freeOf : ByteArray := prog_6_method_7_code
def yX4_freeOf : MethodName := ⟨RX4, "freeOf", "(I)I"⟩
abbrev cX4_hasOut : ByteArray := prog_6_method_8_code
def yX4_hasOut : MethodName := ⟨RX4, "hasOut", "()Z"⟩
abbrev cX4_lockAt : ByteArray := prog_6_method_9_code
def yX4_lockAt : MethodName := ⟨RX4, "lockAt", "(I)LStateChannels$Lock;"⟩
abbrev cX4_emptyPlace : ByteArray := prog_6_method_10_code
def yX4_emptyPlace : MethodName := ⟨RX4, "emptyPlace", "()I"⟩
abbrev cX4_addLock : ByteArray := prog_6_method_11_code
def yX4_addLock : MethodName := ⟨RX4, "addLock", "(LStateChannels$Lock;)I"⟩
abbrev cX4_removeLock : ByteArray := prog_6_method_12_code
def yX4_removeLock : MethodName := ⟨RX4, "removeLock", "(I)V"⟩
def RX5 : String := "StateChannels$Sums"
def TX5 : u_T := fun k => match k with
  | _ => ("StateChannels$Sums", "sums", "[I", true)
def tyX5 : Nat → FieldType := fun k => match k with
  | _ => .array .int
theorem nmX5 : ∀ a, a < 1 → ∀ b, b < 1 → a ≠ b → (TX5 a).2.1 ≠ (TX5 b).2.1 := by decide +kernel
theorem tyX5_ok : ∀ k, k < 1 → parseFieldDescriptor (TX5 k).2.2.1 = some (tyX5 k) := by decide +kernel
abbrev cX5_init : ByteArray := prog_7_method_1_code
def yX5_init : MethodName := ⟨RX5, "<init>", "()V"⟩
abbrev cX5_get : ByteArray := prog_7_method_2_code
def yX5_get : MethodName := ⟨RX5, "get", "(I)I"⟩
abbrev cX5_put : ByteArray := prog_7_method_3_code
def yX5_put : MethodName := ⟨RX5, "put", "(II)V"⟩
abbrev cX5_add : ByteArray := prog_7_method_4_code
def yX5_add : MethodName := ⟨RX5, "add", "(II)V"⟩
abbrev cX5_total : ByteArray := prog_7_method_5_code
def yX5_total : MethodName := ⟨RX5, "total", "()I"⟩
def RX6 : String := "StateChannels"
def TX6 : u_T := fun k => match k with
  | 0 => ("StateChannels", "accounts", "LStateChannels$Sums;", true)
  | 1 => ("StateChannels", "channels", "[LStateChannels$Channel;", true)
  | 2 => ("StateChannels", "states", "[LStateChannels$State;", true)
  | 3 => ("StateChannels", "knowers", "[I", true)
  | 4 => ("StateChannels", "route", "[LStateChannels$Hop;", true)
  | 5 => ("StateChannels", "channelCount", "I", false)
  | 6 => ("StateChannels", "stateCount", "I", false)
  | 7 => ("StateChannels", "secretCount", "I", false)
  | 8 => ("StateChannels", "hopCount", "I", false)
  | 9 => ("StateChannels", "now", "I", false)
  | _ => ("StateChannels", "watched", "I", false)
def tyX6 : Nat → FieldType := fun k => match k with
  | 0 => .object "StateChannels$Sums"
  | 1 => .array (.object "StateChannels$Channel")
  | 2 => .array (.object "StateChannels$State")
  | 3 => .array .int
  | 4 => .array (.object "StateChannels$Hop")
  | 5 => .int
  | 6 => .int
  | 7 => .int
  | 8 => .int
  | 9 => .int
  | _ => .int
theorem nmX6 : ∀ a, a < 11 → ∀ b, b < 11 → a ≠ b → (TX6 a).2.1 ≠ (TX6 b).2.1 := by decide +kernel
theorem tyX6_ok : ∀ k, k < 11 → parseFieldDescriptor (TX6 k).2.2.1 = some (tyX6 k) := by decide +kernel
abbrev cX6_init : ByteArray := prog_1_method_1_code
def yX6_init : MethodName := ⟨RX6, "<init>", "()V"⟩
abbrev cX6_channel : ByteArray := prog_1_method_2_code
def yX6_channel : MethodName := ⟨RX6, "channel", "(III)I"⟩
abbrev cX6_state : ByteArray := prog_1_method_3_code
def yX6_state : MethodName := ⟨RX6, "state", "(I)I"⟩
abbrev cX6_hasRoomForStates : ByteArray := prog_1_method_4_code
def yX6_hasRoomForStates : MethodName := ⟨RX6, "hasRoomForStates", "(I)Z"⟩
abbrev cX6_allHave : ByteArray := prog_1_method_5_code
def yX6_allHave : MethodName := ⟨RX6, "allHave", "(II)Z"⟩
abbrev cX6_newState : ByteArray := prog_1_method_6_code
def yX6_newState : MethodName := ⟨RX6, "newState", "(LStateChannels$Channel;)LStateChannels$State;"⟩
abbrev cX6_newStateAsNewest : ByteArray := prog_1_method_7_code
def yX6_newStateAsNewest : MethodName := ⟨RX6, "newStateAsNewest", "(LStateChannels$Channel;)LStateChannels$State;"⟩
abbrev cX6_change : ByteArray := prog_1_method_8_code
def yX6_change : MethodName := ⟨RX6, "change", "(IIII)I"⟩
abbrev cX6_lock : ByteArray := prog_1_method_9_code
def yX6_lock : MethodName := ⟨RX6, "lock", "(IIIIII)I"⟩
abbrev cX6_unlock : ByteArray := prog_1_method_10_code
def yX6_unlock : MethodName := ⟨RX6, "unlock", "(IIZ)I"⟩
abbrev cX6_game : ByteArray := prog_1_method_11_code
def yX6_game : MethodName := ⟨RX6, "game", "(IIIII)I"⟩
abbrev cX6_move : ByteArray := prog_1_method_12_code
def yX6_move : MethodName := ⟨RX6, "move", "(II)I"⟩
abbrev cX6_out : ByteArray := prog_1_method_13_code
def yX6_out : MethodName := ⟨RX6, "out", "(III)I"⟩
abbrev cX6_sign : ByteArray := prog_1_method_14_code
def yX6_sign : MethodName := ⟨RX6, "sign", "(II)I"⟩
abbrev cX6_show : ByteArray := prog_1_method_15_code
def yX6_show : MethodName := ⟨RX6, "show", "(II)I"⟩
abbrev cX6_agree : ByteArray := prog_1_method_16_code
def yX6_agree : MethodName := ⟨RX6, "agree", "(II)I"⟩
abbrev cX6_makeShown : ByteArray := prog_1_method_17_code
def yX6_makeShown : MethodName := ⟨RX6, "makeShown", "(LStateChannels$State;)V"⟩
abbrev cX6_fulfil : ByteArray := prog_1_method_18_code
def yX6_fulfil : MethodName := ⟨RX6, "fulfil", "(LStateChannels$State;)V"⟩
abbrev cX6_payOuts : ByteArray := prog_1_method_19_code
def yX6_payOuts : MethodName := ⟨RX6, "payOuts", "(LStateChannels$State;)V"⟩
abbrev cX6_endBy : ByteArray := prog_1_method_20_code
def yX6_endBy : MethodName := ⟨RX6, "endBy", "(LStateChannels$State;)V"⟩
abbrev cX6_holdOrGiveBack : ByteArray := prog_1_method_21_code
def yX6_holdOrGiveBack : MethodName := ⟨RX6, "holdOrGiveBack", "(LStateChannels$Channel;ILStateChannels$Lock;)V"⟩
abbrev cX6_payFrom : ByteArray := prog_1_method_22_code
def yX6_payFrom : MethodName := ⟨RX6, "payFrom", "(LStateChannels$Channel;II)V"⟩
abbrev cX6_secret : ByteArray := prog_1_method_23_code
def yX6_secret : MethodName := ⟨RX6, "secret", "(I)I"⟩
abbrev cX6_tell : ByteArray := prog_1_method_24_code
def yX6_tell : MethodName := ⟨RX6, "tell", "(III)I"⟩
abbrev cX6_hasRoomForSecret : ByteArray := prog_1_method_25_code
def yX6_hasRoomForSecret : MethodName := ⟨RX6, "hasRoomForSecret", "()Z"⟩
abbrev cX6_newSecret : ByteArray := prog_1_method_26_code
def yX6_newSecret : MethodName := ⟨RX6, "newSecret", "(I)I"⟩
abbrev cX6_isKnownBy : ByteArray := prog_1_method_27_code
def yX6_isKnownBy : MethodName := ⟨RX6, "isKnownBy", "(II)Z"⟩
abbrev cX6_claim : ByteArray := prog_1_method_28_code
def yX6_claim : MethodName := ⟨RX6, "claim", "(III)I"⟩
abbrev cX6_step : ByteArray := prog_1_method_29_code
def yX6_step : MethodName := ⟨RX6, "step", "(III)I"⟩
abbrev cX6_canClaim : ByteArray := prog_1_method_30_code
def yX6_canClaim : MethodName := ⟨RX6, "canClaim", "(LStateChannels$Lock;I)Z"⟩
abbrev cX6_claimHeld : ByteArray := prog_1_method_31_code
def yX6_claimHeld : MethodName := ⟨RX6, "claimHeld", "(LStateChannels$Channel;II)I"⟩
abbrev cX6_payHeldLock : ByteArray := prog_1_method_32_code
def yX6_payHeldLock : MethodName := ⟨RX6, "payHeldLock", "(LStateChannels$Channel;III)V"⟩
abbrev cX6_moveHeld : ByteArray := prog_1_method_33_code
def yX6_moveHeld : MethodName := ⟨RX6, "moveHeld", "(LStateChannels$Channel;LStateChannels$Game;I)V"⟩
abbrev cX6_payHeldStake : ByteArray := prog_1_method_34_code
def yX6_payHeldStake : MethodName := ⟨RX6, "payHeldStake", "(LStateChannels$Channel;II)V"⟩
abbrev cX6_watch : ByteArray := prog_1_method_35_code
def yX6_watch : MethodName := ⟨RX6, "watch", "(IZ)I"⟩
abbrev cX6_height : ByteArray := prog_1_method_36_code
def yX6_height : MethodName := ⟨RX6, "height", "(I)I"⟩
abbrev cX6_oneHeightMore : ByteArray := prog_1_method_37_code
def yX6_oneHeightMore : MethodName := ⟨RX6, "oneHeightMore", "()V"⟩
abbrev cX6_meetHeight : ByteArray := prog_1_method_38_code
def yX6_meetHeight : MethodName := ⟨RX6, "meetHeight", "(LStateChannels$Channel;)V"⟩
abbrev cX6_watchFor : ByteArray := prog_1_method_39_code
def yX6_watchFor : MethodName := ⟨RX6, "watchFor", "(ILStateChannels$Channel;)V"⟩
abbrev cX6_hasUrgentLock : ByteArray := prog_1_method_40_code
def yX6_hasUrgentLock : MethodName := ⟨RX6, "hasUrgentLock", "(LStateChannels$State;I)Z"⟩
abbrev cX6_playFor : ByteArray := prog_1_method_41_code
def yX6_playFor : MethodName := ⟨RX6, "playFor", "(ILStateChannels$Channel;)V"⟩
abbrev cX6_hop : ByteArray := prog_1_method_42_code
def yX6_hop : MethodName := ⟨RX6, "hop", "(III)I"⟩
abbrev cX6_pay : ByteArray := prog_1_method_43_code
def yX6_pay : MethodName := ⟨RX6, "pay", "(II)I"⟩
abbrev cX6_continuesRoute : ByteArray := prog_1_method_44_code
def yX6_continuesRoute : MethodName := ⟨RX6, "continuesRoute", "(LStateChannels$Channel;I)Z"⟩
abbrev cX6_allCarry : ByteArray := prog_1_method_45_code
def yX6_allCarry : MethodName := ⟨RX6, "allCarry", "(II)Z"⟩
abbrev cX6_firstExpiry : ByteArray := prog_1_method_46_code
def yX6_firstExpiry : MethodName := ⟨RX6, "firstExpiry", "(II)I"⟩
abbrev cX6_payHop : ByteArray := prog_1_method_47_code
def yX6_payHop : MethodName := ⟨RX6, "payHop", "(LStateChannels$Hop;III)V"⟩
abbrev cX6_account : ByteArray := prog_1_method_48_code
def yX6_account : MethodName := ⟨RX6, "account", "(I)I"⟩
abbrev cX6_told : ByteArray := prog_1_method_49_code
def yX6_told : MethodName := ⟨RX6, "told", "(II)I"⟩
abbrev cX6_of : ByteArray := prog_1_method_50_code
def yX6_of : MethodName := ⟨RX6, "of", "(II)I"⟩
abbrev cX6_share : ByteArray := prog_1_method_51_code
def yX6_share : MethodName := ⟨RX6, "share", "(III)I"⟩
abbrev cX6_locked : ByteArray := prog_1_method_52_code
def yX6_locked : MethodName := ⟨RX6, "locked", "(III)I"⟩
abbrev cX6_knows : ByteArray := prog_1_method_53_code
def yX6_knows : MethodName := ⟨RX6, "knows", "(I)I"⟩
abbrev cX6_count : ByteArray := prog_1_method_54_code
def yX6_count : MethodName := ⟨RX6, "count", "(I)I"⟩
abbrev cX6_allThereIs : ByteArray := prog_1_method_55_code
def yX6_allThereIs : MethodName := ⟨RX6, "allThereIs", "()I"⟩
abbrev cX6_channelAt : ByteArray := prog_1_method_56_code
def yX6_channelAt : MethodName := ⟨RX6, "channelAt", "(I)LStateChannels$Channel;"⟩
abbrev cX6_stateAt : ByteArray := prog_1_method_57_code
def yX6_stateAt : MethodName := ⟨RX6, "stateAt", "(I)LStateChannels$State;"⟩
abbrev cX6_hopAt : ByteArray := prog_1_method_58_code
def yX6_hopAt : MethodName := ⟨RX6, "hopAt", "(I)LStateChannels$Hop;"⟩
abbrev cX6_isSecret : ByteArray := prog_1_method_59_code
def yX6_isSecret : MethodName := ⟨RX6, "isSecret", "(I)Z"⟩
abbrev cX6_numberOf : ByteArray := prog_1_method_60_code
def yX6_numberOf : MethodName := ⟨RX6, "numberOf", "(LStateChannels$State;)I"⟩
abbrev cX6_isParty : ByteArray := prog_1_method_61_code
def yX6_isParty : MethodName := ⟨RX6, "isParty", "(I)Z"⟩
abbrev cX6_isPlace : ByteArray := prog_1_method_62_code
def yX6_isPlace : MethodName := ⟨RX6, "isPlace", "(I)Z"⟩
abbrev cX6_isIn : ByteArray := prog_1_method_63_code
def yX6_isIn : MethodName := ⟨RX6, "isIn", "(II)Z"⟩
abbrev cX6_isWithin : ByteArray := prog_1_method_64_code
def yX6_isWithin : MethodName := ⟨RX6, "isWithin", "(III)Z"⟩
def RX7 : String := "StateChannelsModel"
def TX7 : u_T := fun k => match k with
  | 0 => ("StateChannelsModel", "account", "[I", true)
  | 1 => ("StateChannelsModel", "watched", "I", false)
  | 2 => ("StateChannelsModel", "height", "I", false)
  | 3 => ("StateChannelsModel", "secrets", "I", false)
  | 4 => ("StateChannelsModel", "known", "[I", true)
  | 5 => ("StateChannelsModel", "channels", "I", false)
  | 6 => ("StateChannelsModel", "members", "[I", true)
  | 7 => ("StateChannelsModel", "delay", "[I", true)
  | 8 => ("StateChannelsModel", "sum", "[I", true)
  | 9 => ("StateChannelsModel", "phase", "[I", true)
  | 10 => ("StateChannelsModel", "by", "[I", true)
  | 11 => ("StateChannelsModel", "until", "[I", true)
  | 12 => ("StateChannelsModel", "heldPlaces", "[I", true)
  | 13 => ("StateChannelsModel", "heldStake", "[I", true)
  | 14 => ("StateChannelsModel", "heldHeap", "[I", true)
  | 15 => ("StateChannelsModel", "heldTurn", "[I", true)
  | 16 => ("StateChannelsModel", "heldOther", "[I", true)
  | 17 => ("StateChannelsModel", "deadline", "[I", true)
  | 18 => ("StateChannelsModel", "states", "I", false)
  | 19 => ("StateChannelsModel", "m", "[I", true)
  | 20 => ("StateChannelsModel", "hops", "I", false)
  | 21 => ("StateChannelsModel", "hopChannel", "[I", true)
  | 22 => ("StateChannelsModel", "hopFrom", "[I", true)
  | _ => ("StateChannelsModel", "hopTo", "[I", true)
def tyX7 : Nat → FieldType := fun k => match k with
  | 0 => .array .int
  | 1 => .int
  | 2 => .int
  | 3 => .int
  | 4 => .array .int
  | 5 => .int
  | 6 => .array .int
  | 7 => .array .int
  | 8 => .array .int
  | 9 => .array .int
  | 10 => .array .int
  | 11 => .array .int
  | 12 => .array .int
  | 13 => .array .int
  | 14 => .array .int
  | 15 => .array .int
  | 16 => .array .int
  | 17 => .array .int
  | 18 => .int
  | 19 => .array .int
  | 20 => .int
  | 21 => .array .int
  | 22 => .array .int
  | _ => .array .int
theorem nmX7 : ∀ a, a < 24 → ∀ b, b < 24 → a ≠ b → (TX7 a).2.1 ≠ (TX7 b).2.1 := by decide +kernel
theorem tyX7_ok : ∀ k, k < 24 → parseFieldDescriptor (TX7 k).2.2.1 = some (tyX7 k) := by decide +kernel
abbrev cX7_init : ByteArray := prog_9_method_1_code
def yX7_init : MethodName := ⟨RX7, "<init>", "()V"⟩
abbrev cX7_isIn : ByteArray := prog_9_method_3_code
def yX7_isIn : MethodName := ⟨RX7, "isIn", "(III)Z"⟩
abbrev cX7_isParty : ByteArray := prog_9_method_4_code
def yX7_isParty : MethodName := ⟨RX7, "isParty", "(I)Z"⟩
abbrev cX7_has : ByteArray := prog_9_method_5_code
def yX7_has : MethodName := ⟨RX7, "has", "(II)Z"⟩
abbrev cX7_size : ByteArray := prog_9_method_6_code
def yX7_size : MethodName := ⟨RX7, "size", "(I)I"⟩
abbrev cX7_isChannel : ByteArray := prog_9_method_7_code
def yX7_isChannel : MethodName := ⟨RX7, "isChannel", "(I)Z"⟩
abbrev cX7_isState : ByteArray := prog_9_method_8_code
def yX7_isState : MethodName := ⟨RX7, "isState", "(I)Z"⟩
abbrev cX7_isMember : ByteArray := prog_9_method_9_code
def yX7_isMember : MethodName := ⟨RX7, "isMember", "(II)Z"⟩
abbrev cX7_channelOf : ByteArray := prog_9_method_10_code
def yX7_channelOf : MethodName := ⟨RX7, "channelOf", "(I)I"⟩
abbrev cX7_isOf : ByteArray := prog_9_method_11_code
def yX7_isOf : MethodName := ⟨RX7, "isOf", "(II)Z"⟩
abbrev cX7_lockAt : ByteArray := prog_9_method_12_code
def yX7_lockAt : MethodName := ⟨RX7, "lockAt", "(II)I"⟩
abbrev cX7_whole : ByteArray := prog_9_method_13_code
def yX7_whole : MethodName := ⟨RX7, "whole", "(I)I"⟩
abbrev cX7_counts : ByteArray := prog_9_method_14_code
def yX7_counts : MethodName := ⟨RX7, "counts", "(I)Z"⟩
abbrev cX7_newest : ByteArray := prog_9_method_15_code
def yX7_newest : MethodName := ⟨RX7, "newest", "(I)I"⟩
abbrev cX7_free : ByteArray := prog_9_method_16_code
def yX7_free : MethodName := ⟨RX7, "free", "(II)I"⟩
abbrev cX7_isFixed : ByteArray := prog_9_method_17_code
def yX7_isFixed : MethodName := ⟨RX7, "isFixed", "(I)Z"⟩
abbrev cX7_emptyPlace : ByteArray := prog_9_method_18_code
def yX7_emptyPlace : MethodName := ⟨RX7, "emptyPlace", "(I)I"⟩
abbrev cX7_shows : ByteArray := prog_9_method_19_code
def yX7_shows : MethodName := ⟨RX7, "shows", "(I)V"⟩
abbrev cX7_end : ByteArray := prog_9_method_20_code
def yX7_end : MethodName := ⟨RX7, "end", "(II)V"⟩
abbrev cX7_pays : ByteArray := prog_9_method_21_code
def yX7_pays : MethodName := ⟨RX7, "pays", "(III)V"⟩
abbrev cX7_canClaim : ByteArray := prog_9_method_22_code
def yX7_canClaim : MethodName := ⟨RX7, "canClaim", "(III)Z"⟩
abbrev cX7_claims : ByteArray := prog_9_method_23_code
def yX7_claims : MethodName := ⟨RX7, "claims", "(III)I"⟩
abbrev cX7_wins : ByteArray := prog_9_method_24_code
def yX7_wins : MethodName := ⟨RX7, "wins", "(II)V"⟩
abbrev cX7_steps : ByteArray := prog_9_method_25_code
def yX7_steps : MethodName := ⟨RX7, "steps", "(II)I"⟩
abbrev cX7_dues : ByteArray := prog_9_method_26_code
def yX7_dues : MethodName := ⟨RX7, "dues", "(I)V"⟩
abbrev cX7_watches : ByteArray := prog_9_method_27_code
def yX7_watches : MethodName := ⟨RX7, "watches", "(II)V"⟩
abbrev cX7_oneMore : ByteArray := prog_9_method_28_code
def yX7_oneMore : MethodName := ⟨RX7, "oneMore", "()V"⟩
abbrev cX7_channel : ByteArray := prog_9_method_29_code
def yX7_channel : MethodName := ⟨RX7, "channel", "(III)I"⟩
abbrev cX7_blank : ByteArray := prog_9_method_30_code
def yX7_blank : MethodName := ⟨RX7, "blank", "(I)I"⟩
abbrev cX7_copied : ByteArray := prog_9_method_31_code
def yX7_copied : MethodName := ⟨RX7, "copied", "(I)I"⟩
abbrev cX7_state : ByteArray := prog_9_method_32_code
def yX7_state : MethodName := ⟨RX7, "state", "(I)I"⟩
abbrev cX7_change : ByteArray := prog_9_method_33_code
def yX7_change : MethodName := ⟨RX7, "change", "(IIII)I"⟩
abbrev cX7_lock : ByteArray := prog_9_method_34_code
def yX7_lock : MethodName := ⟨RX7, "lock", "(IIIIII)I"⟩
abbrev cX7_locks : ByteArray := prog_9_method_35_code
def yX7_locks : MethodName := ⟨RX7, "locks", "(IIIIII)I"⟩
abbrev cX7_isLock : ByteArray := prog_9_method_36_code
def yX7_isLock : MethodName := ⟨RX7, "isLock", "(II)Z"⟩
abbrev cX7_unlock : ByteArray := prog_9_method_37_code
def yX7_unlock : MethodName := ⟨RX7, "unlock", "(IIZ)I"⟩
abbrev cX7_game : ByteArray := prog_9_method_38_code
def yX7_game : MethodName := ⟨RX7, "game", "(IIIII)I"⟩
abbrev cX7_move : ByteArray := prog_9_method_39_code
def yX7_move : MethodName := ⟨RX7, "move", "(II)I"⟩
abbrev cX7_out : ByteArray := prog_9_method_40_code
def yX7_out : MethodName := ⟨RX7, "out", "(III)I"⟩
abbrev cX7_sign : ByteArray := prog_9_method_41_code
def yX7_sign : MethodName := ⟨RX7, "sign", "(II)I"⟩
abbrev cX7_show : ByteArray := prog_9_method_42_code
def yX7_show : MethodName := ⟨RX7, "show", "(II)I"⟩
abbrev cX7_agree : ByteArray := prog_9_method_43_code
def yX7_agree : MethodName := ⟨RX7, "agree", "(II)I"⟩
abbrev cX7_takesOut : ByteArray := prog_9_method_44_code
def yX7_takesOut : MethodName := ⟨RX7, "takesOut", "(II)V"⟩
abbrev cX7_secret : ByteArray := prog_9_method_45_code
def yX7_secret : MethodName := ⟨RX7, "secret", "(I)I"⟩
abbrev cX7_tell : ByteArray := prog_9_method_46_code
def yX7_tell : MethodName := ⟨RX7, "tell", "(III)I"⟩
abbrev cX7_claim : ByteArray := prog_9_method_47_code
def yX7_claim : MethodName := ⟨RX7, "claim", "(III)I"⟩
abbrev cX7_step : ByteArray := prog_9_method_48_code
def yX7_step : MethodName := ⟨RX7, "step", "(III)I"⟩
abbrev cX7_watch : ByteArray := prog_9_method_49_code
def yX7_watch : MethodName := ⟨RX7, "watch", "(IZ)I"⟩
abbrev cX7_height : ByteArray := prog_9_method_50_code
def yX7_height : MethodName := ⟨RX7, "height", "(I)I"⟩
abbrev cX7_hop : ByteArray := prog_9_method_51_code
def yX7_hop : MethodName := ⟨RX7, "hop", "(III)I"⟩
abbrev cX7_pay : ByteArray := prog_9_method_52_code
def yX7_pay : MethodName := ⟨RX7, "pay", "(II)I"⟩
abbrev cX7_account : ByteArray := prog_9_method_53_code
def yX7_account : MethodName := ⟨RX7, "account", "(I)I"⟩
abbrev cX7_told : ByteArray := prog_9_method_54_code
def yX7_told : MethodName := ⟨RX7, "told", "(II)I"⟩
abbrev cX7_of : ByteArray := prog_9_method_55_code
def yX7_of : MethodName := ⟨RX7, "of", "(II)I"⟩
abbrev cX7_share : ByteArray := prog_9_method_56_code
def yX7_share : MethodName := ⟨RX7, "share", "(III)I"⟩
abbrev cX7_locked : ByteArray := prog_9_method_57_code
def yX7_locked : MethodName := ⟨RX7, "locked", "(III)I"⟩
abbrev cX7_knows : ByteArray := prog_9_method_58_code
def yX7_knows : MethodName := ⟨RX7, "knows", "(I)I"⟩
abbrev cX7_count : ByteArray := prog_9_method_59_code
def yX7_count : MethodName := ⟨RX7, "count", "(I)I"⟩
abbrev cX7_all : ByteArray := prog_9_method_60_code
def yX7_all : MethodName := ⟨RX7, "all", "()I"⟩
def RJ6 : String := "java/lang/Integer"
abbrev cJ6_bitCount_0f7a4 : ByteArray := prog_10_method_49_code
def yJ6_bitCount_0f7a4 : MethodName := ⟨RJ6, "bitCount", "(I)I"⟩
def RL : String := "StateChannelsLaw"
abbrev cL_law : ByteArray := code
def yL_law : MethodName := ⟨RL, "law", "([I)Z"⟩
abbrev vwCl : List vw_C := [(RX0, TX0, 12), (RX1, TX1, 4), (RX2, TX2, 3), (RX3, TX3, 5), (RX4, TX4, 9), (RX5, TX5, 1), (RX6, TX6, 11), (RX7, TX7, 24)]
end
section
/-! A judgement over abstract heaps: what a method's code does from a place on, told without the machine. -/
def lw_good : List Cond := lw_tbl.filter goodWord
theorem goodIn_g {ws : List Cond} (h : ∀ w ∈ ws, w ∈ lw_good) {a : Cond} : GoodIn (a :: lw_good) ws := fun w hw => ⟨List.mem_cons_of_mem _ (h w hw), good_of_word (List.mem_filter.mp (h w hw)).2⟩
theorem goodIn_gg {ws : List Cond} (h : ∀ w ∈ ws, w ∈ lw_good) : GoodIn lw_good ws := fun w hw => ⟨h w hw, good_of_word (List.mem_filter.mp (h w hw)).2⟩
/-- cells: an object (its class's place in vwCl, its fields), an array of ints, an array of references (its kind) -/
abbrev AC : Type := (Nat × List Value) ⊕ ((Nat × (Nat → Int32)) ⊕ (Nat × Nat × (Nat → Option Nat)))
abbrev Hp : Type := Nat → Option AC
def ob (ci : Nat) (fs : List Value) : AC := .inl (ci, fs)
def ia (n : Nat) (f : Nat → Int32) : AC := .inr (.inl (n, f))
def ra (t n : Nat) (f : Nat → Option Nat) : AC := .inr (.inr (t, n, f))
abbrev XG : Type := va_G × (Nat → ClassId) × Nat
def acE (X : XG) (c : AC) : va_E := match c with
  | .inl o => .inr o
  | .inr (.inl q) => .inl (X.2.1 0, q.1, .inl q.2)
  | .inr (.inr q) => .inl (X.2.1 q.1, q.2.1, .inr (.inr (.inr (.inr q.2.2))))
def hup (h : Hp) (a : Nat) (c : AC) : Hp := fun q => if q = a then some c else h q
theorem hup_s (h : Hp) (a : Nat) (c : AC) : hup h a c a = some c := if_pos rfl
theorem hup_n (h : Hp) {a b : Nat} (c : AC) (e : b ≠ a) : hup h a c b = h b := if_neg e
def HR (X : XG) (h : Hp) (H : Heap) : Prop := X.2.2 ≤ H.size ∧ ∀ a c, h a = some c → X.2.2 ≤ a ∧ va_at X.1 vwCl (a, acE X c) H
theorem HR.put {X : XG} {h : Hp} {H H1 : Heap} {a : Nat} {c : AC} (hR : HR X h H) (ha : X.2.2 ≤ a) (he : va_at X.1 vwCl (a, acE X c) H1) (z : H1.size = H.size) (oq : ∀ q, q ≠ a → H1[q]? = H[q]?) : HR X (hup h a c) H1 := by
  refine ⟨by rw [z]; exact hR.1, fun b d hb => ?_⟩
  by_cases e : b = a
  · subst e
    rw [hup_s] at hb
    cases hb
    exact ⟨ha, he⟩
  · rw [hup_n h c e] at hb
    exact ⟨(hR.2 b d hb).1, (hR.2 b d hb).2.kept (oq b e)⟩
theorem HR.new {X : XG} {h : Hp} {H H1 : Heap} {c : AC} (hR : HR X h H) (he : va_at X.1 vwCl (H.size, acE X c) H1) (z : H1.size = H.size + 1) (oq : ∀ q, q < H.size → H1[q]? = H[q]?) : h H.size = none ∧ HR X (hup h H.size c) H1 := by
  have hn : h H.size = none := by
    cases e : h H.size with
    | none => rfl
    | some d => exact absurd (hR.2 _ d e).2.lt (Nat.lt_irrefl _)
  refine ⟨hn, by rw [z]; exact Nat.le_succ_of_le hR.1, fun b d hb => ?_⟩
  by_cases e : b = H.size
  · subst e
    rw [hup_s] at hb
    cases hb
    exact ⟨hR.1, he⟩
  · rw [hup_n h c e] at hb
    exact ⟨(hR.2 b d hb).1, (hR.2 b d hb).2.kept (oq b (hR.2 b d hb).2.lt)⟩
abbrev xTys (X : XG) : List (ClassId × FieldType) := [(X.2.1 0, .int), (X.2.1 1, .object RX0), (X.2.1 2, .object RX2), (X.2.1 3, .object RX3), (X.2.1 4, .object RX4)]
/-- what stays of the tables from call to call -/
def GX (X : XG) (U : State) : Prop := va_K X.1 vwCl (xTys X) U ∧ (∀ (a : String) (i : Nat) (x : MethodName) (o : String), Cond.methodLinkNest a i x o ∈ lw_tbl → va_Nw (.methodLinkNest a i x o) U) ∧ va_AO RX0 U ∧ va_AO RX2 U ∧ va_AO RX3 U ∧ va_AO RX4 U
theorem GX.warm {X : XG} {s U : State} (hW : s.WarmedH U.vm) (h : GX X s) : GX X U :=
  ⟨va_K.moved hW.alike h.1, fun a i x o hm => (h.2.1 a i x o hm).warmM hW, h.2.2.1.moved hW.alike, h.2.2.2.1.moved hW.alike, h.2.2.2.2.1.moved hW.alike, h.2.2.2.2.2.moved hW.alike⟩
theorem GX.vm {X : XG} {s U : State} (hW : s.vm = U.vm) (h : GX X s) : GX X U :=
  ⟨va_K.moved (by rw [hW]; exact Vm.Alike.refl _) h.1, fun a i x o hm => (h.2.1 a i x o hm).same rfl hW, h.2.2.1.moved (by rw [hW]; exact Vm.Alike.refl _), h.2.2.2.1.moved (by rw [hW]; exact Vm.Alike.refl _), h.2.2.2.2.1.moved (by rw [hW]; exact Vm.Alike.refl _), h.2.2.2.2.2.moved (by rw [hW]; exact Vm.Alike.refl _)⟩
/-- locals: a list, none where nothing is known -/
def LH (ls : Array Slot) (nL : Nat) (L : List (Option Value)) : Prop := ls.size = nL ∧ lv_wf ls ∧ ∀ (i : Nat) (v : Value), L[i]? = some (some v) → v.category = 1 ∧ ls[i]? = some (.val v)
def lpairs (L : List (Option Value)) : List (Nat × Value) := L.zipIdx.filterMap (fun q => q.1.map (fun v => (q.2, v)))
theorem lpairs_mem {L : List (Option Value)} {i : Nat} {v : Value} : (i, v) ∈ lpairs L ↔ L[i]? = some (some v) := by
  unfold lpairs
  rw [List.mem_filterMap]
  constructor
  · rintro ⟨⟨o, j⟩, h1, h2⟩
    cases o with
    | none => cases h2
    | some w =>
      simp only [Option.map_some, Option.some.injEq, Prod.mk.injEq] at h2
      obtain ⟨rfl, rfl⟩ := h2
      exact List.mem_zipIdx_iff_getElem?.mp h1
  · intro h
    exact ⟨(some v, i), List.mem_zipIdx_iff_getElem?.mpr h, rfl⟩
theorem LH.has {ls : Array Slot} {nL : Nat} {L : List (Option Value)} (h : LH ls nL L) : lv_has ls nL (lpairs L) :=
  ⟨h.1, h.2.1, fun q hq => (h.2.2 q.1 q.2 (lpairs_mem.mp hq)).2⟩
theorem LH.at {ls : Array Slot} {nL : Nat} {L : List (Option Value)} (h : LH ls nL L) {i : Nat} {v : Value} (hi : L[i]? = some (some v)) : ls[i]? = some (.val v) := (h.2.2 i v hi).2
theorem LH.st {ls ls' : Array Slot} {nL i : Nat} {v : Value} {L : List (Option Value)} (h : LH ls nL L) (hv : v.category = 1) (h' : lv_has ls' nL ((i, v) :: (lpairs L).filter (fun q => !(q.1 == i) && !(q.1 + 1 == i && q.2.category == 2)))) : LH ls' nL (L.set i (some v)) := by
  refine ⟨h'.1, h'.2.1, fun j w hj => ?_⟩
  by_cases e : j = i
  · subst e
    by_cases hl : j < L.length
    · rw [List.getElem?_set_self hl] at hj
      cases hj
      exact ⟨hv, h'.2.2 _ List.mem_cons_self⟩
    · rw [List.getElem?_eq_none (by simp; omega)] at hj
      cases hj
  · rw [List.getElem?_set_ne (Ne.symm e)] at hj
    have hc := (h.2.2 j w hj).1
    refine ⟨hc, h'.2.2 (j, w) (List.mem_cons_of_mem _ (List.mem_filter.mpr ⟨lpairs_mem.mpr hj, ?_⟩))⟩
    simp [e, hc]
theorem LH.sub {ls : Array Slot} {nL : Nat} {L L' : List (Option Value)} (h : LH ls nL L) (hs : ∀ (i : Nat) (v : Value), L'[i]? = some (some v) → L[i]? = some (some v)) : LH ls nL L' := ⟨h.1, h.2.1, fun i v hi => h.2.2 i v (hs i v hi)⟩
/-- a script of ints that the law reads -/
def SX (X : XG) (scr : Option (Nat × Nat × (Nat → Int32))) (s : State) : Prop := ∀ b L xs, scr = some (b, L, xs) → va_X b L xs s s.heap ∧ b < s.heap.size ∧ b < X.2.2
/-- how a method may return a value -/
def RI (cc : ByteArray) (rt : Option FieldType) (pc : Nat) (v : Option Value) : Prop :=
  (v = none ∧ rt = none ∧ decode cc pc = .ok (.return_, 1)) ∨ (∃ x ty, v = some (.int x) ∧ rt = some ty ∧ narrow ty (.int x) = .int x ∧ decode cc pc = .ok (.ireturn, 1)) ∨
  (∃ r ty, v = some (va_rf r) ∧ rt = some ty ∧ ((∃ n, ty = .object n) ∨ ∃ t, ty = .array t) ∧ decode cc pc = .ok (.areturn, 1))
abbrev Post : Type := Option Value → Hp → Prop
abbrev Scr : Type := Option (Nat × Nat × (Nat → Int32))
/-- the machine around a method's walk -/
def MX (X : XG) (l : Launch) (cc : ByteArray) (own nm : String) (rt : Option FieldType) (nL fr : Nat) (scr : Scr) (Q : Post) (p : Program) (e : Env) (R : Room) (s : State) (m : MethodId) (args : Array Value) (below : List Frame) (meth : Method) (c : Code) (mc ms : Nat) (Z : State → Prop) : Prop :=
  p.tables.exec = Jvm.exec ∧ c.code = cc ∧ c.maxLocals = nL ∧ s.vm.findClass own = some m.cls ∧ (∀ w ∈ lw_good, w.before args s = true) ∧ meth.name = nm ∧ GX X s ∧ fr ≤ R.frames ∧ 41 * fr ≤ R.locals ∧ X.2.2 ≤ s.heap.size ∧ mc ≤ R.cells ∧ ms ≤ R.slots ∧ SX X scr s ∧
  ∀ (H : Heap) (locs : List Loc) (cells slots pc : Nat) (ls : Array Slot) (v : Option Value) (h : Hp), Q v h → RI cc rt pc v → HR X h H → va_S (fun q => X.2.2 ≤ q) s.heap H locs → cells ≤ mc → slots ≤ ms → W p l e R s m args below meth c H locs cells slots Z (F0 m pc ls v.toList)
/-- from pc, with these locals, this stack and this heap, the method comes to its end with Q; it makes at most k cells of n slots more -/
def AW (X : XG) (l : Launch) (cc : ByteArray) (own nm : String) (rt : Option FieldType) (nL fr : Nat) (scr : Scr) (Q : Post) (k n pc : Nat) (L : List (Option Value)) (st : List Value) (h : Hp) : Prop :=
  ∀ (p : Program) (e : Env) (R : Room) (s : State) (m : MethodId) (args : Array Value) (below : List Frame) (meth : Method) (c : Code) (mc ms : Nat) (Z : State → Prop) (H : Heap) (locs : List Loc) (cells slots : Nat) (ls : Array Slot),
    MX X l cc own nm rt nL fr scr Q p e R s m args below meth c mc ms Z → cells + k ≤ mc → slots + n ≤ ms → HR X h H → LH ls nL L → va_S (fun q => X.2.2 ≤ q) s.heap H locs →
    W p l e R s m args below meth c H locs cells slots Z (F0 m pc ls st)
/-- a method's contract at these arguments and this heap -/
def AM (X : XG) (l : Launch) (y : MethodName) (cc : ByteArray) (nL : Nat) (rt : Option FieldType) (d mc ms : Nat) (as : List Value) (h : Hp) (Q : Post) : Prop :=
  Met l y (.code y cc nL rt :: lw_good) { frames := d, cells := mc, slots := ms, locals := 41 * d } (va_Pc as (fun U => HR X h U.heap ∧ GX X U)) (fun _ st o t => (∃ v h', o = .returned v ∧ Q v h' ∧ HR X h' t.heap) ∧ va_F (fun q => X.2.2 ≤ q) st t) mc ms (fun q => X.2.2 ≤ q)
def lent (nL : Nat) (as : List Value) : List (Option Value) := as.map some ++ List.replicate (nL - as.length) none
theorem lg_sl_one {as : List Value} (h : ∀ v ∈ as, v.category = 1) : lg_sl as = as.map Slot.val := by
  unfold lg_sl
  induction as with
  | nil => rfl
  | cons a l ih =>
    rw [List.flatMap_cons, ih (fun v hv => h v (List.mem_cons_of_mem _ hv)), if_neg (by rw [h a List.mem_cons_self]; decide)]
    rfl
theorem AM.of {X : XG} {l : Launch} {y : MethodName} {cc : ByteArray} {nL : Nat} {rt : Option FieldType} {d mc ms : Nat} {as : List Value} {h : Hp} {Q : Post} (hy : plainName y.cls = true) (hc : ∀ v ∈ as, v.category = 1) (hl : as.length ≤ nL)
    (k : AW X l cc y.cls y.name rt nL d none Q mc ms 0 (lent nL as) [] h) : AM X l y cc nL rt d mc ms as h Q := by
  refine Met.ofW (cc := cc) (maxL := nL) (ret := rt) hy rfl ?_
  intro p e s m args below meth c s₁ B hml hv
  obtain ⟨rfl, hH, hG⟩ := hv
  have hx := B.exec
  have hb := B.bytes
  have hr := B.returns
  have hts := atoms_spec (ws := .code y cc nL rt :: lw_good) B.pre
  have hown : s.vm.findClass y.cls = some m.cls := findClass_of_methodNamed B.named
  have hlocks := B.notSynchronized
  have hin : meth.name = y.name := (name_of_methodNamed B.named B.method).1
  rw [lg_entry_eq]
  have hsl := lg_sl_one hc
  have hle : (lg_sl as).length ≤ nL := by rw [hsl, List.length_map]; exact hl
  have hL := lv_entry as (n := nL) hle
  refine k p e _ s m _ below meth c mc ms _ s.heap [] 0 0 _ ⟨hx, hb, hml, hown, fun w hw => hts w (List.mem_cons_of_mem _ hw), hin, hG, Nat.le_refl _, Nat.le_refl _, hH.1, Nat.le_refl _, Nat.le_refl _, (fun b L xs q => by cases q), ?_⟩ (by omega) (by omega) hH ⟨hL.1, hL.2.1, ?_⟩ va_S.rf
  · intro H locs cells slots pc ls v h2 hQ hRI hH2 hS hk hn
    refine W.widen hk hn ?_
    rcases hRI with ⟨rfl, rfl, hd⟩ | ⟨x, ty, rfl, rfl, hnar, hd⟩ | ⟨r, ty, rfl, rfl, hty, hd⟩
    · exact W.vret hx hb hr (fun t ht hW => ⟨⟨none, h2, rfl, hQ, by rw [ht]; exact hH2⟩, hS.F ht⟩) hS.2.2 hd hlocks
    · exact W.zret hx hb hr hnar (fun t ht hW => ⟨⟨_, h2, rfl, hQ, by rw [ht]; exact hH2⟩, hS.F ht⟩) hS.2.2 hd hlocks
    · exact W.aret hx hb hr hty (by cases r with | none => exact Or.inl rfl | some a => exact Or.inr ⟨a, rfl⟩) (fun t ht hW => ⟨⟨_, h2, rfl, hQ, by rw [ht]; exact hH2⟩, hS.F ht⟩) hS.2.2 hd hlocks
  · intro i v hi
    unfold lent at hi
    by_cases hlt : i < as.length
    · rw [List.getElem?_append_left (by simpa using hlt), List.getElem?_map] at hi
      obtain ⟨w, hw⟩ : ∃ w, as[i]? = some w := ⟨as[i], List.getElem?_eq_getElem hlt⟩
      rw [hw] at hi
      simp only [Option.map_some, Option.some.injEq] at hi
      subst hi
      refine ⟨hc _ (List.mem_of_getElem? hw), ?_⟩
      rw [hsl, List.getElem?_toArray, List.getElem?_append_left (by simpa using hlt), List.getElem?_map, hw]
      rfl
    · rw [List.getElem?_append_right (by simp; omega), List.getElem?_replicate] at hi
      split at hi <;> cases hi
end
section
section AWR
variable {X : XG} {l : Launch} {cc : ByteArray} {own nm : String} {rt : Option FieldType} {nL fr : Nat} {scr : Scr} {Q : Post} {k n pc pcn : Nat} {L : List (Option Value)} {st : List Value} {h : Hp}
def bI (b : Bool) : Int32 := if b then 1 else 0
abbrev qi (P : Int32 → Hp → Prop) : Post := fun v h => ∃ r, v = some (.int r) ∧ P r h
abbrev qv (P : Hp → Prop) : Post := fun v h => v = none ∧ P h
abbrev qr (P : Option Nat → Hp → Prop) : Post := fun v h => ∃ r, v = some (va_rf r) ∧ P r h
theorem AW.le {k' n' : Nat} (hk : k' ≤ k) (hn : n' ≤ n) (kk : AW X l cc own nm rt nL fr scr Q k' n' pc L st h) : AW X l cc own nm rt nL fr scr Q k n pc L st h :=
  fun p e R s m args below meth c mc ms Z H locs cells slots ls M h1 h2 hH hL hS => kk p e R s m args below meth c mc ms Z H locs cells slots ls M (by omega) (by omega) hH hL hS
theorem AW.loc {L' : List (Option Value)} (hs : ∀ (i : Nat) (v : Value), L'[i]? = some (some v) → L[i]? = some (some v)) (kk : AW X l cc own nm rt nL fr scr Q k n pc L' st h) : AW X l cc own nm rt nL fr scr Q k n pc L st h :=
  fun p e R s m args below meth c mc ms Z H locs cells slots ls M h1 h2 hH hL hS => kk p e R s m args below meth c mc ms Z H locs cells slots ls M h1 h2 hH (hL.sub hs) hS
theorem AW.post {Q' : Post} (hq : ∀ v h, Q' v h → Q v h) (kk : AW X l cc own nm rt nL fr scr Q' k n pc L st h) : AW X l cc own nm rt nL fr scr Q k n pc L st h :=
  fun p e R s m args below meth c mc ms Z H locs cells slots ls M h1 h2 hH hL hS => kk p e R s m args below meth c mc ms Z H locs cells slots ls ⟨M.1, M.2.1, M.2.2.1, M.2.2.2.1, M.2.2.2.2.1, M.2.2.2.2.2.1, M.2.2.2.2.2.2.1, M.2.2.2.2.2.2.2.1, M.2.2.2.2.2.2.2.2.1, M.2.2.2.2.2.2.2.2.2.1, M.2.2.2.2.2.2.2.2.2.2.1, M.2.2.2.2.2.2.2.2.2.2.2.1, M.2.2.2.2.2.2.2.2.2.2.2.2.1, fun H locs cells slots pc ls v h g => M.2.2.2.2.2.2.2.2.2.2.2.2.2 H locs cells slots pc ls v h (hq v h g)⟩ h1 h2 hH hL hS
theorem aw_iconst {i : Int} {v : Int32} (hd : decode cc pc = .ok (.iconst i, 1)) (hp : pcn = pc + 1) (hv : Int32.ofInt i = v)
    (kk : AW X l cc own nm rt nL fr scr Q k n pcn L (.int v :: st) h) : AW X l cc own nm rt nL fr scr Q k n pc L st h := by
  subst hp
  exact fun p e R s m args below meth c mc ms Z H locs cells slots ls M h1 h2 hH hL hS => lv_iconst M.1 M.2.1 hd hv (kk p e R s m args below meth c mc ms Z H locs cells slots ls M h1 h2 hH hL hS)
theorem aw_bipush {i : Int} {v : Int32} (hd : decode cc pc = .ok (.bipush i, 2)) (hp : pcn = pc + 2) (hv : (Int8.ofInt i).toInt32 = v)
    (kk : AW X l cc own nm rt nL fr scr Q k n pcn L (.int v :: st) h) : AW X l cc own nm rt nL fr scr Q k n pc L st h := by
  subst hp
  exact fun p e R s m args below meth c mc ms Z H locs cells slots ls M h1 h2 hH hL hS => lv_bipush M.1 M.2.1 hd hv (kk p e R s m args below meth c mc ms Z H locs cells slots ls M h1 h2 hH hL hS)
theorem aw_sipush {i : Int} {v : Int32} (hd : decode cc pc = .ok (.sipush i, 3)) (hp : pcn = pc + 3) (hv : (Int16.ofInt i).toInt32 = v)
    (kk : AW X l cc own nm rt nL fr scr Q k n pcn L (.int v :: st) h) : AW X l cc own nm rt nL fr scr Q k n pc L st h := by
  subst hp
  exact fun p e R s m args below meth c mc ms Z H locs cells slots ls M h1 h2 hH hL hS => lv_sipush M.1 M.2.1 hd hv (kk p e R s m args below meth c mc ms Z H locs cells slots ls M h1 h2 hH hL hS)
theorem aw_iload_n {i : Fin 4} {x : Int32} (hd : decode cc pc = .ok (.iload_n i, 1)) (hp : pcn = pc + 1) (hi : L[(i : Nat)]? = some (some (.int x)))
    (kk : AW X l cc own nm rt nL fr scr Q k n pcn L (.int x :: st) h) : AW X l cc own nm rt nL fr scr Q k n pc L st h := by
  subst hp
  exact fun p e R s m args below meth c mc ms Z H locs cells slots ls M h1 h2 hH hL hS => lv_iload_n M.1 M.2.1 hd rfl (hL.at hi) (kk p e R s m args below meth c mc ms Z H locs cells slots ls M h1 h2 hH hL hS)
theorem aw_iload {i : Nat} {x : Int32} (hd : decode cc pc = .ok (.iload i, 2)) (hp : pcn = pc + 2) (hi : L[i]? = some (some (.int x)))
    (kk : AW X l cc own nm rt nL fr scr Q k n pcn L (.int x :: st) h) : AW X l cc own nm rt nL fr scr Q k n pc L st h := by
  subst hp
  exact fun p e R s m args below meth c mc ms Z H locs cells slots ls M h1 h2 hH hL hS => lv_iload M.1 M.2.1 hd (hL.at hi) (kk p e R s m args below meth c mc ms Z H locs cells slots ls M h1 h2 hH hL hS)
theorem aw_aload_n {i : Fin 4} {r : Option Nat} {v : Value} (hd : decode cc pc = .ok (.aload_n i, 1)) (hp : pcn = pc + 1) (hi : L[(i : Nat)]? = some (some v)) (hr : v = va_rf r)
    (kk : AW X l cc own nm rt nL fr scr Q k n pcn L (v :: st) h) : AW X l cc own nm rt nL fr scr Q k n pc L st h := by
  subst hp
  subst hr
  cases r with
  | none => exact fun p e R s m args below meth c mc ms Z H locs cells slots ls M h1 h2 hH hL hS => lv_aload_nN M.1 M.2.1 hd rfl (hL.at hi) (kk p e R s m args below meth c mc ms Z H locs cells slots ls M h1 h2 hH hL hS)
  | some a => exact fun p e R s m args below meth c mc ms Z H locs cells slots ls M h1 h2 hH hL hS => lv_aload_n M.1 M.2.1 hd rfl (hL.at hi) (kk p e R s m args below meth c mc ms Z H locs cells slots ls M h1 h2 hH hL hS)
theorem aw_aload {i : Nat} {r : Option Nat} {v : Value} (hd : decode cc pc = .ok (.aload i, 2)) (hp : pcn = pc + 2) (hi : L[i]? = some (some v)) (hr : v = va_rf r)
    (kk : AW X l cc own nm rt nL fr scr Q k n pcn L (v :: st) h) : AW X l cc own nm rt nL fr scr Q k n pc L st h := by
  subst hp
  subst hr
  cases r with
  | none => exact fun p e R s m args below meth c mc ms Z H locs cells slots ls M h1 h2 hH hL hS => lv_aloadN M.1 M.2.1 hd (hL.at hi) (kk p e R s m args below meth c mc ms Z H locs cells slots ls M h1 h2 hH hL hS)
  | some a => exact fun p e R s m args below meth c mc ms Z H locs cells slots ls M h1 h2 hH hL hS => lv_aload M.1 M.2.1 hd (hL.at hi) (kk p e R s m args below meth c mc ms Z H locs cells slots ls M h1 h2 hH hL hS)
theorem aw_istore_n {i : Fin 4} {x : Int32} (hd : decode cc pc = .ok (.istore_n i, 1)) (hp : pcn = pc + 1) (hi : (i : Nat) < nL)
    (kk : AW X l cc own nm rt nL fr scr Q k n pcn (L.set (i : Nat) (some (.int x))) st h) : AW X l cc own nm rt nL fr scr Q k n pc L (.int x :: st) h := by
  subst hp
  exact fun p e R s m args below meth c mc ms Z H locs cells slots ls M h1 h2 hH hL hS => lv_istore_n M.1 M.2.1 hd rfl hL.has hi rfl (fun ls' hl' => kk p e R s m args below meth c mc ms Z H locs cells slots ls' M h1 h2 hH (hL.st rfl hl') hS)
theorem aw_istore {i : Nat} {x : Int32} (hd : decode cc pc = .ok (.istore i, 2)) (hp : pcn = pc + 2) (hi : i < nL)
    (kk : AW X l cc own nm rt nL fr scr Q k n pcn (L.set i (some (.int x))) st h) : AW X l cc own nm rt nL fr scr Q k n pc L (.int x :: st) h := by
  subst hp
  exact fun p e R s m args below meth c mc ms Z H locs cells slots ls M h1 h2 hH hL hS => lv_istore M.1 M.2.1 hd hL.has hi rfl (fun ls' hl' => kk p e R s m args below meth c mc ms Z H locs cells slots ls' M h1 h2 hH (hL.st rfl hl') hS)
theorem aw_astore_n {i : Fin 4} {r : Option Nat} {v : Value} (hd : decode cc pc = .ok (.astore_n i, 1)) (hp : pcn = pc + 1) (hi : (i : Nat) < nL) (hr : v = va_rf r)
    (kk : AW X l cc own nm rt nL fr scr Q k n pcn (L.set (i : Nat) (some v)) st h) : AW X l cc own nm rt nL fr scr Q k n pc L (v :: st) h := by
  subst hp
  subst hr
  cases r with
  | none => exact fun p e R s m args below meth c mc ms Z H locs cells slots ls M h1 h2 hH hL hS => lv_astore_nN M.1 M.2.1 hd rfl hL.has hi rfl (fun ls' hl' => kk p e R s m args below meth c mc ms Z H locs cells slots ls' M h1 h2 hH (hL.st rfl hl') hS)
  | some a => exact fun p e R s m args below meth c mc ms Z H locs cells slots ls M h1 h2 hH hL hS => lv_astore_n M.1 M.2.1 hd rfl hL.has hi rfl (fun ls' hl' => kk p e R s m args below meth c mc ms Z H locs cells slots ls' M h1 h2 hH (hL.st rfl hl') hS)
theorem aw_astore {i : Nat} {r : Option Nat} {v : Value} (hd : decode cc pc = .ok (.astore i, 2)) (hp : pcn = pc + 2) (hi : i < nL) (hr : v = va_rf r)
    (kk : AW X l cc own nm rt nL fr scr Q k n pcn (L.set i (some v)) st h) : AW X l cc own nm rt nL fr scr Q k n pc L (v :: st) h := by
  subst hp
  subst hr
  cases r with
  | none => exact fun p e R s m args below meth c mc ms Z H locs cells slots ls M h1 h2 hH hL hS => lv_astoreN M.1 M.2.1 hd hL.has hi rfl (fun ls' hl' => kk p e R s m args below meth c mc ms Z H locs cells slots ls' M h1 h2 hH (hL.st rfl hl') hS)
  | some a => exact fun p e R s m args below meth c mc ms Z H locs cells slots ls M h1 h2 hH hL hS => lv_astore M.1 M.2.1 hd hL.has hi rfl (fun ls' hl' => kk p e R s m args below meth c mc ms Z H locs cells slots ls' M h1 h2 hH (hL.st rfl hl') hS)
theorem aw_iinc {i : Nat} {d : Int} {x v : Int32} (hd : decode cc pc = .ok (.iinc i d, 3)) (hp : pcn = pc + 3) (hi : i < nL) (hx : L[i]? = some (some (.int x))) (hv : x + Int32.ofInt d = v)
    (kk : AW X l cc own nm rt nL fr scr Q k n pcn (L.set i (some (.int v))) st h) : AW X l cc own nm rt nL fr scr Q k n pc L st h := by
  subst hp
  intro p e R s m args below meth c mc ms Z H locs cells slots ls M h1 h2 hH hL hS
  obtain ⟨q, hq⟩ := List.getElem?_of_mem (lpairs_mem.mpr hx)
  exact lv_iinc M.1 M.2.1 hd hL.has hq hv hi rfl (fun ls' hl' => kk p e R s m args below meth c mc ms Z H locs cells slots ls' M h1 h2 hH (hL.st rfl hl') hS)
theorem aw_iadd {x y : Int32} (hd : decode cc pc = .ok (.iadd, 1)) (hp : pcn = pc + 1) 
    (kk : AW X l cc own nm rt nL fr scr Q k n pcn L (.int (x + y) :: st) h) : AW X l cc own nm rt nL fr scr Q k n pc L (.int y :: .int x :: st) h := by
  subst hp
  exact fun p e R s m args below meth c mc ms Z H locs cells slots ls M h1 h2 hH hL hS => lv_iadd M.1 M.2.1 hd  (kk p e R s m args below meth c mc ms Z H locs cells slots ls M h1 h2 hH hL hS)
theorem aw_isub {x y : Int32} (hd : decode cc pc = .ok (.isub, 1)) (hp : pcn = pc + 1) 
    (kk : AW X l cc own nm rt nL fr scr Q k n pcn L (.int (x - y) :: st) h) : AW X l cc own nm rt nL fr scr Q k n pc L (.int y :: .int x :: st) h := by
  subst hp
  exact fun p e R s m args below meth c mc ms Z H locs cells slots ls M h1 h2 hH hL hS => lv_isub M.1 M.2.1 hd  (kk p e R s m args below meth c mc ms Z H locs cells slots ls M h1 h2 hH hL hS)
theorem aw_imul {x y : Int32} (hd : decode cc pc = .ok (.imul, 1)) (hp : pcn = pc + 1) 
    (kk : AW X l cc own nm rt nL fr scr Q k n pcn L (.int (x * y) :: st) h) : AW X l cc own nm rt nL fr scr Q k n pc L (.int y :: .int x :: st) h := by
  subst hp
  exact fun p e R s m args below meth c mc ms Z H locs cells slots ls M h1 h2 hH hL hS => lv_imul M.1 M.2.1 hd  (kk p e R s m args below meth c mc ms Z H locs cells slots ls M h1 h2 hH hL hS)
theorem aw_iand {x y : Int32} (hd : decode cc pc = .ok (.iand, 1)) (hp : pcn = pc + 1) 
    (kk : AW X l cc own nm rt nL fr scr Q k n pcn L (.int (x &&& y) :: st) h) : AW X l cc own nm rt nL fr scr Q k n pc L (.int y :: .int x :: st) h := by
  subst hp
  exact fun p e R s m args below meth c mc ms Z H locs cells slots ls M h1 h2 hH hL hS => lv_iand M.1 M.2.1 hd  (kk p e R s m args below meth c mc ms Z H locs cells slots ls M h1 h2 hH hL hS)
theorem aw_ior {x y : Int32} (hd : decode cc pc = .ok (.ior, 1)) (hp : pcn = pc + 1) 
    (kk : AW X l cc own nm rt nL fr scr Q k n pcn L (.int (x ||| y) :: st) h) : AW X l cc own nm rt nL fr scr Q k n pc L (.int y :: .int x :: st) h := by
  subst hp
  exact fun p e R s m args below meth c mc ms Z H locs cells slots ls M h1 h2 hH hL hS => lv_ior M.1 M.2.1 hd  (kk p e R s m args below meth c mc ms Z H locs cells slots ls M h1 h2 hH hL hS)
theorem aw_ixor {x y : Int32} (hd : decode cc pc = .ok (.ixor, 1)) (hp : pcn = pc + 1) 
    (kk : AW X l cc own nm rt nL fr scr Q k n pcn L (.int (x ^^^ y) :: st) h) : AW X l cc own nm rt nL fr scr Q k n pc L (.int y :: .int x :: st) h := by
  subst hp
  exact fun p e R s m args below meth c mc ms Z H locs cells slots ls M h1 h2 hH hL hS => lv_ixor M.1 M.2.1 hd  (kk p e R s m args below meth c mc ms Z H locs cells slots ls M h1 h2 hH hL hS)
theorem aw_ishl {x y : Int32} (hd : decode cc pc = .ok (.ishl, 1)) (hp : pcn = pc + 1) 
    (kk : AW X l cc own nm rt nL fr scr Q k n pcn L (.int (x <<< (y &&& 31)) :: st) h) : AW X l cc own nm rt nL fr scr Q k n pc L (.int y :: .int x :: st) h := by
  subst hp
  exact fun p e R s m args below meth c mc ms Z H locs cells slots ls M h1 h2 hH hL hS => lv_ishl M.1 M.2.1 hd  (kk p e R s m args below meth c mc ms Z H locs cells slots ls M h1 h2 hH hL hS)
theorem aw_ishr {x y : Int32} (hd : decode cc pc = .ok (.ishr, 1)) (hp : pcn = pc + 1) 
    (kk : AW X l cc own nm rt nL fr scr Q k n pcn L (.int (x >>> (y &&& 31)) :: st) h) : AW X l cc own nm rt nL fr scr Q k n pc L (.int y :: .int x :: st) h := by
  subst hp
  exact fun p e R s m args below meth c mc ms Z H locs cells slots ls M h1 h2 hH hL hS => lv_ishr M.1 M.2.1 hd  (kk p e R s m args below meth c mc ms Z H locs cells slots ls M h1 h2 hH hL hS)
theorem aw_irem {x y : Int32} (hd : decode cc pc = .ok (.irem, 1)) (hp : pcn = pc + 1) (hne : ¬ y = 0)
    (kk : AW X l cc own nm rt nL fr scr Q k n pcn L (.int (x - x / y * y) :: st) h) : AW X l cc own nm rt nL fr scr Q k n pc L (.int y :: .int x :: st) h := by
  subst hp
  exact fun p e R s m args below meth c mc ms Z H locs cells slots ls M h1 h2 hH hL hS => lv_irem M.1 M.2.1 hd hne (kk p e R s m args below meth c mc ms Z H locs cells slots ls M h1 h2 hH hL hS)
theorem aw_ineg {x : Int32} (hd : decode cc pc = .ok (.ineg, 1)) (hp : pcn = pc + 1) 
    (kk : AW X l cc own nm rt nL fr scr Q k n pcn L (.int (-x) :: st) h) : AW X l cc own nm rt nL fr scr Q k n pc L (.int x :: st) h := by
  subst hp
  exact fun p e R s m args below meth c mc ms Z H locs cells slots ls M h1 h2 hH hL hS => lv_ineg M.1 M.2.1 hd  (kk p e R s m args below meth c mc ms Z H locs cells slots ls M h1 h2 hH hL hS)
theorem aw_iushr {x y v : Int32} (hd : decode cc pc = .ok (.iushr, 1)) (hp : pcn = pc + 1) (hv : (x.toUInt32 >>> (y.toUInt32 &&& Int32.toUInt32 31)).toInt32 = v)
    (kk : AW X l cc own nm rt nL fr scr Q k n pcn L (.int v :: st) h) : AW X l cc own nm rt nL fr scr Q k n pc L (.int y :: .int x :: st) h := by
  subst hp
  exact fun p e R s m args below meth c mc ms Z H locs cells slots ls M h1 h2 hH hL hS => lv_iushr M.1 M.2.1 hd hv (kk p e R s m args below meth c mc ms Z H locs cells slots ls M h1 h2 hH hL hS)
theorem aw_dup {v : Value} (hd : decode cc pc = .ok (.dup, 1)) (hp : pcn = pc + 1) (hv : v.category = 1)
    (kk : AW X l cc own nm rt nL fr scr Q k n pcn L (v :: v :: st) h) : AW X l cc own nm rt nL fr scr Q k n pc L (v :: st) h := by
  subst hp
  exact fun p e R s m args below meth c mc ms Z H locs cells slots ls M h1 h2 hH hL hS => lv_dup M.1 M.2.1 hd hv (kk p e R s m args below meth c mc ms Z H locs cells slots ls M h1 h2 hH hL hS)
theorem aw_pop {v : Value} (hd : decode cc pc = .ok (.pop, 1)) (hp : pcn = pc + 1) (hv : v.category = 1)
    (kk : AW X l cc own nm rt nL fr scr Q k n pcn L st h) : AW X l cc own nm rt nL fr scr Q k n pc L (v :: st) h := by
  subst hp
  exact fun p e R s m args below meth c mc ms Z H locs cells slots ls M h1 h2 hH hL hS => lv_pop M.1 M.2.1 hd hv (kk p e R s m args below meth c mc ms Z H locs cells slots ls M h1 h2 hH hL hS)
theorem aw_dup2 {u v : Value} (hd : decode cc pc = .ok (.dup2, 1)) (hp : pcn = pc + 1) (hu : u.category = 1) (hv : v.category = 1)
    (kk : AW X l cc own nm rt nL fr scr Q k n pcn L (u :: v :: u :: v :: st) h) : AW X l cc own nm rt nL fr scr Q k n pc L (u :: v :: st) h := by
  subst hp
  exact fun p e R s m args below meth c mc ms Z H locs cells slots ls M h1 h2 hH hL hS => lv_dup2_11 M.1 M.2.1 hd hu hv (kk p e R s m args below meth c mc ms Z H locs cells slots ls M h1 h2 hH hL hS)
theorem aw_null  (hd : decode cc pc = .ok (.aconst_null, 1)) (hp : pcn = pc + 1) 
    (kk : AW X l cc own nm rt nL fr scr Q k n pcn L (.null :: st) h) : AW X l cc own nm rt nL fr scr Q k n pc L st h := by
  subst hp
  exact fun p e R s m args below meth c mc ms Z H locs cells slots ls M h1 h2 hH hL hS => lv_null M.1 M.2.1 hd  (kk p e R s m args below meth c mc ms Z H locs cells slots ls M h1 h2 hH hL hS)
theorem aw_ldc {i : Nat} {v : Int32} (hc : Cond.constant own i v ∈ lw_good) (hd : decode cc pc = .ok (.ldc i, 2)) (hp : pcn = pc + 2)
    (kk : AW X l cc own nm rt nL fr scr Q k n pcn L (.int v :: st) h) : AW X l cc own nm rt nL fr scr Q k n pc L st h := by
  subst hp
  exact fun p e R s m args below meth c mc ms Z H locs cells slots ls M h1 h2 hH hL hS => lv_ldc M.1 M.2.1 M.2.2.2.1 (M.2.2.2.2.1 _ hc) hd (kk p e R s m args below meth c mc ms Z H locs cells slots ls M h1 h2 hH hL hS)
theorem aw_ldc_w {i : Nat} {v : Int32} (hc : Cond.constant own i v ∈ lw_good) (hd : decode cc pc = .ok (.ldc_w i, 3)) (hp : pcn = pc + 3)
    (kk : AW X l cc own nm rt nL fr scr Q k n pcn L (.int v :: st) h) : AW X l cc own nm rt nL fr scr Q k n pc L st h := by
  subst hp
  exact fun p e R s m args below meth c mc ms Z H locs cells slots ls M h1 h2 hH hL hS => lv_ldcw M.1 M.2.1 M.2.2.2.1 (M.2.2.2.2.1 _ hc) hd (kk p e R s m args below meth c mc ms Z H locs cells slots ls M h1 h2 hH hL hS)
theorem aw_goto {off : Int} {t : Nat} (hd : decode cc pc = .ok (.goto off, 3)) (ht : (pc : Int) + off = (t : Int))
    (kk : AW X l cc own nm rt nL fr scr Q k n t L st h) : AW X l cc own nm rt nL fr scr Q k n pc L st h :=
  fun p e R s m args below meth c mc ms Z H locs cells slots ls M h1 h2 hH hL hS => lv_goto M.1 M.2.1 hd ht (kk p e R s m args below meth c mc ms Z H locs cells slots ls M h1 h2 hH hL hS)
theorem aw_if_eq {x : Int32} {off : Int} {t : Nat} (hd : decode cc pc = .ok (.ifCond .eq off, 3)) (hp : pcn = pc + 3) (ht : (pc : Int) + off = (t : Int))
    (kt : x = 0 → AW X l cc own nm rt nL fr scr Q k n t L st h) (kf : ¬ x = 0 → AW X l cc own nm rt nL fr scr Q k n pcn L st h) : AW X l cc own nm rt nL fr scr Q k n pc L (.int x :: st) h := by
  subst hp
  exact fun p e R s m args below meth c mc ms Z H locs cells slots ls M h1 h2 hH hL hS => lv_if_eq M.1 M.2.1 hd ht (fun q => kt q p e R s m args below meth c mc ms Z H locs cells slots ls M h1 h2 hH hL hS) (fun q => kf q p e R s m args below meth c mc ms Z H locs cells slots ls M h1 h2 hH hL hS)
theorem aw_icmp_eq {x y : Int32} {off : Int} {t : Nat} (hd : decode cc pc = .ok (.if_icmp .eq off, 3)) (hp : pcn = pc + 3) (ht : (pc : Int) + off = (t : Int))
    (kt : x = y → AW X l cc own nm rt nL fr scr Q k n t L st h) (kf : ¬ x = y → AW X l cc own nm rt nL fr scr Q k n pcn L st h) : AW X l cc own nm rt nL fr scr Q k n pc L (.int y :: .int x :: st) h := by
  subst hp
  exact fun p e R s m args below meth c mc ms Z H locs cells slots ls M h1 h2 hH hL hS => lv_icmp_eq M.1 M.2.1 hd ht (fun q => kt q p e R s m args below meth c mc ms Z H locs cells slots ls M h1 h2 hH hL hS) (fun q => kf q p e R s m args below meth c mc ms Z H locs cells slots ls M h1 h2 hH hL hS)
theorem aw_if_ne {x : Int32} {off : Int} {t : Nat} (hd : decode cc pc = .ok (.ifCond .ne off, 3)) (hp : pcn = pc + 3) (ht : (pc : Int) + off = (t : Int))
    (kt : ¬ x = 0 → AW X l cc own nm rt nL fr scr Q k n t L st h) (kf : x = 0 → AW X l cc own nm rt nL fr scr Q k n pcn L st h) : AW X l cc own nm rt nL fr scr Q k n pc L (.int x :: st) h := by
  subst hp
  exact fun p e R s m args below meth c mc ms Z H locs cells slots ls M h1 h2 hH hL hS => lv_if_ne M.1 M.2.1 hd ht (fun q => kt q p e R s m args below meth c mc ms Z H locs cells slots ls M h1 h2 hH hL hS) (fun q => kf q p e R s m args below meth c mc ms Z H locs cells slots ls M h1 h2 hH hL hS)
theorem aw_icmp_ne {x y : Int32} {off : Int} {t : Nat} (hd : decode cc pc = .ok (.if_icmp .ne off, 3)) (hp : pcn = pc + 3) (ht : (pc : Int) + off = (t : Int))
    (kt : ¬ x = y → AW X l cc own nm rt nL fr scr Q k n t L st h) (kf : x = y → AW X l cc own nm rt nL fr scr Q k n pcn L st h) : AW X l cc own nm rt nL fr scr Q k n pc L (.int y :: .int x :: st) h := by
  subst hp
  exact fun p e R s m args below meth c mc ms Z H locs cells slots ls M h1 h2 hH hL hS => lv_icmp_ne M.1 M.2.1 hd ht (fun q => kt q p e R s m args below meth c mc ms Z H locs cells slots ls M h1 h2 hH hL hS) (fun q => kf q p e R s m args below meth c mc ms Z H locs cells slots ls M h1 h2 hH hL hS)
theorem aw_if_lt {x : Int32} {off : Int} {t : Nat} (hd : decode cc pc = .ok (.ifCond .lt off, 3)) (hp : pcn = pc + 3) (ht : (pc : Int) + off = (t : Int))
    (kt : x < 0 → AW X l cc own nm rt nL fr scr Q k n t L st h) (kf : ¬ x < 0 → AW X l cc own nm rt nL fr scr Q k n pcn L st h) : AW X l cc own nm rt nL fr scr Q k n pc L (.int x :: st) h := by
  subst hp
  exact fun p e R s m args below meth c mc ms Z H locs cells slots ls M h1 h2 hH hL hS => lv_if_lt M.1 M.2.1 hd ht (fun q => kt q p e R s m args below meth c mc ms Z H locs cells slots ls M h1 h2 hH hL hS) (fun q => kf q p e R s m args below meth c mc ms Z H locs cells slots ls M h1 h2 hH hL hS)
theorem aw_icmp_lt {x y : Int32} {off : Int} {t : Nat} (hd : decode cc pc = .ok (.if_icmp .lt off, 3)) (hp : pcn = pc + 3) (ht : (pc : Int) + off = (t : Int))
    (kt : x < y → AW X l cc own nm rt nL fr scr Q k n t L st h) (kf : ¬ x < y → AW X l cc own nm rt nL fr scr Q k n pcn L st h) : AW X l cc own nm rt nL fr scr Q k n pc L (.int y :: .int x :: st) h := by
  subst hp
  exact fun p e R s m args below meth c mc ms Z H locs cells slots ls M h1 h2 hH hL hS => lv_icmp_lt M.1 M.2.1 hd ht (fun q => kt q p e R s m args below meth c mc ms Z H locs cells slots ls M h1 h2 hH hL hS) (fun q => kf q p e R s m args below meth c mc ms Z H locs cells slots ls M h1 h2 hH hL hS)
theorem aw_if_ge {x : Int32} {off : Int} {t : Nat} (hd : decode cc pc = .ok (.ifCond .ge off, 3)) (hp : pcn = pc + 3) (ht : (pc : Int) + off = (t : Int))
    (kt : 0 ≤ x → AW X l cc own nm rt nL fr scr Q k n t L st h) (kf : ¬ 0 ≤ x → AW X l cc own nm rt nL fr scr Q k n pcn L st h) : AW X l cc own nm rt nL fr scr Q k n pc L (.int x :: st) h := by
  subst hp
  exact fun p e R s m args below meth c mc ms Z H locs cells slots ls M h1 h2 hH hL hS => lv_if_ge M.1 M.2.1 hd ht (fun q => kt q p e R s m args below meth c mc ms Z H locs cells slots ls M h1 h2 hH hL hS) (fun q => kf q p e R s m args below meth c mc ms Z H locs cells slots ls M h1 h2 hH hL hS)
theorem aw_icmp_ge {x y : Int32} {off : Int} {t : Nat} (hd : decode cc pc = .ok (.if_icmp .ge off, 3)) (hp : pcn = pc + 3) (ht : (pc : Int) + off = (t : Int))
    (kt : y ≤ x → AW X l cc own nm rt nL fr scr Q k n t L st h) (kf : ¬ y ≤ x → AW X l cc own nm rt nL fr scr Q k n pcn L st h) : AW X l cc own nm rt nL fr scr Q k n pc L (.int y :: .int x :: st) h := by
  subst hp
  exact fun p e R s m args below meth c mc ms Z H locs cells slots ls M h1 h2 hH hL hS => lv_icmp_ge M.1 M.2.1 hd ht (fun q => kt q p e R s m args below meth c mc ms Z H locs cells slots ls M h1 h2 hH hL hS) (fun q => kf q p e R s m args below meth c mc ms Z H locs cells slots ls M h1 h2 hH hL hS)
theorem aw_if_gt {x : Int32} {off : Int} {t : Nat} (hd : decode cc pc = .ok (.ifCond .gt off, 3)) (hp : pcn = pc + 3) (ht : (pc : Int) + off = (t : Int))
    (kt : 0 < x → AW X l cc own nm rt nL fr scr Q k n t L st h) (kf : ¬ 0 < x → AW X l cc own nm rt nL fr scr Q k n pcn L st h) : AW X l cc own nm rt nL fr scr Q k n pc L (.int x :: st) h := by
  subst hp
  exact fun p e R s m args below meth c mc ms Z H locs cells slots ls M h1 h2 hH hL hS => lv_if_gt M.1 M.2.1 hd ht (fun q => kt q p e R s m args below meth c mc ms Z H locs cells slots ls M h1 h2 hH hL hS) (fun q => kf q p e R s m args below meth c mc ms Z H locs cells slots ls M h1 h2 hH hL hS)
theorem aw_icmp_gt {x y : Int32} {off : Int} {t : Nat} (hd : decode cc pc = .ok (.if_icmp .gt off, 3)) (hp : pcn = pc + 3) (ht : (pc : Int) + off = (t : Int))
    (kt : y < x → AW X l cc own nm rt nL fr scr Q k n t L st h) (kf : ¬ y < x → AW X l cc own nm rt nL fr scr Q k n pcn L st h) : AW X l cc own nm rt nL fr scr Q k n pc L (.int y :: .int x :: st) h := by
  subst hp
  exact fun p e R s m args below meth c mc ms Z H locs cells slots ls M h1 h2 hH hL hS => lv_icmp_gt M.1 M.2.1 hd ht (fun q => kt q p e R s m args below meth c mc ms Z H locs cells slots ls M h1 h2 hH hL hS) (fun q => kf q p e R s m args below meth c mc ms Z H locs cells slots ls M h1 h2 hH hL hS)
theorem aw_if_le {x : Int32} {off : Int} {t : Nat} (hd : decode cc pc = .ok (.ifCond .le off, 3)) (hp : pcn = pc + 3) (ht : (pc : Int) + off = (t : Int))
    (kt : x ≤ 0 → AW X l cc own nm rt nL fr scr Q k n t L st h) (kf : ¬ x ≤ 0 → AW X l cc own nm rt nL fr scr Q k n pcn L st h) : AW X l cc own nm rt nL fr scr Q k n pc L (.int x :: st) h := by
  subst hp
  exact fun p e R s m args below meth c mc ms Z H locs cells slots ls M h1 h2 hH hL hS => lv_if_le M.1 M.2.1 hd ht (fun q => kt q p e R s m args below meth c mc ms Z H locs cells slots ls M h1 h2 hH hL hS) (fun q => kf q p e R s m args below meth c mc ms Z H locs cells slots ls M h1 h2 hH hL hS)
theorem aw_icmp_le {x y : Int32} {off : Int} {t : Nat} (hd : decode cc pc = .ok (.if_icmp .le off, 3)) (hp : pcn = pc + 3) (ht : (pc : Int) + off = (t : Int))
    (kt : x ≤ y → AW X l cc own nm rt nL fr scr Q k n t L st h) (kf : ¬ x ≤ y → AW X l cc own nm rt nL fr scr Q k n pcn L st h) : AW X l cc own nm rt nL fr scr Q k n pc L (.int y :: .int x :: st) h := by
  subst hp
  exact fun p e R s m args below meth c mc ms Z H locs cells slots ls M h1 h2 hH hL hS => lv_icmp_le M.1 M.2.1 hd ht (fun q => kt q p e R s m args below meth c mc ms Z H locs cells slots ls M h1 h2 hH hL hS) (fun q => kf q p e R s m args below meth c mc ms Z H locs cells slots ls M h1 h2 hH hL hS)
theorem bI_0 {b : Bool} : bI b = 0 ↔ b = false := by cases b <;> decide
theorem bI_1 {b : Bool} : ¬ bI b = 0 ↔ b = true := by cases b <;> decide
theorem aw_if_eqB {b : Bool} {off : Int} {t : Nat} (hd : decode cc pc = .ok (.ifCond .eq off, 3)) (hp : pcn = pc + 3) (ht : (pc : Int) + off = (t : Int))
    (kt : b = false → AW X l cc own nm rt nL fr scr Q k n t L st h) (kf : b = true → AW X l cc own nm rt nL fr scr Q k n pcn L st h) : AW X l cc own nm rt nL fr scr Q k n pc L (.int (bI b) :: st) h := aw_if_eq hd hp ht (fun q => kt (bI_0.mp q)) (fun q => kf (bI_1.mp q))
theorem aw_if_neB {b : Bool} {off : Int} {t : Nat} (hd : decode cc pc = .ok (.ifCond .ne off, 3)) (hp : pcn = pc + 3) (ht : (pc : Int) + off = (t : Int))
    (kt : b = true → AW X l cc own nm rt nL fr scr Q k n t L st h) (kf : b = false → AW X l cc own nm rt nL fr scr Q k n pcn L st h) : AW X l cc own nm rt nL fr scr Q k n pc L (.int (bI b) :: st) h := aw_if_ne hd hp ht (fun q => kt (bI_1.mp q)) (fun q => kf (bI_0.mp q))
theorem aw_ifnull {r : Option Nat} {v : Value} {off : Int} {t : Nat} (hd : decode cc pc = .ok (.ifnull off, 3)) (hp : pcn = pc + 3) (ht : (pc : Int) + off = (t : Int)) (hr : v = va_rf r)
    (kt : r = none → AW X l cc own nm rt nL fr scr Q k n t L st h) (kf : ∀ a, r = some a → AW X l cc own nm rt nL fr scr Q k n pcn L st h) : AW X l cc own nm rt nL fr scr Q k n pc L (v :: st) h := by
  subst hp
  subst hr
  cases r with
  | none => exact fun p e R s m args below meth c mc ms Z H locs cells slots ls M h1 h2 hH hL hS => lv_ifnullN M.1 M.2.1 hd ht (kt rfl p e R s m args below meth c mc ms Z H locs cells slots ls M h1 h2 hH hL hS)
  | some a => exact fun p e R s m args below meth c mc ms Z H locs cells slots ls M h1 h2 hH hL hS => lv_ifnull M.1 M.2.1 hd (kf a rfl p e R s m args below meth c mc ms Z H locs cells slots ls M h1 h2 hH hL hS)
theorem aw_ifnonnull {r : Option Nat} {v : Value} {off : Int} {t : Nat} (hd : decode cc pc = .ok (.ifnonnull off, 3)) (hp : pcn = pc + 3) (ht : (pc : Int) + off = (t : Int)) (hr : v = va_rf r)
    (kt : ∀ a, r = some a → AW X l cc own nm rt nL fr scr Q k n t L st h) (kf : r = none → AW X l cc own nm rt nL fr scr Q k n pcn L st h) : AW X l cc own nm rt nL fr scr Q k n pc L (v :: st) h := by
  subst hp
  subst hr
  cases r with
  | none => exact fun p e R s m args below meth c mc ms Z H locs cells slots ls M h1 h2 hH hL hS => lv_ifnonnullN M.1 M.2.1 hd (kf rfl p e R s m args below meth c mc ms Z H locs cells slots ls M h1 h2 hH hL hS)
  | some a => exact fun p e R s m args below meth c mc ms Z H locs cells slots ls M h1 h2 hH hL hS => lv_ifnonnull M.1 M.2.1 hd ht (kt a rfl p e R s m args below meth c mc ms Z H locs cells slots ls M h1 h2 hH hL hS)
theorem aw_acmp_eq {r1 r2 : Option Nat} {v1 v2 : Value} {off : Int} {t : Nat} (hd : decode cc pc = .ok (.if_acmp .eq off, 3)) (hp : pcn = pc + 3) (ht : (pc : Int) + off = (t : Int)) (hv1 : v1 = va_rf r1) (hv2 : v2 = va_rf r2)
    (kt : r1 = r2 → AW X l cc own nm rt nL fr scr Q k n t L st h) (kf : ¬ r1 = r2 → AW X l cc own nm rt nL fr scr Q k n pcn L st h) : AW X l cc own nm rt nL fr scr Q k n pc L (v2 :: v1 :: st) h := by
  subst hp
  subst hv1
  subst hv2
  exact fun p e R s m args below meth c mc ms Z H locs cells slots ls M h1 h2 hH hL hS => lv_acmp_eq M.1 M.2.1 hd ht (fun q => kt q p e R s m args below meth c mc ms Z H locs cells slots ls M h1 h2 hH hL hS) (fun q => kf q p e R s m args below meth c mc ms Z H locs cells slots ls M h1 h2 hH hL hS)
theorem aw_acmp_ne {r1 r2 : Option Nat} {v1 v2 : Value} {off : Int} {t : Nat} (hd : decode cc pc = .ok (.if_acmp .ne off, 3)) (hp : pcn = pc + 3) (ht : (pc : Int) + off = (t : Int)) (hv1 : v1 = va_rf r1) (hv2 : v2 = va_rf r2)
    (kt : ¬ r1 = r2 → AW X l cc own nm rt nL fr scr Q k n t L st h) (kf : r1 = r2 → AW X l cc own nm rt nL fr scr Q k n pcn L st h) : AW X l cc own nm rt nL fr scr Q k n pc L (v2 :: v1 :: st) h := by
  subst hp
  subst hv1
  subst hv2
  exact fun p e R s m args below meth c mc ms Z H locs cells slots ls M h1 h2 hH hL hS => lv_acmp_ne M.1 M.2.1 hd ht (fun q => kt q p e R s m args below meth c mc ms Z H locs cells slots ls M h1 h2 hH hL hS) (fun q => kf q p e R s m args below meth c mc ms Z H locs cells slots ls M h1 h2 hH hL hS)
theorem aw_tsIn {dflt lo hi : Int} {offs : Array Int} {len : Nat} {x : Int32} {off : Int} {t : Nat} (hd : decode cc pc = .ok (.tableswitch dflt lo hi offs, len)) (q1 : ¬ x.toInt < lo) (q2 : ¬ hi < x.toInt) (ho : offs[(x.toInt - lo).toNat]? = some off) (ht : (pc : Int) + off = (t : Int))
    (kk : AW X l cc own nm rt nL fr scr Q k n t L st h) : AW X l cc own nm rt nL fr scr Q k n pc L (.int x :: st) h :=
  fun p e R s m args below meth c mc ms Z H locs cells slots ls M h1 h2 hH hL hS => lv_tableIn M.1 M.2.1 hd q1 q2 ho ht (kk p e R s m args below meth c mc ms Z H locs cells slots ls M h1 h2 hH hL hS)
theorem aw_tsOut {dflt lo hi : Int} {offs : Array Int} {len : Nat} {x : Int32} {t : Nat} (hd : decode cc pc = .ok (.tableswitch dflt lo hi offs, len)) (q1 : x.toInt < lo ∨ hi < x.toInt) (ht : (pc : Int) + dflt = (t : Int))
    (kk : AW X l cc own nm rt nL fr scr Q k n t L st h) : AW X l cc own nm rt nL fr scr Q k n pc L (.int x :: st) h :=
  fun p e R s m args below meth c mc ms Z H locs cells slots ls M h1 h2 hH hL hS => lv_tableOut M.1 M.2.1 hd q1 ht (kk p e R s m args below meth c mc ms Z H locs cells slots ls M h1 h2 hH hL hS)
theorem aw_lsw {dflt : Int} {ps : Array (Int × Int)} {len : Nat} {x : Int32} {off : Int} {t : Nat} (hd : decode cc pc = .ok (.lookupswitch dflt ps, len)) (hq : (ps.toList.zip (ps.toList.drop 1)).all (fun (a, next) => a.1 < next.1) = true) (ho : Op.lookupswitch.offset ps.toList dflt x.toInt = off) (ht : (pc : Int) + off = (t : Int))
    (kk : AW X l cc own nm rt nL fr scr Q k n t L st h) : AW X l cc own nm rt nL fr scr Q k n pc L (.int x :: st) h :=
  fun p e R s m args below meth c mc ms Z H locs cells slots ls M h1 h2 hH hL hS => lv_lookup M.1 M.2.1 hd hq ho ht (kk p e R s m args below meth c mc ms Z H locs cells slots ls M h1 h2 hH hL hS)
theorem aw_ret (hd : decode cc pc = .ok (.return_, 1)) (hr : rt = none) (hq : Q none h) : AW X l cc own nm rt nL fr scr Q k n pc L [] h :=
  fun p e R s m args below meth c mc ms Z H locs cells slots ls M h1 h2 hH hL hS => M.2.2.2.2.2.2.2.2.2.2.2.2.2 H locs cells slots pc ls none h hq (Or.inl ⟨rfl, hr, hd⟩) hH hS (by omega) (by omega)
theorem aw_iret {x : Int32} (hd : decode cc pc = .ok (.ireturn, 1)) (hr : rt = some .int) (hq : Q (some (.int x)) h) : AW X l cc own nm rt nL fr scr Q k n pc L [.int x] h :=
  fun p e R s m args below meth c mc ms Z H locs cells slots ls M h1 h2 hH hL hS => M.2.2.2.2.2.2.2.2.2.2.2.2.2 H locs cells slots pc ls (some (.int x)) h hq (Or.inr (Or.inl ⟨x, .int, rfl, hr, rfl, hd⟩)) hH hS (by omega) (by omega)
theorem nar_bool {x : Int32} (hx : x = 0 ∨ x = 1) : narrow .boolean (.int x) = .int x := by
  rcases hx with rfl | rfl <;> decide +kernel
theorem aw_zret {x : Int32} (hd : decode cc pc = .ok (.ireturn, 1)) (hr : rt = some .boolean) (hx : x = 0 ∨ x = 1) (hq : Q (some (.int x)) h) : AW X l cc own nm rt nL fr scr Q k n pc L [.int x] h :=
  fun p e R s m args below meth c mc ms Z H locs cells slots ls M h1 h2 hH hL hS => M.2.2.2.2.2.2.2.2.2.2.2.2.2 H locs cells slots pc ls (some (.int x)) h hq (Or.inr (Or.inl ⟨x, .boolean, rfl, hr, nar_bool hx, hd⟩)) hH hS (by omega) (by omega)
theorem aw_aret {r : Option Nat} {v : Value} {ty : FieldType} (hd : decode cc pc = .ok (.areturn, 1)) (hr : rt = some ty) (hty : (∃ n, ty = .object n) ∨ ∃ t, ty = .array t) (hv : v = va_rf r) (hq : Q (some (va_rf r)) h) : AW X l cc own nm rt nL fr scr Q k n pc L [v] h := by
  subst hv
  exact fun p e R s m args below meth c mc ms Z H locs cells slots ls M h1 h2 hH hL hS => M.2.2.2.2.2.2.2.2.2.2.2.2.2 H locs cells slots pc ls (some (va_rf r)) h hq (Or.inr (Or.inr ⟨r, ty, rfl, hr, hty, hd⟩)) hH hS (by omega) (by omega)
end AWR
end
section
theorem cat_sum {st : List Value} {N : Nat} (h : st.length ≤ N) : (st.map fun v => v.category).sum ≤ 2 * N := by
  induction st generalizing N with
  | nil => simp
  | cons a r ih =>
    have h2 : a.category ≤ 2 := by rcases lv_cat a with q | q <;> omega
    cases N with
    | zero => simp at h
    | succ N =>
      have := ih (N := N) (by simpa using h)
      simp only [List.map_cons, List.sum_cons]
      omega
theorem good_of {w : Cond} (h : w ∈ tables_1) (g : goodWord w = true) : w ∈ lw_good := List.mem_filter.mpr ⟨List.mem_append_right _ h, g⟩
theorem tbl_of {w : Cond} (h : w ∈ tables_1) : w ∈ lw_tbl := List.mem_append_right _ h
theorem obj_w1 : Cond.instanceMethod objectInit ∈ lw_good := good_of (List.mem_of_getElem? (i := 16) (by decide +kernel)) (by decide +kernel)
theorem obj_w2 : Cond.code objectInit ⟨#[0xb1]⟩ 1 none ∈ lw_good := good_of (List.mem_of_getElem? (i := 17) (by decide +kernel)) (by decide +kernel)
/-- a class of vwCl: its field words, types, names -/
theorem cls_ok (ci : Nat) (C : String) (T : u_T) (N : Nat) (h : vwCl[ci]? = some (C, T, N)) : (∀ w ∈ u_ws C T N, w ∈ lw_good) ∧ (∃ ty : Nat → FieldType, ∀ k, k < N → parseFieldDescriptor (T k).2.2.1 = some (ty k)) ∧ (∀ a, a < N → ∀ b, b < N → a ≠ b → (T a).2.1 ≠ (T b).2.1) := by
  match ci, h with
  | 0, h => cases h; exact ⟨by decide +kernel, ⟨tyX0, tyX0_ok⟩, nmX0⟩
  | 1, h => cases h; exact ⟨by decide +kernel, ⟨tyX1, tyX1_ok⟩, nmX1⟩
  | 2, h => cases h; exact ⟨by decide +kernel, ⟨tyX2, tyX2_ok⟩, nmX2⟩
  | 3, h => cases h; exact ⟨by decide +kernel, ⟨tyX3, tyX3_ok⟩, nmX3⟩
  | 4, h => cases h; exact ⟨by decide +kernel, ⟨tyX4, tyX4_ok⟩, nmX4⟩
  | 5, h => cases h; exact ⟨by decide +kernel, ⟨tyX5, tyX5_ok⟩, nmX5⟩
  | 6, h => cases h; exact ⟨by decide +kernel, ⟨tyX6, tyX6_ok⟩, nmX6⟩
  | 7, h => cases h; exact ⟨by decide +kernel, ⟨tyX7, tyX7_ok⟩, nmX7⟩
  | q + 8, h => simp [vwCl] at h
def FLK (own : String) (idx ci j : Nat) : Prop := ∃ C T N, vwCl[ci]? = some (C, T, N) ∧ j < N ∧ Cond.fieldLink own idx (T j).1 (T j).2.1 (T j).2.2.1 ∈ lw_good
def FPK (own : String) (idx ci j : Nat) (ty : FieldType) : Prop := ∃ C T N, vwCl[ci]? = some (C, T, N) ∧ j < N ∧ Cond.fieldLink own idx (T j).1 (T j).2.1 (T j).2.2.1 ∈ lw_good ∧ (T j).2.2.2 = false ∧ parseFieldDescriptor (T j).2.2.1 = some ty
def FPF (own : String) (idx ci j : Nat) (ty : FieldType) : Prop := ∃ C T N, vwCl[ci]? = some (C, T, N) ∧ j < N ∧ Cond.fieldLink own idx (T j).1 (T j).2.1 (T j).2.2.1 ∈ lw_good ∧ (T j).2.2.2 = true ∧ (T j).1 = own ∧ parseFieldDescriptor (T j).2.2.1 = some ty
def VF (ty : FieldType) (v : Value) : Prop := narrow ty v = v ∧ fits ty v = true
theorem VF.i (x : Int32) : VF .int (.int x) := ⟨rfl, rfl⟩
theorem VF.o (n : String) (r : Option Nat) : VF (.object n) (va_rf r) := by cases r <;> exact ⟨rfl, rfl⟩
theorem VF.a (t : FieldType) (r : Option Nat) : VF (.array t) (va_rf r) := by cases r <;> exact ⟨rfl, rfl⟩
def NWK (own : String) (idx ci : Nat) (fs : List Value) : Prop := ∃ C T N, vwCl[ci]? = some (C, T, N) ∧ fs.length = N ∧ (∃ ty : Nat → FieldType, (∀ k, k < N → parseFieldDescriptor (T k).2.2.1 = some (ty k)) ∧ ∀ j, j < N → defaultValue (ty j) = vp_V fs j) ∧ Cond.classLink own idx C ∈ lw_good ∧ Cond.instantiable C N ∈ lw_good ∧ Cond.initialized C ∈ lw_good
/-- the kinds of arrays of references: which class -/
def akc : Nat → Nat
  | 1 => 0
  | 2 => 2
  | 3 => 3
  | _ => 4
theorem akc_ty {X : XG} {t : Nat} (h1 : 1 ≤ t) (h4 : t ≤ 4) : ∃ r : vw_C, vwCl[akc t]? = some r ∧ (xTys X)[t]? = some (X.2.1 t, .object r.1) := by
  match t, h1, h4 with
  | 1, _, _ => exact ⟨_, rfl, rfl⟩
  | 2, _, _ => exact ⟨_, rfl, rfl⟩
  | 3, _, _ => exact ⟨_, rfl, rfl⟩
  | 4, _, _ => exact ⟨_, rfl, rfl⟩
theorem HR.one {X : XG} {h : Hp} {H : Heap} {a : Nat} {c : AC} (hR : HR X h H) (ha : h a = some c) : va_P X.1 vwCl [(a, acE X c)] H := by
  intro k q hk
  cases k with
  | zero => cases hk; exact (hR.2 a c ha).2
  | succ k => simp at hk
theorem HR.ia {X : XG} {h : Hp} {H : Heap} {a N : Nat} {f : Nat → Int32} (hR : HR X h H) (ha : h a = some (ia N f)) : H[a]? = some (arrV (X.2.1 0) N (fun j => .int (f j))) := (hR.2 a _ ha).2
theorem HR.ra {X : XG} {h : Hp} {H : Heap} {a t N : Nat} {f : Nat → Option Nat} (hR : HR X h H) (ha : h a = some (ra t N f)) : H[a]? = some (arrV (X.2.1 t) N (fun j => va_rf (f j))) := (hR.2 a _ ha).2
section AWH
variable {X : XG} {l : Launch} {cc : ByteArray} {own nm : String} {rt : Option FieldType} {nL fr : Nat} {scr : Scr} {Q : Post} {k n pc pcn : Nat} {L : List (Option Value)} {st : List Value} {h : Hp}
theorem aw_getf {a idx ci j : Nat} {fs : List Value} {v : Value} (hF : FLK own idx ci j) (hd : decode cc pc = .ok (.getfield idx, 3)) (hp : pcn = pc + 3) (ha : h a = some (ob ci fs)) (hv : fs[j]? = some v)
    (kk : AW X l cc own nm rt nL fr scr Q k n pcn L (v :: st) h) : AW X l cc own nm rt nL fr scr Q k n pc L (.ref a :: st) h := by
  subst hp
  intro p e R s m args below meth c mc ms Z H locs cells slots ls M h1 h2 hH hL hS
  obtain ⟨C, T, N, hc, hj, hm⟩ := hF
  exact va_get M.1 M.2.1 M.2.2.2.2.1 (cls_ok ci C T N hc).1 M.2.2.2.1 M.2.2.2.2.2.2.1.1 (hH.one ha) 0 (fs := fs) rfl hc j hj (M.2.2.2.2.1 _ hm) (fun _ q => q) hv hd (kk p e R s m args below meth c mc ms Z H locs cells slots ls M h1 h2 hH hL hS)
theorem aw_putf {a idx ci j : Nat} {fs : List Value} {v : Value} {ty : FieldType} (hF : FPK own idx ci j ty) (hd : decode cc pc = .ok (.putfield idx, 3)) (hp : pcn = pc + 3) (ha : h a = some (ob ci fs)) (hl : j < fs.length) (hv : VF ty v)
    (kk : AW X l cc own nm rt nL fr scr Q k n pcn L st (hup h a (ob ci (fs.set j v)))) : AW X l cc own nm rt nL fr scr Q k n pc L (v :: .ref a :: st) h := by
  subst hp
  intro p e R s m args below meth c mc ms Z H locs cells slots ls M h1 h2 hH hL hS
  obtain ⟨C, T, N, hc, hj, hm, hfin, hdd⟩ := hF
  obtain ⟨hws, ⟨ty0, hty⟩, hnam⟩ := cls_ok ci C T N hc
  have hap := va_apart (own := own) M.2.2.2.2.1 hws ty0 hty hnam M.2.2.2.2.2.2.1.1 hc
  have hab := (hH.2 a _ ha).1
  obtain ⟨r, g1, cell, q1, q2, q3, q4⟩ := (hH.2 a _ ha).2
  have hr : r = (C, T, N) := Option.some.inj (g1.symm.trans hc)
  subst hr
  obtain ⟨hSl, hfc, kC, hkC, hkind⟩ := M.2.2.2.2.2.2.1.1.1 ci _ hc
  obtain ⟨cf, kf, fi, f, hi, hsl⟩ := hSl j hj
  have hst := (u_facts hfc hkC (u_lays M.2.2.2.2.1 hws hj) hi).1
  have hlay := M.2.2.2.2.1 _ ((cls_ok ci C T N hc).1 _ (u_in_lay hj))
  unfold u_lay at hlay
  rw [if_neg (by rw [hfin]; decide)] at hlay
  have h6 := u_store hfc hkC hkind hlay hi hdd hv.1 hv.2
  refine W.putK M.1 M.2.1 (f := f) ⟨M.2.2.2.1, M.2.2.2.2.1 _ hm, ⟨_, _, _, hi⟩, hst⟩ (by rw [q2]; exact h6) q1 q3 (by rw [hsl]; exact k2_hasslot (q4 j hj)) rfl rfl hd fun H' e1 e2 e3 => ?_
  rw [hsl] at e1 ⊢
  exact kk p e R s m args below meth c mc ms Z H' _ cells slots ls M h1 h2 (hH.put hab ⟨_, hc, t_OB.to (V := updV (vp_V fs) j v) ⟨_, e1, q2, q3, t_set q4 hap hj v⟩ (fun i _ => vp_updV_set hl v i)⟩ e2 e3) hL (hS.put e2 e3 hab)
theorem aw_putF {a idx ci j : Nat} {fs : List Value} {v : Value} {ty : FieldType} (hF : FPF own idx ci j ty) (hnm : nm = "<init>") (hd : decode cc pc = .ok (.putfield idx, 3)) (hp : pcn = pc + 3) (ha : h a = some (ob ci fs)) (hl : j < fs.length) (hv : VF ty v)
    (kk : AW X l cc own nm rt nL fr scr Q k n pcn L st (hup h a (ob ci (fs.set j v)))) : AW X l cc own nm rt nL fr scr Q k n pc L (v :: .ref a :: st) h := by
  subst hp
  intro p e R s m args below meth c mc ms Z H locs cells slots ls M h1 h2 hH hL hS
  obtain ⟨C, T, N, hc, hj, hm, hfin, hdecl, hdd⟩ := hF
  obtain ⟨hws, ⟨ty0, hty⟩, hnam⟩ := cls_ok ci C T N hc
  have hap := va_apart (own := own) M.2.2.2.2.1 hws ty0 hty hnam M.2.2.2.2.2.2.1.1 hc
  have hab := (hH.2 a _ ha).1
  obtain ⟨r, g1, cell, q1, q2, q3, q4⟩ := (hH.2 a _ ha).2
  have hr : r = (C, T, N) := Option.some.inj (g1.symm.trans hc)
  subst hr
  obtain ⟨hSl, hfc, kC, hkC, hkind⟩ := M.2.2.2.2.2.2.1.1.1 ci _ hc
  obtain ⟨cf, kf, fi, f, hi, hsl⟩ := hSl j hj
  have hst := (u_facts hfc hkC (u_lays M.2.2.2.2.1 hws hj) hi).1
  have hlay := M.2.2.2.2.1 _ ((cls_ok ci C T N hc).1 _ (u_in_lay hj))
  unfold u_lay at hlay
  rw [if_pos hfin] at hlay
  have hcf : m.cls = cf := by
    obtain ⟨_, _, c', _, _, _, -, -, hf', -, -, -, hown2, -⟩ := Cond.laysFinal_spec hlay
    have e1 : c' = cf := by have := hi.symm.trans hf'; simp at this; exact this.1.symm
    rw [hdecl] at hown2
    rw [← e1]; exact Option.some.inj (M.2.2.2.1.symm.trans hown2)
  have h6 := u_fits hfc hkC hkind (Or.inr hlay) hi hdd hv.1 hv.2
  refine W.putFinK M.1 M.2.1 M.2.2.2.1 (M.2.2.2.2.1 _ hm) hi hst hcf (M.2.2.2.2.2.1.trans hnm) (by rw [q2]; exact h6) q1 q3 (by rw [hsl]; exact k2_hasslot (q4 j hj)) rfl rfl hd fun H' e1 e2 e3 => ?_
  rw [hsl] at e1 ⊢
  exact kk p e R s m args below meth c mc ms Z H' _ cells slots ls M h1 h2 (hH.put hab ⟨_, hc, t_OB.to (V := updV (vp_V fs) j v) ⟨_, e1, q2, q3, t_set q4 hap hj v⟩ (fun i _ => vp_updV_set hl v i)⟩ e2 e3) hL (hS.put e2 e3 hab)
theorem aw_iald {a N : Nat} {f : Nat → Int32} {i : Int32} (hd : decode cc pc = .ok (.iaload, 1)) (hp : pcn = pc + 1) (ha : h a = some (ia N f)) (hi : vp_in i N)
    (kk : AW X l cc own nm rt nL fr scr Q k n pcn L (.int (f i.toNatClampNeg) :: st) h) : AW X l cc own nm rt nL fr scr Q k n pc L (.int i :: .ref a :: st) h := by
  subst hp
  intro p e R s m args below meth c mc ms Z H locs cells slots ls M h1 h2 hH hL hS
  exact va_iald M.1 M.2.1 M.2.2.2.2.2.2.1.1 (hH.one ha) 0 0 (n := N) (f := f) rfl rfl hi hd (kk p e R s m args below meth c mc ms Z H locs cells slots ls M h1 h2 hH hL hS)
theorem aw_iast {a N : Nat} {f : Nat → Int32} {i x : Int32} (hd : decode cc pc = .ok (.iastore, 1)) (hp : pcn = pc + 1) (ha : h a = some (ia N f)) (hi : vp_in i N)
    (kk : AW X l cc own nm rt nL fr scr Q k n pcn L st (hup h a (ia N (upd f i.toNatClampNeg x)))) : AW X l cc own nm rt nL fr scr Q k n pc L (.int x :: .int i :: .ref a :: st) h := by
  subst hp
  intro p e R s m args below meth c mc ms Z H locs cells slots ls M h1 h2 hH hL hS
  have hab := (hH.2 a _ ha).1
  have hK := (M.2.2.2.2.2.2.1.1.2 0 _ rfl).1 N (fun j => .int (f j))
  refine W.iast M.1 M.2.1 (hH.ia ha) hK (fun q => by cases q) (by show ¬ (i < 0 ∨ (arrV _ _ _).slots.size ≤ _); rw [arrV_size]; exact hi) rfl rfl hd fun H1 e0 z oq => ?_
  refine kk p e R s m args below meth c mc ms Z H1 _ cells slots ls M h1 h2 (hH.put hab ?_ z oq) hL (hS.put z oq hab)
  show H1[a]? = some (vp_cell _ _)
  rw [e0, arrV_store]
  show some (arrV (X.2.1 0) N (updV (fun j => Value.int (f j)) i.toNatClampNeg (Value.int x))) = some (arrV (X.2.1 0) N (fun j => .int (upd f i.toNatClampNeg x j)))
  congr 2
  funext q
  by_cases hq : q = i.toNatClampNeg
  · subst hq
    simp [updV, upd]
  · simp [updV, upd, hq]
theorem aw_aald {a t N : Nat} {f : Nat → Option Nat} {i : Int32} (hd : decode cc pc = .ok (.aaload, 1)) (hp : pcn = pc + 1) (ha : h a = some (ra t N f)) (ht : 1 ≤ t ∧ t ≤ 4) (hi : vp_in i N)
    (kk : AW X l cc own nm rt nL fr scr Q k n pcn L (va_rf (f i.toNatClampNeg) :: st) h) : AW X l cc own nm rt nL fr scr Q k n pc L (.int i :: .ref a :: st) h := by
  subst hp
  intro p e R s m args below meth c mc ms Z H locs cells slots ls M h1 h2 hH hL hS
  obtain ⟨r, -, hr2⟩ := akc_ty (X := X) ht.1 ht.2
  exact va_aldq M.1 M.2.1 M.2.2.2.2.2.2.1.1 (hH.one ha) 0 t (n := N) (f := f) rfl hr2 hi hd (kk p e R s m args below meth c mc ms Z H locs cells slots ls M h1 h2 hH hL hS)
theorem aw_aast {a t N v : Nat} {fs : List Value} {f : Nat → Option Nat} {i : Int32} (hd : decode cc pc = .ok (.aastore, 1)) (hp : pcn = pc + 1) (ha : h a = some (ra t N f)) (ht : 1 ≤ t ∧ t ≤ 4) (hi : vp_in i N) (hv : h v = some (ob (akc t) fs))
    (kk : AW X l cc own nm rt nL fr scr Q k n pcn L st (hup h a (ra t N (va_up f i.toNatClampNeg (some v))))) : AW X l cc own nm rt nL fr scr Q k n pc L (.ref v :: .int i :: .ref a :: st) h := by
  subst hp
  intro p e R s m args below meth c mc ms Z H locs cells slots ls M h1 h2 hH hL hS
  have hab := (hH.2 a _ ha).1
  obtain ⟨r, hc, hr2⟩ := akc_ty (X := X) ht.1 ht.2
  have hlt : i.toNatClampNeg < N := Nat.not_le.mp fun q => hi (Or.inr q)
  have h0 : ¬ i < 0 := fun q => hi (Or.inl q)
  obtain ⟨r', hr', cellV, g1, g2, g3, -⟩ := (hH.2 v _ hv).2
  have hcls := (M.2.2.2.2.2.2.1.1.1 (akc t) r hc).2
  obtain ⟨kA, comp, k1, k2, k3, -⟩ := (M.2.2.2.2.2.2.1.1.2 t _ hr2).2
  have hcomp : comp = X.1.1 (akc t) := Option.some.inj (k3.symm.trans hcls.1)
  subst hcomp
  obtain ⟨kC, hkC, -⟩ := id hcls.2
  refine W.aast M.1 M.2.1 (hH.ra ha) (fun q h => by cases h) (fun h => by cases h) k1 k2 rfl hkC ⟨h0, by show _ < (arrV _ _ _).slots.size; rw [arrV_size]; exact hlt⟩ g1 (fun q h => by rw [g3] at h; cases h) (by rw [g2]; exact hkC) (by rw [g2]; exact va_assign hcls) rfl rfl hd fun H1 e0 z oq => ?_
  refine kk p e R s m args below meth c mc ms Z H1 _ cells slots ls M h1 h2 (hH.put hab ?_ z oq) hL (hS.put z oq hab)
  show H1[a]? = some (vp_cell _ _)
  rw [e0, arrV_store]
  show some (arrV (X.2.1 t) N (updV (fun j => va_rf (f j)) i.toNatClampNeg (Value.ref v))) = some (arrV (X.2.1 t) N (fun j => va_rf (va_up f i.toNatClampNeg (some v) j)))
  congr 2
  funext q
  by_cases hq : q = i.toNatClampNeg
  · subst hq
    simp [updV, va_up, va_rf]
  · simp [updV, va_up, hq]
theorem aw_aastN {a t N : Nat} {f : Nat → Option Nat} {i : Int32} (hd : decode cc pc = .ok (.aastore, 1)) (hp : pcn = pc + 1) (ha : h a = some (ra t N f)) (ht : 1 ≤ t ∧ t ≤ 4) (hi : vp_in i N)
    (kk : AW X l cc own nm rt nL fr scr Q k n pcn L st (hup h a (ra t N (va_up f i.toNatClampNeg none)))) : AW X l cc own nm rt nL fr scr Q k n pc L (.null :: .int i :: .ref a :: st) h := by
  subst hp
  intro p e R s m args below meth c mc ms Z H locs cells slots ls M h1 h2 hH hL hS
  have hab := (hH.2 a _ ha).1
  obtain ⟨r, hc, hr2⟩ := akc_ty (X := X) ht.1 ht.2
  refine va_WaastN (C := r.1) M.1 M.2.1 (hH.ra ha) ((M.2.2.2.2.2.2.1.1.2 t _ hr2).1 N (fun j => va_rf (f j))) (fun h => by cases h) (by show ¬ (i < 0 ∨ (arrV _ _ _).slots.size ≤ _); rw [arrV_size]; exact hi) rfl rfl hd fun H1 e0 z oq => ?_
  refine kk p e R s m args below meth c mc ms Z H1 _ cells slots ls M h1 h2 (hH.put hab ?_ z oq) hL (hS.put z oq hab)
  show H1[a]? = some (vp_cell _ _)
  rw [e0, arrV_store]
  show some (arrV (X.2.1 t) N (updV (fun j => va_rf (f j)) i.toNatClampNeg Value.null)) = some (arrV (X.2.1 t) N (fun j => va_rf (va_up f i.toNatClampNeg none j)))
  congr 2
  funext q
  by_cases hq : q = i.toNatClampNeg
  · subst hq
    simp [updV, va_up, va_rf]
  · simp [updV, va_up, hq]
theorem aw_aleni {a N : Nat} {f : Nat → Int32} {v : Int32} (hd : decode cc pc = .ok (.arraylength, 1)) (hp : pcn = pc + 1) (ha : h a = some (ia N f)) (hv : Int32.ofNat N = v)
    (kk : AW X l cc own nm rt nL fr scr Q k n pcn L (.int v :: st) h) : AW X l cc own nm rt nL fr scr Q k n pc L (.ref a :: st) h := by
  subst hp
  intro p e R s m args below meth c mc ms Z H locs cells slots ls M h1 h2 hH hL hS
  exact va_alen M.1 M.2.1 M.2.2.2.2.2.2.1.1 (hH.one ha) 0 0 (x := (N, .inl f)) rfl rfl hv hd (kk p e R s m args below meth c mc ms Z H locs cells slots ls M h1 h2 hH hL hS)
theorem aw_alenr {a t N : Nat} {f : Nat → Option Nat} {v : Int32} (hd : decode cc pc = .ok (.arraylength, 1)) (hp : pcn = pc + 1) (ha : h a = some (ra t N f)) (ht : 1 ≤ t ∧ t ≤ 4) (hv : Int32.ofNat N = v)
    (kk : AW X l cc own nm rt nL fr scr Q k n pcn L (.int v :: st) h) : AW X l cc own nm rt nL fr scr Q k n pc L (.ref a :: st) h := by
  subst hp
  intro p e R s m args below meth c mc ms Z H locs cells slots ls M h1 h2 hH hL hS
  obtain ⟨r, -, hr2⟩ := akc_ty (X := X) ht.1 ht.2
  exact va_alen M.1 M.2.1 M.2.2.2.2.2.2.1.1 (hH.one ha) 0 t (x := (N, .inr (.inr (.inr (.inr f))))) rfl hr2 hv hd (kk p e R s m args below meth c mc ms Z H locs cells slots ls M h1 h2 hH hL hS)
theorem aw_new {idx ci : Nat} {fs : List Value} (N : Nat) (hN : NWK own idx ci fs) (hfl : fs.length = N) (hd : decode cc pc = .ok (.new idx, 3)) (hp : pcn = pc + 3) (hk : 1 ≤ k) (hn : N ≤ n)
    (kk : ∀ a, h a = none → AW X l cc own nm rt nL fr scr Q (k - 1) (n - N) pcn L (.ref a :: st) (hup h a (ob ci fs))) : AW X l cc own nm rt nL fr scr Q k n pc L st h := by
  subst hp
  intro p e R s m args below meth c mc ms Z H locs cells slots ls M h1 h2 hH hL hS
  obtain ⟨C, T, N', hc, hfl', ⟨ty, hty, hfs⟩, w1, w2, w3⟩ := hN
  have hNN : N' = N := hfl'.symm.trans hfl
  subst hNN
  have hKn := M.2.2.2.2.2.2.1.1.1 ci _ hc
  have hw := M.2.2.2.2.1
  have hmc := M.2.2.2.2.2.2.2.2.2.2.1
  have hms := M.2.2.2.2.2.2.2.2.2.2.2.1
  refine W.newcK M.1 M.2.1 M.2.2.2.1 (hw _ w1) (hw _ w2) (hw _ w3) rfl hd (by omega) (by omega) hKn.2.1 rfl fun H1 kC hkC e1 z1 o1 => ?_
  obtain ⟨hnn, hR⟩ := hH.new (c := ob ci fs) ⟨_, hc, (u_born ty hw (cls_ok ci C T N' hc).1 hKn hkC e1 hty).to hfs⟩ z1 o1
  exact kk H.size hnn p e R s m args below meth c mc ms Z H1 locs (cells + 1) (slots + N') ls M (by omega) (by omega) hR hL ⟨Nat.le_trans hS.1 (by omega), fun x g1 g2 => (o1 x (Nat.lt_of_lt_of_le g1 hS.1)).trans (hS.2.1 x g1 g2), hS.2.2⟩
theorem aw_newi {x : Int32} (N : Nat) (hx : x.toNatClampNeg = N) (hx0 : ¬ x < 0) (hb : N * 4 ≤ 536870912) (hw : Cond.arrayClass .int ∈ lw_good) (hd : decode cc pc = .ok (.newarray .int, 2)) (hp : pcn = pc + 2) (hk : 1 ≤ k) (hn : N ≤ n)
    (kk : ∀ a, h a = none → AW X l cc own nm rt nL fr scr Q (k - 1) (n - N) pcn L (.ref a :: st) (hup h a (ia N (fun _ => 0)))) : AW X l cc own nm rt nL fr scr Q k n pc L (.int x :: st) h := by
  subst hp
  intro p e R s m args below meth c mc ms Z H locs cells slots ls M h1 h2 hH hL hS
  have hmc := M.2.2.2.2.2.2.2.2.2.2.1
  have hms := M.2.2.2.2.2.2.2.2.2.2.2.1
  refine va_newaK (atype := .int) M.1 M.2.1 (M.2.2.2.2.1 _ hw) rfl hd rfl hx0 hx hb (by omega) (by omega) rfl fun H1 cA e1 z1 o1 hAr hNm => ?_
  have hcA : cA = X.2.1 0 := Option.some.inj (hNm.symm.trans (M.2.2.2.2.2.2.1.1.2 0 _ rfl).2)
  subst hcA
  obtain ⟨hnn, hR⟩ := hH.new (c := ia N (fun _ => 0)) e1 z1 o1
  exact kk H.size hnn p e R s m args below meth c mc ms Z H1 locs (cells + 1) (slots + N) ls M (by omega) (by omega) hR hL ⟨Nat.le_trans hS.1 (by omega), fun x g1 g2 => (o1 x (Nat.lt_of_lt_of_le g1 hS.1)).trans (hS.2.1 x g1 g2), hS.2.2⟩
theorem GX.ao {X : XG} {s : State} (hG : GX X s) {t : Nat} (ht : 1 ≤ t ∧ t ≤ 4) {r : vw_C} (hc : vwCl[akc t]? = some r) : va_AO r.1 s := by
  match t, ht.1, ht.2 with
  | 1, _, _ => cases hc; exact hG.2.2.1
  | 2, _, _ => cases hc; exact hG.2.2.2.1
  | 3, _, _ => cases hc; exact hG.2.2.2.2.1
  | 4, _, _ => cases hc; exact hG.2.2.2.2.2
def NRK (own : String) (idx t : Nat) : Prop := ∃ r : vw_C, vwCl[akc t]? = some r ∧ Cond.classLink own idx r.1 ∈ lw_good
theorem aw_newr {x : Int32} {idx t : Nat} (N : Nat) (hx : x.toNatClampNeg = N) (hx0 : ¬ x < 0) (hb : N * 4 ≤ 536870912) (ht : 1 ≤ t ∧ t ≤ 4) (hw : NRK own idx t) (hd : decode cc pc = .ok (.anewarray idx, 3)) (hp : pcn = pc + 3) (hk : 1 ≤ k) (hn : N ≤ n)
    (kk : ∀ a, h a = none → AW X l cc own nm rt nL fr scr Q (k - 1) (n - N) pcn L (.ref a :: st) (hup h a (ra t N (fun _ => none)))) : AW X l cc own nm rt nL fr scr Q k n pc L (.int x :: st) h := by
  subst hp
  subst hx
  intro p e R s m args below meth c mc ms Z H locs cells slots ls M h1 h2 hH hL hS
  obtain ⟨r, hc, hcl⟩ := hw
  obtain ⟨r', hc', hr2⟩ := akc_ty (X := X) ht.1 ht.2
  cases hc.symm.trans hc'
  have hmc := M.2.2.2.2.2.2.2.2.2.2.1
  have hms := M.2.2.2.2.2.2.2.2.2.2.2.1
  refine W.anew M.1 M.2.1 M.2.2.2.1 (M.2.2.2.2.1 _ hcl) (va_AO.use (M.2.2.2.2.2.2.1.ao ht hc)) rfl hd rfl hx0 hb (by omega) (by omega) fun cA kA comp f1 f2 f3 f4 => ?_
  obtain ⟨kA', comp', g1, g2, g3, g4⟩ := (M.2.2.2.2.2.2.1.1.2 t _ hr2).2
  have hcA : cA = X.2.1 t := Option.some.inj (f1.symm.trans g4)
  subst hcA
  generalize hH1 : H.push ({ cls := X.2.1 t, slots := Array.replicate x.toNatClampNeg .null, vm := .none } : Cell) = H1
  have z1 : H1.size = H.size + 1 := by rw [← hH1, Array.size_push]
  have e1 : H1[H.size]? = some (arrV (X.2.1 t) x.toNatClampNeg (fun _ => .null)) := by rw [← hH1, Array.getElem?_push_size, ← arrV_new]
  have o1 : ∀ q : Nat, q < H.size → H1[q]? = H[q]? := fun q hq => by rw [← hH1, Array.getElem?_push, if_neg (Nat.ne_of_lt hq)]
  obtain ⟨hnn, hR⟩ := hH.new (c := ra t x.toNatClampNeg (fun _ => none)) e1 z1 o1
  exact kk H.size hnn p e R s m args below meth c mc ms Z H1 locs (cells + 1) (slots + x.toNatClampNeg) ls M (by omega) (by omega) hR hL ⟨Nat.le_trans hS.1 (by omega), fun x g1 g2 => (o1 x (Nat.lt_of_lt_of_le g1 hS.1)).trans (hS.2.1 x g1 g2), hS.2.2⟩
theorem aw_sald {b Ln : Nat} {xs : Nat → Int32} {i : Int32} (hs : scr = some (b, Ln, xs)) (hd : decode cc pc = .ok (.iaload, 1)) (hp : pcn = pc + 1) (hi : vp_in i Ln)
    (kk : AW X l cc own nm rt nL fr scr Q k n pcn L (.int (xs i.toNatClampNeg) :: st) h) : AW X l cc own nm rt nL fr scr Q k n pc L (.int i :: .ref b :: st) h := by
  subst hp
  intro p e R s m args below meth c mc ms Z H locs cells slots ls M h1 h2 hH hL hS
  obtain ⟨g1, g2, g3⟩ := M.2.2.2.2.2.2.2.2.2.2.2.2.1 b Ln xs hs
  exact va_sld M.1 M.2.1 g1 g2 (Nat.not_le.mpr g3) hS hi hd (kk p e R s m args below meth c mc ms Z H locs cells slots ls M h1 h2 hH hL hS)
theorem aw_slen {b Ln : Nat} {xs : Nat → Int32} {v : Int32} (hs : scr = some (b, Ln, xs)) (hd : decode cc pc = .ok (.arraylength, 1)) (hp : pcn = pc + 1) (hv : Int32.ofNat Ln = v)
    (kk : AW X l cc own nm rt nL fr scr Q k n pcn L (.int v :: st) h) : AW X l cc own nm rt nL fr scr Q k n pc L (.ref b :: st) h := by
  subst hp
  subst hv
  intro p e R s m args below meth c mc ms Z H locs cells slots ls M h1 h2 hH hL hS
  obtain ⟨g1, g2, g3⟩ := M.2.2.2.2.2.2.2.2.2.2.2.2.1 b Ln xs hs
  exact va_slen M.1 M.2.1 g1 g2 (Nat.not_le.mpr g3) hS hd (kk p e R s m args below meth c mc ms Z H locs cells slots ls M h1 h2 hH hL hS)
theorem aw_obj {idx a : Nat} (hm : Cond.methodLink own idx objectInit ∈ lw_good) (hf : 1 ≤ fr) (hr : st.length ≤ 4) (hd : decode cc pc = .ok (.invokespecial idx, 3)) (hp : pcn = pc + 3)
    (kk : AW X l cc own nm rt nL fr scr Q k n pcn L st h) : AW X l cc own nm rt nL fr scr Q k n pc L (.ref a :: st) h := by
  subst hp
  intro p e R s m args below meth c mc ms Z H locs cells slots ls M h1 h2 hH hL hS
  have w1 : Cond.instanceMethod objectInit ∈ lw_good := obj_w1
  have w2 : Cond.code objectInit ⟨#[0xb1]⟩ 1 none ∈ lw_good := obj_w2
  have hw := M.2.2.2.2.1
  have f1 := M.2.2.2.2.2.2.2.1
  have f2 := M.2.2.2.2.2.2.2.2.1
  have hsum := cat_sum hr
  refine W.objInit M.1 M.2.1 M.2.2.2.1 (hw _ hm) (hw _ w1) (hw _ w2) rfl (hL.1.trans M.2.2.1.symm) rfl hd (by omega) (by show 2 * 0 + _ + 12 ≤ _; omega) ?_
  exact W.eq (g2 := F0 m (pc + 3) ls st) rfl (kk p e R s m args below meth c mc ms Z H locs cells slots ls M h1 h2 hH hL hS)
/-! calls -/
theorem aw_go {Q1 : Post} {mc1 ms1 : Nat} {rest : List Value} {p : Program} {e : Env} {R : Room} {s : State} {m : MethodId} {args : Array Value} {below : List Frame} {meth : Method} {c : Code} {mc ms : Nat} {Z : State → Prop} {H : Heap} {locs : List Loc} {cells slots : Nat} {ls : Array Slot}
    (hr : va_Run p l e R s m args below meth c H locs cells slots mc1 ms1 (F0 m pc ls st) rest (fun st o t => (∃ v h', o = .returned v ∧ Q1 v h' ∧ HR X h' t.heap) ∧ va_F (fun q => X.2.2 ≤ q) st t) (fun q => X.2.2 ≤ q))
    (M : MX X l cc own nm rt nL fr scr Q p e R s m args below meth c mc ms Z) (h1 : cells + k ≤ mc) (h2 : slots + n ≤ ms) (hH : HR X h H) (hL : LH ls nL L) (hS : va_S (fun q => X.2.2 ≤ q) s.heap H locs) (hk : mc1 ≤ k) (hn : ms1 ≤ n)
    (kk : ∀ v h', Q1 v h' → AW X l cc own nm rt nL fr scr Q (k - mc1) (n - ms1) (pc + 3) L (v.toList ++ rest) h') : W p l e R s m args below meth c H locs cells slots Z (F0 m pc ls st) := by
  intro T hT X2
  obtain ⟨v, st₀, t, T', Lc, h0, X', hLc, e1, e2, ⟨⟨v', h', hv, hq, hR⟩, hz, hkk⟩, hst⟩ := hr T hT X2
  cases hv
  rw [h0] at hz hkk
  obtain ⟨t2, a1, b1⟩ := kk v h' hq p e R s m args below meth c mc ms Z T'.heap (locs ++ Lc) (cells + mc1) (slots + ms1) ls M (by omega) (by omega) (by rw [e1]; exact hR) hL
    ⟨Nat.le_trans hS.1 (by rw [e1]; exact hz), fun q g1 g2 => by rw [e1, hkk q (Nat.lt_of_lt_of_le g1 hS.1) g2]; exact hS.2.1 q g1 g2, fun q hq => by
      rcases List.mem_append.mp hq with g | g
      · exact hS.2.2 q g
      · exact hLc q g⟩ T' rfl X'
  exact ⟨t2, hst t2 a1, b1⟩
/-- a method's words -/
def MFK (y : MethodName) (cy : ByteArray) (nLy : Nat) (rty : Option FieldType) (np : Nat) : Prop := Cond.initialized y.cls ∈ lw_good ∧ Cond.code y cy nLy rty ∈ lw_good ∧ (y.cls ≠ "java/lang/invoke/MethodHandle" ∧ y.cls ≠ "java/lang/invoke/VarHandle") ∧ (parseMethodDescriptor y.desc).map (fun d => d.parameters.length) = some np ∧ nLy ≤ 22
def MVK (y : MethodName) : Prop := Cond.instanceMethod y ∈ lw_good ∧ Cond.selects y.cls y y ∈ lw_good
theorem pre_blind {X : XG} {as : List Value} {h : Hp} : FrameBlind (va_Pc as (fun U => HR X h U.heap ∧ GX X U)) := fun _ _ _ _ q => ⟨q.1, q.2.1, GX.vm rfl q.2.2⟩
theorem MFK.len {y : MethodName} {cy : ByteArray} {nLy np : Nat} {rty : Option FieldType} (F : MFK y cy nLy rty np) : ∀ sig, parseMethodDescriptor y.desc = some sig → np = sig.parameters.length := fun sig hs => by
  have q := F.2.2.2.1
  rw [hs] at q
  exact (Option.some.inj q).symm
theorem words_in {y : MethodName} {cy : ByteArray} {nLy np : Nat} {rty : Option FieldType} (F : MFK y cy nLy rty np) {s : State} {args : Array Value} (hw : ∀ w ∈ lw_good, w.before args s = true) : ∀ w ∈ (Cond.code y cy nLy rty :: lw_good), ∀ (a' : Array Value) (U : State), s.WarmedH U.vm → w.before a' U = true :=
  pay_in hw (goodIn_gg (fun w q => by
    rcases List.mem_cons.mp q with q | q
    · rw [q]; exact F.2.1
    · exact q))

theorem aw_Vi {b : Nat} {idx d mc1 ms1 nLy np : Nat} {y : MethodName} {cy : ByteArray} {rty : Option FieldType} {as rest : List Value} {P : Int32 → Hp → Prop} (hM : AM X l y cy nLy rty d mc1 ms1 (.ref b :: as) h (qi P)) (hF : MFK y cy nLy rty np) (hV : MVK y) {ci : Nat} {fs : List Value} (hb : h b = some (ob ci fs)) (hc : (vwCl[ci]?).map (fun q => q.1) = some y.cls) (hm : Cond.methodLink own idx y ∈ lw_good) (hnp : as.length = np) (hfr : d + 1 ≤ fr) (hk : mc1 ≤ k) (hn : ms1 ≤ n) (hr : rest.length ≤ 4) (hst : st = as.reverse ++ .ref b :: rest) (hd : decode cc pc = .ok (.invokevirtual idx, 3)) (hp : pcn = pc + 3)
    (kk : ∀ r h', P r h' → AW X l cc own nm rt nL fr scr Q (k - mc1) (n - ms1) pcn L (.int r :: rest) h') : AW X l cc own nm rt nL fr scr Q k n pc L st h := by
  subst hp
  intro p e R s m args below meth c mc ms Z H locs cells slots ls M h1 h2 hH hL hS
  have hw := M.2.2.2.2.1
  have hG := M.2.2.2.2.2.2.1
  have f1 := M.2.2.2.2.2.2.2.1
  have f2 := M.2.2.2.2.2.2.2.2.1
  have hmc := M.2.2.2.2.2.2.2.2.2.2.1
  have hms := M.2.2.2.2.2.2.2.2.2.2.2.1
  have h22 := hF.2.2.2.2
  have hsum := cat_sum hr
  have hrecv : ∃ cell : Cell, H[b]? = some cell ∧ cell.vm.isStatics = false ∧ s.vm.findClass y.cls = some cell.cls := by
    cases hq : vwCl[ci]? with
    | none => rw [hq] at hc; cases hc
    | some q =>
      rw [hq] at hc
      have := va_recv hG.1 (hH.one hb) (q0 := 0) hq rfl
      have hc2 : q.1 = y.cls := Option.some.inj hc
      rw [hc2] at this
      exact this
  refine aw_go (va_runV (C := y.cls) (As := as) (rest := rest) ⟨M.1, M.2.1, M.2.2.1, M.2.2.2.1, hw⟩ hM ⟨⟨rfl, rfl, show d + 1 ≤ R.frames by omega, show 8 + (nLy + 11) + 41 * d ≤ R.locals by omega, words_in hF hw, List.mem_cons_self, hw _ hF.2.1, hw _ hF.1, hF.2.2.1, hF.len, hw _ hm⟩, hw _ hV.1, hw _ hV.2⟩ ⟨pre_blind, hrecv, fun U hU hW => ⟨rfl, by rw [hU]; exact hH, hG.warm hW⟩⟩ rfl hnp hL.1 hst (by show 2 * 0 + _ ≤ 8; omega) hd ⟨by omega, by omega⟩) M h1 h2 hH hL hS hk hn ?_
  intro v h' q
  obtain ⟨r, rfl, q2⟩ := q
  exact kk r h' q2
theorem aw_Vv {b : Nat} {idx d mc1 ms1 nLy np : Nat} {y : MethodName} {cy : ByteArray} {rty : Option FieldType} {as rest : List Value} {P : Hp → Prop} (hM : AM X l y cy nLy rty d mc1 ms1 (.ref b :: as) h (qv P)) (hF : MFK y cy nLy rty np) (hV : MVK y) {ci : Nat} {fs : List Value} (hb : h b = some (ob ci fs)) (hc : (vwCl[ci]?).map (fun q => q.1) = some y.cls) (hm : Cond.methodLink own idx y ∈ lw_good) (hnp : as.length = np) (hfr : d + 1 ≤ fr) (hk : mc1 ≤ k) (hn : ms1 ≤ n) (hr : rest.length ≤ 4) (hst : st = as.reverse ++ .ref b :: rest) (hd : decode cc pc = .ok (.invokevirtual idx, 3)) (hp : pcn = pc + 3)
    (kk : ∀ h', P h' → AW X l cc own nm rt nL fr scr Q (k - mc1) (n - ms1) pcn L rest h') : AW X l cc own nm rt nL fr scr Q k n pc L st h := by
  subst hp
  intro p e R s m args below meth c mc ms Z H locs cells slots ls M h1 h2 hH hL hS
  have hw := M.2.2.2.2.1
  have hG := M.2.2.2.2.2.2.1
  have f1 := M.2.2.2.2.2.2.2.1
  have f2 := M.2.2.2.2.2.2.2.2.1
  have hmc := M.2.2.2.2.2.2.2.2.2.2.1
  have hms := M.2.2.2.2.2.2.2.2.2.2.2.1
  have h22 := hF.2.2.2.2
  have hsum := cat_sum hr
  have hrecv : ∃ cell : Cell, H[b]? = some cell ∧ cell.vm.isStatics = false ∧ s.vm.findClass y.cls = some cell.cls := by
    cases hq : vwCl[ci]? with
    | none => rw [hq] at hc; cases hc
    | some q =>
      rw [hq] at hc
      have := va_recv hG.1 (hH.one hb) (q0 := 0) hq rfl
      have hc2 : q.1 = y.cls := Option.some.inj hc
      rw [hc2] at this
      exact this
  refine aw_go (va_runV (C := y.cls) (As := as) (rest := rest) ⟨M.1, M.2.1, M.2.2.1, M.2.2.2.1, hw⟩ hM ⟨⟨rfl, rfl, show d + 1 ≤ R.frames by omega, show 8 + (nLy + 11) + 41 * d ≤ R.locals by omega, words_in hF hw, List.mem_cons_self, hw _ hF.2.1, hw _ hF.1, hF.2.2.1, hF.len, hw _ hm⟩, hw _ hV.1, hw _ hV.2⟩ ⟨pre_blind, hrecv, fun U hU hW => ⟨rfl, by rw [hU]; exact hH, hG.warm hW⟩⟩ rfl hnp hL.1 hst (by show 2 * 0 + _ ≤ 8; omega) hd ⟨by omega, by omega⟩) M h1 h2 hH hL hS hk hn ?_
  intro v h' q
  obtain ⟨rfl, q2⟩ := q
  exact kk h' q2
theorem aw_Vr {b : Nat} {idx d mc1 ms1 nLy np : Nat} {y : MethodName} {cy : ByteArray} {rty : Option FieldType} {as rest : List Value} {P : Option Nat → Hp → Prop} (hM : AM X l y cy nLy rty d mc1 ms1 (.ref b :: as) h (qr P)) (hF : MFK y cy nLy rty np) (hV : MVK y) {ci : Nat} {fs : List Value} (hb : h b = some (ob ci fs)) (hc : (vwCl[ci]?).map (fun q => q.1) = some y.cls) (hm : Cond.methodLink own idx y ∈ lw_good) (hnp : as.length = np) (hfr : d + 1 ≤ fr) (hk : mc1 ≤ k) (hn : ms1 ≤ n) (hr : rest.length ≤ 4) (hst : st = as.reverse ++ .ref b :: rest) (hd : decode cc pc = .ok (.invokevirtual idx, 3)) (hp : pcn = pc + 3)
    (kk : ∀ r h', P r h' → AW X l cc own nm rt nL fr scr Q (k - mc1) (n - ms1) pcn L (va_rf r :: rest) h') : AW X l cc own nm rt nL fr scr Q k n pc L st h := by
  subst hp
  intro p e R s m args below meth c mc ms Z H locs cells slots ls M h1 h2 hH hL hS
  have hw := M.2.2.2.2.1
  have hG := M.2.2.2.2.2.2.1
  have f1 := M.2.2.2.2.2.2.2.1
  have f2 := M.2.2.2.2.2.2.2.2.1
  have hmc := M.2.2.2.2.2.2.2.2.2.2.1
  have hms := M.2.2.2.2.2.2.2.2.2.2.2.1
  have h22 := hF.2.2.2.2
  have hsum := cat_sum hr
  have hrecv : ∃ cell : Cell, H[b]? = some cell ∧ cell.vm.isStatics = false ∧ s.vm.findClass y.cls = some cell.cls := by
    cases hq : vwCl[ci]? with
    | none => rw [hq] at hc; cases hc
    | some q =>
      rw [hq] at hc
      have := va_recv hG.1 (hH.one hb) (q0 := 0) hq rfl
      have hc2 : q.1 = y.cls := Option.some.inj hc
      rw [hc2] at this
      exact this
  refine aw_go (va_runV (C := y.cls) (As := as) (rest := rest) ⟨M.1, M.2.1, M.2.2.1, M.2.2.2.1, hw⟩ hM ⟨⟨rfl, rfl, show d + 1 ≤ R.frames by omega, show 8 + (nLy + 11) + 41 * d ≤ R.locals by omega, words_in hF hw, List.mem_cons_self, hw _ hF.2.1, hw _ hF.1, hF.2.2.1, hF.len, hw _ hm⟩, hw _ hV.1, hw _ hV.2⟩ ⟨pre_blind, hrecv, fun U hU hW => ⟨rfl, by rw [hU]; exact hH, hG.warm hW⟩⟩ rfl hnp hL.1 hst (by show 2 * 0 + _ ≤ 8; omega) hd ⟨by omega, by omega⟩) M h1 h2 hH hL hS hk hn ?_
  intro v h' q
  obtain ⟨r, rfl, q2⟩ := q
  exact kk r h' q2
theorem aw_VNi {b : Nat} {idx d mc1 ms1 nLy np : Nat} {y : MethodName} {cy : ByteArray} {rty : Option FieldType} {as rest : List Value} {P : Int32 → Hp → Prop} (hM : AM X l y cy nLy rty d mc1 ms1 (.ref b :: as) h (qi P)) (hF : MFK y cy nLy rty np) (hV : MVK y) {ci : Nat} {fs : List Value} (hb : h b = some (ob ci fs)) (hc : (vwCl[ci]?).map (fun q => q.1) = some y.cls) {host : String} (hm : Cond.methodLinkNest own idx y host ∈ lw_tbl) (hnp : as.length = np) (hfr : d + 1 ≤ fr) (hk : mc1 ≤ k) (hn : ms1 ≤ n) (hr : rest.length ≤ 4) (hst : st = as.reverse ++ .ref b :: rest) (hd : decode cc pc = .ok (.invokevirtual idx, 3)) (hp : pcn = pc + 3)
    (kk : ∀ r h', P r h' → AW X l cc own nm rt nL fr scr Q (k - mc1) (n - ms1) pcn L (.int r :: rest) h') : AW X l cc own nm rt nL fr scr Q k n pc L st h := by
  subst hp
  intro p e R s m args below meth c mc ms Z H locs cells slots ls M h1 h2 hH hL hS
  have hw := M.2.2.2.2.1
  have hG := M.2.2.2.2.2.2.1
  have f1 := M.2.2.2.2.2.2.2.1
  have f2 := M.2.2.2.2.2.2.2.2.1
  have hmc := M.2.2.2.2.2.2.2.2.2.2.1
  have hms := M.2.2.2.2.2.2.2.2.2.2.2.1
  have h22 := hF.2.2.2.2
  have hsum := cat_sum hr
  have hrecv : ∃ cell : Cell, H[b]? = some cell ∧ cell.vm.isStatics = false ∧ s.vm.findClass y.cls = some cell.cls := by
    cases hq : vwCl[ci]? with
    | none => rw [hq] at hc; cases hc
    | some q =>
      rw [hq] at hc
      have := va_recv hG.1 (hH.one hb) (q0 := 0) hq rfl
      have hc2 : q.1 = y.cls := Option.some.inj hc
      rw [hc2] at this
      exact this
  refine aw_go (va_runVN (C := y.cls) (As := as) (rest := rest) ⟨M.1, M.2.1, M.2.2.1, M.2.2.2.1, hw⟩ hM ⟨⟨⟨rfl, rfl, show d + 1 ≤ R.frames by omega, show 8 + (nLy + 11) + 41 * d ≤ R.locals by omega, words_in hF hw, List.mem_cons_self⟩, hw _ hF.2.1, hw _ hF.1, hF.2.2.1, hF.len, va_Nw.use rfl (hG.2.1 _ _ _ _ hm)⟩, hw _ hV.1, hw _ hV.2⟩ ⟨pre_blind, hrecv, fun U hU hW => ⟨rfl, by rw [hU]; exact hH, hG.warm hW⟩⟩ rfl hnp hL.1 hst (by show 2 * 0 + _ ≤ 8; omega) hd ⟨by omega, by omega⟩) M h1 h2 hH hL hS hk hn ?_
  intro v h' q
  obtain ⟨r, rfl, q2⟩ := q
  exact kk r h' q2
theorem aw_VNv {b : Nat} {idx d mc1 ms1 nLy np : Nat} {y : MethodName} {cy : ByteArray} {rty : Option FieldType} {as rest : List Value} {P : Hp → Prop} (hM : AM X l y cy nLy rty d mc1 ms1 (.ref b :: as) h (qv P)) (hF : MFK y cy nLy rty np) (hV : MVK y) {ci : Nat} {fs : List Value} (hb : h b = some (ob ci fs)) (hc : (vwCl[ci]?).map (fun q => q.1) = some y.cls) {host : String} (hm : Cond.methodLinkNest own idx y host ∈ lw_tbl) (hnp : as.length = np) (hfr : d + 1 ≤ fr) (hk : mc1 ≤ k) (hn : ms1 ≤ n) (hr : rest.length ≤ 4) (hst : st = as.reverse ++ .ref b :: rest) (hd : decode cc pc = .ok (.invokevirtual idx, 3)) (hp : pcn = pc + 3)
    (kk : ∀ h', P h' → AW X l cc own nm rt nL fr scr Q (k - mc1) (n - ms1) pcn L rest h') : AW X l cc own nm rt nL fr scr Q k n pc L st h := by
  subst hp
  intro p e R s m args below meth c mc ms Z H locs cells slots ls M h1 h2 hH hL hS
  have hw := M.2.2.2.2.1
  have hG := M.2.2.2.2.2.2.1
  have f1 := M.2.2.2.2.2.2.2.1
  have f2 := M.2.2.2.2.2.2.2.2.1
  have hmc := M.2.2.2.2.2.2.2.2.2.2.1
  have hms := M.2.2.2.2.2.2.2.2.2.2.2.1
  have h22 := hF.2.2.2.2
  have hsum := cat_sum hr
  have hrecv : ∃ cell : Cell, H[b]? = some cell ∧ cell.vm.isStatics = false ∧ s.vm.findClass y.cls = some cell.cls := by
    cases hq : vwCl[ci]? with
    | none => rw [hq] at hc; cases hc
    | some q =>
      rw [hq] at hc
      have := va_recv hG.1 (hH.one hb) (q0 := 0) hq rfl
      have hc2 : q.1 = y.cls := Option.some.inj hc
      rw [hc2] at this
      exact this
  refine aw_go (va_runVN (C := y.cls) (As := as) (rest := rest) ⟨M.1, M.2.1, M.2.2.1, M.2.2.2.1, hw⟩ hM ⟨⟨⟨rfl, rfl, show d + 1 ≤ R.frames by omega, show 8 + (nLy + 11) + 41 * d ≤ R.locals by omega, words_in hF hw, List.mem_cons_self⟩, hw _ hF.2.1, hw _ hF.1, hF.2.2.1, hF.len, va_Nw.use rfl (hG.2.1 _ _ _ _ hm)⟩, hw _ hV.1, hw _ hV.2⟩ ⟨pre_blind, hrecv, fun U hU hW => ⟨rfl, by rw [hU]; exact hH, hG.warm hW⟩⟩ rfl hnp hL.1 hst (by show 2 * 0 + _ ≤ 8; omega) hd ⟨by omega, by omega⟩) M h1 h2 hH hL hS hk hn ?_
  intro v h' q
  obtain ⟨rfl, q2⟩ := q
  exact kk h' q2
theorem aw_VNr {b : Nat} {idx d mc1 ms1 nLy np : Nat} {y : MethodName} {cy : ByteArray} {rty : Option FieldType} {as rest : List Value} {P : Option Nat → Hp → Prop} (hM : AM X l y cy nLy rty d mc1 ms1 (.ref b :: as) h (qr P)) (hF : MFK y cy nLy rty np) (hV : MVK y) {ci : Nat} {fs : List Value} (hb : h b = some (ob ci fs)) (hc : (vwCl[ci]?).map (fun q => q.1) = some y.cls) {host : String} (hm : Cond.methodLinkNest own idx y host ∈ lw_tbl) (hnp : as.length = np) (hfr : d + 1 ≤ fr) (hk : mc1 ≤ k) (hn : ms1 ≤ n) (hr : rest.length ≤ 4) (hst : st = as.reverse ++ .ref b :: rest) (hd : decode cc pc = .ok (.invokevirtual idx, 3)) (hp : pcn = pc + 3)
    (kk : ∀ r h', P r h' → AW X l cc own nm rt nL fr scr Q (k - mc1) (n - ms1) pcn L (va_rf r :: rest) h') : AW X l cc own nm rt nL fr scr Q k n pc L st h := by
  subst hp
  intro p e R s m args below meth c mc ms Z H locs cells slots ls M h1 h2 hH hL hS
  have hw := M.2.2.2.2.1
  have hG := M.2.2.2.2.2.2.1
  have f1 := M.2.2.2.2.2.2.2.1
  have f2 := M.2.2.2.2.2.2.2.2.1
  have hmc := M.2.2.2.2.2.2.2.2.2.2.1
  have hms := M.2.2.2.2.2.2.2.2.2.2.2.1
  have h22 := hF.2.2.2.2
  have hsum := cat_sum hr
  have hrecv : ∃ cell : Cell, H[b]? = some cell ∧ cell.vm.isStatics = false ∧ s.vm.findClass y.cls = some cell.cls := by
    cases hq : vwCl[ci]? with
    | none => rw [hq] at hc; cases hc
    | some q =>
      rw [hq] at hc
      have := va_recv hG.1 (hH.one hb) (q0 := 0) hq rfl
      have hc2 : q.1 = y.cls := Option.some.inj hc
      rw [hc2] at this
      exact this
  refine aw_go (va_runVN (C := y.cls) (As := as) (rest := rest) ⟨M.1, M.2.1, M.2.2.1, M.2.2.2.1, hw⟩ hM ⟨⟨⟨rfl, rfl, show d + 1 ≤ R.frames by omega, show 8 + (nLy + 11) + 41 * d ≤ R.locals by omega, words_in hF hw, List.mem_cons_self⟩, hw _ hF.2.1, hw _ hF.1, hF.2.2.1, hF.len, va_Nw.use rfl (hG.2.1 _ _ _ _ hm)⟩, hw _ hV.1, hw _ hV.2⟩ ⟨pre_blind, hrecv, fun U hU hW => ⟨rfl, by rw [hU]; exact hH, hG.warm hW⟩⟩ rfl hnp hL.1 hst (by show 2 * 0 + _ ≤ 8; omega) hd ⟨by omega, by omega⟩) M h1 h2 hH hL hS hk hn ?_
  intro v h' q
  obtain ⟨r, rfl, q2⟩ := q
  exact kk r h' q2
theorem aw_Si {idx d mc1 ms1 nLy np : Nat} {y : MethodName} {cy : ByteArray} {rty : Option FieldType} {as rest : List Value} {P : Int32 → Hp → Prop} (hM : AM X l y cy nLy rty d mc1 ms1 as h (qi P)) (hF : MFK y cy nLy rty np) (hV : Cond.static y ∈ lw_good) (hm : Cond.methodLink own idx y ∈ lw_good) (hnp : as.length = np) (hfr : d + 1 ≤ fr) (hk : mc1 ≤ k) (hn : ms1 ≤ n) (hr : rest.length ≤ 4) (hst : st = as.reverse ++ rest) (hd : decode cc pc = .ok (.invokestatic idx, 3)) (hp : pcn = pc + 3)
    (kk : ∀ r h', P r h' → AW X l cc own nm rt nL fr scr Q (k - mc1) (n - ms1) pcn L (.int r :: rest) h') : AW X l cc own nm rt nL fr scr Q k n pc L st h := by
  subst hp
  intro p e R s m args below meth c mc ms Z H locs cells slots ls M h1 h2 hH hL hS
  have hw := M.2.2.2.2.1
  have hG := M.2.2.2.2.2.2.1
  have f1 := M.2.2.2.2.2.2.2.1
  have f2 := M.2.2.2.2.2.2.2.2.1
  have hmc := M.2.2.2.2.2.2.2.2.2.2.1
  have hms := M.2.2.2.2.2.2.2.2.2.2.2.1
  have h22 := hF.2.2.2.2
  have hsum := cat_sum hr
  refine aw_go (va_runS (As := as) (rest := rest) ⟨M.1, M.2.1, M.2.2.1, M.2.2.2.1, hw⟩ hM ⟨⟨rfl, rfl, show d + 1 ≤ R.frames by omega, show 8 + (nLy + 11) + 41 * d ≤ R.locals by omega, words_in hF hw, List.mem_cons_self, hw _ hF.2.1, hw _ hF.1, hF.2.2.1, hF.len, hw _ hm⟩, hw _ hV⟩ ⟨pre_blind, fun U hU hW => ⟨rfl, by rw [hU]; exact hH, hG.warm hW⟩⟩ rfl hnp hL.1 hst (by show 2 * 0 + _ ≤ 8; omega) hd ⟨by omega, by omega⟩) M h1 h2 hH hL hS hk hn ?_
  intro v h' q
  obtain ⟨r, rfl, q2⟩ := q
  exact kk r h' q2
theorem aw_Sv {idx d mc1 ms1 nLy np : Nat} {y : MethodName} {cy : ByteArray} {rty : Option FieldType} {as rest : List Value} {P : Hp → Prop} (hM : AM X l y cy nLy rty d mc1 ms1 as h (qv P)) (hF : MFK y cy nLy rty np) (hV : Cond.static y ∈ lw_good) (hm : Cond.methodLink own idx y ∈ lw_good) (hnp : as.length = np) (hfr : d + 1 ≤ fr) (hk : mc1 ≤ k) (hn : ms1 ≤ n) (hr : rest.length ≤ 4) (hst : st = as.reverse ++ rest) (hd : decode cc pc = .ok (.invokestatic idx, 3)) (hp : pcn = pc + 3)
    (kk : ∀ h', P h' → AW X l cc own nm rt nL fr scr Q (k - mc1) (n - ms1) pcn L rest h') : AW X l cc own nm rt nL fr scr Q k n pc L st h := by
  subst hp
  intro p e R s m args below meth c mc ms Z H locs cells slots ls M h1 h2 hH hL hS
  have hw := M.2.2.2.2.1
  have hG := M.2.2.2.2.2.2.1
  have f1 := M.2.2.2.2.2.2.2.1
  have f2 := M.2.2.2.2.2.2.2.2.1
  have hmc := M.2.2.2.2.2.2.2.2.2.2.1
  have hms := M.2.2.2.2.2.2.2.2.2.2.2.1
  have h22 := hF.2.2.2.2
  have hsum := cat_sum hr
  refine aw_go (va_runS (As := as) (rest := rest) ⟨M.1, M.2.1, M.2.2.1, M.2.2.2.1, hw⟩ hM ⟨⟨rfl, rfl, show d + 1 ≤ R.frames by omega, show 8 + (nLy + 11) + 41 * d ≤ R.locals by omega, words_in hF hw, List.mem_cons_self, hw _ hF.2.1, hw _ hF.1, hF.2.2.1, hF.len, hw _ hm⟩, hw _ hV⟩ ⟨pre_blind, fun U hU hW => ⟨rfl, by rw [hU]; exact hH, hG.warm hW⟩⟩ rfl hnp hL.1 hst (by show 2 * 0 + _ ≤ 8; omega) hd ⟨by omega, by omega⟩) M h1 h2 hH hL hS hk hn ?_
  intro v h' q
  obtain ⟨rfl, q2⟩ := q
  exact kk h' q2
theorem aw_Sr {idx d mc1 ms1 nLy np : Nat} {y : MethodName} {cy : ByteArray} {rty : Option FieldType} {as rest : List Value} {P : Option Nat → Hp → Prop} (hM : AM X l y cy nLy rty d mc1 ms1 as h (qr P)) (hF : MFK y cy nLy rty np) (hV : Cond.static y ∈ lw_good) (hm : Cond.methodLink own idx y ∈ lw_good) (hnp : as.length = np) (hfr : d + 1 ≤ fr) (hk : mc1 ≤ k) (hn : ms1 ≤ n) (hr : rest.length ≤ 4) (hst : st = as.reverse ++ rest) (hd : decode cc pc = .ok (.invokestatic idx, 3)) (hp : pcn = pc + 3)
    (kk : ∀ r h', P r h' → AW X l cc own nm rt nL fr scr Q (k - mc1) (n - ms1) pcn L (va_rf r :: rest) h') : AW X l cc own nm rt nL fr scr Q k n pc L st h := by
  subst hp
  intro p e R s m args below meth c mc ms Z H locs cells slots ls M h1 h2 hH hL hS
  have hw := M.2.2.2.2.1
  have hG := M.2.2.2.2.2.2.1
  have f1 := M.2.2.2.2.2.2.2.1
  have f2 := M.2.2.2.2.2.2.2.2.1
  have hmc := M.2.2.2.2.2.2.2.2.2.2.1
  have hms := M.2.2.2.2.2.2.2.2.2.2.2.1
  have h22 := hF.2.2.2.2
  have hsum := cat_sum hr
  refine aw_go (va_runS (As := as) (rest := rest) ⟨M.1, M.2.1, M.2.2.1, M.2.2.2.1, hw⟩ hM ⟨⟨rfl, rfl, show d + 1 ≤ R.frames by omega, show 8 + (nLy + 11) + 41 * d ≤ R.locals by omega, words_in hF hw, List.mem_cons_self, hw _ hF.2.1, hw _ hF.1, hF.2.2.1, hF.len, hw _ hm⟩, hw _ hV⟩ ⟨pre_blind, fun U hU hW => ⟨rfl, by rw [hU]; exact hH, hG.warm hW⟩⟩ rfl hnp hL.1 hst (by show 2 * 0 + _ ≤ 8; omega) hd ⟨by omega, by omega⟩) M h1 h2 hH hL hS hk hn ?_
  intro v h' q
  obtain ⟨r, rfl, q2⟩ := q
  exact kk r h' q2
theorem aw_SNi {idx d mc1 ms1 nLy np : Nat} {y : MethodName} {cy : ByteArray} {rty : Option FieldType} {as rest : List Value} {P : Int32 → Hp → Prop} (hM : AM X l y cy nLy rty d mc1 ms1 as h (qi P)) (hF : MFK y cy nLy rty np) (hV : Cond.static y ∈ lw_good) {host : String} (hm : Cond.methodLinkNest own idx y host ∈ lw_tbl) (hnp : as.length = np) (hfr : d + 1 ≤ fr) (hk : mc1 ≤ k) (hn : ms1 ≤ n) (hr : rest.length ≤ 4) (hst : st = as.reverse ++ rest) (hd : decode cc pc = .ok (.invokestatic idx, 3)) (hp : pcn = pc + 3)
    (kk : ∀ r h', P r h' → AW X l cc own nm rt nL fr scr Q (k - mc1) (n - ms1) pcn L (.int r :: rest) h') : AW X l cc own nm rt nL fr scr Q k n pc L st h := by
  subst hp
  intro p e R s m args below meth c mc ms Z H locs cells slots ls M h1 h2 hH hL hS
  have hw := M.2.2.2.2.1
  have hG := M.2.2.2.2.2.2.1
  have f1 := M.2.2.2.2.2.2.2.1
  have f2 := M.2.2.2.2.2.2.2.2.1
  have hmc := M.2.2.2.2.2.2.2.2.2.2.1
  have hms := M.2.2.2.2.2.2.2.2.2.2.2.1
  have h22 := hF.2.2.2.2
  have hsum := cat_sum hr
  refine aw_go (va_runSN (As := as) (rest := rest) ⟨M.1, M.2.1, M.2.2.1, M.2.2.2.1, hw⟩ hM ⟨⟨⟨rfl, rfl, show d + 1 ≤ R.frames by omega, show 8 + (nLy + 11) + 41 * d ≤ R.locals by omega, words_in hF hw, List.mem_cons_self⟩, hw _ hF.2.1, hw _ hF.1, hF.2.2.1, hF.len, va_Nw.use rfl (hG.2.1 _ _ _ _ hm)⟩, hw _ hV, trivial⟩ ⟨pre_blind, fun U hU hW => ⟨rfl, by rw [hU]; exact hH, hG.warm hW⟩⟩ rfl hnp hL.1 hst (by show 2 * 0 + _ ≤ 8; omega) hd ⟨by omega, by omega⟩) M h1 h2 hH hL hS hk hn ?_
  intro v h' q
  obtain ⟨r, rfl, q2⟩ := q
  exact kk r h' q2
theorem aw_SNv {idx d mc1 ms1 nLy np : Nat} {y : MethodName} {cy : ByteArray} {rty : Option FieldType} {as rest : List Value} {P : Hp → Prop} (hM : AM X l y cy nLy rty d mc1 ms1 as h (qv P)) (hF : MFK y cy nLy rty np) (hV : Cond.static y ∈ lw_good) {host : String} (hm : Cond.methodLinkNest own idx y host ∈ lw_tbl) (hnp : as.length = np) (hfr : d + 1 ≤ fr) (hk : mc1 ≤ k) (hn : ms1 ≤ n) (hr : rest.length ≤ 4) (hst : st = as.reverse ++ rest) (hd : decode cc pc = .ok (.invokestatic idx, 3)) (hp : pcn = pc + 3)
    (kk : ∀ h', P h' → AW X l cc own nm rt nL fr scr Q (k - mc1) (n - ms1) pcn L rest h') : AW X l cc own nm rt nL fr scr Q k n pc L st h := by
  subst hp
  intro p e R s m args below meth c mc ms Z H locs cells slots ls M h1 h2 hH hL hS
  have hw := M.2.2.2.2.1
  have hG := M.2.2.2.2.2.2.1
  have f1 := M.2.2.2.2.2.2.2.1
  have f2 := M.2.2.2.2.2.2.2.2.1
  have hmc := M.2.2.2.2.2.2.2.2.2.2.1
  have hms := M.2.2.2.2.2.2.2.2.2.2.2.1
  have h22 := hF.2.2.2.2
  have hsum := cat_sum hr
  refine aw_go (va_runSN (As := as) (rest := rest) ⟨M.1, M.2.1, M.2.2.1, M.2.2.2.1, hw⟩ hM ⟨⟨⟨rfl, rfl, show d + 1 ≤ R.frames by omega, show 8 + (nLy + 11) + 41 * d ≤ R.locals by omega, words_in hF hw, List.mem_cons_self⟩, hw _ hF.2.1, hw _ hF.1, hF.2.2.1, hF.len, va_Nw.use rfl (hG.2.1 _ _ _ _ hm)⟩, hw _ hV, trivial⟩ ⟨pre_blind, fun U hU hW => ⟨rfl, by rw [hU]; exact hH, hG.warm hW⟩⟩ rfl hnp hL.1 hst (by show 2 * 0 + _ ≤ 8; omega) hd ⟨by omega, by omega⟩) M h1 h2 hH hL hS hk hn ?_
  intro v h' q
  obtain ⟨rfl, q2⟩ := q
  exact kk h' q2
theorem aw_SNr {idx d mc1 ms1 nLy np : Nat} {y : MethodName} {cy : ByteArray} {rty : Option FieldType} {as rest : List Value} {P : Option Nat → Hp → Prop} (hM : AM X l y cy nLy rty d mc1 ms1 as h (qr P)) (hF : MFK y cy nLy rty np) (hV : Cond.static y ∈ lw_good) {host : String} (hm : Cond.methodLinkNest own idx y host ∈ lw_tbl) (hnp : as.length = np) (hfr : d + 1 ≤ fr) (hk : mc1 ≤ k) (hn : ms1 ≤ n) (hr : rest.length ≤ 4) (hst : st = as.reverse ++ rest) (hd : decode cc pc = .ok (.invokestatic idx, 3)) (hp : pcn = pc + 3)
    (kk : ∀ r h', P r h' → AW X l cc own nm rt nL fr scr Q (k - mc1) (n - ms1) pcn L (va_rf r :: rest) h') : AW X l cc own nm rt nL fr scr Q k n pc L st h := by
  subst hp
  intro p e R s m args below meth c mc ms Z H locs cells slots ls M h1 h2 hH hL hS
  have hw := M.2.2.2.2.1
  have hG := M.2.2.2.2.2.2.1
  have f1 := M.2.2.2.2.2.2.2.1
  have f2 := M.2.2.2.2.2.2.2.2.1
  have hmc := M.2.2.2.2.2.2.2.2.2.2.1
  have hms := M.2.2.2.2.2.2.2.2.2.2.2.1
  have h22 := hF.2.2.2.2
  have hsum := cat_sum hr
  refine aw_go (va_runSN (As := as) (rest := rest) ⟨M.1, M.2.1, M.2.2.1, M.2.2.2.1, hw⟩ hM ⟨⟨⟨rfl, rfl, show d + 1 ≤ R.frames by omega, show 8 + (nLy + 11) + 41 * d ≤ R.locals by omega, words_in hF hw, List.mem_cons_self⟩, hw _ hF.2.1, hw _ hF.1, hF.2.2.1, hF.len, va_Nw.use rfl (hG.2.1 _ _ _ _ hm)⟩, hw _ hV, trivial⟩ ⟨pre_blind, fun U hU hW => ⟨rfl, by rw [hU]; exact hH, hG.warm hW⟩⟩ rfl hnp hL.1 hst (by show 2 * 0 + _ ≤ 8; omega) hd ⟨by omega, by omega⟩) M h1 h2 hH hL hS hk hn ?_
  intro v h' q
  obtain ⟨r, rfl, q2⟩ := q
  exact kk r h' q2
theorem aw_Iv {b : Nat} {idx d mc1 ms1 nLy np : Nat} {y : MethodName} {cy : ByteArray} {rty : Option FieldType} {as rest : List Value} {P : Hp → Prop} (hM : AM X l y cy nLy none d mc1 ms1 (.ref b :: as) h (qv P)) (hF : MFK y cy nLy none np) (hV : Cond.instanceMethod y ∈ lw_good) (hy1 : y.name = "<init>") (hm : Cond.methodLink own idx y ∈ lw_good) (hnp : as.length = np) (hfr : d + 1 ≤ fr) (hk : mc1 ≤ k) (hn : ms1 ≤ n) (hr : rest.length ≤ 4) (hst : st = as.reverse ++ .ref b :: rest) (hd : decode cc pc = .ok (.invokespecial idx, 3)) (hp : pcn = pc + 3)
    (kk : ∀ h', P h' → AW X l cc own nm rt nL fr scr Q (k - mc1) (n - ms1) pcn L rest h') : AW X l cc own nm rt nL fr scr Q k n pc L st h := by
  subst hp
  intro p e R s m args below meth c mc ms Z H locs cells slots ls M h1 h2 hH hL hS
  have hw := M.2.2.2.2.1
  have hG := M.2.2.2.2.2.2.1
  have f1 := M.2.2.2.2.2.2.2.1
  have f2 := M.2.2.2.2.2.2.2.2.1
  have hmc := M.2.2.2.2.2.2.2.2.2.2.1
  have hms := M.2.2.2.2.2.2.2.2.2.2.2.1
  have h22 := hF.2.2.2.2
  have hsum := cat_sum hr
  refine aw_go (va_runI (As := as) (rest := rest) ⟨M.1, M.2.1, M.2.2.1, M.2.2.2.1, hw⟩ hM ⟨⟨rfl, rfl, show d + 1 ≤ R.frames by omega, show 8 + (nLy + 11) + 41 * d ≤ R.locals by omega, words_in hF hw, List.mem_cons_self, hw _ hF.2.1, hw _ hF.1, hF.2.2.1, hF.len, hw _ hm⟩, hy1, hw _ hV⟩ ⟨pre_blind, fun U hU hW => ⟨rfl, by rw [hU]; exact hH, hG.warm hW⟩⟩ rfl hnp hL.1 hst (by show 2 * 0 + _ ≤ 8; omega) hd ⟨by omega, by omega⟩) M h1 h2 hH hL hS hk hn ?_
  intro v h' q
  obtain ⟨rfl, q2⟩ := q
  exact kk h' q2
theorem aw_INv {b : Nat} {idx d mc1 ms1 nLy np : Nat} {y : MethodName} {cy : ByteArray} {rty : Option FieldType} {as rest : List Value} {P : Hp → Prop} (hM : AM X l y cy nLy none d mc1 ms1 (.ref b :: as) h (qv P)) (hF : MFK y cy nLy none np) (hV : Cond.instanceMethod y ∈ lw_good) (hy1 : y.name = "<init>") {host : String} (hm : Cond.methodLinkNest own idx y host ∈ lw_tbl) (hnp : as.length = np) (hfr : d + 1 ≤ fr) (hk : mc1 ≤ k) (hn : ms1 ≤ n) (hr : rest.length ≤ 4) (hst : st = as.reverse ++ .ref b :: rest) (hd : decode cc pc = .ok (.invokespecial idx, 3)) (hp : pcn = pc + 3)
    (kk : ∀ h', P h' → AW X l cc own nm rt nL fr scr Q (k - mc1) (n - ms1) pcn L rest h') : AW X l cc own nm rt nL fr scr Q k n pc L st h := by
  subst hp
  intro p e R s m args below meth c mc ms Z H locs cells slots ls M h1 h2 hH hL hS
  have hw := M.2.2.2.2.1
  have hG := M.2.2.2.2.2.2.1
  have f1 := M.2.2.2.2.2.2.2.1
  have f2 := M.2.2.2.2.2.2.2.2.1
  have hmc := M.2.2.2.2.2.2.2.2.2.2.1
  have hms := M.2.2.2.2.2.2.2.2.2.2.2.1
  have h22 := hF.2.2.2.2
  have hsum := cat_sum hr
  refine aw_go (va_runIN (As := as) (rest := rest) ⟨M.1, M.2.1, M.2.2.1, M.2.2.2.1, hw⟩ hM ⟨⟨⟨rfl, rfl, show d + 1 ≤ R.frames by omega, show 8 + (nLy + 11) + 41 * d ≤ R.locals by omega, words_in hF hw, List.mem_cons_self⟩, hw _ hF.2.1, hw _ hF.1, hF.2.2.1, hF.len, va_Nw.use rfl (hG.2.1 _ _ _ _ hm)⟩, hy1, hw _ hV⟩ ⟨pre_blind, fun U hU hW => ⟨rfl, by rw [hU]; exact hH, hG.warm hW⟩⟩ rfl hnp hL.1 hst (by show 2 * 0 + _ ≤ 8; omega) hd ⟨by omega, by omega⟩) M h1 h2 hH hL hS hk hn ?_
  intro v h' q
  obtain ⟨rfl, q2⟩ := q
  exact kk h' q2
end AWH
end
