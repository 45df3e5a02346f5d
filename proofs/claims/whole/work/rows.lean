section
-- ===== PART A: goes FIRST, ahead of the names: the tables' words, and 'selects' of the private methods out of them =====
/-- a private method of a class that the tables say can be made, by its rows of tables_1 -/
def lw_okq (q : MethodName × Nat) : Prop := (q.1.cls ≠ "java/lang/invoke/MethodHandle" ∧ q.1.cls ≠ "java/lang/invoke/VarHandle") ∧ Cond.instantiable q.1.cls q.2 ∈ tables_1 ∧ Cond.privateMethod q.1 ∈ tables_1 ∧ Cond.instanceMethod q.1 ∈ tables_1
theorem lw_p0 : lw_okq (⟨"StateChannels", "hasRoomForStates", "(I)Z"⟩, 11) := ⟨⟨by decide +kernel, by decide +kernel⟩, List.mem_of_getElem? (i := 11) (by decide +kernel), List.mem_of_getElem? (i := 87) (by decide +kernel), List.mem_of_getElem? (i := 88) (by decide +kernel)⟩
theorem lw_p1 : lw_okq (⟨"StateChannels", "allHave", "(II)Z"⟩, 11) := ⟨⟨by decide +kernel, by decide +kernel⟩, List.mem_of_getElem? (i := 11) (by decide +kernel), List.mem_of_getElem? (i := 91) (by decide +kernel), List.mem_of_getElem? (i := 92) (by decide +kernel)⟩
theorem lw_p2 : lw_okq (⟨"StateChannels", "newState", "(LStateChannels$Channel;)LStateChannels$State;"⟩, 11) := ⟨⟨by decide +kernel, by decide +kernel⟩, List.mem_of_getElem? (i := 11) (by decide +kernel), List.mem_of_getElem? (i := 156) (by decide +kernel), List.mem_of_getElem? (i := 157) (by decide +kernel)⟩
theorem lw_p3 : lw_okq (⟨"StateChannels", "channelAt", "(I)LStateChannels$Channel;"⟩, 11) := ⟨⟨by decide +kernel, by decide +kernel⟩, List.mem_of_getElem? (i := 11) (by decide +kernel), List.mem_of_getElem? (i := 219) (by decide +kernel), List.mem_of_getElem? (i := 220) (by decide +kernel)⟩
theorem lw_p4 : lw_okq (⟨"StateChannels", "newStateAsNewest", "(LStateChannels$Channel;)LStateChannels$State;"⟩, 11) := ⟨⟨by decide +kernel, by decide +kernel⟩, List.mem_of_getElem? (i := 11) (by decide +kernel), List.mem_of_getElem? (i := 223) (by decide +kernel), List.mem_of_getElem? (i := 224) (by decide +kernel)⟩
theorem lw_p5 : lw_okq (⟨"StateChannels", "stateAt", "(I)LStateChannels$State;"⟩, 11) := ⟨⟨by decide +kernel, by decide +kernel⟩, List.mem_of_getElem? (i := 11) (by decide +kernel), List.mem_of_getElem? (i := 241) (by decide +kernel), List.mem_of_getElem? (i := 242) (by decide +kernel)⟩
theorem lw_p6 : lw_okq (⟨"StateChannels", "isSecret", "(I)Z"⟩, 11) := ⟨⟨by decide +kernel, by decide +kernel⟩, List.mem_of_getElem? (i := 11) (by decide +kernel), List.mem_of_getElem? (i := 263) (by decide +kernel), List.mem_of_getElem? (i := 264) (by decide +kernel)⟩
theorem lw_p7 : lw_okq (⟨"StateChannels", "makeShown", "(LStateChannels$State;)V"⟩, 11) := ⟨⟨by decide +kernel, by decide +kernel⟩, List.mem_of_getElem? (i := 11) (by decide +kernel), List.mem_of_getElem? (i := 387) (by decide +kernel), List.mem_of_getElem? (i := 388) (by decide +kernel)⟩
theorem lw_p8 : lw_okq (⟨"StateChannels", "fulfil", "(LStateChannels$State;)V"⟩, 11) := ⟨⟨by decide +kernel, by decide +kernel⟩, List.mem_of_getElem? (i := 11) (by decide +kernel), List.mem_of_getElem? (i := 395) (by decide +kernel), List.mem_of_getElem? (i := 396) (by decide +kernel)⟩
theorem lw_p9 : lw_okq (⟨"StateChannels", "payOuts", "(LStateChannels$State;)V"⟩, 11) := ⟨⟨by decide +kernel, by decide +kernel⟩, List.mem_of_getElem? (i := 11) (by decide +kernel), List.mem_of_getElem? (i := 403) (by decide +kernel), List.mem_of_getElem? (i := 404) (by decide +kernel)⟩
theorem lw_p10 : lw_okq (⟨"StateChannels", "payFrom", "(LStateChannels$Channel;II)V"⟩, 11) := ⟨⟨by decide +kernel, by decide +kernel⟩, List.mem_of_getElem? (i := 11) (by decide +kernel), List.mem_of_getElem? (i := 407) (by decide +kernel), List.mem_of_getElem? (i := 408) (by decide +kernel)⟩
theorem lw_p11 : lw_okq (⟨"StateChannels", "endBy", "(LStateChannels$State;)V"⟩, 11) := ⟨⟨by decide +kernel, by decide +kernel⟩, List.mem_of_getElem? (i := 11) (by decide +kernel), List.mem_of_getElem? (i := 411) (by decide +kernel), List.mem_of_getElem? (i := 412) (by decide +kernel)⟩
theorem lw_p12 : lw_okq (⟨"StateChannels", "holdOrGiveBack", "(LStateChannels$Channel;ILStateChannels$Lock;)V"⟩, 11) := ⟨⟨by decide +kernel, by decide +kernel⟩, List.mem_of_getElem? (i := 11) (by decide +kernel), List.mem_of_getElem? (i := 415) (by decide +kernel), List.mem_of_getElem? (i := 416) (by decide +kernel)⟩
theorem lw_p13 : lw_okq (⟨"StateChannels", "hasRoomForSecret", "()Z"⟩, 11) := ⟨⟨by decide +kernel, by decide +kernel⟩, List.mem_of_getElem? (i := 11) (by decide +kernel), List.mem_of_getElem? (i := 426) (by decide +kernel), List.mem_of_getElem? (i := 427) (by decide +kernel)⟩
theorem lw_p14 : lw_okq (⟨"StateChannels", "newSecret", "(I)I"⟩, 11) := ⟨⟨by decide +kernel, by decide +kernel⟩, List.mem_of_getElem? (i := 11) (by decide +kernel), List.mem_of_getElem? (i := 430) (by decide +kernel), List.mem_of_getElem? (i := 431) (by decide +kernel)⟩
theorem lw_p15 : lw_okq (⟨"StateChannels", "isKnownBy", "(II)Z"⟩, 11) := ⟨⟨by decide +kernel, by decide +kernel⟩, List.mem_of_getElem? (i := 11) (by decide +kernel), List.mem_of_getElem? (i := 438) (by decide +kernel), List.mem_of_getElem? (i := 439) (by decide +kernel)⟩
def lw_privs_1 : List (MethodName × Nat) := [(⟨"StateChannels", "hasRoomForStates", "(I)Z"⟩, 11), (⟨"StateChannels", "allHave", "(II)Z"⟩, 11), (⟨"StateChannels", "newState", "(LStateChannels$Channel;)LStateChannels$State;"⟩, 11), (⟨"StateChannels", "channelAt", "(I)LStateChannels$Channel;"⟩, 11), (⟨"StateChannels", "newStateAsNewest", "(LStateChannels$Channel;)LStateChannels$State;"⟩, 11), (⟨"StateChannels", "stateAt", "(I)LStateChannels$State;"⟩, 11), (⟨"StateChannels", "isSecret", "(I)Z"⟩, 11), (⟨"StateChannels", "makeShown", "(LStateChannels$State;)V"⟩, 11), (⟨"StateChannels", "fulfil", "(LStateChannels$State;)V"⟩, 11), (⟨"StateChannels", "payOuts", "(LStateChannels$State;)V"⟩, 11), (⟨"StateChannels", "payFrom", "(LStateChannels$Channel;II)V"⟩, 11), (⟨"StateChannels", "endBy", "(LStateChannels$State;)V"⟩, 11), (⟨"StateChannels", "holdOrGiveBack", "(LStateChannels$Channel;ILStateChannels$Lock;)V"⟩, 11), (⟨"StateChannels", "hasRoomForSecret", "()Z"⟩, 11), (⟨"StateChannels", "newSecret", "(I)I"⟩, 11), (⟨"StateChannels", "isKnownBy", "(II)Z"⟩, 11)]
theorem lw_r1 : ∀ q ∈ lw_privs_1, lw_okq q := List.forall_mem_cons.mpr ⟨lw_p0, List.forall_mem_cons.mpr ⟨lw_p1, List.forall_mem_cons.mpr ⟨lw_p2, List.forall_mem_cons.mpr ⟨lw_p3, List.forall_mem_cons.mpr ⟨lw_p4, List.forall_mem_cons.mpr ⟨lw_p5, List.forall_mem_cons.mpr ⟨lw_p6, List.forall_mem_cons.mpr ⟨lw_p7, List.forall_mem_cons.mpr ⟨lw_p8, List.forall_mem_cons.mpr ⟨lw_p9, List.forall_mem_cons.mpr ⟨lw_p10, List.forall_mem_cons.mpr ⟨lw_p11, List.forall_mem_cons.mpr ⟨lw_p12, List.forall_mem_cons.mpr ⟨lw_p13, List.forall_mem_cons.mpr ⟨lw_p14, List.forall_mem_cons.mpr ⟨lw_p15, fun _ h => absurd h List.not_mem_nil⟩⟩⟩⟩⟩⟩⟩⟩⟩⟩⟩⟩⟩⟩⟩⟩
theorem lw_p16 : lw_okq (⟨"StateChannels", "claimHeld", "(LStateChannels$Channel;II)I"⟩, 11) := ⟨⟨by decide +kernel, by decide +kernel⟩, List.mem_of_getElem? (i := 11) (by decide +kernel), List.mem_of_getElem? (i := 449) (by decide +kernel), List.mem_of_getElem? (i := 450) (by decide +kernel)⟩
theorem lw_p17 : lw_okq (⟨"StateChannels", "canClaim", "(LStateChannels$Lock;I)Z"⟩, 11) := ⟨⟨by decide +kernel, by decide +kernel⟩, List.mem_of_getElem? (i := 11) (by decide +kernel), List.mem_of_getElem? (i := 459) (by decide +kernel), List.mem_of_getElem? (i := 460) (by decide +kernel)⟩
theorem lw_p18 : lw_okq (⟨"StateChannels", "payHeldLock", "(LStateChannels$Channel;III)V"⟩, 11) := ⟨⟨by decide +kernel, by decide +kernel⟩, List.mem_of_getElem? (i := 11) (by decide +kernel), List.mem_of_getElem? (i := 463) (by decide +kernel), List.mem_of_getElem? (i := 464) (by decide +kernel)⟩
theorem lw_p19 : lw_okq (⟨"StateChannels", "moveHeld", "(LStateChannels$Channel;LStateChannels$Game;I)V"⟩, 11) := ⟨⟨by decide +kernel, by decide +kernel⟩, List.mem_of_getElem? (i := 11) (by decide +kernel), List.mem_of_getElem? (i := 471) (by decide +kernel), List.mem_of_getElem? (i := 472) (by decide +kernel)⟩
theorem lw_p20 : lw_okq (⟨"StateChannels", "payHeldStake", "(LStateChannels$Channel;II)V"⟩, 11) := ⟨⟨by decide +kernel, by decide +kernel⟩, List.mem_of_getElem? (i := 11) (by decide +kernel), List.mem_of_getElem? (i := 475) (by decide +kernel), List.mem_of_getElem? (i := 476) (by decide +kernel)⟩
theorem lw_p21 : lw_okq (⟨"StateChannels", "oneHeightMore", "()V"⟩, 11) := ⟨⟨by decide +kernel, by decide +kernel⟩, List.mem_of_getElem? (i := 11) (by decide +kernel), List.mem_of_getElem? (i := 487) (by decide +kernel), List.mem_of_getElem? (i := 488) (by decide +kernel)⟩
theorem lw_p22 : lw_okq (⟨"StateChannels", "meetHeight", "(LStateChannels$Channel;)V"⟩, 11) := ⟨⟨by decide +kernel, by decide +kernel⟩, List.mem_of_getElem? (i := 11) (by decide +kernel), List.mem_of_getElem? (i := 491) (by decide +kernel), List.mem_of_getElem? (i := 492) (by decide +kernel)⟩
theorem lw_p23 : lw_okq (⟨"StateChannels", "watchFor", "(ILStateChannels$Channel;)V"⟩, 11) := ⟨⟨by decide +kernel, by decide +kernel⟩, List.mem_of_getElem? (i := 11) (by decide +kernel), List.mem_of_getElem? (i := 495) (by decide +kernel), List.mem_of_getElem? (i := 496) (by decide +kernel)⟩
theorem lw_p24 : lw_okq (⟨"StateChannels", "playFor", "(ILStateChannels$Channel;)V"⟩, 11) := ⟨⟨by decide +kernel, by decide +kernel⟩, List.mem_of_getElem? (i := 11) (by decide +kernel), List.mem_of_getElem? (i := 499) (by decide +kernel), List.mem_of_getElem? (i := 500) (by decide +kernel)⟩
theorem lw_p25 : lw_okq (⟨"StateChannels", "hasUrgentLock", "(LStateChannels$State;I)Z"⟩, 11) := ⟨⟨by decide +kernel, by decide +kernel⟩, List.mem_of_getElem? (i := 11) (by decide +kernel), List.mem_of_getElem? (i := 503) (by decide +kernel), List.mem_of_getElem? (i := 504) (by decide +kernel)⟩
theorem lw_p26 : lw_okq (⟨"StateChannels", "continuesRoute", "(LStateChannels$Channel;I)Z"⟩, 11) := ⟨⟨by decide +kernel, by decide +kernel⟩, List.mem_of_getElem? (i := 11) (by decide +kernel), List.mem_of_getElem? (i := 511) (by decide +kernel), List.mem_of_getElem? (i := 512) (by decide +kernel)⟩
theorem lw_p27 : lw_okq (⟨"StateChannels", "hopAt", "(I)LStateChannels$Hop;"⟩, 11) := ⟨⟨by decide +kernel, by decide +kernel⟩, List.mem_of_getElem? (i := 11) (by decide +kernel), List.mem_of_getElem? (i := 515) (by decide +kernel), List.mem_of_getElem? (i := 516) (by decide +kernel)⟩
theorem lw_p28 : lw_okq (⟨"StateChannels", "allCarry", "(II)Z"⟩, 11) := ⟨⟨by decide +kernel, by decide +kernel⟩, List.mem_of_getElem? (i := 11) (by decide +kernel), List.mem_of_getElem? (i := 541) (by decide +kernel), List.mem_of_getElem? (i := 542) (by decide +kernel)⟩
theorem lw_p29 : lw_okq (⟨"StateChannels", "firstExpiry", "(II)I"⟩, 11) := ⟨⟨by decide +kernel, by decide +kernel⟩, List.mem_of_getElem? (i := 11) (by decide +kernel), List.mem_of_getElem? (i := 551) (by decide +kernel), List.mem_of_getElem? (i := 552) (by decide +kernel)⟩
theorem lw_p30 : lw_okq (⟨"StateChannels", "payHop", "(LStateChannels$Hop;III)V"⟩, 11) := ⟨⟨by decide +kernel, by decide +kernel⟩, List.mem_of_getElem? (i := 11) (by decide +kernel), List.mem_of_getElem? (i := 555) (by decide +kernel), List.mem_of_getElem? (i := 556) (by decide +kernel)⟩
theorem lw_p31 : lw_okq (⟨"StateChannels", "allThereIs", "()I"⟩, 11) := ⟨⟨by decide +kernel, by decide +kernel⟩, List.mem_of_getElem? (i := 11) (by decide +kernel), List.mem_of_getElem? (i := 591) (by decide +kernel), List.mem_of_getElem? (i := 592) (by decide +kernel)⟩
def lw_privs_2 : List (MethodName × Nat) := [(⟨"StateChannels", "claimHeld", "(LStateChannels$Channel;II)I"⟩, 11), (⟨"StateChannels", "canClaim", "(LStateChannels$Lock;I)Z"⟩, 11), (⟨"StateChannels", "payHeldLock", "(LStateChannels$Channel;III)V"⟩, 11), (⟨"StateChannels", "moveHeld", "(LStateChannels$Channel;LStateChannels$Game;I)V"⟩, 11), (⟨"StateChannels", "payHeldStake", "(LStateChannels$Channel;II)V"⟩, 11), (⟨"StateChannels", "oneHeightMore", "()V"⟩, 11), (⟨"StateChannels", "meetHeight", "(LStateChannels$Channel;)V"⟩, 11), (⟨"StateChannels", "watchFor", "(ILStateChannels$Channel;)V"⟩, 11), (⟨"StateChannels", "playFor", "(ILStateChannels$Channel;)V"⟩, 11), (⟨"StateChannels", "hasUrgentLock", "(LStateChannels$State;I)Z"⟩, 11), (⟨"StateChannels", "continuesRoute", "(LStateChannels$Channel;I)Z"⟩, 11), (⟨"StateChannels", "hopAt", "(I)LStateChannels$Hop;"⟩, 11), (⟨"StateChannels", "allCarry", "(II)Z"⟩, 11), (⟨"StateChannels", "firstExpiry", "(II)I"⟩, 11), (⟨"StateChannels", "payHop", "(LStateChannels$Hop;III)V"⟩, 11), (⟨"StateChannels", "allThereIs", "()I"⟩, 11)]
theorem lw_r2 : ∀ q ∈ lw_privs_2, lw_okq q := List.forall_mem_cons.mpr ⟨lw_p16, List.forall_mem_cons.mpr ⟨lw_p17, List.forall_mem_cons.mpr ⟨lw_p18, List.forall_mem_cons.mpr ⟨lw_p19, List.forall_mem_cons.mpr ⟨lw_p20, List.forall_mem_cons.mpr ⟨lw_p21, List.forall_mem_cons.mpr ⟨lw_p22, List.forall_mem_cons.mpr ⟨lw_p23, List.forall_mem_cons.mpr ⟨lw_p24, List.forall_mem_cons.mpr ⟨lw_p25, List.forall_mem_cons.mpr ⟨lw_p26, List.forall_mem_cons.mpr ⟨lw_p27, List.forall_mem_cons.mpr ⟨lw_p28, List.forall_mem_cons.mpr ⟨lw_p29, List.forall_mem_cons.mpr ⟨lw_p30, List.forall_mem_cons.mpr ⟨lw_p31, fun _ h => absurd h List.not_mem_nil⟩⟩⟩⟩⟩⟩⟩⟩⟩⟩⟩⟩⟩⟩⟩⟩
theorem lw_p32 : lw_okq (⟨"StateChannelsModel", "blank", "(I)I"⟩, 24) := ⟨⟨by decide +kernel, by decide +kernel⟩, List.mem_of_getElem? (i := 596) (by decide +kernel), List.mem_of_getElem? (i := 688) (by decide +kernel), List.mem_of_getElem? (i := 689) (by decide +kernel)⟩
theorem lw_p33 : lw_okq (⟨"StateChannelsModel", "channelOf", "(I)I"⟩, 24) := ⟨⟨by decide +kernel, by decide +kernel⟩, List.mem_of_getElem? (i := 596) (by decide +kernel), List.mem_of_getElem? (i := 692) (by decide +kernel), List.mem_of_getElem? (i := 693) (by decide +kernel)⟩
theorem lw_p34 : lw_okq (⟨"StateChannelsModel", "isChannel", "(I)Z"⟩, 24) := ⟨⟨by decide +kernel, by decide +kernel⟩, List.mem_of_getElem? (i := 596) (by decide +kernel), List.mem_of_getElem? (i := 700) (by decide +kernel), List.mem_of_getElem? (i := 701) (by decide +kernel)⟩
theorem lw_p35 : lw_okq (⟨"StateChannelsModel", "copied", "(I)I"⟩, 24) := ⟨⟨by decide +kernel, by decide +kernel⟩, List.mem_of_getElem? (i := 596) (by decide +kernel), List.mem_of_getElem? (i := 704) (by decide +kernel), List.mem_of_getElem? (i := 705) (by decide +kernel)⟩
theorem lw_p36 : lw_okq (⟨"StateChannelsModel", "newest", "(I)I"⟩, 24) := ⟨⟨by decide +kernel, by decide +kernel⟩, List.mem_of_getElem? (i := 596) (by decide +kernel), List.mem_of_getElem? (i := 708) (by decide +kernel), List.mem_of_getElem? (i := 709) (by decide +kernel)⟩
theorem lw_p37 : lw_okq (⟨"StateChannelsModel", "counts", "(I)Z"⟩, 24) := ⟨⟨by decide +kernel, by decide +kernel⟩, List.mem_of_getElem? (i := 596) (by decide +kernel), List.mem_of_getElem? (i := 712) (by decide +kernel), List.mem_of_getElem? (i := 713) (by decide +kernel)⟩
theorem lw_p38 : lw_okq (⟨"StateChannelsModel", "whole", "(I)I"⟩, 24) := ⟨⟨by decide +kernel, by decide +kernel⟩, List.mem_of_getElem? (i := 596) (by decide +kernel), List.mem_of_getElem? (i := 716) (by decide +kernel), List.mem_of_getElem? (i := 717) (by decide +kernel)⟩
theorem lw_p39 : lw_okq (⟨"StateChannelsModel", "isOf", "(II)Z"⟩, 24) := ⟨⟨by decide +kernel, by decide +kernel⟩, List.mem_of_getElem? (i := 596) (by decide +kernel), List.mem_of_getElem? (i := 727) (by decide +kernel), List.mem_of_getElem? (i := 728) (by decide +kernel)⟩
theorem lw_p40 : lw_okq (⟨"StateChannelsModel", "isState", "(I)Z"⟩, 24) := ⟨⟨by decide +kernel, by decide +kernel⟩, List.mem_of_getElem? (i := 596) (by decide +kernel), List.mem_of_getElem? (i := 731) (by decide +kernel), List.mem_of_getElem? (i := 732) (by decide +kernel)⟩
theorem lw_p41 : lw_okq (⟨"StateChannelsModel", "isMember", "(II)Z"⟩, 24) := ⟨⟨by decide +kernel, by decide +kernel⟩, List.mem_of_getElem? (i := 596) (by decide +kernel), List.mem_of_getElem? (i := 735) (by decide +kernel), List.mem_of_getElem? (i := 736) (by decide +kernel)⟩
theorem lw_p42 : lw_okq (⟨"StateChannelsModel", "isFixed", "(I)Z"⟩, 24) := ⟨⟨by decide +kernel, by decide +kernel⟩, List.mem_of_getElem? (i := 596) (by decide +kernel), List.mem_of_getElem? (i := 742) (by decide +kernel), List.mem_of_getElem? (i := 743) (by decide +kernel)⟩
theorem lw_p43 : lw_okq (⟨"StateChannelsModel", "free", "(II)I"⟩, 24) := ⟨⟨by decide +kernel, by decide +kernel⟩, List.mem_of_getElem? (i := 596) (by decide +kernel), List.mem_of_getElem? (i := 747) (by decide +kernel), List.mem_of_getElem? (i := 748) (by decide +kernel)⟩
theorem lw_p44 : lw_okq (⟨"StateChannelsModel", "emptyPlace", "(I)I"⟩, 24) := ⟨⟨by decide +kernel, by decide +kernel⟩, List.mem_of_getElem? (i := 596) (by decide +kernel), List.mem_of_getElem? (i := 756) (by decide +kernel), List.mem_of_getElem? (i := 757) (by decide +kernel)⟩
theorem lw_p45 : lw_okq (⟨"StateChannelsModel", "locks", "(IIIIII)I"⟩, 24) := ⟨⟨by decide +kernel, by decide +kernel⟩, List.mem_of_getElem? (i := 596) (by decide +kernel), List.mem_of_getElem? (i := 760) (by decide +kernel), List.mem_of_getElem? (i := 761) (by decide +kernel)⟩
theorem lw_p46 : lw_okq (⟨"StateChannelsModel", "isLock", "(II)Z"⟩, 24) := ⟨⟨by decide +kernel, by decide +kernel⟩, List.mem_of_getElem? (i := 596) (by decide +kernel), List.mem_of_getElem? (i := 768) (by decide +kernel), List.mem_of_getElem? (i := 769) (by decide +kernel)⟩
theorem lw_p47 : lw_okq (⟨"StateChannelsModel", "shows", "(I)V"⟩, 24) := ⟨⟨by decide +kernel, by decide +kernel⟩, List.mem_of_getElem? (i := 596) (by decide +kernel), List.mem_of_getElem? (i := 792) (by decide +kernel), List.mem_of_getElem? (i := 793) (by decide +kernel)⟩
def lw_privs_3 : List (MethodName × Nat) := [(⟨"StateChannelsModel", "blank", "(I)I"⟩, 24), (⟨"StateChannelsModel", "channelOf", "(I)I"⟩, 24), (⟨"StateChannelsModel", "isChannel", "(I)Z"⟩, 24), (⟨"StateChannelsModel", "copied", "(I)I"⟩, 24), (⟨"StateChannelsModel", "newest", "(I)I"⟩, 24), (⟨"StateChannelsModel", "counts", "(I)Z"⟩, 24), (⟨"StateChannelsModel", "whole", "(I)I"⟩, 24), (⟨"StateChannelsModel", "isOf", "(II)Z"⟩, 24), (⟨"StateChannelsModel", "isState", "(I)Z"⟩, 24), (⟨"StateChannelsModel", "isMember", "(II)Z"⟩, 24), (⟨"StateChannelsModel", "isFixed", "(I)Z"⟩, 24), (⟨"StateChannelsModel", "free", "(II)I"⟩, 24), (⟨"StateChannelsModel", "emptyPlace", "(I)I"⟩, 24), (⟨"StateChannelsModel", "locks", "(IIIIII)I"⟩, 24), (⟨"StateChannelsModel", "isLock", "(II)Z"⟩, 24), (⟨"StateChannelsModel", "shows", "(I)V"⟩, 24)]
theorem lw_r3 : ∀ q ∈ lw_privs_3, lw_okq q := List.forall_mem_cons.mpr ⟨lw_p32, List.forall_mem_cons.mpr ⟨lw_p33, List.forall_mem_cons.mpr ⟨lw_p34, List.forall_mem_cons.mpr ⟨lw_p35, List.forall_mem_cons.mpr ⟨lw_p36, List.forall_mem_cons.mpr ⟨lw_p37, List.forall_mem_cons.mpr ⟨lw_p38, List.forall_mem_cons.mpr ⟨lw_p39, List.forall_mem_cons.mpr ⟨lw_p40, List.forall_mem_cons.mpr ⟨lw_p41, List.forall_mem_cons.mpr ⟨lw_p42, List.forall_mem_cons.mpr ⟨lw_p43, List.forall_mem_cons.mpr ⟨lw_p44, List.forall_mem_cons.mpr ⟨lw_p45, List.forall_mem_cons.mpr ⟨lw_p46, List.forall_mem_cons.mpr ⟨lw_p47, fun _ h => absurd h List.not_mem_nil⟩⟩⟩⟩⟩⟩⟩⟩⟩⟩⟩⟩⟩⟩⟩⟩
theorem lw_p48 : lw_okq (⟨"StateChannelsModel", "takesOut", "(II)V"⟩, 24) := ⟨⟨by decide +kernel, by decide +kernel⟩, List.mem_of_getElem? (i := 596) (by decide +kernel), List.mem_of_getElem? (i := 800) (by decide +kernel), List.mem_of_getElem? (i := 801) (by decide +kernel)⟩
theorem lw_p49 : lw_okq (⟨"StateChannelsModel", "end", "(II)V"⟩, 24) := ⟨⟨by decide +kernel, by decide +kernel⟩, List.mem_of_getElem? (i := 596) (by decide +kernel), List.mem_of_getElem? (i := 804) (by decide +kernel), List.mem_of_getElem? (i := 805) (by decide +kernel)⟩
theorem lw_p50 : lw_okq (⟨"StateChannelsModel", "pays", "(III)V"⟩, 24) := ⟨⟨by decide +kernel, by decide +kernel⟩, List.mem_of_getElem? (i := 596) (by decide +kernel), List.mem_of_getElem? (i := 808) (by decide +kernel), List.mem_of_getElem? (i := 809) (by decide +kernel)⟩
theorem lw_p51 : lw_okq (⟨"StateChannelsModel", "canClaim", "(III)Z"⟩, 24) := ⟨⟨by decide +kernel, by decide +kernel⟩, List.mem_of_getElem? (i := 596) (by decide +kernel), List.mem_of_getElem? (i := 824) (by decide +kernel), List.mem_of_getElem? (i := 825) (by decide +kernel)⟩
theorem lw_p52 : lw_okq (⟨"StateChannelsModel", "claims", "(III)I"⟩, 24) := ⟨⟨by decide +kernel, by decide +kernel⟩, List.mem_of_getElem? (i := 596) (by decide +kernel), List.mem_of_getElem? (i := 828) (by decide +kernel), List.mem_of_getElem? (i := 829) (by decide +kernel)⟩
theorem lw_p53 : lw_okq (⟨"StateChannelsModel", "steps", "(II)I"⟩, 24) := ⟨⟨by decide +kernel, by decide +kernel⟩, List.mem_of_getElem? (i := 596) (by decide +kernel), List.mem_of_getElem? (i := 836) (by decide +kernel), List.mem_of_getElem? (i := 837) (by decide +kernel)⟩
theorem lw_p54 : lw_okq (⟨"StateChannelsModel", "wins", "(II)V"⟩, 24) := ⟨⟨by decide +kernel, by decide +kernel⟩, List.mem_of_getElem? (i := 596) (by decide +kernel), List.mem_of_getElem? (i := 840) (by decide +kernel), List.mem_of_getElem? (i := 841) (by decide +kernel)⟩
theorem lw_p55 : lw_okq (⟨"StateChannelsModel", "oneMore", "()V"⟩, 24) := ⟨⟨by decide +kernel, by decide +kernel⟩, List.mem_of_getElem? (i := 596) (by decide +kernel), List.mem_of_getElem? (i := 852) (by decide +kernel), List.mem_of_getElem? (i := 853) (by decide +kernel)⟩
theorem lw_p56 : lw_okq (⟨"StateChannelsModel", "dues", "(I)V"⟩, 24) := ⟨⟨by decide +kernel, by decide +kernel⟩, List.mem_of_getElem? (i := 596) (by decide +kernel), List.mem_of_getElem? (i := 856) (by decide +kernel), List.mem_of_getElem? (i := 857) (by decide +kernel)⟩
theorem lw_p57 : lw_okq (⟨"StateChannelsModel", "watches", "(II)V"⟩, 24) := ⟨⟨by decide +kernel, by decide +kernel⟩, List.mem_of_getElem? (i := 596) (by decide +kernel), List.mem_of_getElem? (i := 860) (by decide +kernel), List.mem_of_getElem? (i := 861) (by decide +kernel)⟩
theorem lw_p58 : lw_okq (⟨"StateChannelsModel", "all", "()I"⟩, 24) := ⟨⟨by decide +kernel, by decide +kernel⟩, List.mem_of_getElem? (i := 596) (by decide +kernel), List.mem_of_getElem? (i := 901) (by decide +kernel), List.mem_of_getElem? (i := 902) (by decide +kernel)⟩
def lw_privs_4 : List (MethodName × Nat) := [(⟨"StateChannelsModel", "takesOut", "(II)V"⟩, 24), (⟨"StateChannelsModel", "end", "(II)V"⟩, 24), (⟨"StateChannelsModel", "pays", "(III)V"⟩, 24), (⟨"StateChannelsModel", "canClaim", "(III)Z"⟩, 24), (⟨"StateChannelsModel", "claims", "(III)I"⟩, 24), (⟨"StateChannelsModel", "steps", "(II)I"⟩, 24), (⟨"StateChannelsModel", "wins", "(II)V"⟩, 24), (⟨"StateChannelsModel", "oneMore", "()V"⟩, 24), (⟨"StateChannelsModel", "dues", "(I)V"⟩, 24), (⟨"StateChannelsModel", "watches", "(II)V"⟩, 24), (⟨"StateChannelsModel", "all", "()I"⟩, 24)]
theorem lw_r4 : ∀ q ∈ lw_privs_4, lw_okq q := List.forall_mem_cons.mpr ⟨lw_p48, List.forall_mem_cons.mpr ⟨lw_p49, List.forall_mem_cons.mpr ⟨lw_p50, List.forall_mem_cons.mpr ⟨lw_p51, List.forall_mem_cons.mpr ⟨lw_p52, List.forall_mem_cons.mpr ⟨lw_p53, List.forall_mem_cons.mpr ⟨lw_p54, List.forall_mem_cons.mpr ⟨lw_p55, List.forall_mem_cons.mpr ⟨lw_p56, List.forall_mem_cons.mpr ⟨lw_p57, List.forall_mem_cons.mpr ⟨lw_p58, fun _ h => absurd h List.not_mem_nil⟩⟩⟩⟩⟩⟩⟩⟩⟩⟩⟩
def lw_privs : List (MethodName × Nat) := lw_privs_1 ++ (lw_privs_2 ++ (lw_privs_3 ++ (lw_privs_4)))
def lw_tbl : List Cond := k2_sels lw_privs ++ tables_1
theorem lw_privs_ok : ∀ q ∈ lw_privs, lw_okq q := by
  show ∀ q ∈ lw_privs_1 ++ (lw_privs_2 ++ (lw_privs_3 ++ (lw_privs_4))), lw_okq q
  exact List.forall_mem_append.mpr ⟨lw_r1, List.forall_mem_append.mpr ⟨lw_r2, List.forall_mem_append.mpr ⟨lw_r3, lw_r4⟩⟩⟩
end
section
def RX0 : String := "StateChannels$Channel"
def TX0 : u_T := fun k => match k with
  | 0 => ("StateChannels$Channel", "number", "I", true)
  | 1 => ("StateChannels$Channel", "members", "I", true)
  | 2 => ("StateChannels$Channel", "delay", "I", true)
  | 3 => ("StateChannels$Channel", "sum", "I", false)
  | 4 => ("StateChannels$Channel", "phase", "I", false)
  | 5 => ("StateChannels$Channel", "statesMade", "I", false)
  | 6 => ("StateChannels$Channel", "newest", "LStateChannels$State;", false)
  | 7 => ("StateChannels$Channel", "by", "LStateChannels$State;", false)
  | 8 => ("StateChannels$Channel", "until", "I", false)
  | 9 => ("StateChannels$Channel", "heldPlaces", "I", false)
  | 10 => ("StateChannels$Channel", "heldGame", "LStateChannels$Game;", false)
  | _ => ("StateChannels$Channel", "deadline", "I", false)
def tyX0 : Nat → FieldType := fun k => match k with
  | 0 => .int
  | 1 => .int
  | 2 => .int
  | 3 => .int
  | 4 => .int
  | 5 => .int
  | 6 => .object "StateChannels$State"
  | 7 => .object "StateChannels$State"
  | 8 => .int
  | 9 => .int
  | 10 => .object "StateChannels$Game"
  | _ => .int
theorem nmX0 : ∀ a, a < 12 → ∀ b, b < 12 → a ≠ b → (TX0 a).2.1 ≠ (TX0 b).2.1 := by decide +kernel
theorem tyX0_ok : ∀ k, k < 12 → parseFieldDescriptor (TX0 k).2.2.1 = some (tyX0 k) := by decide +kernel
abbrev cX0_init : ByteArray := prog_2_method_1_code
def yX0_init : MethodName := ⟨RX0, "<init>", "(III)V"⟩
abbrev cX0_hasMember : ByteArray := prog_2_method_2_code
def yX0_hasMember : MethodName := ⟨RX0, "hasMember", "(I)Z"⟩
abbrev cX0_noteSigned : ByteArray := prog_2_method_3_code
def yX0_noteSigned : MethodName := ⟨RX0, "noteSigned", "(LStateChannels$State;)V"⟩
abbrev cX0_wouldTake : ByteArray := prog_2_method_4_code
def yX0_wouldTake : MethodName := ⟨RX0, "wouldTake", "(LStateChannels$State;)Z"⟩
abbrev cX0_heldLockAt : ByteArray := prog_2_method_5_code
def yX0_heldLockAt : MethodName := ⟨RX0, "heldLockAt", "(I)LStateChannels$Lock;"⟩
def RX1 : String := "StateChannels$Game"
def TX1 : u_T := fun k => match k with
  | 0 => ("StateChannels$Game", "turn", "I", true)
  | 1 => ("StateChannels$Game", "other", "I", true)
  | 2 => ("StateChannels$Game", "stake", "I", true)
  | _ => ("StateChannels$Game", "heap", "I", true)
def tyX1 : Nat → FieldType := fun k => match k with
  | 0 => .int
  | 1 => .int
  | 2 => .int
  | _ => .int
theorem nmX1 : ∀ a, a < 4 → ∀ b, b < 4 → a ≠ b → (TX1 a).2.1 ≠ (TX1 b).2.1 := by decide +kernel
theorem tyX1_ok : ∀ k, k < 4 → parseFieldDescriptor (TX1 k).2.2.1 = some (tyX1 k) := by decide +kernel
abbrev cX1_init : ByteArray := prog_3_method_1_code
def yX1_init : MethodName := ⟨RX1, "<init>", "(IIII)V"⟩
abbrev cX1_after : ByteArray := prog_3_method_2_code
def yX1_after : MethodName := ⟨RX1, "after", "(I)LStateChannels$Game;"⟩
def RX2 : String := "StateChannels$Hop"
def TX2 : u_T := fun k => match k with
  | 0 => ("StateChannels$Hop", "channel", "LStateChannels$Channel;", true)
  | 1 => ("StateChannels$Hop", "from", "I", true)
  | _ => ("StateChannels$Hop", "to", "I", true)
def tyX2 : Nat → FieldType := fun k => match k with
  | 0 => .object "StateChannels$Channel"
  | 1 => .int
  | _ => .int
theorem nmX2 : ∀ a, a < 3 → ∀ b, b < 3 → a ≠ b → (TX2 a).2.1 ≠ (TX2 b).2.1 := by decide +kernel
theorem tyX2_ok : ∀ k, k < 3 → parseFieldDescriptor (TX2 k).2.2.1 = some (tyX2 k) := by decide +kernel
abbrev cX2_init : ByteArray := prog_4_method_1_code
def yX2_init : MethodName := ⟨RX2, "<init>", "(LStateChannels$Channel;II)V"⟩
abbrev cX2_canCarry : ByteArray := prog_4_method_2_code
def yX2_canCarry : MethodName := ⟨RX2, "canCarry", "(I)Z"⟩
def RX3 : String := "StateChannels$Lock"
def TX3 : u_T := fun k => match k with
  | 0 => ("StateChannels$Lock", "from", "I", true)
  | 1 => ("StateChannels$Lock", "to", "I", true)
  | 2 => ("StateChannels$Lock", "amount", "I", true)
  | 3 => ("StateChannels$Lock", "secret", "I", true)
  | _ => ("StateChannels$Lock", "expiry", "I", true)
def tyX3 : Nat → FieldType := fun k => match k with
  | 0 => .int
  | 1 => .int
  | 2 => .int
  | 3 => .int
  | _ => .int
theorem nmX3 : ∀ a, a < 5 → ∀ b, b < 5 → a ≠ b → (TX3 a).2.1 ≠ (TX3 b).2.1 := by decide +kernel
theorem tyX3_ok : ∀ k, k < 5 → parseFieldDescriptor (TX3 k).2.2.1 = some (tyX3 k) := by decide +kernel
abbrev cX3_init : ByteArray := prog_5_method_1_code
def yX3_init : MethodName := ⟨RX3, "<init>", "(IIIII)V"⟩
def RX4 : String := "StateChannels$State"
def TX4 : u_T := fun k => match k with
  | 0 => ("StateChannels$State", "number", "I", true)
  | 1 => ("StateChannels$State", "channel", "LStateChannels$Channel;", true)
  | 2 => ("StateChannels$State", "rank", "I", true)
  | 3 => ("StateChannels$State", "shares", "LStateChannels$Sums;", true)
  | 4 => ("StateChannels$State", "outs", "LStateChannels$Sums;", true)
  | 5 => ("StateChannels$State", "locks", "[LStateChannels$Lock;", true)
  | 6 => ("StateChannels$State", "game", "LStateChannels$Game;", false)
  | 7 => ("StateChannels$State", "signed", "I", false)
  | _ => ("StateChannels$State", "agreed", "I", false)
def tyX4 : Nat → FieldType := fun k => match k with
  | 0 => .int
  | 1 => .object "StateChannels$Channel"
  | 2 => .int
  | 3 => .object "StateChannels$Sums"
  | 4 => .object "StateChannels$Sums"
  | 5 => .array (.object "StateChannels$Lock")
  | 6 => .object "StateChannels$Game"
  | 7 => .int
  | _ => .int
theorem nmX4 : ∀ a, a < 9 → ∀ b, b < 9 → a ≠ b → (TX4 a).2.1 ≠ (TX4 b).2.1 := by decide +kernel
theorem tyX4_ok : ∀ k, k < 9 → parseFieldDescriptor (TX4 k).2.2.1 = some (tyX4 k) := by decide +kernel
abbrev cX4_init : ByteArray := prog_6_method_1_code
def yX4_init : MethodName := ⟨RX4, "<init>", "(ILStateChannels$Channel;I)V"⟩
abbrev cX4_copyFrom : ByteArray := prog_6_method_2_code
def yX4_copyFrom : MethodName := ⟨RX4, "copyFrom", "(LStateChannels$State;)V"⟩
abbrev cX4_hasMember : ByteArray := prog_6_method_3_code
def yX4_hasMember : MethodName := ⟨RX4, "hasMember", "(I)Z"⟩
abbrev cX4_isFixed : ByteArray := prog_6_method_4_code
def yX4_isFixed : MethodName := ⟨RX4, "isFixed", "()Z"⟩
abbrev cX4_doesCount : ByteArray := prog_6_method_5_code
def yX4_doesCount : MethodName := ⟨RX4, "doesCount", "()Z"⟩
abbrev cX4_whole : ByteArray := prog_6_method_6_code
def yX4_whole : MethodName := ⟨RX4, "whole", "()I"⟩
abbrev cX4_freeOf : ByteArray := prog_6_method_7_code
def yX4_freeOf : MethodName := ⟨RX4, "freeOf", "(I)I"⟩
abbrev cX4_hasOut : ByteArray := prog_6_method_8_code
def yX4_hasOut : MethodName := ⟨RX4, "hasOut", "()Z"⟩
abbrev cX4_lockAt : ByteArray := prog_6_method_9_code
def yX4_lockAt : MethodName := ⟨RX4, "lockAt", "(I)LStateChannels$Lock;"⟩
abbrev cX4_emptyPlace : ByteArray := prog_6_method_10_code
def yX4_emptyPlace : MethodName := ⟨RX4, "emptyPlace", "()I"⟩
abbrev cX4_addLock : ByteArray := prog_6_method_11_code
def yX4_addLock : MethodName := ⟨RX4, "addLock", "(LStateChannels$Lock;)I"⟩
abbrev cX4_removeLock : ByteArray := prog_6_method_12_code
def yX4_removeLock : MethodName := ⟨RX4, "removeLock", "(I)V"⟩
def RX5 : String := "StateChannels$Sums"
def TX5 : u_T := fun k => match k with
  | _ => ("StateChannels$Sums", "sums", "[I", true)
def tyX5 : Nat → FieldType := fun k => match k with
  | _ => .array .int
theorem nmX5 : ∀ a, a < 1 → ∀ b, b < 1 → a ≠ b → (TX5 a).2.1 ≠ (TX5 b).2.1 := by decide +kernel
theorem tyX5_ok : ∀ k, k < 1 → parseFieldDescriptor (TX5 k).2.2.1 = some (tyX5 k) := by decide +kernel
abbrev cX5_init : ByteArray := prog_7_method_1_code
def yX5_init : MethodName := ⟨RX5, "<init>", "()V"⟩
abbrev cX5_get : ByteArray := prog_7_method_2_code
def yX5_get : MethodName := ⟨RX5, "get", "(I)I"⟩
abbrev cX5_put : ByteArray := prog_7_method_3_code
def yX5_put : MethodName := ⟨RX5, "put", "(II)V"⟩
abbrev cX5_add : ByteArray := prog_7_method_4_code
def yX5_add : MethodName := ⟨RX5, "add", "(II)V"⟩
abbrev cX5_total : ByteArray := prog_7_method_5_code
def yX5_total : MethodName := ⟨RX5, "total", "()I"⟩
def RX6 : String := "StateChannels"
def TX6 : u_T := fun k => match k with
  | 0 => ("StateChannels", "accounts", "LStateChannels$Sums;", true)
  | 1 => ("StateChannels", "channels", "[LStateChannels$Channel;", true)
  | 2 => ("StateChannels", "states", "[LStateChannels$State;", true)
  | 3 => ("StateChannels", "knowers", "[I", true)
  | 4 => ("StateChannels", "route", "[LStateChannels$Hop;", true)
  | 5 => ("StateChannels", "channelCount", "I", false)
  | 6 => ("StateChannels", "stateCount", "I", false)
  | 7 => ("StateChannels", "secretCount", "I", false)
  | 8 => ("StateChannels", "hopCount", "I", false)
  | 9 => ("StateChannels", "now", "I", false)
  | _ => ("StateChannels", "watched", "I", false)
def tyX6 : Nat → FieldType := fun k => match k with
  | 0 => .object "StateChannels$Sums"
  | 1 => .array (.object "StateChannels$Channel")
  | 2 => .array (.object "StateChannels$State")
  | 3 => .array .int
  | 4 => .array (.object "StateChannels$Hop")
  | 5 => .int
  | 6 => .int
  | 7 => .int
  | 8 => .int
  | 9 => .int
  | _ => .int
theorem nmX6 : ∀ a, a < 11 → ∀ b, b < 11 → a ≠ b → (TX6 a).2.1 ≠ (TX6 b).2.1 := by decide +kernel
theorem tyX6_ok : ∀ k, k < 11 → parseFieldDescriptor (TX6 k).2.2.1 = some (tyX6 k) := by decide +kernel
abbrev cX6_init : ByteArray := prog_1_method_1_code
def yX6_init : MethodName := ⟨RX6, "<init>", "()V"⟩
abbrev cX6_channel : ByteArray := prog_1_method_2_code
def yX6_channel : MethodName := ⟨RX6, "channel", "(III)I"⟩
abbrev cX6_state : ByteArray := prog_1_method_3_code
def yX6_state : MethodName := ⟨RX6, "state", "(I)I"⟩
abbrev cX6_hasRoomForStates : ByteArray := prog_1_method_4_code
def yX6_hasRoomForStates : MethodName := ⟨RX6, "hasRoomForStates", "(I)Z"⟩
abbrev cX6_allHave : ByteArray := prog_1_method_5_code
def yX6_allHave : MethodName := ⟨RX6, "allHave", "(II)Z"⟩
abbrev cX6_newState : ByteArray := prog_1_method_6_code
def yX6_newState : MethodName := ⟨RX6, "newState", "(LStateChannels$Channel;)LStateChannels$State;"⟩
abbrev cX6_newStateAsNewest : ByteArray := prog_1_method_7_code
def yX6_newStateAsNewest : MethodName := ⟨RX6, "newStateAsNewest", "(LStateChannels$Channel;)LStateChannels$State;"⟩
abbrev cX6_change : ByteArray := prog_1_method_8_code
def yX6_change : MethodName := ⟨RX6, "change", "(IIII)I"⟩
abbrev cX6_lock : ByteArray := prog_1_method_9_code
def yX6_lock : MethodName := ⟨RX6, "lock", "(IIIIII)I"⟩
abbrev cX6_unlock : ByteArray := prog_1_method_10_code
def yX6_unlock : MethodName := ⟨RX6, "unlock", "(IIZ)I"⟩
abbrev cX6_game : ByteArray := prog_1_method_11_code
def yX6_game : MethodName := ⟨RX6, "game", "(IIIII)I"⟩
abbrev cX6_move : ByteArray := prog_1_method_12_code
def yX6_move : MethodName := ⟨RX6, "move", "(II)I"⟩
abbrev cX6_out : ByteArray := prog_1_method_13_code
def yX6_out : MethodName := ⟨RX6, "out", "(III)I"⟩
abbrev cX6_sign : ByteArray := prog_1_method_14_code
def yX6_sign : MethodName := ⟨RX6, "sign", "(II)I"⟩
abbrev cX6_show : ByteArray := prog_1_method_15_code
def yX6_show : MethodName := ⟨RX6, "show", "(II)I"⟩
abbrev cX6_agree : ByteArray := prog_1_method_16_code
def yX6_agree : MethodName := ⟨RX6, "agree", "(II)I"⟩
abbrev cX6_makeShown : ByteArray := prog_1_method_17_code
def yX6_makeShown : MethodName := ⟨RX6, "makeShown", "(LStateChannels$State;)V"⟩
abbrev cX6_fulfil : ByteArray := prog_1_method_18_code
def yX6_fulfil : MethodName := ⟨RX6, "fulfil", "(LStateChannels$State;)V"⟩
abbrev cX6_payOuts : ByteArray := prog_1_method_19_code
def yX6_payOuts : MethodName := ⟨RX6, "payOuts", "(LStateChannels$State;)V"⟩
abbrev cX6_endBy : ByteArray := prog_1_method_20_code
def yX6_endBy : MethodName := ⟨RX6, "endBy", "(LStateChannels$State;)V"⟩
abbrev cX6_holdOrGiveBack : ByteArray := prog_1_method_21_code
def yX6_holdOrGiveBack : MethodName := ⟨RX6, "holdOrGiveBack", "(LStateChannels$Channel;ILStateChannels$Lock;)V"⟩
abbrev cX6_payFrom : ByteArray := prog_1_method_22_code
def yX6_payFrom : MethodName := ⟨RX6, "payFrom", "(LStateChannels$Channel;II)V"⟩
abbrev cX6_secret : ByteArray := prog_1_method_23_code
def yX6_secret : MethodName := ⟨RX6, "secret", "(I)I"⟩
abbrev cX6_tell : ByteArray := prog_1_method_24_code
def yX6_tell : MethodName := ⟨RX6, "tell", "(III)I"⟩
abbrev cX6_hasRoomForSecret : ByteArray := prog_1_method_25_code
def yX6_hasRoomForSecret : MethodName := ⟨RX6, "hasRoomForSecret", "()Z"⟩
abbrev cX6_newSecret : ByteArray := prog_1_method_26_code
def yX6_newSecret : MethodName := ⟨RX6, "newSecret", "(I)I"⟩
abbrev cX6_isKnownBy : ByteArray := prog_1_method_27_code
def yX6_isKnownBy : MethodName := ⟨RX6, "isKnownBy", "(II)Z"⟩
abbrev cX6_claim : ByteArray := prog_1_method_28_code
def yX6_claim : MethodName := ⟨RX6, "claim", "(III)I"⟩
abbrev cX6_step : ByteArray := prog_1_method_29_code
def yX6_step : MethodName := ⟨RX6, "step", "(III)I"⟩
abbrev cX6_canClaim : ByteArray := prog_1_method_30_code
def yX6_canClaim : MethodName := ⟨RX6, "canClaim", "(LStateChannels$Lock;I)Z"⟩
abbrev cX6_claimHeld : ByteArray := prog_1_method_31_code
def yX6_claimHeld : MethodName := ⟨RX6, "claimHeld", "(LStateChannels$Channel;II)I"⟩
abbrev cX6_payHeldLock : ByteArray := prog_1_method_32_code
def yX6_payHeldLock : MethodName := ⟨RX6, "payHeldLock", "(LStateChannels$Channel;III)V"⟩
abbrev cX6_moveHeld : ByteArray := prog_1_method_33_code
def yX6_moveHeld : MethodName := ⟨RX6, "moveHeld", "(LStateChannels$Channel;LStateChannels$Game;I)V"⟩
abbrev cX6_payHeldStake : ByteArray := prog_1_method_34_code
def yX6_payHeldStake : MethodName := ⟨RX6, "payHeldStake", "(LStateChannels$Channel;II)V"⟩
abbrev cX6_watch : ByteArray := prog_1_method_35_code
def yX6_watch : MethodName := ⟨RX6, "watch", "(IZ)I"⟩
abbrev cX6_height : ByteArray := prog_1_method_36_code
def yX6_height : MethodName := ⟨RX6, "height", "(I)I"⟩
abbrev cX6_oneHeightMore : ByteArray := prog_1_method_37_code
def yX6_oneHeightMore : MethodName := ⟨RX6, "oneHeightMore", "()V"⟩
abbrev cX6_meetHeight : ByteArray := prog_1_method_38_code
def yX6_meetHeight : MethodName := ⟨RX6, "meetHeight", "(LStateChannels$Channel;)V"⟩
abbrev cX6_watchFor : ByteArray := prog_1_method_39_code
def yX6_watchFor : MethodName := ⟨RX6, "watchFor", "(ILStateChannels$Channel;)V"⟩
abbrev cX6_hasUrgentLock : ByteArray := prog_1_method_40_code
def yX6_hasUrgentLock : MethodName := ⟨RX6, "hasUrgentLock", "(LStateChannels$State;I)Z"⟩
abbrev cX6_playFor : ByteArray := prog_1_method_41_code
def yX6_playFor : MethodName := ⟨RX6, "playFor", "(ILStateChannels$Channel;)V"⟩
abbrev cX6_hop : ByteArray := prog_1_method_42_code
def yX6_hop : MethodName := ⟨RX6, "hop", "(III)I"⟩
abbrev cX6_pay : ByteArray := prog_1_method_43_code
def yX6_pay : MethodName := ⟨RX6, "pay", "(II)I"⟩
abbrev cX6_continuesRoute : ByteArray := prog_1_method_44_code
def yX6_continuesRoute : MethodName := ⟨RX6, "continuesRoute", "(LStateChannels$Channel;I)Z"⟩
abbrev cX6_allCarry : ByteArray := prog_1_method_45_code
def yX6_allCarry : MethodName := ⟨RX6, "allCarry", "(II)Z"⟩
abbrev cX6_firstExpiry : ByteArray := prog_1_method_46_code
def yX6_firstExpiry : MethodName := ⟨RX6, "firstExpiry", "(II)I"⟩
abbrev cX6_payHop : ByteArray := prog_1_method_47_code
def yX6_payHop : MethodName := ⟨RX6, "payHop", "(LStateChannels$Hop;III)V"⟩
abbrev cX6_account : ByteArray := prog_1_method_48_code
def yX6_account : MethodName := ⟨RX6, "account", "(I)I"⟩
abbrev cX6_told : ByteArray := prog_1_method_49_code
def yX6_told : MethodName := ⟨RX6, "told", "(II)I"⟩
abbrev cX6_of : ByteArray := prog_1_method_50_code
def yX6_of : MethodName := ⟨RX6, "of", "(II)I"⟩
abbrev cX6_share : ByteArray := prog_1_method_51_code
def yX6_share : MethodName := ⟨RX6, "share", "(III)I"⟩
abbrev cX6_locked : ByteArray := prog_1_method_52_code
def yX6_locked : MethodName := ⟨RX6, "locked", "(III)I"⟩
abbrev cX6_knows : ByteArray := prog_1_method_53_code
def yX6_knows : MethodName := ⟨RX6, "knows", "(I)I"⟩
abbrev cX6_count : ByteArray := prog_1_method_54_code
def yX6_count : MethodName := ⟨RX6, "count", "(I)I"⟩
abbrev cX6_allThereIs : ByteArray := prog_1_method_55_code
def yX6_allThereIs : MethodName := ⟨RX6, "allThereIs", "()I"⟩
abbrev cX6_channelAt : ByteArray := prog_1_method_56_code
def yX6_channelAt : MethodName := ⟨RX6, "channelAt", "(I)LStateChannels$Channel;"⟩
abbrev cX6_stateAt : ByteArray := prog_1_method_57_code
def yX6_stateAt : MethodName := ⟨RX6, "stateAt", "(I)LStateChannels$State;"⟩
abbrev cX6_hopAt : ByteArray := prog_1_method_58_code
def yX6_hopAt : MethodName := ⟨RX6, "hopAt", "(I)LStateChannels$Hop;"⟩
abbrev cX6_isSecret : ByteArray := prog_1_method_59_code
def yX6_isSecret : MethodName := ⟨RX6, "isSecret", "(I)Z"⟩
abbrev cX6_numberOf : ByteArray := prog_1_method_60_code
def yX6_numberOf : MethodName := ⟨RX6, "numberOf", "(LStateChannels$State;)I"⟩
abbrev cX6_isParty : ByteArray := prog_1_method_61_code
def yX6_isParty : MethodName := ⟨RX6, "isParty", "(I)Z"⟩
abbrev cX6_isPlace : ByteArray := prog_1_method_62_code
def yX6_isPlace : MethodName := ⟨RX6, "isPlace", "(I)Z"⟩
abbrev cX6_isIn : ByteArray := prog_1_method_63_code
def yX6_isIn : MethodName := ⟨RX6, "isIn", "(II)Z"⟩
abbrev cX6_isWithin : ByteArray := prog_1_method_64_code
def yX6_isWithin : MethodName := ⟨RX6, "isWithin", "(III)Z"⟩
def RX7 : String := "StateChannelsModel"
def TX7 : u_T := fun k => match k with
  | 0 => ("StateChannelsModel", "account", "[I", true)
  | 1 => ("StateChannelsModel", "watched", "I", false)
  | 2 => ("StateChannelsModel", "height", "I", false)
  | 3 => ("StateChannelsModel", "secrets", "I", false)
  | 4 => ("StateChannelsModel", "known", "[I", true)
  | 5 => ("StateChannelsModel", "channels", "I", false)
  | 6 => ("StateChannelsModel", "members", "[I", true)
  | 7 => ("StateChannelsModel", "delay", "[I", true)
  | 8 => ("StateChannelsModel", "sum", "[I", true)
  | 9 => ("StateChannelsModel", "phase", "[I", true)
  | 10 => ("StateChannelsModel", "by", "[I", true)
  | 11 => ("StateChannelsModel", "until", "[I", true)
  | 12 => ("StateChannelsModel", "heldPlaces", "[I", true)
  | 13 => ("StateChannelsModel", "heldStake", "[I", true)
  | 14 => ("StateChannelsModel", "heldHeap", "[I", true)
  | 15 => ("StateChannelsModel", "heldTurn", "[I", true)
  | 16 => ("StateChannelsModel", "heldOther", "[I", true)
  | 17 => ("StateChannelsModel", "deadline", "[I", true)
  | 18 => ("StateChannelsModel", "states", "I", false)
  | 19 => ("StateChannelsModel", "m", "[I", true)
  | 20 => ("StateChannelsModel", "hops", "I", false)
  | 21 => ("StateChannelsModel", "hopChannel", "[I", true)
  | 22 => ("StateChannelsModel", "hopFrom", "[I", true)
  | _ => ("StateChannelsModel", "hopTo", "[I", true)
def tyX7 : Nat → FieldType := fun k => match k with
  | 0 => .array .int
  | 1 => .int
  | 2 => .int
  | 3 => .int
  | 4 => .array .int
  | 5 => .int
  | 6 => .array .int
  | 7 => .array .int
  | 8 => .array .int
  | 9 => .array .int
  | 10 => .array .int
  | 11 => .array .int
  | 12 => .array .int
  | 13 => .array .int
  | 14 => .array .int
  | 15 => .array .int
  | 16 => .array .int
  | 17 => .array .int
  | 18 => .int
  | 19 => .array .int
  | 20 => .int
  | 21 => .array .int
  | 22 => .array .int
  | _ => .array .int
theorem nmX7 : ∀ a, a < 24 → ∀ b, b < 24 → a ≠ b → (TX7 a).2.1 ≠ (TX7 b).2.1 := by decide +kernel
theorem tyX7_ok : ∀ k, k < 24 → parseFieldDescriptor (TX7 k).2.2.1 = some (tyX7 k) := by decide +kernel
abbrev cX7_init : ByteArray := prog_9_method_1_code
def yX7_init : MethodName := ⟨RX7, "<init>", "()V"⟩
abbrev cX7_isIn : ByteArray := prog_9_method_3_code
def yX7_isIn : MethodName := ⟨RX7, "isIn", "(III)Z"⟩
abbrev cX7_isParty : ByteArray := prog_9_method_4_code
def yX7_isParty : MethodName := ⟨RX7, "isParty", "(I)Z"⟩
abbrev cX7_has : ByteArray := prog_9_method_5_code
def yX7_has : MethodName := ⟨RX7, "has", "(II)Z"⟩
abbrev cX7_size : ByteArray := prog_9_method_6_code
def yX7_size : MethodName := ⟨RX7, "size", "(I)I"⟩
abbrev cX7_isChannel : ByteArray := prog_9_method_7_code
def yX7_isChannel : MethodName := ⟨RX7, "isChannel", "(I)Z"⟩
abbrev cX7_isState : ByteArray := prog_9_method_8_code
def yX7_isState : MethodName := ⟨RX7, "isState", "(I)Z"⟩
abbrev cX7_isMember : ByteArray := prog_9_method_9_code
def yX7_isMember : MethodName := ⟨RX7, "isMember", "(II)Z"⟩
abbrev cX7_channelOf : ByteArray := prog_9_method_10_code
def yX7_channelOf : MethodName := ⟨RX7, "channelOf", "(I)I"⟩
abbrev cX7_isOf : ByteArray := prog_9_method_11_code
def yX7_isOf : MethodName := ⟨RX7, "isOf", "(II)Z"⟩
abbrev cX7_lockAt : ByteArray := prog_9_method_12_code
def yX7_lockAt : MethodName := ⟨RX7, "lockAt", "(II)I"⟩
abbrev cX7_whole : ByteArray := prog_9_method_13_code
def yX7_whole : MethodName := ⟨RX7, "whole", "(I)I"⟩
abbrev cX7_counts : ByteArray := prog_9_method_14_code
def yX7_counts : MethodName := ⟨RX7, "counts", "(I)Z"⟩
abbrev cX7_newest : ByteArray := prog_9_method_15_code
def yX7_newest : MethodName := ⟨RX7, "newest", "(I)I"⟩
abbrev cX7_free : ByteArray := prog_9_method_16_code
def yX7_free : MethodName := ⟨RX7, "free", "(II)I"⟩
abbrev cX7_isFixed : ByteArray := prog_9_method_17_code
def yX7_isFixed : MethodName := ⟨RX7, "isFixed", "(I)Z"⟩
abbrev cX7_emptyPlace : ByteArray := prog_9_method_18_code
def yX7_emptyPlace : MethodName := ⟨RX7, "emptyPlace", "(I)I"⟩
abbrev cX7_shows : ByteArray := prog_9_method_19_code
def yX7_shows : MethodName := ⟨RX7, "shows", "(I)V"⟩
abbrev cX7_end : ByteArray := prog_9_method_20_code
def yX7_end : MethodName := ⟨RX7, "end", "(II)V"⟩
abbrev cX7_pays : ByteArray := prog_9_method_21_code
def yX7_pays : MethodName := ⟨RX7, "pays", "(III)V"⟩
abbrev cX7_canClaim : ByteArray := prog_9_method_22_code
def yX7_canClaim : MethodName := ⟨RX7, "canClaim", "(III)Z"⟩
abbrev cX7_claims : ByteArray := prog_9_method_23_code
def yX7_claims : MethodName := ⟨RX7, "claims", "(III)I"⟩
abbrev cX7_wins : ByteArray := prog_9_method_24_code
def yX7_wins : MethodName := ⟨RX7, "wins", "(II)V"⟩
abbrev cX7_steps : ByteArray := prog_9_method_25_code
def yX7_steps : MethodName := ⟨RX7, "steps", "(II)I"⟩
abbrev cX7_dues : ByteArray := prog_9_method_26_code
def yX7_dues : MethodName := ⟨RX7, "dues", "(I)V"⟩
abbrev cX7_watches : ByteArray := prog_9_method_27_code
def yX7_watches : MethodName := ⟨RX7, "watches", "(II)V"⟩
abbrev cX7_oneMore : ByteArray := prog_9_method_28_code
def yX7_oneMore : MethodName := ⟨RX7, "oneMore", "()V"⟩
abbrev cX7_channel : ByteArray := prog_9_method_29_code
def yX7_channel : MethodName := ⟨RX7, "channel", "(III)I"⟩
abbrev cX7_blank : ByteArray := prog_9_method_30_code
def yX7_blank : MethodName := ⟨RX7, "blank", "(I)I"⟩
abbrev cX7_copied : ByteArray := prog_9_method_31_code
def yX7_copied : MethodName := ⟨RX7, "copied", "(I)I"⟩
abbrev cX7_state : ByteArray := prog_9_method_32_code
def yX7_state : MethodName := ⟨RX7, "state", "(I)I"⟩
abbrev cX7_change : ByteArray := prog_9_method_33_code
def yX7_change : MethodName := ⟨RX7, "change", "(IIII)I"⟩
abbrev cX7_lock : ByteArray := prog_9_method_34_code
def yX7_lock : MethodName := ⟨RX7, "lock", "(IIIIII)I"⟩
abbrev cX7_locks : ByteArray := prog_9_method_35_code
def yX7_locks : MethodName := ⟨RX7, "locks", "(IIIIII)I"⟩
abbrev cX7_isLock : ByteArray := prog_9_method_36_code
def yX7_isLock : MethodName := ⟨RX7, "isLock", "(II)Z"⟩
abbrev cX7_unlock : ByteArray := prog_9_method_37_code
def yX7_unlock : MethodName := ⟨RX7, "unlock", "(IIZ)I"⟩
abbrev cX7_game : ByteArray := prog_9_method_38_code
def yX7_game : MethodName := ⟨RX7, "game", "(IIIII)I"⟩
abbrev cX7_move : ByteArray := prog_9_method_39_code
def yX7_move : MethodName := ⟨RX7, "move", "(II)I"⟩
abbrev cX7_out : ByteArray := prog_9_method_40_code
def yX7_out : MethodName := ⟨RX7, "out", "(III)I"⟩
abbrev cX7_sign : ByteArray := prog_9_method_41_code
def yX7_sign : MethodName := ⟨RX7, "sign", "(II)I"⟩
abbrev cX7_show : ByteArray := prog_9_method_42_code
def yX7_show : MethodName := ⟨RX7, "show", "(II)I"⟩
abbrev cX7_agree : ByteArray := prog_9_method_43_code
def yX7_agree : MethodName := ⟨RX7, "agree", "(II)I"⟩
abbrev cX7_takesOut : ByteArray := prog_9_method_44_code
def yX7_takesOut : MethodName := ⟨RX7, "takesOut", "(II)V"⟩
abbrev cX7_secret : ByteArray := prog_9_method_45_code
def yX7_secret : MethodName := ⟨RX7, "secret", "(I)I"⟩
abbrev cX7_tell : ByteArray := prog_9_method_46_code
def yX7_tell : MethodName := ⟨RX7, "tell", "(III)I"⟩
abbrev cX7_claim : ByteArray := prog_9_method_47_code
def yX7_claim : MethodName := ⟨RX7, "claim", "(III)I"⟩
abbrev cX7_step : ByteArray := prog_9_method_48_code
def yX7_step : MethodName := ⟨RX7, "step", "(III)I"⟩
abbrev cX7_watch : ByteArray := prog_9_method_49_code
def yX7_watch : MethodName := ⟨RX7, "watch", "(IZ)I"⟩
abbrev cX7_height : ByteArray := prog_9_method_50_code
def yX7_height : MethodName := ⟨RX7, "height", "(I)I"⟩
abbrev cX7_hop : ByteArray := prog_9_method_51_code
def yX7_hop : MethodName := ⟨RX7, "hop", "(III)I"⟩
abbrev cX7_pay : ByteArray := prog_9_method_52_code
def yX7_pay : MethodName := ⟨RX7, "pay", "(II)I"⟩
abbrev cX7_account : ByteArray := prog_9_method_53_code
def yX7_account : MethodName := ⟨RX7, "account", "(I)I"⟩
abbrev cX7_told : ByteArray := prog_9_method_54_code
def yX7_told : MethodName := ⟨RX7, "told", "(II)I"⟩
abbrev cX7_of : ByteArray := prog_9_method_55_code
def yX7_of : MethodName := ⟨RX7, "of", "(II)I"⟩
abbrev cX7_share : ByteArray := prog_9_method_56_code
def yX7_share : MethodName := ⟨RX7, "share", "(III)I"⟩
abbrev cX7_locked : ByteArray := prog_9_method_57_code
def yX7_locked : MethodName := ⟨RX7, "locked", "(III)I"⟩
abbrev cX7_knows : ByteArray := prog_9_method_58_code
def yX7_knows : MethodName := ⟨RX7, "knows", "(I)I"⟩
abbrev cX7_count : ByteArray := prog_9_method_59_code
def yX7_count : MethodName := ⟨RX7, "count", "(I)I"⟩
abbrev cX7_all : ByteArray := prog_9_method_60_code
def yX7_all : MethodName := ⟨RX7, "all", "()I"⟩
def RJ6 : String := "java/lang/Integer"
abbrev cJ6_bitCount_0f7a4 : ByteArray := prog_10_method_49_code
def yJ6_bitCount_0f7a4 : MethodName := ⟨RJ6, "bitCount", "(I)I"⟩
def RL : String := "StateChannelsLaw"
abbrev cL_law : ByteArray := code
def yL_law : MethodName := ⟨RL, "law", "([I)Z"⟩
abbrev vwCl : List vw_C := [(RX0, TX0, 12), (RX1, TX1, 4), (RX2, TX2, 3), (RX3, TX3, 5), (RX4, TX4, 9), (RX5, TX5, 1), (RX6, TX6, 11), (RX7, TX7, 24)]
end
section
/-! A judgement over abstract heaps: what a method's code does from a place on, told without the machine. -/
def lw_good : List Cond := lw_tbl.filter goodWord
theorem goodIn_g {ws : List Cond} (h : ∀ w ∈ ws, w ∈ lw_good) {a : Cond} : GoodIn (a :: lw_good) ws := fun w hw => ⟨List.mem_cons_of_mem _ (h w hw), good_of_word (List.mem_filter.mp (h w hw)).2⟩
theorem goodIn_gg {ws : List Cond} (h : ∀ w ∈ ws, w ∈ lw_good) : GoodIn lw_good ws := fun w hw => ⟨h w hw, good_of_word (List.mem_filter.mp (h w hw)).2⟩
/-- cells: an object (its class's place in vwCl, its fields), an array of ints, an array of references (its kind) -/
abbrev AC : Type := (Nat × List Value) ⊕ ((Nat × (Nat → Int32)) ⊕ (Nat × Nat × (Nat → Option Nat)))
abbrev Hp : Type := Nat → Option AC
def ob (ci : Nat) (fs : List Value) : AC := .inl (ci, fs)
def ia (n : Nat) (f : Nat → Int32) : AC := .inr (.inl (n, f))
def ra (t n : Nat) (f : Nat → Option Nat) : AC := .inr (.inr (t, n, f))
abbrev XG : Type := va_G × (Nat → ClassId) × Nat
def acE (X : XG) (c : AC) : va_E := match c with
  | .inl o => .inr o
  | .inr (.inl q) => .inl (X.2.1 0, q.1, .inl q.2)
  | .inr (.inr q) => .inl (X.2.1 q.1, q.2.1, .inr (.inr (.inr (.inr q.2.2))))
def hup (h : Hp) (a : Nat) (c : AC) : Hp := fun q => if q = a then some c else h q
theorem hup_s (h : Hp) (a : Nat) (c : AC) : hup h a c a = some c := if_pos rfl
theorem hup_n (h : Hp) {a b : Nat} (c : AC) (e : b ≠ a) : hup h a c b = h b := if_neg e
def HR (X : XG) (h : Hp) (H : Heap) : Prop := X.2.2 ≤ H.size ∧ ∀ a c, h a = some c → X.2.2 ≤ a ∧ va_at X.1 vwCl (a, acE X c) H
theorem HR.put {X : XG} {h : Hp} {H H1 : Heap} {a : Nat} {c : AC} (hR : HR X h H) (ha : X.2.2 ≤ a) (he : va_at X.1 vwCl (a, acE X c) H1) (z : H1.size = H.size) (oq : ∀ q, q ≠ a → H1[q]? = H[q]?) : HR X (hup h a c) H1 := by
  refine ⟨by rw [z]; exact hR.1, fun b d hb => ?_⟩
  by_cases e : b = a
  · subst e
    rw [hup_s] at hb
    cases hb
    exact ⟨ha, he⟩
  · rw [hup_n h c e] at hb
    exact ⟨(hR.2 b d hb).1, (hR.2 b d hb).2.kept (oq b e)⟩
theorem HR.new {X : XG} {h : Hp} {H H1 : Heap} {c : AC} (hR : HR X h H) (he : va_at X.1 vwCl (H.size, acE X c) H1) (z : H1.size = H.size + 1) (oq : ∀ q, q < H.size → H1[q]? = H[q]?) : h H.size = none ∧ HR X (hup h H.size c) H1 := by
  have hn : h H.size = none := by
    cases e : h H.size with
    | none => rfl
    | some d => exact absurd (hR.2 _ d e).2.lt (Nat.lt_irrefl _)
  refine ⟨hn, by rw [z]; exact Nat.le_succ_of_le hR.1, fun b d hb => ?_⟩
  by_cases e : b = H.size
  · subst e
    rw [hup_s] at hb
    cases hb
    exact ⟨hR.1, he⟩
  · rw [hup_n h c e] at hb
    exact ⟨(hR.2 b d hb).1, (hR.2 b d hb).2.kept (oq b (hR.2 b d hb).2.lt)⟩
abbrev xTys (X : XG) : List (ClassId × FieldType) := [(X.2.1 0, .int), (X.2.1 1, .object RX0), (X.2.1 2, .object RX2), (X.2.1 3, .object RX3), (X.2.1 4, .object RX4)]
/-- what stays of the tables from call to call -/
def GX (X : XG) (U : State) : Prop := va_K X.1 vwCl (xTys X) U ∧ (∀ (a : String) (i : Nat) (x : MethodName) (o : String), Cond.methodLinkNest a i x o ∈ lw_tbl → va_Nw (.methodLinkNest a i x o) U) ∧ va_AO RX0 U ∧ va_AO RX2 U ∧ va_AO RX3 U ∧ va_AO RX4 U
theorem GX.warm {X : XG} {s U : State} (hW : s.WarmedH U.vm) (h : GX X s) : GX X U :=
  ⟨va_K.moved hW.alike h.1, fun a i x o hm => (h.2.1 a i x o hm).warmM hW, h.2.2.1.moved hW.alike, h.2.2.2.1.moved hW.alike, h.2.2.2.2.1.moved hW.alike, h.2.2.2.2.2.moved hW.alike⟩
theorem GX.vm {X : XG} {s U : State} (hW : s.vm = U.vm) (h : GX X s) : GX X U :=
  ⟨va_K.moved (by rw [hW]; exact Vm.Alike.refl _) h.1, fun a i x o hm => (h.2.1 a i x o hm).same rfl hW, h.2.2.1.moved (by rw [hW]; exact Vm.Alike.refl _), h.2.2.2.1.moved (by rw [hW]; exact Vm.Alike.refl _), h.2.2.2.2.1.moved (by rw [hW]; exact Vm.Alike.refl _), h.2.2.2.2.2.moved (by rw [hW]; exact Vm.Alike.refl _)⟩
/-- locals: a list, none where nothing is known -/
def LH (ls : Array Slot) (nL : Nat) (L : List (Option Value)) : Prop := ls.size = nL ∧ lv_wf ls ∧ ∀ (i : Nat) (v : Value), L[i]? = some (some v) → v.category = 1 ∧ ls[i]? = some (.val v)
def lpairs (L : List (Option Value)) : List (Nat × Value) := L.zipIdx.filterMap (fun q => q.1.map (fun v => (q.2, v)))
theorem lpairs_mem {L : List (Option Value)} {i : Nat} {v : Value} : (i, v) ∈ lpairs L ↔ L[i]? = some (some v) := by
  unfold lpairs
  rw [List.mem_filterMap]
  constructor
  · rintro ⟨⟨o, j⟩, h1, h2⟩
    cases o with
    | none => cases h2
    | some w =>
      simp only [Option.map_some, Option.some.injEq, Prod.mk.injEq] at h2
      obtain ⟨rfl, rfl⟩ := h2
      exact List.mem_zipIdx_iff_getElem?.mp h1
  · intro h
    exact ⟨(some v, i), List.mem_zipIdx_iff_getElem?.mpr h, rfl⟩
theorem LH.has {ls : Array Slot} {nL : Nat} {L : List (Option Value)} (h : LH ls nL L) : lv_has ls nL (lpairs L) :=
  ⟨h.1, h.2.1, fun q hq => (h.2.2 q.1 q.2 (lpairs_mem.mp hq)).2⟩
theorem LH.at {ls : Array Slot} {nL : Nat} {L : List (Option Value)} (h : LH ls nL L) {i : Nat} {v : Value} (hi : L[i]? = some (some v)) : ls[i]? = some (.val v) := (h.2.2 i v hi).2
theorem LH.st {ls ls' : Array Slot} {nL i : Nat} {v : Value} {L : List (Option Value)} (h : LH ls nL L) (hv : v.category = 1) (h' : lv_has ls' nL ((i, v) :: (lpairs L).filter (fun q => !(q.1 == i) && !(q.1 + 1 == i && q.2.category == 2)))) : LH ls' nL (L.set i (some v)) := by
  refine ⟨h'.1, h'.2.1, fun j w hj => ?_⟩
  by_cases e : j = i
  · subst e
    by_cases hl : j < L.length
    · rw [List.getElem?_set_self hl] at hj
      cases hj
      exact ⟨hv, h'.2.2 _ List.mem_cons_self⟩
    · rw [List.getElem?_eq_none (by simp; omega)] at hj
      cases hj
  · rw [List.getElem?_set_ne (Ne.symm e)] at hj
    have hc := (h.2.2 j w hj).1
    refine ⟨hc, h'.2.2 (j, w) (List.mem_cons_of_mem _ (List.mem_filter.mpr ⟨lpairs_mem.mpr hj, ?_⟩))⟩
    simp [e, hc]
theorem LH.sub {ls : Array Slot} {nL : Nat} {L L' : List (Option Value)} (h : LH ls nL L) (hs : ∀ (i : Nat) (v : Value), L'[i]? = some (some v) → L[i]? = some (some v)) : LH ls nL L' := ⟨h.1, h.2.1, fun i v hi => h.2.2 i v (hs i v hi)⟩
/-- a script of ints that the law reads -/
def SX (X : XG) (scr : Option (Nat × Nat × (Nat → Int32))) (s : State) : Prop := ∀ b L xs, scr = some (b, L, xs) → va_X b L xs s s.heap ∧ b < s.heap.size ∧ b < X.2.2
/-- how a method may return a value -/
def RI (cc : ByteArray) (rt : Option FieldType) (pc : Nat) (v : Option Value) : Prop :=
  (v = none ∧ rt = none ∧ decode cc pc = .ok (.return_, 1)) ∨ (∃ x ty, v = some (.int x) ∧ rt = some ty ∧ narrow ty (.int x) = .int x ∧ decode cc pc = .ok (.ireturn, 1)) ∨
  (∃ r ty, v = some (va_rf r) ∧ rt = some ty ∧ ((∃ n, ty = .object n) ∨ ∃ t, ty = .array t) ∧ decode cc pc = .ok (.areturn, 1))
abbrev Post : Type := Option Value → Hp → Prop
abbrev Scr : Type := Option (Nat × Nat × (Nat → Int32))
/-- the machine around a method's walk -/
def MX (X : XG) (l : Launch) (cc : ByteArray) (own nm : String) (rt : Option FieldType) (nL fr : Nat) (scr : Scr) (Q : Post) (p : Program) (e : Env) (R : Room) (s : State) (m : MethodId) (args : Array Value) (below : List Frame) (meth : Method) (c : Code) (mc ms : Nat) (Z : State → Prop) : Prop :=
  p.tables.exec = Jvm.exec ∧ c.code = cc ∧ c.maxLocals = nL ∧ s.vm.findClass own = some m.cls ∧ (∀ w ∈ lw_good, w.before args s = true) ∧ meth.name = nm ∧ GX X s ∧ fr ≤ R.frames ∧ 41 * fr ≤ R.locals ∧ X.2.2 ≤ s.heap.size ∧ mc ≤ R.cells ∧ ms ≤ R.slots ∧ SX X scr s ∧
  ∀ (H : Heap) (locs : List Loc) (cells slots pc : Nat) (ls : Array Slot) (v : Option Value) (h : Hp), Q v h → RI cc rt pc v → HR X h H → va_S (fun q => X.2.2 ≤ q) s.heap H locs → cells ≤ mc → slots ≤ ms → W p l e R s m args below meth c H locs cells slots Z (F0 m pc ls v.toList)
/-- from pc, with these locals, this stack and this heap, the method comes to its end with Q; it makes at most k cells of n slots more -/
def AW (X : XG) (l : Launch) (cc : ByteArray) (own nm : String) (rt : Option FieldType) (nL fr : Nat) (scr : Scr) (Q : Post) (k n pc : Nat) (L : List (Option Value)) (st : List Value) (h : Hp) : Prop :=
  ∀ (p : Program) (e : Env) (R : Room) (s : State) (m : MethodId) (args : Array Value) (below : List Frame) (meth : Method) (c : Code) (mc ms : Nat) (Z : State → Prop) (H : Heap) (locs : List Loc) (cells slots : Nat) (ls : Array Slot),
    MX X l cc own nm rt nL fr scr Q p e R s m args below meth c mc ms Z → cells + k ≤ mc → slots + n ≤ ms → HR X h H → LH ls nL L → va_S (fun q => X.2.2 ≤ q) s.heap H locs →
    W p l e R s m args below meth c H locs cells slots Z (F0 m pc ls st)
/-- a method's contract at these arguments and this heap -/
def AM (X : XG) (l : Launch) (y : MethodName) (cc : ByteArray) (nL : Nat) (rt : Option FieldType) (d mc ms : Nat) (as : List Value) (h : Hp) (Q : Post) : Prop :=
  Met l y (.code y cc nL rt :: lw_good) { frames := d, cells := mc, slots := ms, locals := 41 * d } (va_Pc as (fun U => HR X h U.heap ∧ GX X U)) (fun _ st o t => (∃ v h', o = .returned v ∧ Q v h' ∧ HR X h' t.heap) ∧ va_F (fun q => X.2.2 ≤ q) st t) mc ms (fun q => X.2.2 ≤ q)
def lent (nL : Nat) (as : List Value) : List (Option Value) := as.map some ++ List.replicate (nL - as.length) none
theorem lg_sl_one {as : List Value} (h : ∀ v ∈ as, v.category = 1) : lg_sl as = as.map Slot.val := by
  unfold lg_sl
  induction as with
  | nil => rfl
  | cons a l ih =>
    rw [List.flatMap_cons, ih (fun v hv => h v (List.mem_cons_of_mem _ hv)), if_neg (by rw [h a List.mem_cons_self]; decide)]
    rfl
theorem AM.of {X : XG} {l : Launch} {y : MethodName} {cc : ByteArray} {nL : Nat} {rt : Option FieldType} {d mc ms : Nat} {as : List Value} {h : Hp} {Q : Post} (hy : plainName y.cls = true) (hc : ∀ v ∈ as, v.category = 1) (hl : as.length ≤ nL)
    (k : AW X l cc y.cls y.name rt nL d none Q mc ms 0 (lent nL as) [] h) : AM X l y cc nL rt d mc ms as h Q := by
  refine Met.ofW (cc := cc) (maxL := nL) (ret := rt) hy rfl ?_
  intro p e s m args below meth c s₁ B hml hv
  obtain ⟨rfl, hH, hG⟩ := hv
  have hx := B.exec
  have hb := B.bytes
  have hr := B.returns
  have hts := atoms_spec (ws := .code y cc nL rt :: lw_good) B.pre
  have hown : s.vm.findClass y.cls = some m.cls := findClass_of_methodNamed B.named
  have hlocks := B.notSynchronized
  have hin : meth.name = y.name := (name_of_methodNamed B.named B.method).1
  rw [lg_entry_eq]
  have hsl := lg_sl_one hc
  have hle : (lg_sl as).length ≤ nL := by rw [hsl, List.length_map]; exact hl
  have hL := lv_entry as (n := nL) hle
  refine k p e _ s m _ below meth c mc ms _ s.heap [] 0 0 _ ⟨hx, hb, hml, hown, fun w hw => hts w (List.mem_cons_of_mem _ hw), hin, hG, Nat.le_refl _, Nat.le_refl _, hH.1, Nat.le_refl _, Nat.le_refl _, (fun b L xs q => by cases q), ?_⟩ (by omega) (by omega) hH ⟨hL.1, hL.2.1, ?_⟩ va_S.rf
  · intro H locs cells slots pc ls v h2 hQ hRI hH2 hS hk hn
    refine W.widen hk hn ?_
    rcases hRI with ⟨rfl, rfl, hd⟩ | ⟨x, ty, rfl, rfl, hnar, hd⟩ | ⟨r, ty, rfl, rfl, hty, hd⟩
    · exact W.vret hx hb hr (fun t ht hW => ⟨⟨none, h2, rfl, hQ, by rw [ht]; exact hH2⟩, hS.F ht⟩) hS.2.2 hd hlocks
    · exact W.zret hx hb hr hnar (fun t ht hW => ⟨⟨_, h2, rfl, hQ, by rw [ht]; exact hH2⟩, hS.F ht⟩) hS.2.2 hd hlocks
    · exact W.aret hx hb hr hty (by cases r with | none => exact Or.inl rfl | some a => exact Or.inr ⟨a, rfl⟩) (fun t ht hW => ⟨⟨_, h2, rfl, hQ, by rw [ht]; exact hH2⟩, hS.F ht⟩) hS.2.2 hd hlocks
  · intro i v hi
    unfold lent at hi
    by_cases hlt : i < as.length
    · rw [List.getElem?_append_left (by simpa using hlt), List.getElem?_map] at hi
      obtain ⟨w, hw⟩ : ∃ w, as[i]? = some w := ⟨as[i], List.getElem?_eq_getElem hlt⟩
      rw [hw] at hi
      simp only [Option.map_some, Option.some.injEq] at hi
      subst hi
      refine ⟨hc _ (List.mem_of_getElem? hw), ?_⟩
      rw [hsl, List.getElem?_toArray, List.getElem?_append_left (by simpa using hlt), List.getElem?_map, hw]
      rfl
    · rw [List.getElem?_append_right (by simp; omega), List.getElem?_replicate] at hi
      split at hi <;> cases hi
end
section
section AWR
variable {X : XG} {l : Launch} {cc : ByteArray} {own nm : String} {rt : Option FieldType} {nL fr : Nat} {scr : Scr} {Q : Post} {k n pc pcn : Nat} {L : List (Option Value)} {st : List Value} {h : Hp}
def bI (b : Bool) : Int32 := if b then 1 else 0
abbrev qi (P : Int32 → Hp → Prop) : Post := fun v h => ∃ r, v = some (.int r) ∧ P r h
abbrev qv (P : Hp → Prop) : Post := fun v h => v = none ∧ P h
abbrev qr (P : Option Nat → Hp → Prop) : Post := fun v h => ∃ r, v = some (va_rf r) ∧ P r h
theorem AW.le {k' n' : Nat} (hk : k' ≤ k) (hn : n' ≤ n) (kk : AW X l cc own nm rt nL fr scr Q k' n' pc L st h) : AW X l cc own nm rt nL fr scr Q k n pc L st h :=
  fun p e R s m args below meth c mc ms Z H locs cells slots ls M h1 h2 hH hL hS => kk p e R s m args below meth c mc ms Z H locs cells slots ls M (by omega) (by omega) hH hL hS
theorem AW.loc {L' : List (Option Value)} (hs : ∀ (i : Nat) (v : Value), L'[i]? = some (some v) → L[i]? = some (some v)) (kk : AW X l cc own nm rt nL fr scr Q k n pc L' st h) : AW X l cc own nm rt nL fr scr Q k n pc L st h :=
  fun p e R s m args below meth c mc ms Z H locs cells slots ls M h1 h2 hH hL hS => kk p e R s m args below meth c mc ms Z H locs cells slots ls M h1 h2 hH (hL.sub hs) hS
theorem AW.post {Q' : Post} (hq : ∀ v h, Q' v h → Q v h) (kk : AW X l cc own nm rt nL fr scr Q' k n pc L st h) : AW X l cc own nm rt nL fr scr Q k n pc L st h :=
  fun p e R s m args below meth c mc ms Z H locs cells slots ls M h1 h2 hH hL hS => kk p e R s m args below meth c mc ms Z H locs cells slots ls ⟨M.1, M.2.1, M.2.2.1, M.2.2.2.1, M.2.2.2.2.1, M.2.2.2.2.2.1, M.2.2.2.2.2.2.1, M.2.2.2.2.2.2.2.1, M.2.2.2.2.2.2.2.2.1, M.2.2.2.2.2.2.2.2.2.1, M.2.2.2.2.2.2.2.2.2.2.1, M.2.2.2.2.2.2.2.2.2.2.2.1, M.2.2.2.2.2.2.2.2.2.2.2.2.1, fun H locs cells slots pc ls v h g => M.2.2.2.2.2.2.2.2.2.2.2.2.2 H locs cells slots pc ls v h (hq v h g)⟩ h1 h2 hH hL hS
theorem aw_iconst {i : Int} {v : Int32} (hd : decode cc pc = .ok (.iconst i, 1)) (hp : pcn = pc + 1) (hv : Int32.ofInt i = v)
    (kk : AW X l cc own nm rt nL fr scr Q k n pcn L (.int v :: st) h) : AW X l cc own nm rt nL fr scr Q k n pc L st h := by
  subst hp
  exact fun p e R s m args below meth c mc ms Z H locs cells slots ls M h1 h2 hH hL hS => lv_iconst M.1 M.2.1 hd hv (kk p e R s m args below meth c mc ms Z H locs cells slots ls M h1 h2 hH hL hS)
theorem aw_bipush {i : Int} {v : Int32} (hd : decode cc pc = .ok (.bipush i, 2)) (hp : pcn = pc + 2) (hv : (Int8.ofInt i).toInt32 = v)
    (kk : AW X l cc own nm rt nL fr scr Q k n pcn L (.int v :: st) h) : AW X l cc own nm rt nL fr scr Q k n pc L st h := by
  subst hp
  exact fun p e R s m args below meth c mc ms Z H locs cells slots ls M h1 h2 hH hL hS => lv_bipush M.1 M.2.1 hd hv (kk p e R s m args below meth c mc ms Z H locs cells slots ls M h1 h2 hH hL hS)
theorem aw_sipush {i : Int} {v : Int32} (hd : decode cc pc = .ok (.sipush i, 3)) (hp : pcn = pc + 3) (hv : (Int16.ofInt i).toInt32 = v)
    (kk : AW X l cc own nm rt nL fr scr Q k n pcn L (.int v :: st) h) : AW X l cc own nm rt nL fr scr Q k n pc L st h := by
  subst hp
  exact fun p e R s m args below meth c mc ms Z H locs cells slots ls M h1 h2 hH hL hS => lv_sipush M.1 M.2.1 hd hv (kk p e R s m args below meth c mc ms Z H locs cells slots ls M h1 h2 hH hL hS)
theorem aw_iload_n {i : Fin 4} {x : Int32} (hd : decode cc pc = .ok (.iload_n i, 1)) (hp : pcn = pc + 1) (hi : L[(i : Nat)]? = some (some (.int x)))
    (kk : AW X l cc own nm rt nL fr scr Q k n pcn L (.int x :: st) h) : AW X l cc own nm rt nL fr scr Q k n pc L st h := by
  subst hp
  exact fun p e R s m args below meth c mc ms Z H locs cells slots ls M h1 h2 hH hL hS => lv_iload_n M.1 M.2.1 hd rfl (hL.at hi) (kk p e R s m args below meth c mc ms Z H locs cells slots ls M h1 h2 hH hL hS)
theorem aw_iload {i : Nat} {x : Int32} (hd : decode cc pc = .ok (.iload i, 2)) (hp : pcn = pc + 2) (hi : L[i]? = some (some (.int x)))
    (kk : AW X l cc own nm rt nL fr scr Q k n pcn L (.int x :: st) h) : AW X l cc own nm rt nL fr scr Q k n pc L st h := by
  subst hp
  exact fun p e R s m args below meth c mc ms Z H locs cells slots ls M h1 h2 hH hL hS => lv_iload M.1 M.2.1 hd (hL.at hi) (kk p e R s m args below meth c mc ms Z H locs cells slots ls M h1 h2 hH hL hS)
theorem aw_aload_n {i : Fin 4} {r : Option Nat} {v : Value} (hd : decode cc pc = .ok (.aload_n i, 1)) (hp : pcn = pc + 1) (hi : L[(i : Nat)]? = some (some v)) (hr : v = va_rf r)
    (kk : AW X l cc own nm rt nL fr scr Q k n pcn L (v :: st) h) : AW X l cc own nm rt nL fr scr Q k n pc L st h := by
  subst hp
  subst hr
  cases r with
  | none => exact fun p e R s m args below meth c mc ms Z H locs cells slots ls M h1 h2 hH hL hS => lv_aload_nN M.1 M.2.1 hd rfl (hL.at hi) (kk p e R s m args below meth c mc ms Z H locs cells slots ls M h1 h2 hH hL hS)
  | some a => exact fun p e R s m args below meth c mc ms Z H locs cells slots ls M h1 h2 hH hL hS => lv_aload_n M.1 M.2.1 hd rfl (hL.at hi) (kk p e R s m args below meth c mc ms Z H locs cells slots ls M h1 h2 hH hL hS)
theorem aw_aload {i : Nat} {r : Option Nat} {v : Value} (hd : decode cc pc = .ok (.aload i, 2)) (hp : pcn = pc + 2) (hi : L[i]? = some (some v)) (hr : v = va_rf r)
    (kk : AW X l cc own nm rt nL fr scr Q k n pcn L (v :: st) h) : AW X l cc own nm rt nL fr scr Q k n pc L st h := by
  subst hp
  subst hr
  cases r with
  | none => exact fun p e R s m args below meth c mc ms Z H locs cells slots ls M h1 h2 hH hL hS => lv_aloadN M.1 M.2.1 hd (hL.at hi) (kk p e R s m args below meth c mc ms Z H locs cells slots ls M h1 h2 hH hL hS)
  | some a => exact fun p e R s m args below meth c mc ms Z H locs cells slots ls M h1 h2 hH hL hS => lv_aload M.1 M.2.1 hd (hL.at hi) (kk p e R s m args below meth c mc ms Z H locs cells slots ls M h1 h2 hH hL hS)
theorem aw_istore_n {i : Fin 4} {x : Int32} (hd : decode cc pc = .ok (.istore_n i, 1)) (hp : pcn = pc + 1) (hi : (i : Nat) < nL)
    (kk : AW X l cc own nm rt nL fr scr Q k n pcn (L.set (i : Nat) (some (.int x))) st h) : AW X l cc own nm rt nL fr scr Q k n pc L (.int x :: st) h := by
  subst hp
  exact fun p e R s m args below meth c mc ms Z H locs cells slots ls M h1 h2 hH hL hS => lv_istore_n M.1 M.2.1 hd rfl hL.has hi rfl (fun ls' hl' => kk p e R s m args below meth c mc ms Z H locs cells slots ls' M h1 h2 hH (hL.st rfl hl') hS)
theorem aw_istore {i : Nat} {x : Int32} (hd : decode cc pc = .ok (.istore i, 2)) (hp : pcn = pc + 2) (hi : i < nL)
    (kk : AW X l cc own nm rt nL fr scr Q k n pcn (L.set i (some (.int x))) st h) : AW X l cc own nm rt nL fr scr Q k n pc L (.int x :: st) h := by
  subst hp
  exact fun p e R s m args below meth c mc ms Z H locs cells slots ls M h1 h2 hH hL hS => lv_istore M.1 M.2.1 hd hL.has hi rfl (fun ls' hl' => kk p e R s m args below meth c mc ms Z H locs cells slots ls' M h1 h2 hH (hL.st rfl hl') hS)
theorem aw_astore_n {i : Fin 4} {r : Option Nat} {v : Value} (hd : decode cc pc = .ok (.astore_n i, 1)) (hp : pcn = pc + 1) (hi : (i : Nat) < nL) (hr : v = va_rf r)
    (kk : AW X l cc own nm rt nL fr scr Q k n pcn (L.set (i : Nat) (some v)) st h) : AW X l cc own nm rt nL fr scr Q k n pc L (v :: st) h := by
  subst hp
  subst hr
  cases r with
  | none => exact fun p e R s m args below meth c mc ms Z H locs cells slots ls M h1 h2 hH hL hS => lv_astore_nN M.1 M.2.1 hd rfl hL.has hi rfl (fun ls' hl' => kk p e R s m args below meth c mc ms Z H locs cells slots ls' M h1 h2 hH (hL.st rfl hl') hS)
  | some a => exact fun p e R s m args below meth c mc ms Z H locs cells slots ls M h1 h2 hH hL hS => lv_astore_n M.1 M.2.1 hd rfl hL.has hi rfl (fun ls' hl' => kk p e R s m args below meth c mc ms Z H locs cells slots ls' M h1 h2 hH (hL.st rfl hl') hS)
theorem aw_astore {i : Nat} {r : Option Nat} {v : Value} (hd : decode cc pc = .ok (.astore i, 2)) (hp : pcn = pc + 2) (hi : i < nL) (hr : v = va_rf r)
    (kk : AW X l cc own nm rt nL fr scr Q k n pcn (L.set i (some v)) st h) : AW X l cc own nm rt nL fr scr Q k n pc L (v :: st) h := by
  subst hp
  subst hr
  cases r with
  | none => exact fun p e R s m args below meth c mc ms Z H locs cells slots ls M h1 h2 hH hL hS => lv_astoreN M.1 M.2.1 hd hL.has hi rfl (fun ls' hl' => kk p e R s m args below meth c mc ms Z H locs cells slots ls' M h1 h2 hH (hL.st rfl hl') hS)
  | some a => exact fun p e R s m args below meth c mc ms Z H locs cells slots ls M h1 h2 hH hL hS => lv_astore M.1 M.2.1 hd hL.has hi rfl (fun ls' hl' => kk p e R s m args below meth c mc ms Z H locs cells slots ls' M h1 h2 hH (hL.st rfl hl') hS)
theorem aw_iinc {i : Nat} {d : Int} {x v : Int32} (hd : decode cc pc = .ok (.iinc i d, 3)) (hp : pcn = pc + 3) (hi : i < nL) (hx : L[i]? = some (some (.int x))) (hv : x + Int32.ofInt d = v)
    (kk : AW X l cc own nm rt nL fr scr Q k n pcn (L.set i (some (.int v))) st h) : AW X l cc own nm rt nL fr scr Q k n pc L st h := by
  subst hp
  intro p e R s m args below meth c mc ms Z H locs cells slots ls M h1 h2 hH hL hS
  obtain ⟨q, hq⟩ := List.getElem?_of_mem (lpairs_mem.mpr hx)
  exact lv_iinc M.1 M.2.1 hd hL.has hq hv hi rfl (fun ls' hl' => kk p e R s m args below meth c mc ms Z H locs cells slots ls' M h1 h2 hH (hL.st rfl hl') hS)
theorem aw_iadd {x y : Int32} (hd : decode cc pc = .ok (.iadd, 1)) (hp : pcn = pc + 1) 
    (kk : AW X l cc own nm rt nL fr scr Q k n pcn L (.int (x + y) :: st) h) : AW X l cc own nm rt nL fr scr Q k n pc L (.int y :: .int x :: st) h := by
  subst hp
  exact fun p e R s m args below meth c mc ms Z H locs cells slots ls M h1 h2 hH hL hS => lv_iadd M.1 M.2.1 hd  (kk p e R s m args below meth c mc ms Z H locs cells slots ls M h1 h2 hH hL hS)
theorem aw_isub {x y : Int32} (hd : decode cc pc = .ok (.isub, 1)) (hp : pcn = pc + 1) 
    (kk : AW X l cc own nm rt nL fr scr Q k n pcn L (.int (x - y) :: st) h) : AW X l cc own nm rt nL fr scr Q k n pc L (.int y :: .int x :: st) h := by
  subst hp
  exact fun p e R s m args below meth c mc ms Z H locs cells slots ls M h1 h2 hH hL hS => lv_isub M.1 M.2.1 hd  (kk p e R s m args below meth c mc ms Z H locs cells slots ls M h1 h2 hH hL hS)
theorem aw_imul {x y : Int32} (hd : decode cc pc = .ok (.imul, 1)) (hp : pcn = pc + 1) 
    (kk : AW X l cc own nm rt nL fr scr Q k n pcn L (.int (x * y) :: st) h) : AW X l cc own nm rt nL fr scr Q k n pc L (.int y :: .int x :: st) h := by
  subst hp
  exact fun p e R s m args below meth c mc ms Z H locs cells slots ls M h1 h2 hH hL hS => lv_imul M.1 M.2.1 hd  (kk p e R s m args below meth c mc ms Z H locs cells slots ls M h1 h2 hH hL hS)
theorem aw_iand {x y : Int32} (hd : decode cc pc = .ok (.iand, 1)) (hp : pcn = pc + 1) 
    (kk : AW X l cc own nm rt nL fr scr Q k n pcn L (.int (x &&& y) :: st) h) : AW X l cc own nm rt nL fr scr Q k n pc L (.int y :: .int x :: st) h := by
  subst hp
  exact fun p e R s m args below meth c mc ms Z H locs cells slots ls M h1 h2 hH hL hS => lv_iand M.1 M.2.1 hd  (kk p e R s m args below meth c mc ms Z H locs cells slots ls M h1 h2 hH hL hS)
theorem aw_ior {x y : Int32} (hd : decode cc pc = .ok (.ior, 1)) (hp : pcn = pc + 1) 
    (kk : AW X l cc own nm rt nL fr scr Q k n pcn L (.int (x ||| y) :: st) h) : AW X l cc own nm rt nL fr scr Q k n pc L (.int y :: .int x :: st) h := by
  subst hp
  exact fun p e R s m args below meth c mc ms Z H locs cells slots ls M h1 h2 hH hL hS => lv_ior M.1 M.2.1 hd  (kk p e R s m args below meth c mc ms Z H locs cells slots ls M h1 h2 hH hL hS)
theorem aw_ixor {x y : Int32} (hd : decode cc pc = .ok (.ixor, 1)) (hp : pcn = pc + 1) 
    (kk : AW X l cc own nm rt nL fr scr Q k n pcn L (.int (x ^^^ y) :: st) h) : AW X l cc own nm rt nL fr scr Q k n pc L (.int y :: .int x :: st) h := by
  subst hp
  exact fun p e R s m args below meth c mc ms Z H locs cells slots ls M h1 h2 hH hL hS => lv_ixor M.1 M.2.1 hd  (kk p e R s m args below meth c mc ms Z H locs cells slots ls M h1 h2 hH hL hS)
theorem aw_ishl {x y : Int32} (hd : decode cc pc = .ok (.ishl, 1)) (hp : pcn = pc + 1) 
    (kk : AW X l cc own nm rt nL fr scr Q k n pcn L (.int (x <<< (y &&& 31)) :: st) h) : AW X l cc own nm rt nL fr scr Q k n pc L (.int y :: .int x :: st) h := by
  subst hp
  exact fun p e R s m args below meth c mc ms Z H locs cells slots ls M h1 h2 hH hL hS => lv_ishl M.1 M.2.1 hd  (kk p e R s m args below meth c mc ms Z H locs cells slots ls M h1 h2 hH hL hS)
theorem aw_ishr {x y : Int32} (hd : decode cc pc = .ok (.ishr, 1)) (hp : pcn = pc + 1) 
    (kk : AW X l cc own nm rt nL fr scr Q k n pcn L (.int (x >>> (y &&& 31)) :: st) h) : AW X l cc own nm rt nL fr scr Q k n pc L (.int y :: .int x :: st) h := by
  subst hp
  exact fun p e R s m args below meth c mc ms Z H locs cells slots ls M h1 h2 hH hL hS => lv_ishr M.1 M.2.1 hd  (kk p e R s m args below meth c mc ms Z H locs cells slots ls M h1 h2 hH hL hS)
theorem aw_irem {x y : Int32} (hd : decode cc pc = .ok (.irem, 1)) (hp : pcn = pc + 1) (hne : ¬ y = 0)
    (kk : AW X l cc own nm rt nL fr scr Q k n pcn L (.int (x - x / y * y) :: st) h) : AW X l cc own nm rt nL fr scr Q k n pc L (.int y :: .int x :: st) h := by
  subst hp
  exact fun p e R s m args below meth c mc ms Z H locs cells slots ls M h1 h2 hH hL hS => lv_irem M.1 M.2.1 hd hne (kk p e R s m args below meth c mc ms Z H locs cells slots ls M h1 h2 hH hL hS)
theorem aw_ineg {x : Int32} (hd : decode cc pc = .ok (.ineg, 1)) (hp : pcn = pc + 1) 
    (kk : AW X l cc own nm rt nL fr scr Q k n pcn L (.int (-x) :: st) h) : AW X l cc own nm rt nL fr scr Q k n pc L (.int x :: st) h := by
  subst hp
  exact fun p e R s m args below meth c mc ms Z H locs cells slots ls M h1 h2 hH hL hS => lv_ineg M.1 M.2.1 hd  (kk p e R s m args below meth c mc ms Z H locs cells slots ls M h1 h2 hH hL hS)
theorem aw_iushr {x y v : Int32} (hd : decode cc pc = .ok (.iushr, 1)) (hp : pcn = pc + 1) (hv : (x.toUInt32 >>> (y.toUInt32 &&& Int32.toUInt32 31)).toInt32 = v)
    (kk : AW X l cc own nm rt nL fr scr Q k n pcn L (.int v :: st) h) : AW X l cc own nm rt nL fr scr Q k n pc L (.int y :: .int x :: st) h := by
  subst hp
  exact fun p e R s m args below meth c mc ms Z H locs cells slots ls M h1 h2 hH hL hS => lv_iushr M.1 M.2.1 hd hv (kk p e R s m args below meth c mc ms Z H locs cells slots ls M h1 h2 hH hL hS)
theorem aw_dup {v : Value} (hd : decode cc pc = .ok (.dup, 1)) (hp : pcn = pc + 1) (hv : v.category = 1)
    (kk : AW X l cc own nm rt nL fr scr Q k n pcn L (v :: v :: st) h) : AW X l cc own nm rt nL fr scr Q k n pc L (v :: st) h := by
  subst hp
  exact fun p e R s m args below meth c mc ms Z H locs cells slots ls M h1 h2 hH hL hS => lv_dup M.1 M.2.1 hd hv (kk p e R s m args below meth c mc ms Z H locs cells slots ls M h1 h2 hH hL hS)
theorem aw_pop {v : Value} (hd : decode cc pc = .ok (.pop, 1)) (hp : pcn = pc + 1) (hv : v.category = 1)
    (kk : AW X l cc own nm rt nL fr scr Q k n pcn L st h) : AW X l cc own nm rt nL fr scr Q k n pc L (v :: st) h := by
  subst hp
  exact fun p e R s m args below meth c mc ms Z H locs cells slots ls M h1 h2 hH hL hS => lv_pop M.1 M.2.1 hd hv (kk p e R s m args below meth c mc ms Z H locs cells slots ls M h1 h2 hH hL hS)
theorem aw_dup2 {u v : Value} (hd : decode cc pc = .ok (.dup2, 1)) (hp : pcn = pc + 1) (hu : u.category = 1) (hv : v.category = 1)
    (kk : AW X l cc own nm rt nL fr scr Q k n pcn L (u :: v :: u :: v :: st) h) : AW X l cc own nm rt nL fr scr Q k n pc L (u :: v :: st) h := by
  subst hp
  exact fun p e R s m args below meth c mc ms Z H locs cells slots ls M h1 h2 hH hL hS => lv_dup2_11 M.1 M.2.1 hd hu hv (kk p e R s m args below meth c mc ms Z H locs cells slots ls M h1 h2 hH hL hS)
theorem aw_null  (hd : decode cc pc = .ok (.aconst_null, 1)) (hp : pcn = pc + 1) 
    (kk : AW X l cc own nm rt nL fr scr Q k n pcn L (.null :: st) h) : AW X l cc own nm rt nL fr scr Q k n pc L st h := by
  subst hp
  exact fun p e R s m args below meth c mc ms Z H locs cells slots ls M h1 h2 hH hL hS => lv_null M.1 M.2.1 hd  (kk p e R s m args below meth c mc ms Z H locs cells slots ls M h1 h2 hH hL hS)
theorem aw_ldc {i : Nat} {v : Int32} (hc : Cond.constant own i v ∈ lw_good) (hd : decode cc pc = .ok (.ldc i, 2)) (hp : pcn = pc + 2)
    (kk : AW X l cc own nm rt nL fr scr Q k n pcn L (.int v :: st) h) : AW X l cc own nm rt nL fr scr Q k n pc L st h := by
  subst hp
  exact fun p e R s m args below meth c mc ms Z H locs cells slots ls M h1 h2 hH hL hS => lv_ldc M.1 M.2.1 M.2.2.2.1 (M.2.2.2.2.1 _ hc) hd (kk p e R s m args below meth c mc ms Z H locs cells slots ls M h1 h2 hH hL hS)
theorem aw_ldc_w {i : Nat} {v : Int32} (hc : Cond.constant own i v ∈ lw_good) (hd : decode cc pc = .ok (.ldc_w i, 3)) (hp : pcn = pc + 3)
    (kk : AW X l cc own nm rt nL fr scr Q k n pcn L (.int v :: st) h) : AW X l cc own nm rt nL fr scr Q k n pc L st h := by
  subst hp
  exact fun p e R s m args below meth c mc ms Z H locs cells slots ls M h1 h2 hH hL hS => lv_ldcw M.1 M.2.1 M.2.2.2.1 (M.2.2.2.2.1 _ hc) hd (kk p e R s m args below meth c mc ms Z H locs cells slots ls M h1 h2 hH hL hS)
theorem aw_goto {off : Int} {t : Nat} (hd : decode cc pc = .ok (.goto off, 3)) (ht : (pc : Int) + off = (t : Int))
    (kk : AW X l cc own nm rt nL fr scr Q k n t L st h) : AW X l cc own nm rt nL fr scr Q k n pc L st h :=
  fun p e R s m args below meth c mc ms Z H locs cells slots ls M h1 h2 hH hL hS => lv_goto M.1 M.2.1 hd ht (kk p e R s m args below meth c mc ms Z H locs cells slots ls M h1 h2 hH hL hS)
theorem aw_if_eq {x : Int32} {off : Int} {t : Nat} (hd : decode cc pc = .ok (.ifCond .eq off, 3)) (hp : pcn = pc + 3) (ht : (pc : Int) + off = (t : Int))
    (kt : x = 0 → AW X l cc own nm rt nL fr scr Q k n t L st h) (kf : ¬ x = 0 → AW X l cc own nm rt nL fr scr Q k n pcn L st h) : AW X l cc own nm rt nL fr scr Q k n pc L (.int x :: st) h := by
  subst hp
  exact fun p e R s m args below meth c mc ms Z H locs cells slots ls M h1 h2 hH hL hS => lv_if_eq M.1 M.2.1 hd ht (fun q => kt q p e R s m args below meth c mc ms Z H locs cells slots ls M h1 h2 hH hL hS) (fun q => kf q p e R s m args below meth c mc ms Z H locs cells slots ls M h1 h2 hH hL hS)
theorem aw_icmp_eq {x y : Int32} {off : Int} {t : Nat} (hd : decode cc pc = .ok (.if_icmp .eq off, 3)) (hp : pcn = pc + 3) (ht : (pc : Int) + off = (t : Int))
    (kt : x = y → AW X l cc own nm rt nL fr scr Q k n t L st h) (kf : ¬ x = y → AW X l cc own nm rt nL fr scr Q k n pcn L st h) : AW X l cc own nm rt nL fr scr Q k n pc L (.int y :: .int x :: st) h := by
  subst hp
  exact fun p e R s m args below meth c mc ms Z H locs cells slots ls M h1 h2 hH hL hS => lv_icmp_eq M.1 M.2.1 hd ht (fun q => kt q p e R s m args below meth c mc ms Z H locs cells slots ls M h1 h2 hH hL hS) (fun q => kf q p e R s m args below meth c mc ms Z H locs cells slots ls M h1 h2 hH hL hS)
theorem aw_if_ne {x : Int32} {off : Int} {t : Nat} (hd : decode cc pc = .ok (.ifCond .ne off, 3)) (hp : pcn = pc + 3) (ht : (pc : Int) + off = (t : Int))
    (kt : ¬ x = 0 → AW X l cc own nm rt nL fr scr Q k n t L st h) (kf : x = 0 → AW X l cc own nm rt nL fr scr Q k n pcn L st h) : AW X l cc own nm rt nL fr scr Q k n pc L (.int x :: st) h := by
  subst hp
  exact fun p e R s m args below meth c mc ms Z H locs cells slots ls M h1 h2 hH hL hS => lv_if_ne M.1 M.2.1 hd ht (fun q => kt q p e R s m args below meth c mc ms Z H locs cells slots ls M h1 h2 hH hL hS) (fun q => kf q p e R s m args below meth c mc ms Z H locs cells slots ls M h1 h2 hH hL hS)
theorem aw_icmp_ne {x y : Int32} {off : Int} {t : Nat} (hd : decode cc pc = .ok (.if_icmp .ne off, 3)) (hp : pcn = pc + 3) (ht : (pc : Int) + off = (t : Int))
    (kt : ¬ x = y → AW X l cc own nm rt nL fr scr Q k n t L st h) (kf : x = y → AW X l cc own nm rt nL fr scr Q k n pcn L st h) : AW X l cc own nm rt nL fr scr Q k n pc L (.int y :: .int x :: st) h := by
  subst hp
  exact fun p e R s m args below meth c mc ms Z H locs cells slots ls M h1 h2 hH hL hS => lv_icmp_ne M.1 M.2.1 hd ht (fun q => kt q p e R s m args below meth c mc ms Z H locs cells slots ls M h1 h2 hH hL hS) (fun q => kf q p e R s m args below meth c mc ms Z H locs cells slots ls M h1 h2 hH hL hS)
theorem aw_if_lt {x : Int32} {off : Int} {t : Nat} (hd : decode cc pc = .ok (.ifCond .lt off, 3)) (hp : pcn = pc + 3) (ht : (pc : Int) + off = (t : Int))
    (kt : x < 0 → AW X l cc own nm rt nL fr scr Q k n t L st h) (kf : ¬ x < 0 → AW X l cc own nm rt nL fr scr Q k n pcn L st h) : AW X l cc own nm rt nL fr scr Q k n pc L (.int x :: st) h := by
  subst hp
  exact fun p e R s m args below meth c mc ms Z H locs cells slots ls M h1 h2 hH hL hS => lv_if_lt M.1 M.2.1 hd ht (fun q => kt q p e R s m args below meth c mc ms Z H locs cells slots ls M h1 h2 hH hL hS) (fun q => kf q p e R s m args below meth c mc ms Z H locs cells slots ls M h1 h2 hH hL hS)
theorem aw_icmp_lt {x y : Int32} {off : Int} {t : Nat} (hd : decode cc pc = .ok (.if_icmp .lt off, 3)) (hp : pcn = pc + 3) (ht : (pc : Int) + off = (t : Int))
    (kt : x < y → AW X l cc own nm rt nL fr scr Q k n t L st h) (kf : ¬ x < y → AW X l cc own nm rt nL fr scr Q k n pcn L st h) : AW X l cc own nm rt nL fr scr Q k n pc L (.int y :: .int x :: st) h := by
  subst hp
  exact fun p e R s m args below meth c mc ms Z H locs cells slots ls M h1 h2 hH hL hS => lv_icmp_lt M.1 M.2.1 hd ht (fun q => kt q p e R s m args below meth c mc ms Z H locs cells slots ls M h1 h2 hH hL hS) (fun q => kf q p e R s m args below meth c mc ms Z H locs cells slots ls M h1 h2 hH hL hS)
theorem aw_if_ge {x : Int32} {off : Int} {t : Nat} (hd : decode cc pc = .ok (.ifCond .ge off, 3)) (hp : pcn = pc + 3) (ht : (pc : Int) + off = (t : Int))
    (kt : 0 ≤ x → AW X l cc own nm rt nL fr scr Q k n t L st h) (kf : ¬ 0 ≤ x → AW X l cc own nm rt nL fr scr Q k n pcn L st h) : AW X l cc own nm rt nL fr scr Q k n pc L (.int x :: st) h := by
  subst hp
  exact fun p e R s m args below meth c mc ms Z H locs cells slots ls M h1 h2 hH hL hS => lv_if_ge M.1 M.2.1 hd ht (fun q => kt q p e R s m args below meth c mc ms Z H locs cells slots ls M h1 h2 hH hL hS) (fun q => kf q p e R s m args below meth c mc ms Z H locs cells slots ls M h1 h2 hH hL hS)
theorem aw_icmp_ge {x y : Int32} {off : Int} {t : Nat} (hd : decode cc pc = .ok (.if_icmp .ge off, 3)) (hp : pcn = pc + 3) (ht : (pc : Int) + off = (t : Int))
    (kt : y ≤ x → AW X l cc own nm rt nL fr scr Q k n t L st h) (kf : ¬ y ≤ x → AW X l cc own nm rt nL fr scr Q k n pcn L st h) : AW X l cc own nm rt nL fr scr Q k n pc L (.int y :: .int x :: st) h := by
  subst hp
  exact fun p e R s m args below meth c mc ms Z H locs cells slots ls M h1 h2 hH hL hS => lv_icmp_ge M.1 M.2.1 hd ht (fun q => kt q p e R s m args below meth c mc ms Z H locs cells slots ls M h1 h2 hH hL hS) (fun q => kf q p e R s m args below meth c mc ms Z H locs cells slots ls M h1 h2 hH hL hS)
theorem aw_if_gt {x : Int32} {off : Int} {t : Nat} (hd : decode cc pc = .ok (.ifCond .gt off, 3)) (hp : pcn = pc + 3) (ht : (pc : Int) + off = (t : Int))
    (kt : 0 < x → AW X l cc own nm rt nL fr scr Q k n t L st h) (kf : ¬ 0 < x → AW X l cc own nm rt nL fr scr Q k n pcn L st h) : AW X l cc own nm rt nL fr scr Q k n pc L (.int x :: st) h := by
  subst hp
  exact fun p e R s m args below meth c mc ms Z H locs cells slots ls M h1 h2 hH hL hS => lv_if_gt M.1 M.2.1 hd ht (fun q => kt q p e R s m args below meth c mc ms Z H locs cells slots ls M h1 h2 hH hL hS) (fun q => kf q p e R s m args below meth c mc ms Z H locs cells slots ls M h1 h2 hH hL hS)
theorem aw_icmp_gt {x y : Int32} {off : Int} {t : Nat} (hd : decode cc pc = .ok (.if_icmp .gt off, 3)) (hp : pcn = pc + 3) (ht : (pc : Int) + off = (t : Int))
    (kt : y < x → AW X l cc own nm rt nL fr scr Q k n t L st h) (kf : ¬ y < x → AW X l cc own nm rt nL fr scr Q k n pcn L st h) : AW X l cc own nm rt nL fr scr Q k n pc L (.int y :: .int x :: st) h := by
  subst hp
  exact fun p e R s m args below meth c mc ms Z H locs cells slots ls M h1 h2 hH hL hS => lv_icmp_gt M.1 M.2.1 hd ht (fun q => kt q p e R s m args below meth c mc ms Z H locs cells slots ls M h1 h2 hH hL hS) (fun q => kf q p e R s m args below meth c mc ms Z H locs cells slots ls M h1 h2 hH hL hS)
theorem aw_if_le {x : Int32} {off : Int} {t : Nat} (hd : decode cc pc = .ok (.ifCond .le off, 3)) (hp : pcn = pc + 3) (ht : (pc : Int) + off = (t : Int))
    (kt : x ≤ 0 → AW X l cc own nm rt nL fr scr Q k n t L st h) (kf : ¬ x ≤ 0 → AW X l cc own nm rt nL fr scr Q k n pcn L st h) : AW X l cc own nm rt nL fr scr Q k n pc L (.int x :: st) h := by
  subst hp
  exact fun p e R s m args below meth c mc ms Z H locs cells slots ls M h1 h2 hH hL hS => lv_if_le M.1 M.2.1 hd ht (fun q => kt q p e R s m args below meth c mc ms Z H locs cells slots ls M h1 h2 hH hL hS) (fun q => kf q p e R s m args below meth c mc ms Z H locs cells slots ls M h1 h2 hH hL hS)
theorem aw_icmp_le {x y : Int32} {off : Int} {t : Nat} (hd : decode cc pc = .ok (.if_icmp .le off, 3)) (hp : pcn = pc + 3) (ht : (pc : Int) + off = (t : Int))
    (kt : x ≤ y → AW X l cc own nm rt nL fr scr Q k n t L st h) (kf : ¬ x ≤ y → AW X l cc own nm rt nL fr scr Q k n pcn L st h) : AW X l cc own nm rt nL fr scr Q k n pc L (.int y :: .int x :: st) h := by
  subst hp
  exact fun p e R s m args below meth c mc ms Z H locs cells slots ls M h1 h2 hH hL hS => lv_icmp_le M.1 M.2.1 hd ht (fun q => kt q p e R s m args below meth c mc ms Z H locs cells slots ls M h1 h2 hH hL hS) (fun q => kf q p e R s m args below meth c mc ms Z H locs cells slots ls M h1 h2 hH hL hS)
theorem bI_0 {b : Bool} : bI b = 0 ↔ b = false := by cases b <;> decide
theorem bI_1 {b : Bool} : ¬ bI b = 0 ↔ b = true := by cases b <;> decide
theorem aw_if_eqB {b : Bool} {off : Int} {t : Nat} (hd : decode cc pc = .ok (.ifCond .eq off, 3)) (hp : pcn = pc + 3) (ht : (pc : Int) + off = (t : Int))
    (kt : b = false → AW X l cc own nm rt nL fr scr Q k n t L st h) (kf : b = true → AW X l cc own nm rt nL fr scr Q k n pcn L st h) : AW X l cc own nm rt nL fr scr Q k n pc L (.int (bI b) :: st) h := aw_if_eq hd hp ht (fun q => kt (bI_0.mp q)) (fun q => kf (bI_1.mp q))
theorem aw_if_neB {b : Bool} {off : Int} {t : Nat} (hd : decode cc pc = .ok (.ifCond .ne off, 3)) (hp : pcn = pc + 3) (ht : (pc : Int) + off = (t : Int))
    (kt : b = true → AW X l cc own nm rt nL fr scr Q k n t L st h) (kf : b = false → AW X l cc own nm rt nL fr scr Q k n pcn L st h) : AW X l cc own nm rt nL fr scr Q k n pc L (.int (bI b) :: st) h := aw_if_ne hd hp ht (fun q => kt (bI_1.mp q)) (fun q => kf (bI_0.mp q))
theorem aw_ifnull {r : Option Nat} {v : Value} {off : Int} {t : Nat} (hd : decode cc pc = .ok (.ifnull off, 3)) (hp : pcn = pc + 3) (ht : (pc : Int) + off = (t : Int)) (hr : v = va_rf r)
    (kt : r = none → AW X l cc own nm rt nL fr scr Q k n t L st h) (kf : ∀ a, r = some a → AW X l cc own nm rt nL fr scr Q k n pcn L st h) : AW X l cc own nm rt nL fr scr Q k n pc L (v :: st) h := by
  subst hp
  subst hr
  cases r with
  | none => exact fun p e R s m args below meth c mc ms Z H locs cells slots ls M h1 h2 hH hL hS => lv_ifnullN M.1 M.2.1 hd ht (kt rfl p e R s m args below meth c mc ms Z H locs cells slots ls M h1 h2 hH hL hS)
  | some a => exact fun p e R s m args below meth c mc ms Z H locs cells slots ls M h1 h2 hH hL hS => lv_ifnull M.1 M.2.1 hd (kf a rfl p e R s m args below meth c mc ms Z H locs cells slots ls M h1 h2 hH hL hS)
theorem aw_ifnonnull {r : Option Nat} {v : Value} {off : Int} {t : Nat} (hd : decode cc pc = .ok (.ifnonnull off, 3)) (hp : pcn = pc + 3) (ht : (pc : Int) + off = (t : Int)) (hr : v = va_rf r)
    (kt : ∀ a, r = some a → AW X l cc own nm rt nL fr scr Q k n t L st h) (kf : r = none → AW X l cc own nm rt nL fr scr Q k n pcn L st h) : AW X l cc own nm rt nL fr scr Q k n pc L (v :: st) h := by
  subst hp
  subst hr
  cases r with
  | none => exact fun p e R s m args below meth c mc ms Z H locs cells slots ls M h1 h2 hH hL hS => lv_ifnonnullN M.1 M.2.1 hd (kf rfl p e R s m args below meth c mc ms Z H locs cells slots ls M h1 h2 hH hL hS)
  | some a => exact fun p e R s m args below meth c mc ms Z H locs cells slots ls M h1 h2 hH hL hS => lv_ifnonnull M.1 M.2.1 hd ht (kt a rfl p e R s m args below meth c mc ms Z H locs cells slots ls M h1 h2 hH hL hS)
theorem aw_acmp_eq {r1 r2 : Option Nat} {v1 v2 : Value} {off : Int} {t : Nat} (hd : decode cc pc = .ok (.if_acmp .eq off, 3)) (hp : pcn = pc + 3) (ht : (pc : Int) + off = (t : Int)) (hv1 : v1 = va_rf r1) (hv2 : v2 = va_rf r2)
    (kt : r1 = r2 → AW X l cc own nm rt nL fr scr Q k n t L st h) (kf : ¬ r1 = r2 → AW X l cc own nm rt nL fr scr Q k n pcn L st h) : AW X l cc own nm rt nL fr scr Q k n pc L (v2 :: v1 :: st) h := by
  subst hp
  subst hv1
  subst hv2
  exact fun p e R s m args below meth c mc ms Z H locs cells slots ls M h1 h2 hH hL hS => lv_acmp_eq M.1 M.2.1 hd ht (fun q => kt q p e R s m args below meth c mc ms Z H locs cells slots ls M h1 h2 hH hL hS) (fun q => kf q p e R s m args below meth c mc ms Z H locs cells slots ls M h1 h2 hH hL hS)
theorem aw_acmp_ne {r1 r2 : Option Nat} {v1 v2 : Value} {off : Int} {t : Nat} (hd : decode cc pc = .ok (.if_acmp .ne off, 3)) (hp : pcn = pc + 3) (ht : (pc : Int) + off = (t : Int)) (hv1 : v1 = va_rf r1) (hv2 : v2 = va_rf r2)
    (kt : ¬ r1 = r2 → AW X l cc own nm rt nL fr scr Q k n t L st h) (kf : r1 = r2 → AW X l cc own nm rt nL fr scr Q k n pcn L st h) : AW X l cc own nm rt nL fr scr Q k n pc L (v2 :: v1 :: st) h := by
  subst hp
  subst hv1
  subst hv2
  exact fun p e R s m args below meth c mc ms Z H locs cells slots ls M h1 h2 hH hL hS => lv_acmp_ne M.1 M.2.1 hd ht (fun q => kt q p e R s m args below meth c mc ms Z H locs cells slots ls M h1 h2 hH hL hS) (fun q => kf q p e R s m args below meth c mc ms Z H locs cells slots ls M h1 h2 hH hL hS)
theorem aw_tsIn {dflt lo hi : Int} {offs : Array Int} {len : Nat} {x : Int32} {off : Int} {t : Nat} (hd : decode cc pc = .ok (.tableswitch dflt lo hi offs, len)) (q1 : ¬ x.toInt < lo) (q2 : ¬ hi < x.toInt) (ho : offs[(x.toInt - lo).toNat]? = some off) (ht : (pc : Int) + off = (t : Int))
    (kk : AW X l cc own nm rt nL fr scr Q k n t L st h) : AW X l cc own nm rt nL fr scr Q k n pc L (.int x :: st) h :=
  fun p e R s m args below meth c mc ms Z H locs cells slots ls M h1 h2 hH hL hS => lv_tableIn M.1 M.2.1 hd q1 q2 ho ht (kk p e R s m args below meth c mc ms Z H locs cells slots ls M h1 h2 hH hL hS)
theorem aw_tsOut {dflt lo hi : Int} {offs : Array Int} {len : Nat} {x : Int32} {t : Nat} (hd : decode cc pc = .ok (.tableswitch dflt lo hi offs, len)) (q1 : x.toInt < lo ∨ hi < x.toInt) (ht : (pc : Int) + dflt = (t : Int))
    (kk : AW X l cc own nm rt nL fr scr Q k n t L st h) : AW X l cc own nm rt nL fr scr Q k n pc L (.int x :: st) h :=
  fun p e R s m args below meth c mc ms Z H locs cells slots ls M h1 h2 hH hL hS => lv_tableOut M.1 M.2.1 hd q1 ht (kk p e R s m args below meth c mc ms Z H locs cells slots ls M h1 h2 hH hL hS)
theorem aw_lsw {dflt : Int} {ps : Array (Int × Int)} {len : Nat} {x : Int32} {off : Int} {t : Nat} (hd : decode cc pc = .ok (.lookupswitch dflt ps, len)) (hq : (ps.toList.zip (ps.toList.drop 1)).all (fun (a, next) => a.1 < next.1) = true) (ho : Op.lookupswitch.offset ps.toList dflt x.toInt = off) (ht : (pc : Int) + off = (t : Int))
    (kk : AW X l cc own nm rt nL fr scr Q k n t L st h) : AW X l cc own nm rt nL fr scr Q k n pc L (.int x :: st) h :=
  fun p e R s m args below meth c mc ms Z H locs cells slots ls M h1 h2 hH hL hS => lv_lookup M.1 M.2.1 hd hq ho ht (kk p e R s m args below meth c mc ms Z H locs cells slots ls M h1 h2 hH hL hS)
theorem aw_ret (hd : decode cc pc = .ok (.return_, 1)) (hr : rt = none) (hq : Q none h) : AW X l cc own nm rt nL fr scr Q k n pc L [] h :=
  fun p e R s m args below meth c mc ms Z H locs cells slots ls M h1 h2 hH hL hS => M.2.2.2.2.2.2.2.2.2.2.2.2.2 H locs cells slots pc ls none h hq (Or.inl ⟨rfl, hr, hd⟩) hH hS (by omega) (by omega)
theorem aw_iret {x : Int32} (hd : decode cc pc = .ok (.ireturn, 1)) (hr : rt = some .int) (hq : Q (some (.int x)) h) : AW X l cc own nm rt nL fr scr Q k n pc L [.int x] h :=
  fun p e R s m args below meth c mc ms Z H locs cells slots ls M h1 h2 hH hL hS => M.2.2.2.2.2.2.2.2.2.2.2.2.2 H locs cells slots pc ls (some (.int x)) h hq (Or.inr (Or.inl ⟨x, .int, rfl, hr, rfl, hd⟩)) hH hS (by omega) (by omega)
theorem nar_bool {x : Int32} (hx : x = 0 ∨ x = 1) : narrow .boolean (.int x) = .int x := by
  rcases hx with rfl | rfl <;> decide +kernel
theorem aw_zret {x : Int32} (hd : decode cc pc = .ok (.ireturn, 1)) (hr : rt = some .boolean) (hx : x = 0 ∨ x = 1) (hq : Q (some (.int x)) h) : AW X l cc own nm rt nL fr scr Q k n pc L [.int x] h :=
  fun p e R s m args below meth c mc ms Z H locs cells slots ls M h1 h2 hH hL hS => M.2.2.2.2.2.2.2.2.2.2.2.2.2 H locs cells slots pc ls (some (.int x)) h hq (Or.inr (Or.inl ⟨x, .boolean, rfl, hr, nar_bool hx, hd⟩)) hH hS (by omega) (by omega)
theorem aw_aret {r : Option Nat} {v : Value} {ty : FieldType} (hd : decode cc pc = .ok (.areturn, 1)) (hr : rt = some ty) (hty : (∃ n, ty = .object n) ∨ ∃ t, ty = .array t) (hv : v = va_rf r) (hq : Q (some (va_rf r)) h) : AW X l cc own nm rt nL fr scr Q k n pc L [v] h := by
  subst hv
  exact fun p e R s m args below meth c mc ms Z H locs cells slots ls M h1 h2 hH hL hS => M.2.2.2.2.2.2.2.2.2.2.2.2.2 H locs cells slots pc ls (some (va_rf r)) h hq (Or.inr (Or.inr ⟨r, ty, rfl, hr, hty, hd⟩)) hH hS (by omega) (by omega)
end AWR
end
section
theorem cat_sum {st : List Value} {N : Nat} (h : st.length ≤ N) : (st.map fun v => v.category).sum ≤ 2 * N := by
  induction st generalizing N with
  | nil => simp
  | cons a r ih =>
    have h2 : a.category ≤ 2 := by rcases lv_cat a with q | q <;> omega
    cases N with
    | zero => simp at h
    | succ N =>
      have := ih (N := N) (by simpa using h)
      simp only [List.map_cons, List.sum_cons]
      omega
theorem good_of {w : Cond} (h : w ∈ tables_1) (g : goodWord w = true) : w ∈ lw_good := List.mem_filter.mpr ⟨List.mem_append_right _ h, g⟩
theorem tbl_of {w : Cond} (h : w ∈ tables_1) : w ∈ lw_tbl := List.mem_append_right _ h
theorem obj_w1 : Cond.instanceMethod objectInit ∈ lw_good := good_of (List.mem_of_getElem? (i := 16) (by decide +kernel)) (by decide +kernel)
theorem obj_w2 : Cond.code objectInit ⟨#[0xb1]⟩ 1 none ∈ lw_good := good_of (List.mem_of_getElem? (i := 17) (by decide +kernel)) (by decide +kernel)
/-- a class of vwCl: its field words, types, names -/
theorem cls_ok (ci : Nat) (C : String) (T : u_T) (N : Nat) (h : vwCl[ci]? = some (C, T, N)) : (∀ w ∈ u_ws C T N, w ∈ lw_good) ∧ (∃ ty : Nat → FieldType, ∀ k, k < N → parseFieldDescriptor (T k).2.2.1 = some (ty k)) ∧ (∀ a, a < N → ∀ b, b < N → a ≠ b → (T a).2.1 ≠ (T b).2.1) := by
  match ci, h with
  | 0, h => cases h; exact ⟨by decide +kernel, ⟨tyX0, tyX0_ok⟩, nmX0⟩
  | 1, h => cases h; exact ⟨by decide +kernel, ⟨tyX1, tyX1_ok⟩, nmX1⟩
  | 2, h => cases h; exact ⟨by decide +kernel, ⟨tyX2, tyX2_ok⟩, nmX2⟩
  | 3, h => cases h; exact ⟨by decide +kernel, ⟨tyX3, tyX3_ok⟩, nmX3⟩
  | 4, h => cases h; exact ⟨by decide +kernel, ⟨tyX4, tyX4_ok⟩, nmX4⟩
  | 5, h => cases h; exact ⟨by decide +kernel, ⟨tyX5, tyX5_ok⟩, nmX5⟩
  | 6, h => cases h; exact ⟨by decide +kernel, ⟨tyX6, tyX6_ok⟩, nmX6⟩
  | 7, h => cases h; exact ⟨by decide +kernel, ⟨tyX7, tyX7_ok⟩, nmX7⟩
  | q + 8, h => simp [vwCl] at h
def FLK (own : String) (idx ci j : Nat) : Prop := ∃ C T N, vwCl[ci]? = some (C, T, N) ∧ j < N ∧ Cond.fieldLink own idx (T j).1 (T j).2.1 (T j).2.2.1 ∈ lw_good
def FPK (own : String) (idx ci j : Nat) (ty : FieldType) : Prop := ∃ C T N, vwCl[ci]? = some (C, T, N) ∧ j < N ∧ Cond.fieldLink own idx (T j).1 (T j).2.1 (T j).2.2.1 ∈ lw_good ∧ (T j).2.2.2 = false ∧ parseFieldDescriptor (T j).2.2.1 = some ty
def FPF (own : String) (idx ci j : Nat) (ty : FieldType) : Prop := ∃ C T N, vwCl[ci]? = some (C, T, N) ∧ j < N ∧ Cond.fieldLink own idx (T j).1 (T j).2.1 (T j).2.2.1 ∈ lw_good ∧ (T j).2.2.2 = true ∧ (T j).1 = own ∧ parseFieldDescriptor (T j).2.2.1 = some ty
def VF (ty : FieldType) (v : Value) : Prop := narrow ty v = v ∧ fits ty v = true
theorem VF.i (x : Int32) : VF .int (.int x) := ⟨rfl, rfl⟩
theorem VF.o (n : String) (r : Option Nat) : VF (.object n) (va_rf r) := by cases r <;> exact ⟨rfl, rfl⟩
theorem VF.a (t : FieldType) (r : Option Nat) : VF (.array t) (va_rf r) := by cases r <;> exact ⟨rfl, rfl⟩
def NWK (own : String) (idx ci : Nat) (fs : List Value) : Prop := ∃ C T N, vwCl[ci]? = some (C, T, N) ∧ fs.length = N ∧ (∃ ty : Nat → FieldType, (∀ k, k < N → parseFieldDescriptor (T k).2.2.1 = some (ty k)) ∧ ∀ j, j < N → defaultValue (ty j) = vp_V fs j) ∧ Cond.classLink own idx C ∈ lw_good ∧ Cond.instantiable C N ∈ lw_good ∧ Cond.initialized C ∈ lw_good
/-- the kinds of arrays of references: which class -/
def akc : Nat → Nat
  | 1 => 0
  | 2 => 2
  | 3 => 3
  | _ => 4
theorem akc_ty {X : XG} {t : Nat} (h1 : 1 ≤ t) (h4 : t ≤ 4) : ∃ r : vw_C, vwCl[akc t]? = some r ∧ (xTys X)[t]? = some (X.2.1 t, .object r.1) := by
  match t, h1, h4 with
  | 1, _, _ => exact ⟨_, rfl, rfl⟩
  | 2, _, _ => exact ⟨_, rfl, rfl⟩
  | 3, _, _ => exact ⟨_, rfl, rfl⟩
  | 4, _, _ => exact ⟨_, rfl, rfl⟩
theorem HR.one {X : XG} {h : Hp} {H : Heap} {a : Nat} {c : AC} (hR : HR X h H) (ha : h a = some c) : va_P X.1 vwCl [(a, acE X c)] H := by
  intro k q hk
  cases k with
  | zero => cases hk; exact (hR.2 a c ha).2
  | succ k => simp at hk
theorem HR.ia {X : XG} {h : Hp} {H : Heap} {a N : Nat} {f : Nat → Int32} (hR : HR X h H) (ha : h a = some (ia N f)) : H[a]? = some (arrV (X.2.1 0) N (fun j => .int (f j))) := (hR.2 a _ ha).2
theorem HR.ra {X : XG} {h : Hp} {H : Heap} {a t N : Nat} {f : Nat → Option Nat} (hR : HR X h H) (ha : h a = some (ra t N f)) : H[a]? = some (arrV (X.2.1 t) N (fun j => va_rf (f j))) := (hR.2 a _ ha).2
section AWH
variable {X : XG} {l : Launch} {cc : ByteArray} {own nm : String} {rt : Option FieldType} {nL fr : Nat} {scr : Scr} {Q : Post} {k n pc pcn : Nat} {L : List (Option Value)} {st : List Value} {h : Hp}
theorem aw_getf {a idx ci j : Nat} {fs : List Value} {v : Value} (hF : FLK own idx ci j) (hd : decode cc pc = .ok (.getfield idx, 3)) (hp : pcn = pc + 3) (ha : h a = some (ob ci fs)) (hv : fs[j]? = some v)
    (kk : AW X l cc own nm rt nL fr scr Q k n pcn L (v :: st) h) : AW X l cc own nm rt nL fr scr Q k n pc L (.ref a :: st) h := by
  subst hp
  intro p e R s m args below meth c mc ms Z H locs cells slots ls M h1 h2 hH hL hS
  obtain ⟨C, T, N, hc, hj, hm⟩ := hF
  exact va_get M.1 M.2.1 M.2.2.2.2.1 (cls_ok ci C T N hc).1 M.2.2.2.1 M.2.2.2.2.2.2.1.1 (hH.one ha) 0 (fs := fs) rfl hc j hj (M.2.2.2.2.1 _ hm) (fun _ q => q) hv hd (kk p e R s m args below meth c mc ms Z H locs cells slots ls M h1 h2 hH hL hS)
theorem aw_putf {a idx ci j : Nat} {fs : List Value} {v : Value} {ty : FieldType} (hF : FPK own idx ci j ty) (hd : decode cc pc = .ok (.putfield idx, 3)) (hp : pcn = pc + 3) (ha : h a = some (ob ci fs)) (hl : j < fs.length) (hv : VF ty v)
    (kk : AW X l cc own nm rt nL fr scr Q k n pcn L st (hup h a (ob ci (fs.set j v)))) : AW X l cc own nm rt nL fr scr Q k n pc L (v :: .ref a :: st) h := by
  subst hp
  intro p e R s m args below meth c mc ms Z H locs cells slots ls M h1 h2 hH hL hS
  obtain ⟨C, T, N, hc, hj, hm, hfin, hdd⟩ := hF
  obtain ⟨hws, ⟨ty0, hty⟩, hnam⟩ := cls_ok ci C T N hc
  have hap := va_apart (own := own) M.2.2.2.2.1 hws ty0 hty hnam M.2.2.2.2.2.2.1.1 hc
  have hab := (hH.2 a _ ha).1
  obtain ⟨r, g1, cell, q1, q2, q3, q4⟩ := (hH.2 a _ ha).2
  have hr : r = (C, T, N) := Option.some.inj (g1.symm.trans hc)
  subst hr
  obtain ⟨hSl, hfc, kC, hkC, hkind⟩ := M.2.2.2.2.2.2.1.1.1 ci _ hc
  obtain ⟨cf, kf, fi, f, hi, hsl⟩ := hSl j hj
  have hst := (u_facts hfc hkC (u_lays M.2.2.2.2.1 hws hj) hi).1
  have hlay := M.2.2.2.2.1 _ ((cls_ok ci C T N hc).1 _ (u_in_lay hj))
  unfold u_lay at hlay
  rw [if_neg (by rw [hfin]; decide)] at hlay
  have h6 := u_store hfc hkC hkind hlay hi hdd hv.1 hv.2
  refine W.putK M.1 M.2.1 (f := f) ⟨M.2.2.2.1, M.2.2.2.2.1 _ hm, ⟨_, _, _, hi⟩, hst⟩ (by rw [q2]; exact h6) q1 q3 (by rw [hsl]; exact k2_hasslot (q4 j hj)) rfl rfl hd fun H' e1 e2 e3 => ?_
  rw [hsl] at e1 ⊢
  exact kk p e R s m args below meth c mc ms Z H' _ cells slots ls M h1 h2 (hH.put hab ⟨_, hc, t_OB.to (V := updV (vp_V fs) j v) ⟨_, e1, q2, q3, t_set q4 hap hj v⟩ (fun i _ => vp_updV_set hl v i)⟩ e2 e3) hL (hS.put e2 e3 hab)
theorem aw_putF {a idx ci j : Nat} {fs : List Value} {v : Value} {ty : FieldType} (hF : FPF own idx ci j ty) (hnm : nm = "<init>") (hd : decode cc pc = .ok (.putfield idx, 3)) (hp : pcn = pc + 3) (ha : h a = some (ob ci fs)) (hl : j < fs.length) (hv : VF ty v)
    (kk : AW X l cc own nm rt nL fr scr Q k n pcn L st (hup h a (ob ci (fs.set j v)))) : AW X l cc own nm rt nL fr scr Q k n pc L (v :: .ref a :: st) h := by
  subst hp
  intro p e R s m args below meth c mc ms Z H locs cells slots ls M h1 h2 hH hL hS
  obtain ⟨C, T, N, hc, hj, hm, hfin, hdecl, hdd⟩ := hF
  obtain ⟨hws, ⟨ty0, hty⟩, hnam⟩ := cls_ok ci C T N hc
  have hap := va_apart (own := own) M.2.2.2.2.1 hws ty0 hty hnam M.2.2.2.2.2.2.1.1 hc
  have hab := (hH.2 a _ ha).1
  obtain ⟨r, g1, cell, q1, q2, q3, q4⟩ := (hH.2 a _ ha).2
  have hr : r = (C, T, N) := Option.some.inj (g1.symm.trans hc)
  subst hr
  obtain ⟨hSl, hfc, kC, hkC, hkind⟩ := M.2.2.2.2.2.2.1.1.1 ci _ hc
  obtain ⟨cf, kf, fi, f, hi, hsl⟩ := hSl j hj
  have hst := (u_facts hfc hkC (u_lays M.2.2.2.2.1 hws hj) hi).1
  have hlay := M.2.2.2.2.1 _ ((cls_ok ci C T N hc).1 _ (u_in_lay hj))
  unfold u_lay at hlay
  rw [if_pos hfin] at hlay
  have hcf : m.cls = cf := by
    obtain ⟨_, _, c', _, _, _, -, -, hf', -, -, -, hown2, -⟩ := Cond.laysFinal_spec hlay
    have e1 : c' = cf := by have := hi.symm.trans hf'; simp at this; exact this.1.symm
    rw [hdecl] at hown2
    rw [← e1]; exact Option.some.inj (M.2.2.2.1.symm.trans hown2)
  have h6 := u_fits hfc hkC hkind (Or.inr hlay) hi hdd hv.1 hv.2
  refine W.putFinK M.1 M.2.1 M.2.2.2.1 (M.2.2.2.2.1 _ hm) hi hst hcf (M.2.2.2.2.2.1.trans hnm) (by rw [q2]; exact h6) q1 q3 (by rw [hsl]; exact k2_hasslot (q4 j hj)) rfl rfl hd fun H' e1 e2 e3 => ?_
  rw [hsl] at e1 ⊢
  exact kk p e R s m args below meth c mc ms Z H' _ cells slots ls M h1 h2 (hH.put hab ⟨_, hc, t_OB.to (V := updV (vp_V fs) j v) ⟨_, e1, q2, q3, t_set q4 hap hj v⟩ (fun i _ => vp_updV_set hl v i)⟩ e2 e3) hL (hS.put e2 e3 hab)
theorem aw_iald {a N : Nat} {f : Nat → Int32} {i : Int32} (hd : decode cc pc = .ok (.iaload, 1)) (hp : pcn = pc + 1) (ha : h a = some (ia N f)) (hi : vp_in i N)
    (kk : AW X l cc own nm rt nL fr scr Q k n pcn L (.int (f i.toNatClampNeg) :: st) h) : AW X l cc own nm rt nL fr scr Q k n pc L (.int i :: .ref a :: st) h := by
  subst hp
  intro p e R s m args below meth c mc ms Z H locs cells slots ls M h1 h2 hH hL hS
  exact va_iald M.1 M.2.1 M.2.2.2.2.2.2.1.1 (hH.one ha) 0 0 (n := N) (f := f) rfl rfl hi hd (kk p e R s m args below meth c mc ms Z H locs cells slots ls M h1 h2 hH hL hS)
theorem aw_iast {a N : Nat} {f : Nat → Int32} {i x : Int32} (hd : decode cc pc = .ok (.iastore, 1)) (hp : pcn = pc + 1) (ha : h a = some (ia N f)) (hi : vp_in i N)
    (kk : AW X l cc own nm rt nL fr scr Q k n pcn L st (hup h a (ia N (upd f i.toNatClampNeg x)))) : AW X l cc own nm rt nL fr scr Q k n pc L (.int x :: .int i :: .ref a :: st) h := by
  subst hp
  intro p e R s m args below meth c mc ms Z H locs cells slots ls M h1 h2 hH hL hS
  have hab := (hH.2 a _ ha).1
  have hK := (M.2.2.2.2.2.2.1.1.2 0 _ rfl).1 N (fun j => .int (f j))
  refine W.iast M.1 M.2.1 (hH.ia ha) hK (fun q => by cases q) (by show ¬ (i < 0 ∨ (arrV _ _ _).slots.size ≤ _); rw [arrV_size]; exact hi) rfl rfl hd fun H1 e0 z oq => ?_
  refine kk p e R s m args below meth c mc ms Z H1 _ cells slots ls M h1 h2 (hH.put hab ?_ z oq) hL (hS.put z oq hab)
  show H1[a]? = some (vp_cell _ _)
  rw [e0, arrV_store]
  show some (arrV (X.2.1 0) N (updV (fun j => Value.int (f j)) i.toNatClampNeg (Value.int x))) = some (arrV (X.2.1 0) N (fun j => .int (upd f i.toNatClampNeg x j)))
  congr 2
  funext q
  by_cases hq : q = i.toNatClampNeg
  · subst hq
    simp [updV, upd]
  · simp [updV, upd, hq]
theorem aw_aald {a t N : Nat} {f : Nat → Option Nat} {i : Int32} (hd : decode cc pc = .ok (.aaload, 1)) (hp : pcn = pc + 1) (ha : h a = some (ra t N f)) (ht : 1 ≤ t ∧ t ≤ 4) (hi : vp_in i N)
    (kk : AW X l cc own nm rt nL fr scr Q k n pcn L (va_rf (f i.toNatClampNeg) :: st) h) : AW X l cc own nm rt nL fr scr Q k n pc L (.int i :: .ref a :: st) h := by
  subst hp
  intro p e R s m args below meth c mc ms Z H locs cells slots ls M h1 h2 hH hL hS
  obtain ⟨r, -, hr2⟩ := akc_ty (X := X) ht.1 ht.2
  exact va_aldq M.1 M.2.1 M.2.2.2.2.2.2.1.1 (hH.one ha) 0 t (n := N) (f := f) rfl hr2 hi hd (kk p e R s m args below meth c mc ms Z H locs cells slots ls M h1 h2 hH hL hS)
theorem aw_aast {a t N v : Nat} {fs : List Value} {f : Nat → Option Nat} {i : Int32} (hd : decode cc pc = .ok (.aastore, 1)) (hp : pcn = pc + 1) (ha : h a = some (ra t N f)) (ht : 1 ≤ t ∧ t ≤ 4) (hi : vp_in i N) (hv : h v = some (ob (akc t) fs))
    (kk : AW X l cc own nm rt nL fr scr Q k n pcn L st (hup h a (ra t N (va_up f i.toNatClampNeg (some v))))) : AW X l cc own nm rt nL fr scr Q k n pc L (.ref v :: .int i :: .ref a :: st) h := by
  subst hp
  intro p e R s m args below meth c mc ms Z H locs cells slots ls M h1 h2 hH hL hS
  have hab := (hH.2 a _ ha).1
  obtain ⟨r, hc, hr2⟩ := akc_ty (X := X) ht.1 ht.2
  have hlt : i.toNatClampNeg < N := Nat.not_le.mp fun q => hi (Or.inr q)
  have h0 : ¬ i < 0 := fun q => hi (Or.inl q)
  obtain ⟨r', hr', cellV, g1, g2, g3, -⟩ := (hH.2 v _ hv).2
  have hcls := (M.2.2.2.2.2.2.1.1.1 (akc t) r hc).2
  obtain ⟨kA, comp, k1, k2, k3, -⟩ := (M.2.2.2.2.2.2.1.1.2 t _ hr2).2
  have hcomp : comp = X.1.1 (akc t) := Option.some.inj (k3.symm.trans hcls.1)
  subst hcomp
  obtain ⟨kC, hkC, -⟩ := id hcls.2
  refine W.aast M.1 M.2.1 (hH.ra ha) (fun q h => by cases h) (fun h => by cases h) k1 k2 rfl hkC ⟨h0, by show _ < (arrV _ _ _).slots.size; rw [arrV_size]; exact hlt⟩ g1 (fun q h => by rw [g3] at h; cases h) (by rw [g2]; exact hkC) (by rw [g2]; exact va_assign hcls) rfl rfl hd fun H1 e0 z oq => ?_
  refine kk p e R s m args below meth c mc ms Z H1 _ cells slots ls M h1 h2 (hH.put hab ?_ z oq) hL (hS.put z oq hab)
  show H1[a]? = some (vp_cell _ _)
  rw [e0, arrV_store]
  show some (arrV (X.2.1 t) N (updV (fun j => va_rf (f j)) i.toNatClampNeg (Value.ref v))) = some (arrV (X.2.1 t) N (fun j => va_rf (va_up f i.toNatClampNeg (some v) j)))
  congr 2
  funext q
  by_cases hq : q = i.toNatClampNeg
  · subst hq
    simp [updV, va_up, va_rf]
  · simp [updV, va_up, hq]
theorem aw_aastN {a t N : Nat} {f : Nat → Option Nat} {i : Int32} (hd : decode cc pc = .ok (.aastore, 1)) (hp : pcn = pc + 1) (ha : h a = some (ra t N f)) (ht : 1 ≤ t ∧ t ≤ 4) (hi : vp_in i N)
    (kk : AW X l cc own nm rt nL fr scr Q k n pcn L st (hup h a (ra t N (va_up f i.toNatClampNeg none)))) : AW X l cc own nm rt nL fr scr Q k n pc L (.null :: .int i :: .ref a :: st) h := by
  subst hp
  intro p e R s m args below meth c mc ms Z H locs cells slots ls M h1 h2 hH hL hS
  have hab := (hH.2 a _ ha).1
  obtain ⟨r, hc, hr2⟩ := akc_ty (X := X) ht.1 ht.2
  refine va_WaastN (C := r.1) M.1 M.2.1 (hH.ra ha) ((M.2.2.2.2.2.2.1.1.2 t _ hr2).1 N (fun j => va_rf (f j))) (fun h => by cases h) (by show ¬ (i < 0 ∨ (arrV _ _ _).slots.size ≤ _); rw [arrV_size]; exact hi) rfl rfl hd fun H1 e0 z oq => ?_
  refine kk p e R s m args below meth c mc ms Z H1 _ cells slots ls M h1 h2 (hH.put hab ?_ z oq) hL (hS.put z oq hab)
  show H1[a]? = some (vp_cell _ _)
  rw [e0, arrV_store]
  show some (arrV (X.2.1 t) N (updV (fun j => va_rf (f j)) i.toNatClampNeg Value.null)) = some (arrV (X.2.1 t) N (fun j => va_rf (va_up f i.toNatClampNeg none j)))
  congr 2
  funext q
  by_cases hq : q = i.toNatClampNeg
  · subst hq
    simp [updV, va_up, va_rf]
  · simp [updV, va_up, hq]
theorem aw_aleni {a N : Nat} {f : Nat → Int32} {v : Int32} (hd : decode cc pc = .ok (.arraylength, 1)) (hp : pcn = pc + 1) (ha : h a = some (ia N f)) (hv : Int32.ofNat N = v)
    (kk : AW X l cc own nm rt nL fr scr Q k n pcn L (.int v :: st) h) : AW X l cc own nm rt nL fr scr Q k n pc L (.ref a :: st) h := by
  subst hp
  intro p e R s m args below meth c mc ms Z H locs cells slots ls M h1 h2 hH hL hS
  exact va_alen M.1 M.2.1 M.2.2.2.2.2.2.1.1 (hH.one ha) 0 0 (x := (N, .inl f)) rfl rfl hv hd (kk p e R s m args below meth c mc ms Z H locs cells slots ls M h1 h2 hH hL hS)
theorem aw_alenr {a t N : Nat} {f : Nat → Option Nat} {v : Int32} (hd : decode cc pc = .ok (.arraylength, 1)) (hp : pcn = pc + 1) (ha : h a = some (ra t N f)) (ht : 1 ≤ t ∧ t ≤ 4) (hv : Int32.ofNat N = v)
    (kk : AW X l cc own nm rt nL fr scr Q k n pcn L (.int v :: st) h) : AW X l cc own nm rt nL fr scr Q k n pc L (.ref a :: st) h := by
  subst hp
  intro p e R s m args below meth c mc ms Z H locs cells slots ls M h1 h2 hH hL hS
  obtain ⟨r, -, hr2⟩ := akc_ty (X := X) ht.1 ht.2
  exact va_alen M.1 M.2.1 M.2.2.2.2.2.2.1.1 (hH.one ha) 0 t (x := (N, .inr (.inr (.inr (.inr f))))) rfl hr2 hv hd (kk p e R s m args below meth c mc ms Z H locs cells slots ls M h1 h2 hH hL hS)
theorem aw_new {idx ci : Nat} {fs : List Value} (N : Nat) (hN : NWK own idx ci fs) (hfl : fs.length = N) (hd : decode cc pc = .ok (.new idx, 3)) (hp : pcn = pc + 3) (hk : 1 ≤ k) (hn : N ≤ n)
    (kk : ∀ a, h a = none → AW X l cc own nm rt nL fr scr Q (k - 1) (n - N) pcn L (.ref a :: st) (hup h a (ob ci fs))) : AW X l cc own nm rt nL fr scr Q k n pc L st h := by
  subst hp
  intro p e R s m args below meth c mc ms Z H locs cells slots ls M h1 h2 hH hL hS
  obtain ⟨C, T, N', hc, hfl', ⟨ty, hty, hfs⟩, w1, w2, w3⟩ := hN
  have hNN : N' = N := hfl'.symm.trans hfl
  subst hNN
  have hKn := M.2.2.2.2.2.2.1.1.1 ci _ hc
  have hw := M.2.2.2.2.1
  have hmc := M.2.2.2.2.2.2.2.2.2.2.1
  have hms := M.2.2.2.2.2.2.2.2.2.2.2.1
  refine W.newcK M.1 M.2.1 M.2.2.2.1 (hw _ w1) (hw _ w2) (hw _ w3) rfl hd (by omega) (by omega) hKn.2.1 rfl fun H1 kC hkC e1 z1 o1 => ?_
  obtain ⟨hnn, hR⟩ := hH.new (c := ob ci fs) ⟨_, hc, (u_born ty hw (cls_ok ci C T N' hc).1 hKn hkC e1 hty).to hfs⟩ z1 o1
  exact kk H.size hnn p e R s m args below meth c mc ms Z H1 locs (cells + 1) (slots + N') ls M (by omega) (by omega) hR hL ⟨Nat.le_trans hS.1 (by omega), fun x g1 g2 => (o1 x (Nat.lt_of_lt_of_le g1 hS.1)).trans (hS.2.1 x g1 g2), hS.2.2⟩
theorem aw_newi {x : Int32} (N : Nat) (hx : x.toNatClampNeg = N) (hx0 : ¬ x < 0) (hb : N * 4 ≤ 536870912) (hw : Cond.arrayClass .int ∈ lw_good) (hd : decode cc pc = .ok (.newarray .int, 2)) (hp : pcn = pc + 2) (hk : 1 ≤ k) (hn : N ≤ n)
    (kk : ∀ a, h a = none → AW X l cc own nm rt nL fr scr Q (k - 1) (n - N) pcn L (.ref a :: st) (hup h a (ia N (fun _ => 0)))) : AW X l cc own nm rt nL fr scr Q k n pc L (.int x :: st) h := by
  subst hp
  intro p e R s m args below meth c mc ms Z H locs cells slots ls M h1 h2 hH hL hS
  have hmc := M.2.2.2.2.2.2.2.2.2.2.1
  have hms := M.2.2.2.2.2.2.2.2.2.2.2.1
  refine va_newaK (atype := .int) M.1 M.2.1 (M.2.2.2.2.1 _ hw) rfl hd rfl hx0 hx hb (by omega) (by omega) rfl fun H1 cA e1 z1 o1 hAr hNm => ?_
  have hcA : cA = X.2.1 0 := Option.some.inj (hNm.symm.trans (M.2.2.2.2.2.2.1.1.2 0 _ rfl).2)
  subst hcA
  obtain ⟨hnn, hR⟩ := hH.new (c := ia N (fun _ => 0)) e1 z1 o1
  exact kk H.size hnn p e R s m args below meth c mc ms Z H1 locs (cells + 1) (slots + N) ls M (by omega) (by omega) hR hL ⟨Nat.le_trans hS.1 (by omega), fun x g1 g2 => (o1 x (Nat.lt_of_lt_of_le g1 hS.1)).trans (hS.2.1 x g1 g2), hS.2.2⟩
theorem GX.ao {X : XG} {s : State} (hG : GX X s) {t : Nat} (ht : 1 ≤ t ∧ t ≤ 4) {r : vw_C} (hc : vwCl[akc t]? = some r) : va_AO r.1 s := by
  match t, ht.1, ht.2 with
  | 1, _, _ => cases hc; exact hG.2.2.1
  | 2, _, _ => cases hc; exact hG.2.2.2.1
  | 3, _, _ => cases hc; exact hG.2.2.2.2.1
  | 4, _, _ => cases hc; exact hG.2.2.2.2.2
def NRK (own : String) (idx t : Nat) : Prop := ∃ r : vw_C, vwCl[akc t]? = some r ∧ Cond.classLink own idx r.1 ∈ lw_good
theorem aw_newr {x : Int32} {idx t : Nat} (N : Nat) (hx : x.toNatClampNeg = N) (hx0 : ¬ x < 0) (hb : N * 4 ≤ 536870912) (ht : 1 ≤ t ∧ t ≤ 4) (hw : NRK own idx t) (hd : decode cc pc = .ok (.anewarray idx, 3)) (hp : pcn = pc + 3) (hk : 1 ≤ k) (hn : N ≤ n)
    (kk : ∀ a, h a = none → AW X l cc own nm rt nL fr scr Q (k - 1) (n - N) pcn L (.ref a :: st) (hup h a (ra t N (fun _ => none)))) : AW X l cc own nm rt nL fr scr Q k n pc L (.int x :: st) h := by
  subst hp
  subst hx
  intro p e R s m args below meth c mc ms Z H locs cells slots ls M h1 h2 hH hL hS
  obtain ⟨r, hc, hcl⟩ := hw
  obtain ⟨r', hc', hr2⟩ := akc_ty (X := X) ht.1 ht.2
  cases hc.symm.trans hc'
  have hmc := M.2.2.2.2.2.2.2.2.2.2.1
  have hms := M.2.2.2.2.2.2.2.2.2.2.2.1
  refine W.anew M.1 M.2.1 M.2.2.2.1 (M.2.2.2.2.1 _ hcl) (va_AO.use (M.2.2.2.2.2.2.1.ao ht hc)) rfl hd rfl hx0 hb (by omega) (by omega) fun cA kA comp f1 f2 f3 f4 => ?_
  obtain ⟨kA', comp', g1, g2, g3, g4⟩ := (M.2.2.2.2.2.2.1.1.2 t _ hr2).2
  have hcA : cA = X.2.1 t := Option.some.inj (f1.symm.trans g4)
  subst hcA
  generalize hH1 : H.push ({ cls := X.2.1 t, slots := Array.replicate x.toNatClampNeg .null, vm := .none } : Cell) = H1
  have z1 : H1.size = H.size + 1 := by rw [← hH1, Array.size_push]
  have e1 : H1[H.size]? = some (arrV (X.2.1 t) x.toNatClampNeg (fun _ => .null)) := by rw [← hH1, Array.getElem?_push_size, ← arrV_new]
  have o1 : ∀ q : Nat, q < H.size → H1[q]? = H[q]? := fun q hq => by rw [← hH1, Array.getElem?_push, if_neg (Nat.ne_of_lt hq)]
  obtain ⟨hnn, hR⟩ := hH.new (c := ra t x.toNatClampNeg (fun _ => none)) e1 z1 o1
  exact kk H.size hnn p e R s m args below meth c mc ms Z H1 locs (cells + 1) (slots + x.toNatClampNeg) ls M (by omega) (by omega) hR hL ⟨Nat.le_trans hS.1 (by omega), fun x g1 g2 => (o1 x (Nat.lt_of_lt_of_le g1 hS.1)).trans (hS.2.1 x g1 g2), hS.2.2⟩
theorem aw_sald {b Ln : Nat} {xs : Nat → Int32} {i : Int32} (hs : scr = some (b, Ln, xs)) (hd : decode cc pc = .ok (.iaload, 1)) (hp : pcn = pc + 1) (hi : vp_in i Ln)
    (kk : AW X l cc own nm rt nL fr scr Q k n pcn L (.int (xs i.toNatClampNeg) :: st) h) : AW X l cc own nm rt nL fr scr Q k n pc L (.int i :: .ref b :: st) h := by
  subst hp
  intro p e R s m args below meth c mc ms Z H locs cells slots ls M h1 h2 hH hL hS
  obtain ⟨g1, g2, g3⟩ := M.2.2.2.2.2.2.2.2.2.2.2.2.1 b Ln xs hs
  exact va_sld M.1 M.2.1 g1 g2 (Nat.not_le.mpr g3) hS hi hd (kk p e R s m args below meth c mc ms Z H locs cells slots ls M h1 h2 hH hL hS)
theorem aw_slen {b Ln : Nat} {xs : Nat → Int32} {v : Int32} (hs : scr = some (b, Ln, xs)) (hd : decode cc pc = .ok (.arraylength, 1)) (hp : pcn = pc + 1) (hv : Int32.ofNat Ln = v)
    (kk : AW X l cc own nm rt nL fr scr Q k n pcn L (.int v :: st) h) : AW X l cc own nm rt nL fr scr Q k n pc L (.ref b :: st) h := by
  subst hp
  subst hv
  intro p e R s m args below meth c mc ms Z H locs cells slots ls M h1 h2 hH hL hS
  obtain ⟨g1, g2, g3⟩ := M.2.2.2.2.2.2.2.2.2.2.2.2.1 b Ln xs hs
  exact va_slen M.1 M.2.1 g1 g2 (Nat.not_le.mpr g3) hS hd (kk p e R s m args below meth c mc ms Z H locs cells slots ls M h1 h2 hH hL hS)
theorem aw_obj {idx a : Nat} (hm : Cond.methodLink own idx objectInit ∈ lw_good) (hf : 1 ≤ fr) (hr : st.length ≤ 4) (hd : decode cc pc = .ok (.invokespecial idx, 3)) (hp : pcn = pc + 3)
    (kk : AW X l cc own nm rt nL fr scr Q k n pcn L st h) : AW X l cc own nm rt nL fr scr Q k n pc L (.ref a :: st) h := by
  subst hp
  intro p e R s m args below meth c mc ms Z H locs cells slots ls M h1 h2 hH hL hS
  have w1 : Cond.instanceMethod objectInit ∈ lw_good := obj_w1
  have w2 : Cond.code objectInit ⟨#[0xb1]⟩ 1 none ∈ lw_good := obj_w2
  have hw := M.2.2.2.2.1
  have f1 := M.2.2.2.2.2.2.2.1
  have f2 := M.2.2.2.2.2.2.2.2.1
  have hsum := cat_sum hr
  refine W.objInit M.1 M.2.1 M.2.2.2.1 (hw _ hm) (hw _ w1) (hw _ w2) rfl (hL.1.trans M.2.2.1.symm) rfl hd (by omega) (by show 2 * 0 + _ + 12 ≤ _; omega) ?_
  exact W.eq (g2 := F0 m (pc + 3) ls st) rfl (kk p e R s m args below meth c mc ms Z H locs cells slots ls M h1 h2 hH hL hS)
/-! calls -/
theorem aw_go {Q1 : Post} {mc1 ms1 : Nat} {rest : List Value} {p : Program} {e : Env} {R : Room} {s : State} {m : MethodId} {args : Array Value} {below : List Frame} {meth : Method} {c : Code} {mc ms : Nat} {Z : State → Prop} {H : Heap} {locs : List Loc} {cells slots : Nat} {ls : Array Slot}
    (hr : va_Run p l e R s m args below meth c H locs cells slots mc1 ms1 (F0 m pc ls st) rest (fun st o t => (∃ v h', o = .returned v ∧ Q1 v h' ∧ HR X h' t.heap) ∧ va_F (fun q => X.2.2 ≤ q) st t) (fun q => X.2.2 ≤ q))
    (M : MX X l cc own nm rt nL fr scr Q p e R s m args below meth c mc ms Z) (h1 : cells + k ≤ mc) (h2 : slots + n ≤ ms) (hH : HR X h H) (hL : LH ls nL L) (hS : va_S (fun q => X.2.2 ≤ q) s.heap H locs) (hk : mc1 ≤ k) (hn : ms1 ≤ n)
    (kk : ∀ v h', Q1 v h' → AW X l cc own nm rt nL fr scr Q (k - mc1) (n - ms1) (pc + 3) L (v.toList ++ rest) h') : W p l e R s m args below meth c H locs cells slots Z (F0 m pc ls st) := by
  intro T hT X2
  obtain ⟨v, st₀, t, T', Lc, h0, X', hLc, e1, e2, ⟨⟨v', h', hv, hq, hR⟩, hz, hkk⟩, hst⟩ := hr T hT X2
  cases hv
  rw [h0] at hz hkk
  obtain ⟨t2, a1, b1⟩ := kk v h' hq p e R s m args below meth c mc ms Z T'.heap (locs ++ Lc) (cells + mc1) (slots + ms1) ls M (by omega) (by omega) (by rw [e1]; exact hR) hL
    ⟨Nat.le_trans hS.1 (by rw [e1]; exact hz), fun q g1 g2 => by rw [e1, hkk q (Nat.lt_of_lt_of_le g1 hS.1) g2]; exact hS.2.1 q g1 g2, fun q hq => by
      rcases List.mem_append.mp hq with g | g
      · exact hS.2.2 q g
      · exact hLc q g⟩ T' rfl X'
  exact ⟨t2, hst t2 a1, b1⟩
/-- a method's words -/
def MFK (y : MethodName) (cy : ByteArray) (nLy : Nat) (rty : Option FieldType) (np : Nat) : Prop := Cond.initialized y.cls ∈ lw_good ∧ Cond.code y cy nLy rty ∈ lw_good ∧ (y.cls ≠ "java/lang/invoke/MethodHandle" ∧ y.cls ≠ "java/lang/invoke/VarHandle") ∧ (parseMethodDescriptor y.desc).map (fun d => d.parameters.length) = some np ∧ nLy ≤ 22
def MVK (y : MethodName) : Prop := Cond.instanceMethod y ∈ lw_good ∧ Cond.selects y.cls y y ∈ lw_good
theorem pre_blind {X : XG} {as : List Value} {h : Hp} : FrameBlind (va_Pc as (fun U => HR X h U.heap ∧ GX X U)) := fun _ _ _ _ q => ⟨q.1, q.2.1, GX.vm rfl q.2.2⟩
theorem MFK.len {y : MethodName} {cy : ByteArray} {nLy np : Nat} {rty : Option FieldType} (F : MFK y cy nLy rty np) : ∀ sig, parseMethodDescriptor y.desc = some sig → np = sig.parameters.length := fun sig hs => by
  have q := F.2.2.2.1
  rw [hs] at q
  exact (Option.some.inj q).symm
theorem words_in {y : MethodName} {cy : ByteArray} {nLy np : Nat} {rty : Option FieldType} (F : MFK y cy nLy rty np) {s : State} {args : Array Value} (hw : ∀ w ∈ lw_good, w.before args s = true) : ∀ w ∈ (Cond.code y cy nLy rty :: lw_good), ∀ (a' : Array Value) (U : State), s.WarmedH U.vm → w.before a' U = true :=
  pay_in hw (goodIn_gg (fun w q => by
    rcases List.mem_cons.mp q with q | q
    · rw [q]; exact F.2.1
    · exact q))

theorem aw_Vi {b : Nat} {idx d mc1 ms1 nLy np : Nat} {y : MethodName} {cy : ByteArray} {rty : Option FieldType} {as rest : List Value} {P : Int32 → Hp → Prop} (hM : AM X l y cy nLy rty d mc1 ms1 (.ref b :: as) h (qi P)) (hF : MFK y cy nLy rty np) (hV : MVK y) {ci : Nat} {fs : List Value} (hb : h b = some (ob ci fs)) (hc : (vwCl[ci]?).map (fun q => q.1) = some y.cls) (hm : Cond.methodLink own idx y ∈ lw_good) (hnp : as.length = np) (hfr : d + 1 ≤ fr) (hk : mc1 ≤ k) (hn : ms1 ≤ n) (hr : rest.length ≤ 4) (hst : st = as.reverse ++ .ref b :: rest) (hd : decode cc pc = .ok (.invokevirtual idx, 3)) (hp : pcn = pc + 3)
    (kk : ∀ r h', P r h' → AW X l cc own nm rt nL fr scr Q (k - mc1) (n - ms1) pcn L (.int r :: rest) h') : AW X l cc own nm rt nL fr scr Q k n pc L st h := by
  subst hp
  intro p e R s m args below meth c mc ms Z H locs cells slots ls M h1 h2 hH hL hS
  have hw := M.2.2.2.2.1
  have hG := M.2.2.2.2.2.2.1
  have f1 := M.2.2.2.2.2.2.2.1
  have f2 := M.2.2.2.2.2.2.2.2.1
  have hmc := M.2.2.2.2.2.2.2.2.2.2.1
  have hms := M.2.2.2.2.2.2.2.2.2.2.2.1
  have h22 := hF.2.2.2.2
  have hsum := cat_sum hr
  have hrecv : ∃ cell : Cell, H[b]? = some cell ∧ cell.vm.isStatics = false ∧ s.vm.findClass y.cls = some cell.cls := by
    cases hq : vwCl[ci]? with
    | none => rw [hq] at hc; cases hc
    | some q =>
      rw [hq] at hc
      have := va_recv hG.1 (hH.one hb) (q0 := 0) hq rfl
      have hc2 : q.1 = y.cls := Option.some.inj hc
      rw [hc2] at this
      exact this
  refine aw_go (va_runV (C := y.cls) (As := as) (rest := rest) ⟨M.1, M.2.1, M.2.2.1, M.2.2.2.1, hw⟩ hM ⟨⟨rfl, rfl, show d + 1 ≤ R.frames by omega, show 8 + (nLy + 11) + 41 * d ≤ R.locals by omega, words_in hF hw, List.mem_cons_self, hw _ hF.2.1, hw _ hF.1, hF.2.2.1, hF.len, hw _ hm⟩, hw _ hV.1, hw _ hV.2⟩ ⟨pre_blind, hrecv, fun U hU hW => ⟨rfl, by rw [hU]; exact hH, hG.warm hW⟩⟩ rfl hnp hL.1 hst (by show 2 * 0 + _ ≤ 8; omega) hd ⟨by omega, by omega⟩) M h1 h2 hH hL hS hk hn ?_
  intro v h' q
  obtain ⟨r, rfl, q2⟩ := q
  exact kk r h' q2
theorem aw_Vv {b : Nat} {idx d mc1 ms1 nLy np : Nat} {y : MethodName} {cy : ByteArray} {rty : Option FieldType} {as rest : List Value} {P : Hp → Prop} (hM : AM X l y cy nLy rty d mc1 ms1 (.ref b :: as) h (qv P)) (hF : MFK y cy nLy rty np) (hV : MVK y) {ci : Nat} {fs : List Value} (hb : h b = some (ob ci fs)) (hc : (vwCl[ci]?).map (fun q => q.1) = some y.cls) (hm : Cond.methodLink own idx y ∈ lw_good) (hnp : as.length = np) (hfr : d + 1 ≤ fr) (hk : mc1 ≤ k) (hn : ms1 ≤ n) (hr : rest.length ≤ 4) (hst : st = as.reverse ++ .ref b :: rest) (hd : decode cc pc = .ok (.invokevirtual idx, 3)) (hp : pcn = pc + 3)
    (kk : ∀ h', P h' → AW X l cc own nm rt nL fr scr Q (k - mc1) (n - ms1) pcn L rest h') : AW X l cc own nm rt nL fr scr Q k n pc L st h := by
  subst hp
  intro p e R s m args below meth c mc ms Z H locs cells slots ls M h1 h2 hH hL hS
  have hw := M.2.2.2.2.1
  have hG := M.2.2.2.2.2.2.1
  have f1 := M.2.2.2.2.2.2.2.1
  have f2 := M.2.2.2.2.2.2.2.2.1
  have hmc := M.2.2.2.2.2.2.2.2.2.2.1
  have hms := M.2.2.2.2.2.2.2.2.2.2.2.1
  have h22 := hF.2.2.2.2
  have hsum := cat_sum hr
  have hrecv : ∃ cell : Cell, H[b]? = some cell ∧ cell.vm.isStatics = false ∧ s.vm.findClass y.cls = some cell.cls := by
    cases hq : vwCl[ci]? with
    | none => rw [hq] at hc; cases hc
    | some q =>
      rw [hq] at hc
      have := va_recv hG.1 (hH.one hb) (q0 := 0) hq rfl
      have hc2 : q.1 = y.cls := Option.some.inj hc
      rw [hc2] at this
      exact this
  refine aw_go (va_runV (C := y.cls) (As := as) (rest := rest) ⟨M.1, M.2.1, M.2.2.1, M.2.2.2.1, hw⟩ hM ⟨⟨rfl, rfl, show d + 1 ≤ R.frames by omega, show 8 + (nLy + 11) + 41 * d ≤ R.locals by omega, words_in hF hw, List.mem_cons_self, hw _ hF.2.1, hw _ hF.1, hF.2.2.1, hF.len, hw _ hm⟩, hw _ hV.1, hw _ hV.2⟩ ⟨pre_blind, hrecv, fun U hU hW => ⟨rfl, by rw [hU]; exact hH, hG.warm hW⟩⟩ rfl hnp hL.1 hst (by show 2 * 0 + _ ≤ 8; omega) hd ⟨by omega, by omega⟩) M h1 h2 hH hL hS hk hn ?_
  intro v h' q
  obtain ⟨rfl, q2⟩ := q
  exact kk h' q2
theorem aw_Vr {b : Nat} {idx d mc1 ms1 nLy np : Nat} {y : MethodName} {cy : ByteArray} {rty : Option FieldType} {as rest : List Value} {P : Option Nat → Hp → Prop} (hM : AM X l y cy nLy rty d mc1 ms1 (.ref b :: as) h (qr P)) (hF : MFK y cy nLy rty np) (hV : MVK y) {ci : Nat} {fs : List Value} (hb : h b = some (ob ci fs)) (hc : (vwCl[ci]?).map (fun q => q.1) = some y.cls) (hm : Cond.methodLink own idx y ∈ lw_good) (hnp : as.length = np) (hfr : d + 1 ≤ fr) (hk : mc1 ≤ k) (hn : ms1 ≤ n) (hr : rest.length ≤ 4) (hst : st = as.reverse ++ .ref b :: rest) (hd : decode cc pc = .ok (.invokevirtual idx, 3)) (hp : pcn = pc + 3)
    (kk : ∀ r h', P r h' → AW X l cc own nm rt nL fr scr Q (k - mc1) (n - ms1) pcn L (va_rf r :: rest) h') : AW X l cc own nm rt nL fr scr Q k n pc L st h := by
  subst hp
  intro p e R s m args below meth c mc ms Z H locs cells slots ls M h1 h2 hH hL hS
  have hw := M.2.2.2.2.1
  have hG := M.2.2.2.2.2.2.1
  have f1 := M.2.2.2.2.2.2.2.1
  have f2 := M.2.2.2.2.2.2.2.2.1
  have hmc := M.2.2.2.2.2.2.2.2.2.2.1
  have hms := M.2.2.2.2.2.2.2.2.2.2.2.1
  have h22 := hF.2.2.2.2
  have hsum := cat_sum hr
  have hrecv : ∃ cell : Cell, H[b]? = some cell ∧ cell.vm.isStatics = false ∧ s.vm.findClass y.cls = some cell.cls := by
    cases hq : vwCl[ci]? with
    | none => rw [hq] at hc; cases hc
    | some q =>
      rw [hq] at hc
      have := va_recv hG.1 (hH.one hb) (q0 := 0) hq rfl
      have hc2 : q.1 = y.cls := Option.some.inj hc
      rw [hc2] at this
      exact this
  refine aw_go (va_runV (C := y.cls) (As := as) (rest := rest) ⟨M.1, M.2.1, M.2.2.1, M.2.2.2.1, hw⟩ hM ⟨⟨rfl, rfl, show d + 1 ≤ R.frames by omega, show 8 + (nLy + 11) + 41 * d ≤ R.locals by omega, words_in hF hw, List.mem_cons_self, hw _ hF.2.1, hw _ hF.1, hF.2.2.1, hF.len, hw _ hm⟩, hw _ hV.1, hw _ hV.2⟩ ⟨pre_blind, hrecv, fun U hU hW => ⟨rfl, by rw [hU]; exact hH, hG.warm hW⟩⟩ rfl hnp hL.1 hst (by show 2 * 0 + _ ≤ 8; omega) hd ⟨by omega, by omega⟩) M h1 h2 hH hL hS hk hn ?_
  intro v h' q
  obtain ⟨r, rfl, q2⟩ := q
  exact kk r h' q2
theorem aw_VNi {b : Nat} {idx d mc1 ms1 nLy np : Nat} {y : MethodName} {cy : ByteArray} {rty : Option FieldType} {as rest : List Value} {P : Int32 → Hp → Prop} (hM : AM X l y cy nLy rty d mc1 ms1 (.ref b :: as) h (qi P)) (hF : MFK y cy nLy rty np) (hV : MVK y) {ci : Nat} {fs : List Value} (hb : h b = some (ob ci fs)) (hc : (vwCl[ci]?).map (fun q => q.1) = some y.cls) {host : String} (hm : Cond.methodLinkNest own idx y host ∈ lw_tbl) (hnp : as.length = np) (hfr : d + 1 ≤ fr) (hk : mc1 ≤ k) (hn : ms1 ≤ n) (hr : rest.length ≤ 4) (hst : st = as.reverse ++ .ref b :: rest) (hd : decode cc pc = .ok (.invokevirtual idx, 3)) (hp : pcn = pc + 3)
    (kk : ∀ r h', P r h' → AW X l cc own nm rt nL fr scr Q (k - mc1) (n - ms1) pcn L (.int r :: rest) h') : AW X l cc own nm rt nL fr scr Q k n pc L st h := by
  subst hp
  intro p e R s m args below meth c mc ms Z H locs cells slots ls M h1 h2 hH hL hS
  have hw := M.2.2.2.2.1
  have hG := M.2.2.2.2.2.2.1
  have f1 := M.2.2.2.2.2.2.2.1
  have f2 := M.2.2.2.2.2.2.2.2.1
  have hmc := M.2.2.2.2.2.2.2.2.2.2.1
  have hms := M.2.2.2.2.2.2.2.2.2.2.2.1
  have h22 := hF.2.2.2.2
  have hsum := cat_sum hr
  have hrecv : ∃ cell : Cell, H[b]? = some cell ∧ cell.vm.isStatics = false ∧ s.vm.findClass y.cls = some cell.cls := by
    cases hq : vwCl[ci]? with
    | none => rw [hq] at hc; cases hc
    | some q =>
      rw [hq] at hc
      have := va_recv hG.1 (hH.one hb) (q0 := 0) hq rfl
      have hc2 : q.1 = y.cls := Option.some.inj hc
      rw [hc2] at this
      exact this
  refine aw_go (va_runVN (C := y.cls) (As := as) (rest := rest) ⟨M.1, M.2.1, M.2.2.1, M.2.2.2.1, hw⟩ hM ⟨⟨⟨rfl, rfl, show d + 1 ≤ R.frames by omega, show 8 + (nLy + 11) + 41 * d ≤ R.locals by omega, words_in hF hw, List.mem_cons_self⟩, hw _ hF.2.1, hw _ hF.1, hF.2.2.1, hF.len, va_Nw.use rfl (hG.2.1 _ _ _ _ hm)⟩, hw _ hV.1, hw _ hV.2⟩ ⟨pre_blind, hrecv, fun U hU hW => ⟨rfl, by rw [hU]; exact hH, hG.warm hW⟩⟩ rfl hnp hL.1 hst (by show 2 * 0 + _ ≤ 8; omega) hd ⟨by omega, by omega⟩) M h1 h2 hH hL hS hk hn ?_
  intro v h' q
  obtain ⟨r, rfl, q2⟩ := q
  exact kk r h' q2
theorem aw_VNv {b : Nat} {idx d mc1 ms1 nLy np : Nat} {y : MethodName} {cy : ByteArray} {rty : Option FieldType} {as rest : List Value} {P : Hp → Prop} (hM : AM X l y cy nLy rty d mc1 ms1 (.ref b :: as) h (qv P)) (hF : MFK y cy nLy rty np) (hV : MVK y) {ci : Nat} {fs : List Value} (hb : h b = some (ob ci fs)) (hc : (vwCl[ci]?).map (fun q => q.1) = some y.cls) {host : String} (hm : Cond.methodLinkNest own idx y host ∈ lw_tbl) (hnp : as.length = np) (hfr : d + 1 ≤ fr) (hk : mc1 ≤ k) (hn : ms1 ≤ n) (hr : rest.length ≤ 4) (hst : st = as.reverse ++ .ref b :: rest) (hd : decode cc pc = .ok (.invokevirtual idx, 3)) (hp : pcn = pc + 3)
    (kk : ∀ h', P h' → AW X l cc own nm rt nL fr scr Q (k - mc1) (n - ms1) pcn L rest h') : AW X l cc own nm rt nL fr scr Q k n pc L st h := by
  subst hp
  intro p e R s m args below meth c mc ms Z H locs cells slots ls M h1 h2 hH hL hS
  have hw := M.2.2.2.2.1
  have hG := M.2.2.2.2.2.2.1
  have f1 := M.2.2.2.2.2.2.2.1
  have f2 := M.2.2.2.2.2.2.2.2.1
  have hmc := M.2.2.2.2.2.2.2.2.2.2.1
  have hms := M.2.2.2.2.2.2.2.2.2.2.2.1
  have h22 := hF.2.2.2.2
  have hsum := cat_sum hr
  have hrecv : ∃ cell : Cell, H[b]? = some cell ∧ cell.vm.isStatics = false ∧ s.vm.findClass y.cls = some cell.cls := by
    cases hq : vwCl[ci]? with
    | none => rw [hq] at hc; cases hc
    | some q =>
      rw [hq] at hc
      have := va_recv hG.1 (hH.one hb) (q0 := 0) hq rfl
      have hc2 : q.1 = y.cls := Option.some.inj hc
      rw [hc2] at this
      exact this
  refine aw_go (va_runVN (C := y.cls) (As := as) (rest := rest) ⟨M.1, M.2.1, M.2.2.1, M.2.2.2.1, hw⟩ hM ⟨⟨⟨rfl, rfl, show d + 1 ≤ R.frames by omega, show 8 + (nLy + 11) + 41 * d ≤ R.locals by omega, words_in hF hw, List.mem_cons_self⟩, hw _ hF.2.1, hw _ hF.1, hF.2.2.1, hF.len, va_Nw.use rfl (hG.2.1 _ _ _ _ hm)⟩, hw _ hV.1, hw _ hV.2⟩ ⟨pre_blind, hrecv, fun U hU hW => ⟨rfl, by rw [hU]; exact hH, hG.warm hW⟩⟩ rfl hnp hL.1 hst (by show 2 * 0 + _ ≤ 8; omega) hd ⟨by omega, by omega⟩) M h1 h2 hH hL hS hk hn ?_
  intro v h' q
  obtain ⟨rfl, q2⟩ := q
  exact kk h' q2
theorem aw_VNr {b : Nat} {idx d mc1 ms1 nLy np : Nat} {y : MethodName} {cy : ByteArray} {rty : Option FieldType} {as rest : List Value} {P : Option Nat → Hp → Prop} (hM : AM X l y cy nLy rty d mc1 ms1 (.ref b :: as) h (qr P)) (hF : MFK y cy nLy rty np) (hV : MVK y) {ci : Nat} {fs : List Value} (hb : h b = some (ob ci fs)) (hc : (vwCl[ci]?).map (fun q => q.1) = some y.cls) {host : String} (hm : Cond.methodLinkNest own idx y host ∈ lw_tbl) (hnp : as.length = np) (hfr : d + 1 ≤ fr) (hk : mc1 ≤ k) (hn : ms1 ≤ n) (hr : rest.length ≤ 4) (hst : st = as.reverse ++ .ref b :: rest) (hd : decode cc pc = .ok (.invokevirtual idx, 3)) (hp : pcn = pc + 3)
    (kk : ∀ r h', P r h' → AW X l cc own nm rt nL fr scr Q (k - mc1) (n - ms1) pcn L (va_rf r :: rest) h') : AW X l cc own nm rt nL fr scr Q k n pc L st h := by
  subst hp
  intro p e R s m args below meth c mc ms Z H locs cells slots ls M h1 h2 hH hL hS
  have hw := M.2.2.2.2.1
  have hG := M.2.2.2.2.2.2.1
  have f1 := M.2.2.2.2.2.2.2.1
  have f2 := M.2.2.2.2.2.2.2.2.1
  have hmc := M.2.2.2.2.2.2.2.2.2.2.1
  have hms := M.2.2.2.2.2.2.2.2.2.2.2.1
  have h22 := hF.2.2.2.2
  have hsum := cat_sum hr
  have hrecv : ∃ cell : Cell, H[b]? = some cell ∧ cell.vm.isStatics = false ∧ s.vm.findClass y.cls = some cell.cls := by
    cases hq : vwCl[ci]? with
    | none => rw [hq] at hc; cases hc
    | some q =>
      rw [hq] at hc
      have := va_recv hG.1 (hH.one hb) (q0 := 0) hq rfl
      have hc2 : q.1 = y.cls := Option.some.inj hc
      rw [hc2] at this
      exact this
  refine aw_go (va_runVN (C := y.cls) (As := as) (rest := rest) ⟨M.1, M.2.1, M.2.2.1, M.2.2.2.1, hw⟩ hM ⟨⟨⟨rfl, rfl, show d + 1 ≤ R.frames by omega, show 8 + (nLy + 11) + 41 * d ≤ R.locals by omega, words_in hF hw, List.mem_cons_self⟩, hw _ hF.2.1, hw _ hF.1, hF.2.2.1, hF.len, va_Nw.use rfl (hG.2.1 _ _ _ _ hm)⟩, hw _ hV.1, hw _ hV.2⟩ ⟨pre_blind, hrecv, fun U hU hW => ⟨rfl, by rw [hU]; exact hH, hG.warm hW⟩⟩ rfl hnp hL.1 hst (by show 2 * 0 + _ ≤ 8; omega) hd ⟨by omega, by omega⟩) M h1 h2 hH hL hS hk hn ?_
  intro v h' q
  obtain ⟨r, rfl, q2⟩ := q
  exact kk r h' q2
theorem aw_Si {idx d mc1 ms1 nLy np : Nat} {y : MethodName} {cy : ByteArray} {rty : Option FieldType} {as rest : List Value} {P : Int32 → Hp → Prop} (hM : AM X l y cy nLy rty d mc1 ms1 as h (qi P)) (hF : MFK y cy nLy rty np) (hV : Cond.static y ∈ lw_good) (hm : Cond.methodLink own idx y ∈ lw_good) (hnp : as.length = np) (hfr : d + 1 ≤ fr) (hk : mc1 ≤ k) (hn : ms1 ≤ n) (hr : rest.length ≤ 4) (hst : st = as.reverse ++ rest) (hd : decode cc pc = .ok (.invokestatic idx, 3)) (hp : pcn = pc + 3)
    (kk : ∀ r h', P r h' → AW X l cc own nm rt nL fr scr Q (k - mc1) (n - ms1) pcn L (.int r :: rest) h') : AW X l cc own nm rt nL fr scr Q k n pc L st h := by
  subst hp
  intro p e R s m args below meth c mc ms Z H locs cells slots ls M h1 h2 hH hL hS
  have hw := M.2.2.2.2.1
  have hG := M.2.2.2.2.2.2.1
  have f1 := M.2.2.2.2.2.2.2.1
  have f2 := M.2.2.2.2.2.2.2.2.1
  have hmc := M.2.2.2.2.2.2.2.2.2.2.1
  have hms := M.2.2.2.2.2.2.2.2.2.2.2.1
  have h22 := hF.2.2.2.2
  have hsum := cat_sum hr
  refine aw_go (va_runS (As := as) (rest := rest) ⟨M.1, M.2.1, M.2.2.1, M.2.2.2.1, hw⟩ hM ⟨⟨rfl, rfl, show d + 1 ≤ R.frames by omega, show 8 + (nLy + 11) + 41 * d ≤ R.locals by omega, words_in hF hw, List.mem_cons_self, hw _ hF.2.1, hw _ hF.1, hF.2.2.1, hF.len, hw _ hm⟩, hw _ hV⟩ ⟨pre_blind, fun U hU hW => ⟨rfl, by rw [hU]; exact hH, hG.warm hW⟩⟩ rfl hnp hL.1 hst (by show 2 * 0 + _ ≤ 8; omega) hd ⟨by omega, by omega⟩) M h1 h2 hH hL hS hk hn ?_
  intro v h' q
  obtain ⟨r, rfl, q2⟩ := q
  exact kk r h' q2
theorem aw_Sv {idx d mc1 ms1 nLy np : Nat} {y : MethodName} {cy : ByteArray} {rty : Option FieldType} {as rest : List Value} {P : Hp → Prop} (hM : AM X l y cy nLy rty d mc1 ms1 as h (qv P)) (hF : MFK y cy nLy rty np) (hV : Cond.static y ∈ lw_good) (hm : Cond.methodLink own idx y ∈ lw_good) (hnp : as.length = np) (hfr : d + 1 ≤ fr) (hk : mc1 ≤ k) (hn : ms1 ≤ n) (hr : rest.length ≤ 4) (hst : st = as.reverse ++ rest) (hd : decode cc pc = .ok (.invokestatic idx, 3)) (hp : pcn = pc + 3)
    (kk : ∀ h', P h' → AW X l cc own nm rt nL fr scr Q (k - mc1) (n - ms1) pcn L rest h') : AW X l cc own nm rt nL fr scr Q k n pc L st h := by
  subst hp
  intro p e R s m args below meth c mc ms Z H locs cells slots ls M h1 h2 hH hL hS
  have hw := M.2.2.2.2.1
  have hG := M.2.2.2.2.2.2.1
  have f1 := M.2.2.2.2.2.2.2.1
  have f2 := M.2.2.2.2.2.2.2.2.1
  have hmc := M.2.2.2.2.2.2.2.2.2.2.1
  have hms := M.2.2.2.2.2.2.2.2.2.2.2.1
  have h22 := hF.2.2.2.2
  have hsum := cat_sum hr
  refine aw_go (va_runS (As := as) (rest := rest) ⟨M.1, M.2.1, M.2.2.1, M.2.2.2.1, hw⟩ hM ⟨⟨rfl, rfl, show d + 1 ≤ R.frames by omega, show 8 + (nLy + 11) + 41 * d ≤ R.locals by omega, words_in hF hw, List.mem_cons_self, hw _ hF.2.1, hw _ hF.1, hF.2.2.1, hF.len, hw _ hm⟩, hw _ hV⟩ ⟨pre_blind, fun U hU hW => ⟨rfl, by rw [hU]; exact hH, hG.warm hW⟩⟩ rfl hnp hL.1 hst (by show 2 * 0 + _ ≤ 8; omega) hd ⟨by omega, by omega⟩) M h1 h2 hH hL hS hk hn ?_
  intro v h' q
  obtain ⟨rfl, q2⟩ := q
  exact kk h' q2
theorem aw_Sr {idx d mc1 ms1 nLy np : Nat} {y : MethodName} {cy : ByteArray} {rty : Option FieldType} {as rest : List Value} {P : Option Nat → Hp → Prop} (hM : AM X l y cy nLy rty d mc1 ms1 as h (qr P)) (hF : MFK y cy nLy rty np) (hV : Cond.static y ∈ lw_good) (hm : Cond.methodLink own idx y ∈ lw_good) (hnp : as.length = np) (hfr : d + 1 ≤ fr) (hk : mc1 ≤ k) (hn : ms1 ≤ n) (hr : rest.length ≤ 4) (hst : st = as.reverse ++ rest) (hd : decode cc pc = .ok (.invokestatic idx, 3)) (hp : pcn = pc + 3)
    (kk : ∀ r h', P r h' → AW X l cc own nm rt nL fr scr Q (k - mc1) (n - ms1) pcn L (va_rf r :: rest) h') : AW X l cc own nm rt nL fr scr Q k n pc L st h := by
  subst hp
  intro p e R s m args below meth c mc ms Z H locs cells slots ls M h1 h2 hH hL hS
  have hw := M.2.2.2.2.1
  have hG := M.2.2.2.2.2.2.1
  have f1 := M.2.2.2.2.2.2.2.1
  have f2 := M.2.2.2.2.2.2.2.2.1
  have hmc := M.2.2.2.2.2.2.2.2.2.2.1
  have hms := M.2.2.2.2.2.2.2.2.2.2.2.1
  have h22 := hF.2.2.2.2
  have hsum := cat_sum hr
  refine aw_go (va_runS (As := as) (rest := rest) ⟨M.1, M.2.1, M.2.2.1, M.2.2.2.1, hw⟩ hM ⟨⟨rfl, rfl, show d + 1 ≤ R.frames by omega, show 8 + (nLy + 11) + 41 * d ≤ R.locals by omega, words_in hF hw, List.mem_cons_self, hw _ hF.2.1, hw _ hF.1, hF.2.2.1, hF.len, hw _ hm⟩, hw _ hV⟩ ⟨pre_blind, fun U hU hW => ⟨rfl, by rw [hU]; exact hH, hG.warm hW⟩⟩ rfl hnp hL.1 hst (by show 2 * 0 + _ ≤ 8; omega) hd ⟨by omega, by omega⟩) M h1 h2 hH hL hS hk hn ?_
  intro v h' q
  obtain ⟨r, rfl, q2⟩ := q
  exact kk r h' q2
theorem aw_SNi {idx d mc1 ms1 nLy np : Nat} {y : MethodName} {cy : ByteArray} {rty : Option FieldType} {as rest : List Value} {P : Int32 → Hp → Prop} (hM : AM X l y cy nLy rty d mc1 ms1 as h (qi P)) (hF : MFK y cy nLy rty np) (hV : Cond.static y ∈ lw_good) {host : String} (hm : Cond.methodLinkNest own idx y host ∈ lw_tbl) (hnp : as.length = np) (hfr : d + 1 ≤ fr) (hk : mc1 ≤ k) (hn : ms1 ≤ n) (hr : rest.length ≤ 4) (hst : st = as.reverse ++ rest) (hd : decode cc pc = .ok (.invokestatic idx, 3)) (hp : pcn = pc + 3)
    (kk : ∀ r h', P r h' → AW X l cc own nm rt nL fr scr Q (k - mc1) (n - ms1) pcn L (.int r :: rest) h') : AW X l cc own nm rt nL fr scr Q k n pc L st h := by
  subst hp
  intro p e R s m args below meth c mc ms Z H locs cells slots ls M h1 h2 hH hL hS
  have hw := M.2.2.2.2.1
  have hG := M.2.2.2.2.2.2.1
  have f1 := M.2.2.2.2.2.2.2.1
  have f2 := M.2.2.2.2.2.2.2.2.1
  have hmc := M.2.2.2.2.2.2.2.2.2.2.1
  have hms := M.2.2.2.2.2.2.2.2.2.2.2.1
  have h22 := hF.2.2.2.2
  have hsum := cat_sum hr
  refine aw_go (va_runSN (As := as) (rest := rest) ⟨M.1, M.2.1, M.2.2.1, M.2.2.2.1, hw⟩ hM ⟨⟨⟨rfl, rfl, show d + 1 ≤ R.frames by omega, show 8 + (nLy + 11) + 41 * d ≤ R.locals by omega, words_in hF hw, List.mem_cons_self⟩, hw _ hF.2.1, hw _ hF.1, hF.2.2.1, hF.len, va_Nw.use rfl (hG.2.1 _ _ _ _ hm)⟩, hw _ hV, trivial⟩ ⟨pre_blind, fun U hU hW => ⟨rfl, by rw [hU]; exact hH, hG.warm hW⟩⟩ rfl hnp hL.1 hst (by show 2 * 0 + _ ≤ 8; omega) hd ⟨by omega, by omega⟩) M h1 h2 hH hL hS hk hn ?_
  intro v h' q
  obtain ⟨r, rfl, q2⟩ := q
  exact kk r h' q2
theorem aw_SNv {idx d mc1 ms1 nLy np : Nat} {y : MethodName} {cy : ByteArray} {rty : Option FieldType} {as rest : List Value} {P : Hp → Prop} (hM : AM X l y cy nLy rty d mc1 ms1 as h (qv P)) (hF : MFK y cy nLy rty np) (hV : Cond.static y ∈ lw_good) {host : String} (hm : Cond.methodLinkNest own idx y host ∈ lw_tbl) (hnp : as.length = np) (hfr : d + 1 ≤ fr) (hk : mc1 ≤ k) (hn : ms1 ≤ n) (hr : rest.length ≤ 4) (hst : st = as.reverse ++ rest) (hd : decode cc pc = .ok (.invokestatic idx, 3)) (hp : pcn = pc + 3)
    (kk : ∀ h', P h' → AW X l cc own nm rt nL fr scr Q (k - mc1) (n - ms1) pcn L rest h') : AW X l cc own nm rt nL fr scr Q k n pc L st h := by
  subst hp
  intro p e R s m args below meth c mc ms Z H locs cells slots ls M h1 h2 hH hL hS
  have hw := M.2.2.2.2.1
  have hG := M.2.2.2.2.2.2.1
  have f1 := M.2.2.2.2.2.2.2.1
  have f2 := M.2.2.2.2.2.2.2.2.1
  have hmc := M.2.2.2.2.2.2.2.2.2.2.1
  have hms := M.2.2.2.2.2.2.2.2.2.2.2.1
  have h22 := hF.2.2.2.2
  have hsum := cat_sum hr
  refine aw_go (va_runSN (As := as) (rest := rest) ⟨M.1, M.2.1, M.2.2.1, M.2.2.2.1, hw⟩ hM ⟨⟨⟨rfl, rfl, show d + 1 ≤ R.frames by omega, show 8 + (nLy + 11) + 41 * d ≤ R.locals by omega, words_in hF hw, List.mem_cons_self⟩, hw _ hF.2.1, hw _ hF.1, hF.2.2.1, hF.len, va_Nw.use rfl (hG.2.1 _ _ _ _ hm)⟩, hw _ hV, trivial⟩ ⟨pre_blind, fun U hU hW => ⟨rfl, by rw [hU]; exact hH, hG.warm hW⟩⟩ rfl hnp hL.1 hst (by show 2 * 0 + _ ≤ 8; omega) hd ⟨by omega, by omega⟩) M h1 h2 hH hL hS hk hn ?_
  intro v h' q
  obtain ⟨rfl, q2⟩ := q
  exact kk h' q2
theorem aw_SNr {idx d mc1 ms1 nLy np : Nat} {y : MethodName} {cy : ByteArray} {rty : Option FieldType} {as rest : List Value} {P : Option Nat → Hp → Prop} (hM : AM X l y cy nLy rty d mc1 ms1 as h (qr P)) (hF : MFK y cy nLy rty np) (hV : Cond.static y ∈ lw_good) {host : String} (hm : Cond.methodLinkNest own idx y host ∈ lw_tbl) (hnp : as.length = np) (hfr : d + 1 ≤ fr) (hk : mc1 ≤ k) (hn : ms1 ≤ n) (hr : rest.length ≤ 4) (hst : st = as.reverse ++ rest) (hd : decode cc pc = .ok (.invokestatic idx, 3)) (hp : pcn = pc + 3)
    (kk : ∀ r h', P r h' → AW X l cc own nm rt nL fr scr Q (k - mc1) (n - ms1) pcn L (va_rf r :: rest) h') : AW X l cc own nm rt nL fr scr Q k n pc L st h := by
  subst hp
  intro p e R s m args below meth c mc ms Z H locs cells slots ls M h1 h2 hH hL hS
  have hw := M.2.2.2.2.1
  have hG := M.2.2.2.2.2.2.1
  have f1 := M.2.2.2.2.2.2.2.1
  have f2 := M.2.2.2.2.2.2.2.2.1
  have hmc := M.2.2.2.2.2.2.2.2.2.2.1
  have hms := M.2.2.2.2.2.2.2.2.2.2.2.1
  have h22 := hF.2.2.2.2
  have hsum := cat_sum hr
  refine aw_go (va_runSN (As := as) (rest := rest) ⟨M.1, M.2.1, M.2.2.1, M.2.2.2.1, hw⟩ hM ⟨⟨⟨rfl, rfl, show d + 1 ≤ R.frames by omega, show 8 + (nLy + 11) + 41 * d ≤ R.locals by omega, words_in hF hw, List.mem_cons_self⟩, hw _ hF.2.1, hw _ hF.1, hF.2.2.1, hF.len, va_Nw.use rfl (hG.2.1 _ _ _ _ hm)⟩, hw _ hV, trivial⟩ ⟨pre_blind, fun U hU hW => ⟨rfl, by rw [hU]; exact hH, hG.warm hW⟩⟩ rfl hnp hL.1 hst (by show 2 * 0 + _ ≤ 8; omega) hd ⟨by omega, by omega⟩) M h1 h2 hH hL hS hk hn ?_
  intro v h' q
  obtain ⟨r, rfl, q2⟩ := q
  exact kk r h' q2
theorem aw_Iv {b : Nat} {idx d mc1 ms1 nLy np : Nat} {y : MethodName} {cy : ByteArray} {rty : Option FieldType} {as rest : List Value} {P : Hp → Prop} (hM : AM X l y cy nLy none d mc1 ms1 (.ref b :: as) h (qv P)) (hF : MFK y cy nLy none np) (hV : Cond.instanceMethod y ∈ lw_good) (hy1 : y.name = "<init>") (hm : Cond.methodLink own idx y ∈ lw_good) (hnp : as.length = np) (hfr : d + 1 ≤ fr) (hk : mc1 ≤ k) (hn : ms1 ≤ n) (hr : rest.length ≤ 4) (hst : st = as.reverse ++ .ref b :: rest) (hd : decode cc pc = .ok (.invokespecial idx, 3)) (hp : pcn = pc + 3)
    (kk : ∀ h', P h' → AW X l cc own nm rt nL fr scr Q (k - mc1) (n - ms1) pcn L rest h') : AW X l cc own nm rt nL fr scr Q k n pc L st h := by
  subst hp
  intro p e R s m args below meth c mc ms Z H locs cells slots ls M h1 h2 hH hL hS
  have hw := M.2.2.2.2.1
  have hG := M.2.2.2.2.2.2.1
  have f1 := M.2.2.2.2.2.2.2.1
  have f2 := M.2.2.2.2.2.2.2.2.1
  have hmc := M.2.2.2.2.2.2.2.2.2.2.1
  have hms := M.2.2.2.2.2.2.2.2.2.2.2.1
  have h22 := hF.2.2.2.2
  have hsum := cat_sum hr
  refine aw_go (va_runI (As := as) (rest := rest) ⟨M.1, M.2.1, M.2.2.1, M.2.2.2.1, hw⟩ hM ⟨⟨rfl, rfl, show d + 1 ≤ R.frames by omega, show 8 + (nLy + 11) + 41 * d ≤ R.locals by omega, words_in hF hw, List.mem_cons_self, hw _ hF.2.1, hw _ hF.1, hF.2.2.1, hF.len, hw _ hm⟩, hy1, hw _ hV⟩ ⟨pre_blind, fun U hU hW => ⟨rfl, by rw [hU]; exact hH, hG.warm hW⟩⟩ rfl hnp hL.1 hst (by show 2 * 0 + _ ≤ 8; omega) hd ⟨by omega, by omega⟩) M h1 h2 hH hL hS hk hn ?_
  intro v h' q
  obtain ⟨rfl, q2⟩ := q
  exact kk h' q2
theorem aw_INv {b : Nat} {idx d mc1 ms1 nLy np : Nat} {y : MethodName} {cy : ByteArray} {rty : Option FieldType} {as rest : List Value} {P : Hp → Prop} (hM : AM X l y cy nLy none d mc1 ms1 (.ref b :: as) h (qv P)) (hF : MFK y cy nLy none np) (hV : Cond.instanceMethod y ∈ lw_good) (hy1 : y.name = "<init>") {host : String} (hm : Cond.methodLinkNest own idx y host ∈ lw_tbl) (hnp : as.length = np) (hfr : d + 1 ≤ fr) (hk : mc1 ≤ k) (hn : ms1 ≤ n) (hr : rest.length ≤ 4) (hst : st = as.reverse ++ .ref b :: rest) (hd : decode cc pc = .ok (.invokespecial idx, 3)) (hp : pcn = pc + 3)
    (kk : ∀ h', P h' → AW X l cc own nm rt nL fr scr Q (k - mc1) (n - ms1) pcn L rest h') : AW X l cc own nm rt nL fr scr Q k n pc L st h := by
  subst hp
  intro p e R s m args below meth c mc ms Z H locs cells slots ls M h1 h2 hH hL hS
  have hw := M.2.2.2.2.1
  have hG := M.2.2.2.2.2.2.1
  have f1 := M.2.2.2.2.2.2.2.1
  have f2 := M.2.2.2.2.2.2.2.2.1
  have hmc := M.2.2.2.2.2.2.2.2.2.2.1
  have hms := M.2.2.2.2.2.2.2.2.2.2.2.1
  have h22 := hF.2.2.2.2
  have hsum := cat_sum hr
  refine aw_go (va_runIN (As := as) (rest := rest) ⟨M.1, M.2.1, M.2.2.1, M.2.2.2.1, hw⟩ hM ⟨⟨⟨rfl, rfl, show d + 1 ≤ R.frames by omega, show 8 + (nLy + 11) + 41 * d ≤ R.locals by omega, words_in hF hw, List.mem_cons_self⟩, hw _ hF.2.1, hw _ hF.1, hF.2.2.1, hF.len, va_Nw.use rfl (hG.2.1 _ _ _ _ hm)⟩, hy1, hw _ hV⟩ ⟨pre_blind, fun U hU hW => ⟨rfl, by rw [hU]; exact hH, hG.warm hW⟩⟩ rfl hnp hL.1 hst (by show 2 * 0 + _ ≤ 8; omega) hd ⟨by omega, by omega⟩) M h1 h2 hH hL hS hk hn ?_
  intro v h' q
  obtain ⟨rfl, q2⟩ := q
  exact kk h' q2
end AWH
end
section
theorem dX0_init_0 : decode cX0_init 0 = .ok (.aload_n 0, 1) := by decide +kernel
theorem dX0_init_1 : decode cX0_init 1 = .ok (.invokespecial 3, 3) := by decide +kernel
theorem dX0_init_4 : decode cX0_init 4 = .ok (.aload_n 0, 1) := by decide +kernel
theorem dX0_init_5 : decode cX0_init 5 = .ok (.iconst 1, 1) := by decide +kernel
theorem dX0_init_6 : decode cX0_init 6 = .ok (.putfield 9, 3) := by decide +kernel
theorem dX0_init_9 : decode cX0_init 9 = .ok (.aload_n 0, 1) := by decide +kernel
theorem dX0_init_10 : decode cX0_init 10 = .ok (.iload_n 1, 1) := by decide +kernel
theorem dX0_init_11 : decode cX0_init 11 = .ok (.putfield 15, 3) := by decide +kernel
theorem dX0_init_14 : decode cX0_init 14 = .ok (.aload_n 0, 1) := by decide +kernel
theorem dX0_init_15 : decode cX0_init 15 = .ok (.iload_n 2, 1) := by decide +kernel
theorem dX0_init_16 : decode cX0_init 16 = .ok (.putfield 18, 3) := by decide +kernel
theorem dX0_init_19 : decode cX0_init 19 = .ok (.aload_n 0, 1) := by decide +kernel
theorem dX0_init_20 : decode cX0_init 20 = .ok (.iload_n 3, 1) := by decide +kernel
theorem dX0_init_21 : decode cX0_init 21 = .ok (.putfield 21, 3) := by decide +kernel
theorem dX0_init_24 : decode cX0_init 24 = .ok (.return_, 1) := by decide +kernel
theorem dX0_hasMember_0 : decode cX0_hasMember 0 = .ok (.aload_n 0, 1) := by decide +kernel
theorem dX0_hasMember_1 : decode cX0_hasMember 1 = .ok (.getfield 18, 3) := by decide +kernel
theorem dX0_hasMember_4 : decode cX0_hasMember 4 = .ok (.iload_n 1, 1) := by decide +kernel
theorem dX0_hasMember_5 : decode cX0_hasMember 5 = .ok (.invokestatic 24, 3) := by decide +kernel
theorem dX0_hasMember_8 : decode cX0_hasMember 8 = .ok (.ireturn, 1) := by decide +kernel
theorem dX0_noteSigned_0 : decode cX0_noteSigned 0 = .ok (.aload_n 1, 1) := by decide +kernel
theorem dX0_noteSigned_1 : decode cX0_noteSigned 1 = .ok (.invokevirtual 28, 3) := by decide +kernel
theorem dX0_noteSigned_4 : decode cX0_noteSigned 4 = .ok (.ifCond .eq 29, 3) := by decide +kernel
theorem dX0_noteSigned_7 : decode cX0_noteSigned 7 = .ok (.aload_n 0, 1) := by decide +kernel
theorem dX0_noteSigned_8 : decode cX0_noteSigned 8 = .ok (.getfield 34, 3) := by decide +kernel
theorem dX0_noteSigned_11 : decode cX0_noteSigned 11 = .ok (.ifnull 17, 3) := by decide +kernel
theorem dX0_noteSigned_14 : decode cX0_noteSigned 14 = .ok (.aload_n 1, 1) := by decide +kernel
theorem dX0_noteSigned_15 : decode cX0_noteSigned 15 = .ok (.getfield 38, 3) := by decide +kernel
theorem dX0_noteSigned_18 : decode cX0_noteSigned 18 = .ok (.aload_n 0, 1) := by decide +kernel
theorem dX0_noteSigned_19 : decode cX0_noteSigned 19 = .ok (.getfield 34, 3) := by decide +kernel
theorem dX0_noteSigned_22 : decode cX0_noteSigned 22 = .ok (.getfield 38, 3) := by decide +kernel
theorem dX0_noteSigned_25 : decode cX0_noteSigned 25 = .ok (.if_icmp .le 8, 3) := by decide +kernel
theorem dX0_noteSigned_28 : decode cX0_noteSigned 28 = .ok (.aload_n 0, 1) := by decide +kernel
theorem dX0_noteSigned_29 : decode cX0_noteSigned 29 = .ok (.aload_n 1, 1) := by decide +kernel
theorem dX0_noteSigned_30 : decode cX0_noteSigned 30 = .ok (.putfield 34, 3) := by decide +kernel
theorem dX0_noteSigned_33 : decode cX0_noteSigned 33 = .ok (.return_, 1) := by decide +kernel
theorem dX0_wouldTake_0 : decode cX0_wouldTake 0 = .ok (.aload_n 0, 1) := by decide +kernel
theorem dX0_wouldTake_1 : decode cX0_wouldTake 1 = .ok (.getfield 9, 3) := by decide +kernel
theorem dX0_wouldTake_4 : decode cX0_wouldTake 4 = .ok (.iconst 1, 1) := by decide +kernel
theorem dX0_wouldTake_5 : decode cX0_wouldTake 5 = .ok (.if_icmp .eq 32, 3) := by decide +kernel
theorem dX0_wouldTake_8 : decode cX0_wouldTake 8 = .ok (.aload_n 0, 1) := by decide +kernel
theorem dX0_wouldTake_9 : decode cX0_wouldTake 9 = .ok (.getfield 9, 3) := by decide +kernel
theorem dX0_wouldTake_12 : decode cX0_wouldTake 12 = .ok (.iconst 2, 1) := by decide +kernel
theorem dX0_wouldTake_13 : decode cX0_wouldTake 13 = .ok (.if_icmp .ne 28, 3) := by decide +kernel
theorem dX0_wouldTake_16 : decode cX0_wouldTake 16 = .ok (.aload_n 0, 1) := by decide +kernel
theorem dX0_wouldTake_17 : decode cX0_wouldTake 17 = .ok (.getfield 41, 3) := by decide +kernel
theorem dX0_wouldTake_20 : decode cX0_wouldTake 20 = .ok (.ifnull 17, 3) := by decide +kernel
theorem dX0_wouldTake_23 : decode cX0_wouldTake 23 = .ok (.aload_n 0, 1) := by decide +kernel
theorem dX0_wouldTake_24 : decode cX0_wouldTake 24 = .ok (.getfield 41, 3) := by decide +kernel
theorem dX0_wouldTake_27 : decode cX0_wouldTake 27 = .ok (.getfield 38, 3) := by decide +kernel
theorem dX0_wouldTake_30 : decode cX0_wouldTake 30 = .ok (.aload_n 1, 1) := by decide +kernel
theorem dX0_wouldTake_31 : decode cX0_wouldTake 31 = .ok (.getfield 38, 3) := by decide +kernel
theorem dX0_wouldTake_34 : decode cX0_wouldTake 34 = .ok (.if_icmp .ge 7, 3) := by decide +kernel
theorem dX0_wouldTake_37 : decode cX0_wouldTake 37 = .ok (.iconst 1, 1) := by decide +kernel
theorem dX0_wouldTake_38 : decode cX0_wouldTake 38 = .ok (.goto 4, 3) := by decide +kernel
theorem dX0_wouldTake_41 : decode cX0_wouldTake 41 = .ok (.iconst 0, 1) := by decide +kernel
theorem dX0_wouldTake_42 : decode cX0_wouldTake 42 = .ok (.ireturn, 1) := by decide +kernel
theorem dX0_heldLockAt_0 : decode cX0_heldLockAt 0 = .ok (.aload_n 0, 1) := by decide +kernel
theorem dX0_heldLockAt_1 : decode cX0_heldLockAt 1 = .ok (.getfield 41, 3) := by decide +kernel
theorem dX0_heldLockAt_4 : decode cX0_heldLockAt 4 = .ok (.ifnull 32, 3) := by decide +kernel
theorem dX0_heldLockAt_7 : decode cX0_heldLockAt 7 = .ok (.iload_n 1, 1) := by decide +kernel
theorem dX0_heldLockAt_8 : decode cX0_heldLockAt 8 = .ok (.invokestatic 44, 3) := by decide +kernel
theorem dX0_heldLockAt_11 : decode cX0_heldLockAt 11 = .ok (.ifCond .eq 25, 3) := by decide +kernel
theorem dX0_heldLockAt_14 : decode cX0_heldLockAt 14 = .ok (.aload_n 0, 1) := by decide +kernel
theorem dX0_heldLockAt_15 : decode cX0_heldLockAt 15 = .ok (.getfield 48, 3) := by decide +kernel
theorem dX0_heldLockAt_18 : decode cX0_heldLockAt 18 = .ok (.iconst 1, 1) := by decide +kernel
theorem dX0_heldLockAt_19 : decode cX0_heldLockAt 19 = .ok (.iload_n 1, 1) := by decide +kernel
theorem dX0_heldLockAt_20 : decode cX0_heldLockAt 20 = .ok (.ishl, 1) := by decide +kernel
theorem dX0_heldLockAt_21 : decode cX0_heldLockAt 21 = .ok (.iand, 1) := by decide +kernel
theorem dX0_heldLockAt_22 : decode cX0_heldLockAt 22 = .ok (.ifCond .eq 14, 3) := by decide +kernel
theorem dX0_heldLockAt_25 : decode cX0_heldLockAt 25 = .ok (.aload_n 0, 1) := by decide +kernel
theorem dX0_heldLockAt_26 : decode cX0_heldLockAt 26 = .ok (.getfield 41, 3) := by decide +kernel
theorem dX0_heldLockAt_29 : decode cX0_heldLockAt 29 = .ok (.iload_n 1, 1) := by decide +kernel
theorem dX0_heldLockAt_30 : decode cX0_heldLockAt 30 = .ok (.invokevirtual 51, 3) := by decide +kernel
theorem dX0_heldLockAt_33 : decode cX0_heldLockAt 33 = .ok (.goto 4, 3) := by decide +kernel
theorem dX0_heldLockAt_36 : decode cX0_heldLockAt 36 = .ok (.aconst_null, 1) := by decide +kernel
theorem dX0_heldLockAt_37 : decode cX0_heldLockAt 37 = .ok (.areturn, 1) := by decide +kernel
theorem dX1_init_0 : decode cX1_init 0 = .ok (.aload_n 0, 1) := by decide +kernel
theorem dX1_init_1 : decode cX1_init 1 = .ok (.invokespecial 1, 3) := by decide +kernel
theorem dX1_init_4 : decode cX1_init 4 = .ok (.aload_n 0, 1) := by decide +kernel
theorem dX1_init_5 : decode cX1_init 5 = .ok (.iload_n 1, 1) := by decide +kernel
theorem dX1_init_6 : decode cX1_init 6 = .ok (.putfield 7, 3) := by decide +kernel
theorem dX1_init_9 : decode cX1_init 9 = .ok (.aload_n 0, 1) := by decide +kernel
theorem dX1_init_10 : decode cX1_init 10 = .ok (.iload_n 2, 1) := by decide +kernel
theorem dX1_init_11 : decode cX1_init 11 = .ok (.putfield 13, 3) := by decide +kernel
theorem dX1_init_14 : decode cX1_init 14 = .ok (.aload_n 0, 1) := by decide +kernel
theorem dX1_init_15 : decode cX1_init 15 = .ok (.iload_n 3, 1) := by decide +kernel
theorem dX1_init_16 : decode cX1_init 16 = .ok (.putfield 16, 3) := by decide +kernel
theorem dX1_init_19 : decode cX1_init 19 = .ok (.aload_n 0, 1) := by decide +kernel
theorem dX1_init_20 : decode cX1_init 20 = .ok (.iload 4, 2) := by decide +kernel
theorem dX1_init_22 : decode cX1_init 22 = .ok (.putfield 19, 3) := by decide +kernel
theorem dX1_init_25 : decode cX1_init 25 = .ok (.return_, 1) := by decide +kernel
theorem dX1_after_0 : decode cX1_after 0 = .ok (.aload_n 0, 1) := by decide +kernel
theorem dX1_after_1 : decode cX1_after 1 = .ok (.getfield 19, 3) := by decide +kernel
theorem dX1_after_4 : decode cX1_after 4 = .ok (.iload_n 1, 1) := by decide +kernel
theorem dX1_after_5 : decode cX1_after 5 = .ok (.if_icmp .gt 7, 3) := by decide +kernel
theorem dX1_after_8 : decode cX1_after 8 = .ok (.aconst_null, 1) := by decide +kernel
theorem dX1_after_9 : decode cX1_after 9 = .ok (.goto 28, 3) := by decide +kernel
theorem dX1_after_12 : decode cX1_after 12 = .ok (.new 8, 3) := by decide +kernel
theorem dX1_after_15 : decode cX1_after 15 = .ok (.dup, 1) := by decide +kernel
theorem dX1_after_16 : decode cX1_after 16 = .ok (.aload_n 0, 1) := by decide +kernel
theorem dX1_after_17 : decode cX1_after 17 = .ok (.getfield 13, 3) := by decide +kernel
theorem dX1_after_20 : decode cX1_after 20 = .ok (.aload_n 0, 1) := by decide +kernel
theorem dX1_after_21 : decode cX1_after 21 = .ok (.getfield 7, 3) := by decide +kernel
theorem dX1_after_24 : decode cX1_after 24 = .ok (.aload_n 0, 1) := by decide +kernel
theorem dX1_after_25 : decode cX1_after 25 = .ok (.getfield 16, 3) := by decide +kernel
theorem dX1_after_28 : decode cX1_after 28 = .ok (.aload_n 0, 1) := by decide +kernel
theorem dX1_after_29 : decode cX1_after 29 = .ok (.getfield 19, 3) := by decide +kernel
theorem dX1_after_32 : decode cX1_after 32 = .ok (.iload_n 1, 1) := by decide +kernel
theorem dX1_after_33 : decode cX1_after 33 = .ok (.isub, 1) := by decide +kernel
theorem dX1_after_34 : decode cX1_after 34 = .ok (.invokespecial 22, 3) := by decide +kernel
theorem dX1_after_37 : decode cX1_after 37 = .ok (.areturn, 1) := by decide +kernel
theorem dX2_init_0 : decode cX2_init 0 = .ok (.aload_n 0, 1) := by decide +kernel
theorem dX2_init_1 : decode cX2_init 1 = .ok (.invokespecial 3, 3) := by decide +kernel
theorem dX2_init_4 : decode cX2_init 4 = .ok (.aload_n 0, 1) := by decide +kernel
theorem dX2_init_5 : decode cX2_init 5 = .ok (.aload_n 1, 1) := by decide +kernel
theorem dX2_init_6 : decode cX2_init 6 = .ok (.putfield 9, 3) := by decide +kernel
theorem dX2_init_9 : decode cX2_init 9 = .ok (.aload_n 0, 1) := by decide +kernel
theorem dX2_init_10 : decode cX2_init 10 = .ok (.iload_n 2, 1) := by decide +kernel
theorem dX2_init_11 : decode cX2_init 11 = .ok (.putfield 15, 3) := by decide +kernel
theorem dX2_init_14 : decode cX2_init 14 = .ok (.aload_n 0, 1) := by decide +kernel
theorem dX2_init_15 : decode cX2_init 15 = .ok (.iload_n 3, 1) := by decide +kernel
theorem dX2_init_16 : decode cX2_init 16 = .ok (.putfield 19, 3) := by decide +kernel
theorem dX2_init_19 : decode cX2_init 19 = .ok (.return_, 1) := by decide +kernel
theorem dX2_canCarry_0 : decode cX2_canCarry 0 = .ok (.aload_n 0, 1) := by decide +kernel
theorem dX2_canCarry_1 : decode cX2_canCarry 1 = .ok (.getfield 9, 3) := by decide +kernel
theorem dX2_canCarry_4 : decode cX2_canCarry 4 = .ok (.getfield 22, 3) := by decide +kernel
theorem dX2_canCarry_7 : decode cX2_canCarry 7 = .ok (.astore_n 2, 1) := by decide +kernel
theorem dX2_canCarry_8 : decode cX2_canCarry 8 = .ok (.aload_n 0, 1) := by decide +kernel
theorem dX2_canCarry_9 : decode cX2_canCarry 9 = .ok (.getfield 9, 3) := by decide +kernel
theorem dX2_canCarry_12 : decode cX2_canCarry 12 = .ok (.getfield 28, 3) := by decide +kernel
theorem dX2_canCarry_15 : decode cX2_canCarry 15 = .ok (.iconst 1, 1) := by decide +kernel
theorem dX2_canCarry_16 : decode cX2_canCarry 16 = .ok (.if_icmp .ne 34, 3) := by decide +kernel
theorem dX2_canCarry_19 : decode cX2_canCarry 19 = .ok (.aload_n 2, 1) := by decide +kernel
theorem dX2_canCarry_20 : decode cX2_canCarry 20 = .ok (.ifnull 30, 3) := by decide +kernel
theorem dX2_canCarry_23 : decode cX2_canCarry 23 = .ok (.aload_n 2, 1) := by decide +kernel
theorem dX2_canCarry_24 : decode cX2_canCarry 24 = .ok (.getfield 31, 3) := by decide +kernel
theorem dX2_canCarry_27 : decode cX2_canCarry 27 = .ok (.aload_n 0, 1) := by decide +kernel
theorem dX2_canCarry_28 : decode cX2_canCarry 28 = .ok (.getfield 15, 3) := by decide +kernel
theorem dX2_canCarry_31 : decode cX2_canCarry 31 = .ok (.invokevirtual 37, 3) := by decide +kernel
theorem dX2_canCarry_34 : decode cX2_canCarry 34 = .ok (.iload_n 1, 1) := by decide +kernel
theorem dX2_canCarry_35 : decode cX2_canCarry 35 = .ok (.if_icmp .lt 15, 3) := by decide +kernel
theorem dX2_canCarry_38 : decode cX2_canCarry 38 = .ok (.aload_n 2, 1) := by decide +kernel
theorem dX2_canCarry_39 : decode cX2_canCarry 39 = .ok (.invokevirtual 43, 3) := by decide +kernel
theorem dX2_canCarry_42 : decode cX2_canCarry 42 = .ok (.iconst (-1), 1) := by decide +kernel
theorem dX2_canCarry_43 : decode cX2_canCarry 43 = .ok (.if_icmp .eq 7, 3) := by decide +kernel
theorem dX2_canCarry_46 : decode cX2_canCarry 46 = .ok (.iconst 1, 1) := by decide +kernel
theorem dX2_canCarry_47 : decode cX2_canCarry 47 = .ok (.goto 4, 3) := by decide +kernel
theorem dX2_canCarry_50 : decode cX2_canCarry 50 = .ok (.iconst 0, 1) := by decide +kernel
theorem dX2_canCarry_51 : decode cX2_canCarry 51 = .ok (.ireturn, 1) := by decide +kernel
theorem dX3_init_0 : decode cX3_init 0 = .ok (.aload_n 0, 1) := by decide +kernel
theorem dX3_init_1 : decode cX3_init 1 = .ok (.invokespecial 1, 3) := by decide +kernel
theorem dX3_init_4 : decode cX3_init 4 = .ok (.aload_n 0, 1) := by decide +kernel
theorem dX3_init_5 : decode cX3_init 5 = .ok (.iload_n 1, 1) := by decide +kernel
theorem dX3_init_6 : decode cX3_init 6 = .ok (.putfield 7, 3) := by decide +kernel
theorem dX3_init_9 : decode cX3_init 9 = .ok (.aload_n 0, 1) := by decide +kernel
theorem dX3_init_10 : decode cX3_init 10 = .ok (.iload_n 2, 1) := by decide +kernel
theorem dX3_init_11 : decode cX3_init 11 = .ok (.putfield 13, 3) := by decide +kernel
theorem dX3_init_14 : decode cX3_init 14 = .ok (.aload_n 0, 1) := by decide +kernel
theorem dX3_init_15 : decode cX3_init 15 = .ok (.iload_n 3, 1) := by decide +kernel
theorem dX3_init_16 : decode cX3_init 16 = .ok (.putfield 16, 3) := by decide +kernel
theorem dX3_init_19 : decode cX3_init 19 = .ok (.aload_n 0, 1) := by decide +kernel
theorem dX3_init_20 : decode cX3_init 20 = .ok (.iload 4, 2) := by decide +kernel
theorem dX3_init_22 : decode cX3_init 22 = .ok (.putfield 19, 3) := by decide +kernel
theorem dX3_init_25 : decode cX3_init 25 = .ok (.aload_n 0, 1) := by decide +kernel
theorem dX3_init_26 : decode cX3_init 26 = .ok (.iload 5, 2) := by decide +kernel
theorem dX3_init_28 : decode cX3_init 28 = .ok (.putfield 22, 3) := by decide +kernel
theorem dX3_init_31 : decode cX3_init 31 = .ok (.return_, 1) := by decide +kernel
theorem dX4_init_0 : decode cX4_init 0 = .ok (.aload_n 0, 1) := by decide +kernel
theorem dX4_init_1 : decode cX4_init 1 = .ok (.invokespecial 3, 3) := by decide +kernel
theorem dX4_init_4 : decode cX4_init 4 = .ok (.aload_n 0, 1) := by decide +kernel
theorem dX4_init_5 : decode cX4_init 5 = .ok (.new 9, 3) := by decide +kernel
theorem dX4_init_8 : decode cX4_init 8 = .ok (.dup, 1) := by decide +kernel
theorem dX4_init_9 : decode cX4_init 9 = .ok (.invokespecial 11, 3) := by decide +kernel
theorem dX4_init_12 : decode cX4_init 12 = .ok (.putfield 12, 3) := by decide +kernel
theorem dX4_init_15 : decode cX4_init 15 = .ok (.aload_n 0, 1) := by decide +kernel
theorem dX4_init_16 : decode cX4_init 16 = .ok (.new 9, 3) := by decide +kernel
theorem dX4_init_19 : decode cX4_init 19 = .ok (.dup, 1) := by decide +kernel
theorem dX4_init_20 : decode cX4_init 20 = .ok (.invokespecial 11, 3) := by decide +kernel
theorem dX4_init_23 : decode cX4_init 23 = .ok (.putfield 18, 3) := by decide +kernel
theorem dX4_init_26 : decode cX4_init 26 = .ok (.aload_n 0, 1) := by decide +kernel
theorem dX4_init_27 : decode cX4_init 27 = .ok (.iconst 3, 1) := by decide +kernel
theorem dX4_init_28 : decode cX4_init 28 = .ok (.anewarray 21, 3) := by decide +kernel
theorem dX4_init_31 : decode cX4_init 31 = .ok (.putfield 23, 3) := by decide +kernel
theorem dX4_init_34 : decode cX4_init 34 = .ok (.aload_n 0, 1) := by decide +kernel
theorem dX4_init_35 : decode cX4_init 35 = .ok (.iload_n 1, 1) := by decide +kernel
theorem dX4_init_36 : decode cX4_init 36 = .ok (.putfield 27, 3) := by decide +kernel
theorem dX4_init_39 : decode cX4_init 39 = .ok (.aload_n 0, 1) := by decide +kernel
theorem dX4_init_40 : decode cX4_init 40 = .ok (.aload_n 2, 1) := by decide +kernel
theorem dX4_init_41 : decode cX4_init 41 = .ok (.putfield 31, 3) := by decide +kernel
theorem dX4_init_44 : decode cX4_init 44 = .ok (.aload_n 0, 1) := by decide +kernel
theorem dX4_init_45 : decode cX4_init 45 = .ok (.iload_n 3, 1) := by decide +kernel
theorem dX4_init_46 : decode cX4_init 46 = .ok (.putfield 35, 3) := by decide +kernel
theorem dX4_init_49 : decode cX4_init 49 = .ok (.return_, 1) := by decide +kernel
theorem dX4_copyFrom_0 : decode cX4_copyFrom 0 = .ok (.iconst 0, 1) := by decide +kernel
theorem dX4_copyFrom_1 : decode cX4_copyFrom 1 = .ok (.istore_n 2, 1) := by decide +kernel
theorem dX4_copyFrom_2 : decode cX4_copyFrom 2 = .ok (.iload_n 2, 1) := by decide +kernel
theorem dX4_copyFrom_3 : decode cX4_copyFrom 3 = .ok (.bipush 6, 2) := by decide +kernel
theorem dX4_copyFrom_5 : decode cX4_copyFrom 5 = .ok (.if_icmp .ge 25, 3) := by decide +kernel
theorem dX4_copyFrom_8 : decode cX4_copyFrom 8 = .ok (.aload_n 0, 1) := by decide +kernel
theorem dX4_copyFrom_9 : decode cX4_copyFrom 9 = .ok (.getfield 12, 3) := by decide +kernel
theorem dX4_copyFrom_12 : decode cX4_copyFrom 12 = .ok (.iload_n 2, 1) := by decide +kernel
theorem dX4_copyFrom_13 : decode cX4_copyFrom 13 = .ok (.aload_n 1, 1) := by decide +kernel
theorem dX4_copyFrom_14 : decode cX4_copyFrom 14 = .ok (.getfield 12, 3) := by decide +kernel
theorem dX4_copyFrom_17 : decode cX4_copyFrom 17 = .ok (.iload_n 2, 1) := by decide +kernel
theorem dX4_copyFrom_18 : decode cX4_copyFrom 18 = .ok (.invokevirtual 38, 3) := by decide +kernel
theorem dX4_copyFrom_21 : decode cX4_copyFrom 21 = .ok (.invokevirtual 42, 3) := by decide +kernel
theorem dX4_copyFrom_24 : decode cX4_copyFrom 24 = .ok (.iinc 2 1, 3) := by decide +kernel
theorem dX4_copyFrom_27 : decode cX4_copyFrom 27 = .ok (.goto (-25), 3) := by decide +kernel
theorem dX4_copyFrom_30 : decode cX4_copyFrom 30 = .ok (.iconst 0, 1) := by decide +kernel
theorem dX4_copyFrom_31 : decode cX4_copyFrom 31 = .ok (.istore_n 2, 1) := by decide +kernel
theorem dX4_copyFrom_32 : decode cX4_copyFrom 32 = .ok (.iload_n 2, 1) := by decide +kernel
theorem dX4_copyFrom_33 : decode cX4_copyFrom 33 = .ok (.aload_n 0, 1) := by decide +kernel
theorem dX4_copyFrom_34 : decode cX4_copyFrom 34 = .ok (.getfield 23, 3) := by decide +kernel
theorem dX4_copyFrom_37 : decode cX4_copyFrom 37 = .ok (.arraylength, 1) := by decide +kernel
theorem dX4_copyFrom_38 : decode cX4_copyFrom 38 = .ok (.if_icmp .ge 20, 3) := by decide +kernel
theorem dX4_copyFrom_41 : decode cX4_copyFrom 41 = .ok (.aload_n 0, 1) := by decide +kernel
theorem dX4_copyFrom_42 : decode cX4_copyFrom 42 = .ok (.getfield 23, 3) := by decide +kernel
theorem dX4_copyFrom_45 : decode cX4_copyFrom 45 = .ok (.iload_n 2, 1) := by decide +kernel
theorem dX4_copyFrom_46 : decode cX4_copyFrom 46 = .ok (.aload_n 1, 1) := by decide +kernel
theorem dX4_copyFrom_47 : decode cX4_copyFrom 47 = .ok (.iload_n 2, 1) := by decide +kernel
theorem dX4_copyFrom_48 : decode cX4_copyFrom 48 = .ok (.invokevirtual 46, 3) := by decide +kernel
theorem dX4_copyFrom_51 : decode cX4_copyFrom 51 = .ok (.aastore, 1) := by decide +kernel
theorem dX4_copyFrom_52 : decode cX4_copyFrom 52 = .ok (.iinc 2 1, 3) := by decide +kernel
theorem dX4_copyFrom_55 : decode cX4_copyFrom 55 = .ok (.goto (-23), 3) := by decide +kernel
theorem dX4_copyFrom_58 : decode cX4_copyFrom 58 = .ok (.aload_n 0, 1) := by decide +kernel
theorem dX4_copyFrom_59 : decode cX4_copyFrom 59 = .ok (.aload_n 1, 1) := by decide +kernel
theorem dX4_copyFrom_60 : decode cX4_copyFrom 60 = .ok (.getfield 50, 3) := by decide +kernel
theorem dX4_copyFrom_63 : decode cX4_copyFrom 63 = .ok (.putfield 50, 3) := by decide +kernel
theorem dX4_copyFrom_66 : decode cX4_copyFrom 66 = .ok (.return_, 1) := by decide +kernel
theorem dX4_hasMember_0 : decode cX4_hasMember 0 = .ok (.aload_n 0, 1) := by decide +kernel
theorem dX4_hasMember_1 : decode cX4_hasMember 1 = .ok (.getfield 31, 3) := by decide +kernel
theorem dX4_hasMember_4 : decode cX4_hasMember 4 = .ok (.iload_n 1, 1) := by decide +kernel
theorem dX4_hasMember_5 : decode cX4_hasMember 5 = .ok (.invokevirtual 54, 3) := by decide +kernel
theorem dX4_hasMember_8 : decode cX4_hasMember 8 = .ok (.ireturn, 1) := by decide +kernel
theorem dX4_isFixed_0 : decode cX4_isFixed 0 = .ok (.aload_n 0, 1) := by decide +kernel
theorem dX4_isFixed_1 : decode cX4_isFixed 1 = .ok (.getfield 31, 3) := by decide +kernel
theorem dX4_isFixed_4 : decode cX4_isFixed 4 = .ok (.getfield 60, 3) := by decide +kernel
theorem dX4_isFixed_7 : decode cX4_isFixed 7 = .ok (.iconst 3, 1) := by decide +kernel
theorem dX4_isFixed_8 : decode cX4_isFixed 8 = .ok (.if_icmp .eq 10, 3) := by decide +kernel
theorem dX4_isFixed_11 : decode cX4_isFixed 11 = .ok (.aload_n 0, 1) := by decide +kernel
theorem dX4_isFixed_12 : decode cX4_isFixed 12 = .ok (.getfield 63, 3) := by decide +kernel
theorem dX4_isFixed_15 : decode cX4_isFixed 15 = .ok (.ifCond .eq 7, 3) := by decide +kernel
theorem dX4_isFixed_18 : decode cX4_isFixed 18 = .ok (.iconst 1, 1) := by decide +kernel
theorem dX4_isFixed_19 : decode cX4_isFixed 19 = .ok (.goto 4, 3) := by decide +kernel
theorem dX4_isFixed_22 : decode cX4_isFixed 22 = .ok (.iconst 0, 1) := by decide +kernel
theorem dX4_isFixed_23 : decode cX4_isFixed 23 = .ok (.ireturn, 1) := by decide +kernel
theorem dX4_doesCount_0 : decode cX4_doesCount 0 = .ok (.aload_n 0, 1) := by decide +kernel
theorem dX4_doesCount_1 : decode cX4_doesCount 1 = .ok (.getfield 31, 3) := by decide +kernel
theorem dX4_doesCount_4 : decode cX4_doesCount 4 = .ok (.getfield 60, 3) := by decide +kernel
theorem dX4_doesCount_7 : decode cX4_doesCount 7 = .ok (.iconst 3, 1) := by decide +kernel
theorem dX4_doesCount_8 : decode cX4_doesCount 8 = .ok (.if_icmp .eq 35, 3) := by decide +kernel
theorem dX4_doesCount_11 : decode cX4_doesCount 11 = .ok (.aload_n 0, 1) := by decide +kernel
theorem dX4_doesCount_12 : decode cX4_doesCount 12 = .ok (.getfield 63, 3) := by decide +kernel
theorem dX4_doesCount_15 : decode cX4_doesCount 15 = .ok (.aload_n 0, 1) := by decide +kernel
theorem dX4_doesCount_16 : decode cX4_doesCount 16 = .ok (.getfield 31, 3) := by decide +kernel
theorem dX4_doesCount_19 : decode cX4_doesCount 19 = .ok (.getfield 66, 3) := by decide +kernel
theorem dX4_doesCount_22 : decode cX4_doesCount 22 = .ok (.if_icmp .ne 21, 3) := by decide +kernel
theorem dX4_doesCount_25 : decode cX4_doesCount 25 = .ok (.aload_n 0, 1) := by decide +kernel
theorem dX4_doesCount_26 : decode cX4_doesCount 26 = .ok (.invokevirtual 69, 3) := by decide +kernel
theorem dX4_doesCount_29 : decode cX4_doesCount 29 = .ok (.aload_n 0, 1) := by decide +kernel
theorem dX4_doesCount_30 : decode cX4_doesCount 30 = .ok (.getfield 31, 3) := by decide +kernel
theorem dX4_doesCount_33 : decode cX4_doesCount 33 = .ok (.getfield 73, 3) := by decide +kernel
theorem dX4_doesCount_36 : decode cX4_doesCount 36 = .ok (.if_icmp .ne 7, 3) := by decide +kernel
theorem dX4_doesCount_39 : decode cX4_doesCount 39 = .ok (.iconst 1, 1) := by decide +kernel
theorem dX4_doesCount_40 : decode cX4_doesCount 40 = .ok (.goto 4, 3) := by decide +kernel
theorem dX4_doesCount_43 : decode cX4_doesCount 43 = .ok (.iconst 0, 1) := by decide +kernel
theorem dX4_doesCount_44 : decode cX4_doesCount 44 = .ok (.ireturn, 1) := by decide +kernel
theorem dX4_whole_0 : decode cX4_whole 0 = .ok (.aload_n 0, 1) := by decide +kernel
theorem dX4_whole_1 : decode cX4_whole 1 = .ok (.getfield 12, 3) := by decide +kernel
theorem dX4_whole_4 : decode cX4_whole 4 = .ok (.invokevirtual 76, 3) := by decide +kernel
theorem dX4_whole_7 : decode cX4_whole 7 = .ok (.aload_n 0, 1) := by decide +kernel
theorem dX4_whole_8 : decode cX4_whole 8 = .ok (.getfield 50, 3) := by decide +kernel
theorem dX4_whole_11 : decode cX4_whole 11 = .ok (.ifnonnull 7, 3) := by decide +kernel
theorem dX4_whole_14 : decode cX4_whole 14 = .ok (.iconst 0, 1) := by decide +kernel
theorem dX4_whole_15 : decode cX4_whole 15 = .ok (.goto 10, 3) := by decide +kernel
theorem dX4_whole_18 : decode cX4_whole 18 = .ok (.aload_n 0, 1) := by decide +kernel
theorem dX4_whole_19 : decode cX4_whole 19 = .ok (.getfield 50, 3) := by decide +kernel
theorem dX4_whole_22 : decode cX4_whole 22 = .ok (.getfield 79, 3) := by decide +kernel
theorem dX4_whole_25 : decode cX4_whole 25 = .ok (.iadd, 1) := by decide +kernel
theorem dX4_whole_26 : decode cX4_whole 26 = .ok (.istore_n 1, 1) := by decide +kernel
theorem dX4_whole_27 : decode cX4_whole 27 = .ok (.aload_n 0, 1) := by decide +kernel
theorem dX4_whole_28 : decode cX4_whole 28 = .ok (.getfield 23, 3) := by decide +kernel
theorem dX4_whole_31 : decode cX4_whole 31 = .ok (.astore_n 2, 1) := by decide +kernel
theorem dX4_whole_32 : decode cX4_whole 32 = .ok (.aload_n 2, 1) := by decide +kernel
theorem dX4_whole_33 : decode cX4_whole 33 = .ok (.arraylength, 1) := by decide +kernel
theorem dX4_whole_34 : decode cX4_whole 34 = .ok (.istore_n 3, 1) := by decide +kernel
theorem dX4_whole_35 : decode cX4_whole 35 = .ok (.iconst 0, 1) := by decide +kernel
theorem dX4_whole_36 : decode cX4_whole 36 = .ok (.istore 4, 2) := by decide +kernel
theorem dX4_whole_38 : decode cX4_whole 38 = .ok (.iload 4, 2) := by decide +kernel
theorem dX4_whole_40 : decode cX4_whole 40 = .ok (.iload_n 3, 1) := by decide +kernel
theorem dX4_whole_41 : decode cX4_whole 41 = .ok (.if_icmp .ge 32, 3) := by decide +kernel
theorem dX4_whole_44 : decode cX4_whole 44 = .ok (.aload_n 2, 1) := by decide +kernel
theorem dX4_whole_45 : decode cX4_whole 45 = .ok (.iload 4, 2) := by decide +kernel
theorem dX4_whole_47 : decode cX4_whole 47 = .ok (.aaload, 1) := by decide +kernel
theorem dX4_whole_48 : decode cX4_whole 48 = .ok (.astore 5, 2) := by decide +kernel
theorem dX4_whole_50 : decode cX4_whole 50 = .ok (.iload_n 1, 1) := by decide +kernel
theorem dX4_whole_51 : decode cX4_whole 51 = .ok (.aload 5, 2) := by decide +kernel
theorem dX4_whole_53 : decode cX4_whole 53 = .ok (.ifnonnull 7, 3) := by decide +kernel
theorem dX4_whole_56 : decode cX4_whole 56 = .ok (.iconst 0, 1) := by decide +kernel
theorem dX4_whole_57 : decode cX4_whole 57 = .ok (.goto 8, 3) := by decide +kernel
theorem dX4_whole_60 : decode cX4_whole 60 = .ok (.aload 5, 2) := by decide +kernel
theorem dX4_whole_62 : decode cX4_whole 62 = .ok (.getfield 84, 3) := by decide +kernel
theorem dX4_whole_65 : decode cX4_whole 65 = .ok (.iadd, 1) := by decide +kernel
theorem dX4_whole_66 : decode cX4_whole 66 = .ok (.istore_n 1, 1) := by decide +kernel
theorem dX4_whole_67 : decode cX4_whole 67 = .ok (.iinc 4 1, 3) := by decide +kernel
theorem dX4_whole_70 : decode cX4_whole 70 = .ok (.goto (-32), 3) := by decide +kernel
theorem dX4_whole_73 : decode cX4_whole 73 = .ok (.iload_n 1, 1) := by decide +kernel
theorem dX4_whole_74 : decode cX4_whole 74 = .ok (.ireturn, 1) := by decide +kernel
theorem dX4_freeOf_0 : decode cX4_freeOf 0 = .ok (.aload_n 0, 1) := by decide +kernel
theorem dX4_freeOf_1 : decode cX4_freeOf 1 = .ok (.getfield 12, 3) := by decide +kernel
theorem dX4_freeOf_4 : decode cX4_freeOf 4 = .ok (.iload_n 1, 1) := by decide +kernel
theorem dX4_freeOf_5 : decode cX4_freeOf 5 = .ok (.invokevirtual 38, 3) := by decide +kernel
theorem dX4_freeOf_8 : decode cX4_freeOf 8 = .ok (.aload_n 0, 1) := by decide +kernel
theorem dX4_freeOf_9 : decode cX4_freeOf 9 = .ok (.getfield 18, 3) := by decide +kernel
theorem dX4_freeOf_12 : decode cX4_freeOf 12 = .ok (.iload_n 1, 1) := by decide +kernel
theorem dX4_freeOf_13 : decode cX4_freeOf 13 = .ok (.invokevirtual 38, 3) := by decide +kernel
theorem dX4_freeOf_16 : decode cX4_freeOf 16 = .ok (.isub, 1) := by decide +kernel
theorem dX4_freeOf_17 : decode cX4_freeOf 17 = .ok (.ireturn, 1) := by decide +kernel
theorem dX4_hasOut_0 : decode cX4_hasOut 0 = .ok (.aload_n 0, 1) := by decide +kernel
theorem dX4_hasOut_1 : decode cX4_hasOut 1 = .ok (.getfield 18, 3) := by decide +kernel
theorem dX4_hasOut_4 : decode cX4_hasOut 4 = .ok (.invokevirtual 76, 3) := by decide +kernel
theorem dX4_hasOut_7 : decode cX4_hasOut 7 = .ok (.ifCond .le 7, 3) := by decide +kernel
theorem dX4_hasOut_10 : decode cX4_hasOut 10 = .ok (.iconst 1, 1) := by decide +kernel
theorem dX4_hasOut_11 : decode cX4_hasOut 11 = .ok (.goto 4, 3) := by decide +kernel
theorem dX4_hasOut_14 : decode cX4_hasOut 14 = .ok (.iconst 0, 1) := by decide +kernel
theorem dX4_hasOut_15 : decode cX4_hasOut 15 = .ok (.ireturn, 1) := by decide +kernel
theorem dX4_lockAt_0 : decode cX4_lockAt 0 = .ok (.iload_n 1, 1) := by decide +kernel
theorem dX4_lockAt_1 : decode cX4_lockAt 1 = .ok (.ifCond .lt 21, 3) := by decide +kernel
theorem dX4_lockAt_4 : decode cX4_lockAt 4 = .ok (.iload_n 1, 1) := by decide +kernel
theorem dX4_lockAt_5 : decode cX4_lockAt 5 = .ok (.aload_n 0, 1) := by decide +kernel
theorem dX4_lockAt_6 : decode cX4_lockAt 6 = .ok (.getfield 23, 3) := by decide +kernel
theorem dX4_lockAt_9 : decode cX4_lockAt 9 = .ok (.arraylength, 1) := by decide +kernel
theorem dX4_lockAt_10 : decode cX4_lockAt 10 = .ok (.if_icmp .ge 12, 3) := by decide +kernel
theorem dX4_lockAt_13 : decode cX4_lockAt 13 = .ok (.aload_n 0, 1) := by decide +kernel
theorem dX4_lockAt_14 : decode cX4_lockAt 14 = .ok (.getfield 23, 3) := by decide +kernel
theorem dX4_lockAt_17 : decode cX4_lockAt 17 = .ok (.iload_n 1, 1) := by decide +kernel
theorem dX4_lockAt_18 : decode cX4_lockAt 18 = .ok (.aaload, 1) := by decide +kernel
theorem dX4_lockAt_19 : decode cX4_lockAt 19 = .ok (.goto 4, 3) := by decide +kernel
theorem dX4_lockAt_22 : decode cX4_lockAt 22 = .ok (.aconst_null, 1) := by decide +kernel
theorem dX4_lockAt_23 : decode cX4_lockAt 23 = .ok (.areturn, 1) := by decide +kernel
theorem dX4_emptyPlace_0 : decode cX4_emptyPlace 0 = .ok (.iconst 0, 1) := by decide +kernel
theorem dX4_emptyPlace_1 : decode cX4_emptyPlace 1 = .ok (.istore_n 1, 1) := by decide +kernel
theorem dX4_emptyPlace_2 : decode cX4_emptyPlace 2 = .ok (.iload_n 1, 1) := by decide +kernel
theorem dX4_emptyPlace_3 : decode cX4_emptyPlace 3 = .ok (.aload_n 0, 1) := by decide +kernel
theorem dX4_emptyPlace_4 : decode cX4_emptyPlace 4 = .ok (.getfield 23, 3) := by decide +kernel
theorem dX4_emptyPlace_7 : decode cX4_emptyPlace 7 = .ok (.arraylength, 1) := by decide +kernel
theorem dX4_emptyPlace_8 : decode cX4_emptyPlace 8 = .ok (.if_icmp .ge 20, 3) := by decide +kernel
theorem dX4_emptyPlace_11 : decode cX4_emptyPlace 11 = .ok (.aload_n 0, 1) := by decide +kernel
theorem dX4_emptyPlace_12 : decode cX4_emptyPlace 12 = .ok (.getfield 23, 3) := by decide +kernel
theorem dX4_emptyPlace_15 : decode cX4_emptyPlace 15 = .ok (.iload_n 1, 1) := by decide +kernel
theorem dX4_emptyPlace_16 : decode cX4_emptyPlace 16 = .ok (.aaload, 1) := by decide +kernel
theorem dX4_emptyPlace_17 : decode cX4_emptyPlace 17 = .ok (.ifnonnull 5, 3) := by decide +kernel
theorem dX4_emptyPlace_20 : decode cX4_emptyPlace 20 = .ok (.iload_n 1, 1) := by decide +kernel
theorem dX4_emptyPlace_21 : decode cX4_emptyPlace 21 = .ok (.ireturn, 1) := by decide +kernel
theorem dX4_emptyPlace_22 : decode cX4_emptyPlace 22 = .ok (.iinc 1 1, 3) := by decide +kernel
theorem dX4_emptyPlace_25 : decode cX4_emptyPlace 25 = .ok (.goto (-23), 3) := by decide +kernel
theorem dX4_emptyPlace_28 : decode cX4_emptyPlace 28 = .ok (.iconst (-1), 1) := by decide +kernel
theorem dX4_emptyPlace_29 : decode cX4_emptyPlace 29 = .ok (.ireturn, 1) := by decide +kernel
theorem dX4_addLock_0 : decode cX4_addLock 0 = .ok (.aload_n 0, 1) := by decide +kernel
theorem dX4_addLock_1 : decode cX4_addLock 1 = .ok (.invokevirtual 87, 3) := by decide +kernel
theorem dX4_addLock_4 : decode cX4_addLock 4 = .ok (.istore_n 2, 1) := by decide +kernel
theorem dX4_addLock_5 : decode cX4_addLock 5 = .ok (.iload_n 2, 1) := by decide +kernel
theorem dX4_addLock_6 : decode cX4_addLock 6 = .ok (.ifCond .lt 35, 3) := by decide +kernel
theorem dX4_addLock_9 : decode cX4_addLock 9 = .ok (.iload_n 2, 1) := by decide +kernel
theorem dX4_addLock_10 : decode cX4_addLock 10 = .ok (.aload_n 0, 1) := by decide +kernel
theorem dX4_addLock_11 : decode cX4_addLock 11 = .ok (.getfield 23, 3) := by decide +kernel
theorem dX4_addLock_14 : decode cX4_addLock 14 = .ok (.arraylength, 1) := by decide +kernel
theorem dX4_addLock_15 : decode cX4_addLock 15 = .ok (.if_icmp .ge 26, 3) := by decide +kernel
theorem dX4_addLock_18 : decode cX4_addLock 18 = .ok (.aload_n 0, 1) := by decide +kernel
theorem dX4_addLock_19 : decode cX4_addLock 19 = .ok (.getfield 23, 3) := by decide +kernel
theorem dX4_addLock_22 : decode cX4_addLock 22 = .ok (.iload_n 2, 1) := by decide +kernel
theorem dX4_addLock_23 : decode cX4_addLock 23 = .ok (.aload_n 1, 1) := by decide +kernel
theorem dX4_addLock_24 : decode cX4_addLock 24 = .ok (.aastore, 1) := by decide +kernel
theorem dX4_addLock_25 : decode cX4_addLock 25 = .ok (.aload_n 0, 1) := by decide +kernel
theorem dX4_addLock_26 : decode cX4_addLock 26 = .ok (.getfield 12, 3) := by decide +kernel
theorem dX4_addLock_29 : decode cX4_addLock 29 = .ok (.aload_n 1, 1) := by decide +kernel
theorem dX4_addLock_30 : decode cX4_addLock 30 = .ok (.getfield 90, 3) := by decide +kernel
theorem dX4_addLock_33 : decode cX4_addLock 33 = .ok (.aload_n 1, 1) := by decide +kernel
theorem dX4_addLock_34 : decode cX4_addLock 34 = .ok (.getfield 84, 3) := by decide +kernel
theorem dX4_addLock_37 : decode cX4_addLock 37 = .ok (.ineg, 1) := by decide +kernel
theorem dX4_addLock_38 : decode cX4_addLock 38 = .ok (.invokevirtual 93, 3) := by decide +kernel
theorem dX4_addLock_41 : decode cX4_addLock 41 = .ok (.iload_n 2, 1) := by decide +kernel
theorem dX4_addLock_42 : decode cX4_addLock 42 = .ok (.ireturn, 1) := by decide +kernel
theorem dX4_removeLock_0 : decode cX4_removeLock 0 = .ok (.iload_n 1, 1) := by decide +kernel
theorem dX4_removeLock_1 : decode cX4_removeLock 1 = .ok (.ifCond .lt 19, 3) := by decide +kernel
theorem dX4_removeLock_4 : decode cX4_removeLock 4 = .ok (.iload_n 1, 1) := by decide +kernel
theorem dX4_removeLock_5 : decode cX4_removeLock 5 = .ok (.aload_n 0, 1) := by decide +kernel
theorem dX4_removeLock_6 : decode cX4_removeLock 6 = .ok (.getfield 23, 3) := by decide +kernel
theorem dX4_removeLock_9 : decode cX4_removeLock 9 = .ok (.arraylength, 1) := by decide +kernel
theorem dX4_removeLock_10 : decode cX4_removeLock 10 = .ok (.if_icmp .ge 10, 3) := by decide +kernel
theorem dX4_removeLock_13 : decode cX4_removeLock 13 = .ok (.aload_n 0, 1) := by decide +kernel
theorem dX4_removeLock_14 : decode cX4_removeLock 14 = .ok (.getfield 23, 3) := by decide +kernel
theorem dX4_removeLock_17 : decode cX4_removeLock 17 = .ok (.iload_n 1, 1) := by decide +kernel
theorem dX4_removeLock_18 : decode cX4_removeLock 18 = .ok (.aconst_null, 1) := by decide +kernel
theorem dX4_removeLock_19 : decode cX4_removeLock 19 = .ok (.aastore, 1) := by decide +kernel
theorem dX4_removeLock_20 : decode cX4_removeLock 20 = .ok (.return_, 1) := by decide +kernel
theorem dX5_init_0 : decode cX5_init 0 = .ok (.aload_n 0, 1) := by decide +kernel
theorem dX5_init_1 : decode cX5_init 1 = .ok (.invokespecial 3, 3) := by decide +kernel
theorem dX5_init_4 : decode cX5_init 4 = .ok (.aload_n 0, 1) := by decide +kernel
theorem dX5_init_5 : decode cX5_init 5 = .ok (.bipush 6, 2) := by decide +kernel
theorem dX5_init_7 : decode cX5_init 7 = .ok (.newarray .int, 2) := by decide +kernel
theorem dX5_init_9 : decode cX5_init 9 = .ok (.putfield 9, 3) := by decide +kernel
theorem dX5_init_12 : decode cX5_init 12 = .ok (.return_, 1) := by decide +kernel
theorem dX5_get_0 : decode cX5_get 0 = .ok (.iload_n 1, 1) := by decide +kernel
theorem dX5_get_1 : decode cX5_get 1 = .ok (.ifCond .lt 21, 3) := by decide +kernel
theorem dX5_get_4 : decode cX5_get 4 = .ok (.iload_n 1, 1) := by decide +kernel
theorem dX5_get_5 : decode cX5_get 5 = .ok (.aload_n 0, 1) := by decide +kernel
theorem dX5_get_6 : decode cX5_get 6 = .ok (.getfield 9, 3) := by decide +kernel
theorem dX5_get_9 : decode cX5_get 9 = .ok (.arraylength, 1) := by decide +kernel
theorem dX5_get_10 : decode cX5_get 10 = .ok (.if_icmp .ge 12, 3) := by decide +kernel
theorem dX5_get_13 : decode cX5_get 13 = .ok (.aload_n 0, 1) := by decide +kernel
theorem dX5_get_14 : decode cX5_get 14 = .ok (.getfield 9, 3) := by decide +kernel
theorem dX5_get_17 : decode cX5_get 17 = .ok (.iload_n 1, 1) := by decide +kernel
theorem dX5_get_18 : decode cX5_get 18 = .ok (.iaload, 1) := by decide +kernel
theorem dX5_get_19 : decode cX5_get 19 = .ok (.goto 4, 3) := by decide +kernel
theorem dX5_get_22 : decode cX5_get 22 = .ok (.iconst 0, 1) := by decide +kernel
theorem dX5_get_23 : decode cX5_get 23 = .ok (.ireturn, 1) := by decide +kernel
theorem dX5_put_0 : decode cX5_put 0 = .ok (.iload_n 1, 1) := by decide +kernel
theorem dX5_put_1 : decode cX5_put 1 = .ok (.ifCond .lt 19, 3) := by decide +kernel
theorem dX5_put_4 : decode cX5_put 4 = .ok (.iload_n 1, 1) := by decide +kernel
theorem dX5_put_5 : decode cX5_put 5 = .ok (.aload_n 0, 1) := by decide +kernel
theorem dX5_put_6 : decode cX5_put 6 = .ok (.getfield 9, 3) := by decide +kernel
theorem dX5_put_9 : decode cX5_put 9 = .ok (.arraylength, 1) := by decide +kernel
theorem dX5_put_10 : decode cX5_put 10 = .ok (.if_icmp .ge 10, 3) := by decide +kernel
theorem dX5_put_13 : decode cX5_put 13 = .ok (.aload_n 0, 1) := by decide +kernel
theorem dX5_put_14 : decode cX5_put 14 = .ok (.getfield 9, 3) := by decide +kernel
theorem dX5_put_17 : decode cX5_put 17 = .ok (.iload_n 1, 1) := by decide +kernel
theorem dX5_put_18 : decode cX5_put 18 = .ok (.iload_n 2, 1) := by decide +kernel
theorem dX5_put_19 : decode cX5_put 19 = .ok (.iastore, 1) := by decide +kernel
theorem dX5_put_20 : decode cX5_put 20 = .ok (.return_, 1) := by decide +kernel
theorem dX5_add_0 : decode cX5_add 0 = .ok (.iload_n 1, 1) := by decide +kernel
theorem dX5_add_1 : decode cX5_add 1 = .ok (.ifCond .lt 22, 3) := by decide +kernel
theorem dX5_add_4 : decode cX5_add 4 = .ok (.iload_n 1, 1) := by decide +kernel
theorem dX5_add_5 : decode cX5_add 5 = .ok (.aload_n 0, 1) := by decide +kernel
theorem dX5_add_6 : decode cX5_add 6 = .ok (.getfield 9, 3) := by decide +kernel
theorem dX5_add_9 : decode cX5_add 9 = .ok (.arraylength, 1) := by decide +kernel
theorem dX5_add_10 : decode cX5_add 10 = .ok (.if_icmp .ge 13, 3) := by decide +kernel
theorem dX5_add_13 : decode cX5_add 13 = .ok (.aload_n 0, 1) := by decide +kernel
theorem dX5_add_14 : decode cX5_add 14 = .ok (.getfield 9, 3) := by decide +kernel
theorem dX5_add_17 : decode cX5_add 17 = .ok (.iload_n 1, 1) := by decide +kernel
theorem dX5_add_18 : decode cX5_add 18 = .ok (.dup2, 1) := by decide +kernel
theorem dX5_add_19 : decode cX5_add 19 = .ok (.iaload, 1) := by decide +kernel
theorem dX5_add_20 : decode cX5_add 20 = .ok (.iload_n 2, 1) := by decide +kernel
theorem dX5_add_21 : decode cX5_add 21 = .ok (.iadd, 1) := by decide +kernel
theorem dX5_add_22 : decode cX5_add 22 = .ok (.iastore, 1) := by decide +kernel
theorem dX5_add_23 : decode cX5_add 23 = .ok (.return_, 1) := by decide +kernel
theorem dX5_total_0 : decode cX5_total 0 = .ok (.iconst 0, 1) := by decide +kernel
theorem dX5_total_1 : decode cX5_total 1 = .ok (.istore_n 1, 1) := by decide +kernel
theorem dX5_total_2 : decode cX5_total 2 = .ok (.aload_n 0, 1) := by decide +kernel
theorem dX5_total_3 : decode cX5_total 3 = .ok (.getfield 9, 3) := by decide +kernel
theorem dX5_total_6 : decode cX5_total 6 = .ok (.astore_n 2, 1) := by decide +kernel
theorem dX5_total_7 : decode cX5_total 7 = .ok (.aload_n 2, 1) := by decide +kernel
theorem dX5_total_8 : decode cX5_total 8 = .ok (.arraylength, 1) := by decide +kernel
theorem dX5_total_9 : decode cX5_total 9 = .ok (.istore_n 3, 1) := by decide +kernel
theorem dX5_total_10 : decode cX5_total 10 = .ok (.iconst 0, 1) := by decide +kernel
theorem dX5_total_11 : decode cX5_total 11 = .ok (.istore 4, 2) := by decide +kernel
theorem dX5_total_13 : decode cX5_total 13 = .ok (.iload 4, 2) := by decide +kernel
theorem dX5_total_15 : decode cX5_total 15 = .ok (.iload_n 3, 1) := by decide +kernel
theorem dX5_total_16 : decode cX5_total 16 = .ok (.if_icmp .ge 20, 3) := by decide +kernel
theorem dX5_total_19 : decode cX5_total 19 = .ok (.aload_n 2, 1) := by decide +kernel
theorem dX5_total_20 : decode cX5_total 20 = .ok (.iload 4, 2) := by decide +kernel
theorem dX5_total_22 : decode cX5_total 22 = .ok (.iaload, 1) := by decide +kernel
theorem dX5_total_23 : decode cX5_total 23 = .ok (.istore 5, 2) := by decide +kernel
theorem dX5_total_25 : decode cX5_total 25 = .ok (.iload_n 1, 1) := by decide +kernel
theorem dX5_total_26 : decode cX5_total 26 = .ok (.iload 5, 2) := by decide +kernel
theorem dX5_total_28 : decode cX5_total 28 = .ok (.iadd, 1) := by decide +kernel
theorem dX5_total_29 : decode cX5_total 29 = .ok (.istore_n 1, 1) := by decide +kernel
theorem dX5_total_30 : decode cX5_total 30 = .ok (.iinc 4 1, 3) := by decide +kernel
theorem dX5_total_33 : decode cX5_total 33 = .ok (.goto (-20), 3) := by decide +kernel
theorem dX5_total_36 : decode cX5_total 36 = .ok (.iload_n 1, 1) := by decide +kernel
theorem dX5_total_37 : decode cX5_total 37 = .ok (.ireturn, 1) := by decide +kernel
theorem dJ6_bitCount_0f7a4_0 : decode cJ6_bitCount_0f7a4 0 = .ok (.iload_n 0, 1) := by decide +kernel
theorem dJ6_bitCount_0f7a4_1 : decode cJ6_bitCount_0f7a4 1 = .ok (.iload_n 0, 1) := by decide +kernel
theorem dJ6_bitCount_0f7a4_2 : decode cJ6_bitCount_0f7a4 2 = .ok (.iconst 1, 1) := by decide +kernel
theorem dJ6_bitCount_0f7a4_3 : decode cJ6_bitCount_0f7a4 3 = .ok (.iushr, 1) := by decide +kernel
theorem dJ6_bitCount_0f7a4_4 : decode cJ6_bitCount_0f7a4 4 = .ok (.ldc_w 265, 3) := by decide +kernel
theorem dJ6_bitCount_0f7a4_7 : decode cJ6_bitCount_0f7a4 7 = .ok (.iand, 1) := by decide +kernel
theorem dJ6_bitCount_0f7a4_8 : decode cJ6_bitCount_0f7a4 8 = .ok (.isub, 1) := by decide +kernel
theorem dJ6_bitCount_0f7a4_9 : decode cJ6_bitCount_0f7a4 9 = .ok (.istore_n 0, 1) := by decide +kernel
theorem dJ6_bitCount_0f7a4_10 : decode cJ6_bitCount_0f7a4 10 = .ok (.iload_n 0, 1) := by decide +kernel
theorem dJ6_bitCount_0f7a4_11 : decode cJ6_bitCount_0f7a4 11 = .ok (.ldc_w 266, 3) := by decide +kernel
theorem dJ6_bitCount_0f7a4_14 : decode cJ6_bitCount_0f7a4 14 = .ok (.iand, 1) := by decide +kernel
theorem dJ6_bitCount_0f7a4_15 : decode cJ6_bitCount_0f7a4 15 = .ok (.iload_n 0, 1) := by decide +kernel
theorem dJ6_bitCount_0f7a4_16 : decode cJ6_bitCount_0f7a4 16 = .ok (.iconst 2, 1) := by decide +kernel
theorem dJ6_bitCount_0f7a4_17 : decode cJ6_bitCount_0f7a4 17 = .ok (.iushr, 1) := by decide +kernel
theorem dJ6_bitCount_0f7a4_18 : decode cJ6_bitCount_0f7a4 18 = .ok (.ldc_w 266, 3) := by decide +kernel
theorem dJ6_bitCount_0f7a4_21 : decode cJ6_bitCount_0f7a4 21 = .ok (.iand, 1) := by decide +kernel
theorem dJ6_bitCount_0f7a4_22 : decode cJ6_bitCount_0f7a4 22 = .ok (.iadd, 1) := by decide +kernel
theorem dJ6_bitCount_0f7a4_23 : decode cJ6_bitCount_0f7a4 23 = .ok (.istore_n 0, 1) := by decide +kernel
theorem dJ6_bitCount_0f7a4_24 : decode cJ6_bitCount_0f7a4 24 = .ok (.iload_n 0, 1) := by decide +kernel
theorem dJ6_bitCount_0f7a4_25 : decode cJ6_bitCount_0f7a4 25 = .ok (.iload_n 0, 1) := by decide +kernel
theorem dJ6_bitCount_0f7a4_26 : decode cJ6_bitCount_0f7a4 26 = .ok (.iconst 4, 1) := by decide +kernel
theorem dJ6_bitCount_0f7a4_27 : decode cJ6_bitCount_0f7a4 27 = .ok (.iushr, 1) := by decide +kernel
theorem dJ6_bitCount_0f7a4_28 : decode cJ6_bitCount_0f7a4 28 = .ok (.iadd, 1) := by decide +kernel
theorem dJ6_bitCount_0f7a4_29 : decode cJ6_bitCount_0f7a4 29 = .ok (.ldc_w 267, 3) := by decide +kernel
theorem dJ6_bitCount_0f7a4_32 : decode cJ6_bitCount_0f7a4 32 = .ok (.iand, 1) := by decide +kernel
theorem dJ6_bitCount_0f7a4_33 : decode cJ6_bitCount_0f7a4 33 = .ok (.istore_n 0, 1) := by decide +kernel
theorem dJ6_bitCount_0f7a4_34 : decode cJ6_bitCount_0f7a4 34 = .ok (.iload_n 0, 1) := by decide +kernel
theorem dJ6_bitCount_0f7a4_35 : decode cJ6_bitCount_0f7a4 35 = .ok (.iload_n 0, 1) := by decide +kernel
theorem dJ6_bitCount_0f7a4_36 : decode cJ6_bitCount_0f7a4 36 = .ok (.bipush 8, 2) := by decide +kernel
theorem dJ6_bitCount_0f7a4_38 : decode cJ6_bitCount_0f7a4 38 = .ok (.iushr, 1) := by decide +kernel
theorem dJ6_bitCount_0f7a4_39 : decode cJ6_bitCount_0f7a4 39 = .ok (.iadd, 1) := by decide +kernel
theorem dJ6_bitCount_0f7a4_40 : decode cJ6_bitCount_0f7a4 40 = .ok (.istore_n 0, 1) := by decide +kernel
theorem dJ6_bitCount_0f7a4_41 : decode cJ6_bitCount_0f7a4 41 = .ok (.iload_n 0, 1) := by decide +kernel
theorem dJ6_bitCount_0f7a4_42 : decode cJ6_bitCount_0f7a4 42 = .ok (.iload_n 0, 1) := by decide +kernel
theorem dJ6_bitCount_0f7a4_43 : decode cJ6_bitCount_0f7a4 43 = .ok (.bipush 16, 2) := by decide +kernel
theorem dJ6_bitCount_0f7a4_45 : decode cJ6_bitCount_0f7a4 45 = .ok (.iushr, 1) := by decide +kernel
theorem dJ6_bitCount_0f7a4_46 : decode cJ6_bitCount_0f7a4 46 = .ok (.iadd, 1) := by decide +kernel
theorem dJ6_bitCount_0f7a4_47 : decode cJ6_bitCount_0f7a4 47 = .ok (.istore_n 0, 1) := by decide +kernel
theorem dJ6_bitCount_0f7a4_48 : decode cJ6_bitCount_0f7a4 48 = .ok (.iload_n 0, 1) := by decide +kernel
theorem dJ6_bitCount_0f7a4_49 : decode cJ6_bitCount_0f7a4 49 = .ok (.bipush 63, 2) := by decide +kernel
theorem dJ6_bitCount_0f7a4_51 : decode cJ6_bitCount_0f7a4 51 = .ok (.iand, 1) := by decide +kernel
theorem dJ6_bitCount_0f7a4_52 : decode cJ6_bitCount_0f7a4 52 = .ok (.ireturn, 1) := by decide +kernel
end
section
theorem dX6_init_0 : decode cX6_init 0 = .ok (.aload_n 0, 1) := by decide +kernel
theorem dX6_init_1 : decode cX6_init 1 = .ok (.invokespecial 1, 3) := by decide +kernel
theorem dX6_init_4 : decode cX6_init 4 = .ok (.aload_n 0, 1) := by decide +kernel
theorem dX6_init_5 : decode cX6_init 5 = .ok (.new 7, 3) := by decide +kernel
theorem dX6_init_8 : decode cX6_init 8 = .ok (.dup, 1) := by decide +kernel
theorem dX6_init_9 : decode cX6_init 9 = .ok (.invokespecial 9, 3) := by decide +kernel
theorem dX6_init_12 : decode cX6_init 12 = .ok (.putfield 10, 3) := by decide +kernel
theorem dX6_init_15 : decode cX6_init 15 = .ok (.aload_n 0, 1) := by decide +kernel
theorem dX6_init_16 : decode cX6_init 16 = .ok (.bipush 8, 2) := by decide +kernel
theorem dX6_init_18 : decode cX6_init 18 = .ok (.anewarray 16, 3) := by decide +kernel
theorem dX6_init_21 : decode cX6_init 21 = .ok (.putfield 18, 3) := by decide +kernel
theorem dX6_init_24 : decode cX6_init 24 = .ok (.aload_n 0, 1) := by decide +kernel
theorem dX6_init_25 : decode cX6_init 25 = .ok (.bipush 64, 2) := by decide +kernel
theorem dX6_init_27 : decode cX6_init 27 = .ok (.anewarray 22, 3) := by decide +kernel
theorem dX6_init_30 : decode cX6_init 30 = .ok (.putfield 24, 3) := by decide +kernel
theorem dX6_init_33 : decode cX6_init 33 = .ok (.aload_n 0, 1) := by decide +kernel
theorem dX6_init_34 : decode cX6_init 34 = .ok (.bipush 16, 2) := by decide +kernel
theorem dX6_init_36 : decode cX6_init 36 = .ok (.newarray .int, 2) := by decide +kernel
theorem dX6_init_38 : decode cX6_init 38 = .ok (.putfield 28, 3) := by decide +kernel
theorem dX6_init_41 : decode cX6_init 41 = .ok (.aload_n 0, 1) := by decide +kernel
theorem dX6_init_42 : decode cX6_init 42 = .ok (.iconst 4, 1) := by decide +kernel
theorem dX6_init_43 : decode cX6_init 43 = .ok (.anewarray 32, 3) := by decide +kernel
theorem dX6_init_46 : decode cX6_init 46 = .ok (.putfield 34, 3) := by decide +kernel
theorem dX6_init_49 : decode cX6_init 49 = .ok (.iconst 0, 1) := by decide +kernel
theorem dX6_init_50 : decode cX6_init 50 = .ok (.istore_n 1, 1) := by decide +kernel
theorem dX6_init_51 : decode cX6_init 51 = .ok (.iload_n 1, 1) := by decide +kernel
theorem dX6_init_52 : decode cX6_init 52 = .ok (.bipush 6, 2) := by decide +kernel
theorem dX6_init_54 : decode cX6_init 54 = .ok (.if_icmp .ge 20, 3) := by decide +kernel
theorem dX6_init_57 : decode cX6_init 57 = .ok (.aload_n 0, 1) := by decide +kernel
theorem dX6_init_58 : decode cX6_init 58 = .ok (.getfield 10, 3) := by decide +kernel
theorem dX6_init_61 : decode cX6_init 61 = .ok (.iload_n 1, 1) := by decide +kernel
theorem dX6_init_62 : decode cX6_init 62 = .ok (.sipush 10000, 3) := by decide +kernel
theorem dX6_init_65 : decode cX6_init 65 = .ok (.invokevirtual 38, 3) := by decide +kernel
theorem dX6_init_68 : decode cX6_init 68 = .ok (.iinc 1 1, 3) := by decide +kernel
theorem dX6_init_71 : decode cX6_init 71 = .ok (.goto (-20), 3) := by decide +kernel
theorem dX6_init_74 : decode cX6_init 74 = .ok (.return_, 1) := by decide +kernel
theorem dX6_channel_0 : decode cX6_channel 0 = .ok (.iload_n 1, 1) := by decide +kernel
theorem dX6_channel_1 : decode cX6_channel 1 = .ok (.ifCond .lt 9, 3) := by decide +kernel
theorem dX6_channel_4 : decode cX6_channel 4 = .ok (.iload_n 1, 1) := by decide +kernel
theorem dX6_channel_5 : decode cX6_channel 5 = .ok (.bipush 63, 2) := by decide +kernel
theorem dX6_channel_7 : decode cX6_channel 7 = .ok (.if_icmp .le 5, 3) := by decide +kernel
theorem dX6_channel_10 : decode cX6_channel 10 = .ok (.iconst (-1), 1) := by decide +kernel
theorem dX6_channel_11 : decode cX6_channel 11 = .ok (.ireturn, 1) := by decide +kernel
theorem dX6_channel_12 : decode cX6_channel 12 = .ok (.iload_n 2, 1) := by decide +kernel
theorem dX6_channel_13 : decode cX6_channel 13 = .ok (.iconst 0, 1) := by decide +kernel
theorem dX6_channel_14 : decode cX6_channel 14 = .ok (.sipush 10000, 3) := by decide +kernel
theorem dX6_channel_17 : decode cX6_channel 17 = .ok (.invokestatic 42, 3) := by decide +kernel
theorem dX6_channel_20 : decode cX6_channel 20 = .ok (.ifCond .eq 25, 3) := by decide +kernel
theorem dX6_channel_23 : decode cX6_channel 23 = .ok (.iload_n 3, 1) := by decide +kernel
theorem dX6_channel_24 : decode cX6_channel 24 = .ok (.iconst 2, 1) := by decide +kernel
theorem dX6_channel_25 : decode cX6_channel 25 = .ok (.bipush 20, 2) := by decide +kernel
theorem dX6_channel_27 : decode cX6_channel 27 = .ok (.invokestatic 42, 3) := by decide +kernel
theorem dX6_channel_30 : decode cX6_channel 30 = .ok (.ifCond .eq 15, 3) := by decide +kernel
theorem dX6_channel_33 : decode cX6_channel 33 = .ok (.iload_n 1, 1) := by decide +kernel
theorem dX6_channel_34 : decode cX6_channel 34 = .ok (.invokestatic 46, 3) := by decide +kernel
theorem dX6_channel_37 : decode cX6_channel 37 = .ok (.iconst 2, 1) := by decide +kernel
theorem dX6_channel_38 : decode cX6_channel 38 = .ok (.iconst 4, 1) := by decide +kernel
theorem dX6_channel_39 : decode cX6_channel 39 = .ok (.invokestatic 42, 3) := by decide +kernel
theorem dX6_channel_42 : decode cX6_channel 42 = .ok (.ifCond .ne 6, 3) := by decide +kernel
theorem dX6_channel_45 : decode cX6_channel 45 = .ok (.bipush (-3), 2) := by decide +kernel
theorem dX6_channel_47 : decode cX6_channel 47 = .ok (.ireturn, 1) := by decide +kernel
theorem dX6_channel_48 : decode cX6_channel 48 = .ok (.aload_n 0, 1) := by decide +kernel
theorem dX6_channel_49 : decode cX6_channel 49 = .ok (.getfield 52, 3) := by decide +kernel
theorem dX6_channel_52 : decode cX6_channel 52 = .ok (.aload_n 0, 1) := by decide +kernel
theorem dX6_channel_53 : decode cX6_channel 53 = .ok (.getfield 18, 3) := by decide +kernel
theorem dX6_channel_56 : decode cX6_channel 56 = .ok (.arraylength, 1) := by decide +kernel
theorem dX6_channel_57 : decode cX6_channel 57 = .ok (.if_icmp .ge 20, 3) := by decide +kernel
theorem dX6_channel_60 : decode cX6_channel 60 = .ok (.aload_n 0, 1) := by decide +kernel
theorem dX6_channel_61 : decode cX6_channel 61 = .ok (.iconst 1, 1) := by decide +kernel
theorem dX6_channel_62 : decode cX6_channel 62 = .ok (.invokevirtual 56, 3) := by decide +kernel
theorem dX6_channel_65 : decode cX6_channel 65 = .ok (.ifCond .eq 12, 3) := by decide +kernel
theorem dX6_channel_68 : decode cX6_channel 68 = .ok (.aload_n 0, 1) := by decide +kernel
theorem dX6_channel_69 : decode cX6_channel 69 = .ok (.iload_n 1, 1) := by decide +kernel
theorem dX6_channel_70 : decode cX6_channel 70 = .ok (.iload_n 2, 1) := by decide +kernel
theorem dX6_channel_71 : decode cX6_channel 71 = .ok (.invokevirtual 60, 3) := by decide +kernel
theorem dX6_channel_74 : decode cX6_channel 74 = .ok (.ifCond .ne 6, 3) := by decide +kernel
theorem dX6_channel_77 : decode cX6_channel 77 = .ok (.bipush (-4), 2) := by decide +kernel
theorem dX6_channel_79 : decode cX6_channel 79 = .ok (.ireturn, 1) := by decide +kernel
theorem dX6_channel_80 : decode cX6_channel 80 = .ok (.new 16, 3) := by decide +kernel
theorem dX6_channel_83 : decode cX6_channel 83 = .ok (.dup, 1) := by decide +kernel
theorem dX6_channel_84 : decode cX6_channel 84 = .ok (.aload_n 0, 1) := by decide +kernel
theorem dX6_channel_85 : decode cX6_channel 85 = .ok (.getfield 52, 3) := by decide +kernel
theorem dX6_channel_88 : decode cX6_channel 88 = .ok (.iload_n 1, 1) := by decide +kernel
theorem dX6_channel_89 : decode cX6_channel 89 = .ok (.iload_n 3, 1) := by decide +kernel
theorem dX6_channel_90 : decode cX6_channel 90 = .ok (.invokespecial 64, 3) := by decide +kernel
theorem dX6_channel_93 : decode cX6_channel 93 = .ok (.astore 4, 2) := by decide +kernel
theorem dX6_channel_95 : decode cX6_channel 95 = .ok (.aload_n 0, 1) := by decide +kernel
theorem dX6_channel_96 : decode cX6_channel 96 = .ok (.getfield 18, 3) := by decide +kernel
theorem dX6_channel_99 : decode cX6_channel 99 = .ok (.aload_n 0, 1) := by decide +kernel
theorem dX6_channel_100 : decode cX6_channel 100 = .ok (.getfield 52, 3) := by decide +kernel
theorem dX6_channel_103 : decode cX6_channel 103 = .ok (.aload 4, 2) := by decide +kernel
theorem dX6_channel_105 : decode cX6_channel 105 = .ok (.aastore, 1) := by decide +kernel
theorem dX6_channel_106 : decode cX6_channel 106 = .ok (.aload_n 0, 1) := by decide +kernel
theorem dX6_channel_107 : decode cX6_channel 107 = .ok (.dup, 1) := by decide +kernel
theorem dX6_channel_108 : decode cX6_channel 108 = .ok (.getfield 52, 3) := by decide +kernel
theorem dX6_channel_111 : decode cX6_channel 111 = .ok (.iconst 1, 1) := by decide +kernel
theorem dX6_channel_112 : decode cX6_channel 112 = .ok (.iadd, 1) := by decide +kernel
theorem dX6_channel_113 : decode cX6_channel 113 = .ok (.putfield 52, 3) := by decide +kernel
theorem dX6_channel_116 : decode cX6_channel 116 = .ok (.aload_n 0, 1) := by decide +kernel
theorem dX6_channel_117 : decode cX6_channel 117 = .ok (.aload 4, 2) := by decide +kernel
theorem dX6_channel_119 : decode cX6_channel 119 = .ok (.invokevirtual 67, 3) := by decide +kernel
theorem dX6_channel_122 : decode cX6_channel 122 = .ok (.astore 5, 2) := by decide +kernel
theorem dX6_channel_124 : decode cX6_channel 124 = .ok (.iconst 0, 1) := by decide +kernel
theorem dX6_channel_125 : decode cX6_channel 125 = .ok (.istore 6, 2) := by decide +kernel
theorem dX6_channel_127 : decode cX6_channel 127 = .ok (.iload 6, 2) := by decide +kernel
theorem dX6_channel_129 : decode cX6_channel 129 = .ok (.bipush 6, 2) := by decide +kernel
theorem dX6_channel_131 : decode cX6_channel 131 = .ok (.if_icmp .ge 52, 3) := by decide +kernel
theorem dX6_channel_134 : decode cX6_channel 134 = .ok (.aload 4, 2) := by decide +kernel
theorem dX6_channel_136 : decode cX6_channel 136 = .ok (.iload 6, 2) := by decide +kernel
theorem dX6_channel_138 : decode cX6_channel 138 = .ok (.invokevirtual 71, 3) := by decide +kernel
theorem dX6_channel_141 : decode cX6_channel 141 = .ok (.ifCond .eq 36, 3) := by decide +kernel
theorem dX6_channel_144 : decode cX6_channel 144 = .ok (.aload_n 0, 1) := by decide +kernel
theorem dX6_channel_145 : decode cX6_channel 145 = .ok (.getfield 10, 3) := by decide +kernel
theorem dX6_channel_148 : decode cX6_channel 148 = .ok (.iload 6, 2) := by decide +kernel
theorem dX6_channel_150 : decode cX6_channel 150 = .ok (.iload_n 2, 1) := by decide +kernel
theorem dX6_channel_151 : decode cX6_channel 151 = .ok (.ineg, 1) := by decide +kernel
theorem dX6_channel_152 : decode cX6_channel 152 = .ok (.invokevirtual 74, 3) := by decide +kernel
theorem dX6_channel_155 : decode cX6_channel 155 = .ok (.aload 4, 2) := by decide +kernel
theorem dX6_channel_157 : decode cX6_channel 157 = .ok (.dup, 1) := by decide +kernel
theorem dX6_channel_158 : decode cX6_channel 158 = .ok (.getfield 77, 3) := by decide +kernel
theorem dX6_channel_161 : decode cX6_channel 161 = .ok (.iload_n 2, 1) := by decide +kernel
theorem dX6_channel_162 : decode cX6_channel 162 = .ok (.iadd, 1) := by decide +kernel
theorem dX6_channel_163 : decode cX6_channel 163 = .ok (.putfield 77, 3) := by decide +kernel
theorem dX6_channel_166 : decode cX6_channel 166 = .ok (.aload 5, 2) := by decide +kernel
theorem dX6_channel_168 : decode cX6_channel 168 = .ok (.getfield 80, 3) := by decide +kernel
theorem dX6_channel_171 : decode cX6_channel 171 = .ok (.iload 6, 2) := by decide +kernel
theorem dX6_channel_173 : decode cX6_channel 173 = .ok (.iload_n 2, 1) := by decide +kernel
theorem dX6_channel_174 : decode cX6_channel 174 = .ok (.invokevirtual 38, 3) := by decide +kernel
theorem dX6_channel_177 : decode cX6_channel 177 = .ok (.iinc 6 1, 3) := by decide +kernel
theorem dX6_channel_180 : decode cX6_channel 180 = .ok (.goto (-53), 3) := by decide +kernel
theorem dX6_channel_183 : decode cX6_channel 183 = .ok (.aload 5, 2) := by decide +kernel
theorem dX6_channel_185 : decode cX6_channel 185 = .ok (.iload_n 1, 1) := by decide +kernel
theorem dX6_channel_186 : decode cX6_channel 186 = .ok (.putfield 83, 3) := by decide +kernel
theorem dX6_channel_189 : decode cX6_channel 189 = .ok (.aload 4, 2) := by decide +kernel
theorem dX6_channel_191 : decode cX6_channel 191 = .ok (.aload 5, 2) := by decide +kernel
theorem dX6_channel_193 : decode cX6_channel 193 = .ok (.putfield 86, 3) := by decide +kernel
theorem dX6_channel_196 : decode cX6_channel 196 = .ok (.aload 4, 2) := by decide +kernel
theorem dX6_channel_198 : decode cX6_channel 198 = .ok (.getfield 90, 3) := by decide +kernel
theorem dX6_channel_201 : decode cX6_channel 201 = .ok (.ireturn, 1) := by decide +kernel
theorem dX6_state_0 : decode cX6_state 0 = .ok (.aload_n 0, 1) := by decide +kernel
theorem dX6_state_1 : decode cX6_state 1 = .ok (.iload_n 1, 1) := by decide +kernel
theorem dX6_state_2 : decode cX6_state 2 = .ok (.invokevirtual 93, 3) := by decide +kernel
theorem dX6_state_5 : decode cX6_state 5 = .ok (.astore_n 2, 1) := by decide +kernel
theorem dX6_state_6 : decode cX6_state 6 = .ok (.aload_n 2, 1) := by decide +kernel
theorem dX6_state_7 : decode cX6_state 7 = .ok (.ifnonnull 5, 3) := by decide +kernel
theorem dX6_state_10 : decode cX6_state 10 = .ok (.iconst (-1), 1) := by decide +kernel
theorem dX6_state_11 : decode cX6_state 11 = .ok (.ireturn, 1) := by decide +kernel
theorem dX6_state_12 : decode cX6_state 12 = .ok (.aload_n 2, 1) := by decide +kernel
theorem dX6_state_13 : decode cX6_state 13 = .ok (.getfield 97, 3) := by decide +kernel
theorem dX6_state_16 : decode cX6_state 16 = .ok (.iconst 3, 1) := by decide +kernel
theorem dX6_state_17 : decode cX6_state 17 = .ok (.if_icmp .ne 6, 3) := by decide +kernel
theorem dX6_state_20 : decode cX6_state 20 = .ok (.bipush (-2), 2) := by decide +kernel
theorem dX6_state_22 : decode cX6_state 22 = .ok (.ireturn, 1) := by decide +kernel
theorem dX6_state_23 : decode cX6_state 23 = .ok (.aload_n 0, 1) := by decide +kernel
theorem dX6_state_24 : decode cX6_state 24 = .ok (.iconst 1, 1) := by decide +kernel
theorem dX6_state_25 : decode cX6_state 25 = .ok (.invokevirtual 56, 3) := by decide +kernel
theorem dX6_state_28 : decode cX6_state 28 = .ok (.ifCond .ne 6, 3) := by decide +kernel
theorem dX6_state_31 : decode cX6_state 31 = .ok (.bipush (-4), 2) := by decide +kernel
theorem dX6_state_33 : decode cX6_state 33 = .ok (.ireturn, 1) := by decide +kernel
theorem dX6_state_34 : decode cX6_state 34 = .ok (.aload_n 0, 1) := by decide +kernel
theorem dX6_state_35 : decode cX6_state 35 = .ok (.aload_n 2, 1) := by decide +kernel
theorem dX6_state_36 : decode cX6_state 36 = .ok (.invokevirtual 100, 3) := by decide +kernel
theorem dX6_state_39 : decode cX6_state 39 = .ok (.getfield 103, 3) := by decide +kernel
theorem dX6_state_42 : decode cX6_state 42 = .ok (.ireturn, 1) := by decide +kernel
theorem dX6_hasRoomForStates_0 : decode cX6_hasRoomForStates 0 = .ok (.aload_n 0, 1) := by decide +kernel
theorem dX6_hasRoomForStates_1 : decode cX6_hasRoomForStates 1 = .ok (.getfield 104, 3) := by decide +kernel
theorem dX6_hasRoomForStates_4 : decode cX6_hasRoomForStates 4 = .ok (.iload_n 1, 1) := by decide +kernel
theorem dX6_hasRoomForStates_5 : decode cX6_hasRoomForStates 5 = .ok (.iadd, 1) := by decide +kernel
theorem dX6_hasRoomForStates_6 : decode cX6_hasRoomForStates 6 = .ok (.aload_n 0, 1) := by decide +kernel
theorem dX6_hasRoomForStates_7 : decode cX6_hasRoomForStates 7 = .ok (.getfield 24, 3) := by decide +kernel
theorem dX6_hasRoomForStates_10 : decode cX6_hasRoomForStates 10 = .ok (.arraylength, 1) := by decide +kernel
theorem dX6_hasRoomForStates_11 : decode cX6_hasRoomForStates 11 = .ok (.if_icmp .gt 7, 3) := by decide +kernel
theorem dX6_hasRoomForStates_14 : decode cX6_hasRoomForStates 14 = .ok (.iconst 1, 1) := by decide +kernel
theorem dX6_hasRoomForStates_15 : decode cX6_hasRoomForStates 15 = .ok (.goto 4, 3) := by decide +kernel
theorem dX6_hasRoomForStates_18 : decode cX6_hasRoomForStates 18 = .ok (.iconst 0, 1) := by decide +kernel
theorem dX6_hasRoomForStates_19 : decode cX6_hasRoomForStates 19 = .ok (.ireturn, 1) := by decide +kernel
theorem dX6_allHave_0 : decode cX6_allHave 0 = .ok (.iconst 0, 1) := by decide +kernel
theorem dX6_allHave_1 : decode cX6_allHave 1 = .ok (.istore_n 3, 1) := by decide +kernel
theorem dX6_allHave_2 : decode cX6_allHave 2 = .ok (.iload_n 3, 1) := by decide +kernel
theorem dX6_allHave_3 : decode cX6_allHave 3 = .ok (.bipush 6, 2) := by decide +kernel
theorem dX6_allHave_5 : decode cX6_allHave 5 = .ok (.if_icmp .ge 31, 3) := by decide +kernel
theorem dX6_allHave_8 : decode cX6_allHave 8 = .ok (.iload_n 1, 1) := by decide +kernel
theorem dX6_allHave_9 : decode cX6_allHave 9 = .ok (.iload_n 3, 1) := by decide +kernel
theorem dX6_allHave_10 : decode cX6_allHave 10 = .ok (.invokestatic 107, 3) := by decide +kernel
theorem dX6_allHave_13 : decode cX6_allHave 13 = .ok (.ifCond .eq 17, 3) := by decide +kernel
theorem dX6_allHave_16 : decode cX6_allHave 16 = .ok (.aload_n 0, 1) := by decide +kernel
theorem dX6_allHave_17 : decode cX6_allHave 17 = .ok (.getfield 10, 3) := by decide +kernel
theorem dX6_allHave_20 : decode cX6_allHave 20 = .ok (.iload_n 3, 1) := by decide +kernel
theorem dX6_allHave_21 : decode cX6_allHave 21 = .ok (.invokevirtual 110, 3) := by decide +kernel
theorem dX6_allHave_24 : decode cX6_allHave 24 = .ok (.iload_n 2, 1) := by decide +kernel
theorem dX6_allHave_25 : decode cX6_allHave 25 = .ok (.if_icmp .ge 5, 3) := by decide +kernel
theorem dX6_allHave_28 : decode cX6_allHave 28 = .ok (.iconst 0, 1) := by decide +kernel
theorem dX6_allHave_29 : decode cX6_allHave 29 = .ok (.ireturn, 1) := by decide +kernel
theorem dX6_allHave_30 : decode cX6_allHave 30 = .ok (.iinc 3 1, 3) := by decide +kernel
theorem dX6_allHave_33 : decode cX6_allHave 33 = .ok (.goto (-31), 3) := by decide +kernel
theorem dX6_allHave_36 : decode cX6_allHave 36 = .ok (.iconst 1, 1) := by decide +kernel
theorem dX6_allHave_37 : decode cX6_allHave 37 = .ok (.ireturn, 1) := by decide +kernel
theorem dX6_newState_0 : decode cX6_newState 0 = .ok (.new 22, 3) := by decide +kernel
theorem dX6_newState_3 : decode cX6_newState 3 = .ok (.dup, 1) := by decide +kernel
theorem dX6_newState_4 : decode cX6_newState 4 = .ok (.aload_n 0, 1) := by decide +kernel
theorem dX6_newState_5 : decode cX6_newState 5 = .ok (.getfield 104, 3) := by decide +kernel
theorem dX6_newState_8 : decode cX6_newState 8 = .ok (.aload_n 1, 1) := by decide +kernel
theorem dX6_newState_9 : decode cX6_newState 9 = .ok (.aload_n 1, 1) := by decide +kernel
theorem dX6_newState_10 : decode cX6_newState 10 = .ok (.getfield 113, 3) := by decide +kernel
theorem dX6_newState_13 : decode cX6_newState 13 = .ok (.invokespecial 116, 3) := by decide +kernel
theorem dX6_newState_16 : decode cX6_newState 16 = .ok (.astore_n 2, 1) := by decide +kernel
theorem dX6_newState_17 : decode cX6_newState 17 = .ok (.aload_n 0, 1) := by decide +kernel
theorem dX6_newState_18 : decode cX6_newState 18 = .ok (.getfield 104, 3) := by decide +kernel
theorem dX6_newState_21 : decode cX6_newState 21 = .ok (.ifCond .lt 45, 3) := by decide +kernel
theorem dX6_newState_24 : decode cX6_newState 24 = .ok (.aload_n 0, 1) := by decide +kernel
theorem dX6_newState_25 : decode cX6_newState 25 = .ok (.getfield 104, 3) := by decide +kernel
theorem dX6_newState_28 : decode cX6_newState 28 = .ok (.aload_n 0, 1) := by decide +kernel
theorem dX6_newState_29 : decode cX6_newState 29 = .ok (.getfield 24, 3) := by decide +kernel
theorem dX6_newState_32 : decode cX6_newState 32 = .ok (.arraylength, 1) := by decide +kernel
theorem dX6_newState_33 : decode cX6_newState 33 = .ok (.if_icmp .ge 33, 3) := by decide +kernel
theorem dX6_newState_36 : decode cX6_newState 36 = .ok (.aload_n 0, 1) := by decide +kernel
theorem dX6_newState_37 : decode cX6_newState 37 = .ok (.getfield 24, 3) := by decide +kernel
theorem dX6_newState_40 : decode cX6_newState 40 = .ok (.aload_n 0, 1) := by decide +kernel
theorem dX6_newState_41 : decode cX6_newState 41 = .ok (.getfield 104, 3) := by decide +kernel
theorem dX6_newState_44 : decode cX6_newState 44 = .ok (.aload_n 2, 1) := by decide +kernel
theorem dX6_newState_45 : decode cX6_newState 45 = .ok (.aastore, 1) := by decide +kernel
theorem dX6_newState_46 : decode cX6_newState 46 = .ok (.aload_n 0, 1) := by decide +kernel
theorem dX6_newState_47 : decode cX6_newState 47 = .ok (.dup, 1) := by decide +kernel
theorem dX6_newState_48 : decode cX6_newState 48 = .ok (.getfield 104, 3) := by decide +kernel
theorem dX6_newState_51 : decode cX6_newState 51 = .ok (.iconst 1, 1) := by decide +kernel
theorem dX6_newState_52 : decode cX6_newState 52 = .ok (.iadd, 1) := by decide +kernel
theorem dX6_newState_53 : decode cX6_newState 53 = .ok (.putfield 104, 3) := by decide +kernel
theorem dX6_newState_56 : decode cX6_newState 56 = .ok (.aload_n 1, 1) := by decide +kernel
theorem dX6_newState_57 : decode cX6_newState 57 = .ok (.dup, 1) := by decide +kernel
theorem dX6_newState_58 : decode cX6_newState 58 = .ok (.getfield 113, 3) := by decide +kernel
theorem dX6_newState_61 : decode cX6_newState 61 = .ok (.iconst 1, 1) := by decide +kernel
theorem dX6_newState_62 : decode cX6_newState 62 = .ok (.iadd, 1) := by decide +kernel
theorem dX6_newState_63 : decode cX6_newState 63 = .ok (.putfield 113, 3) := by decide +kernel
theorem dX6_newState_66 : decode cX6_newState 66 = .ok (.aload_n 2, 1) := by decide +kernel
theorem dX6_newState_67 : decode cX6_newState 67 = .ok (.areturn, 1) := by decide +kernel
theorem dX6_newStateAsNewest_0 : decode cX6_newStateAsNewest 0 = .ok (.aload_n 0, 1) := by decide +kernel
theorem dX6_newStateAsNewest_1 : decode cX6_newStateAsNewest 1 = .ok (.aload_n 1, 1) := by decide +kernel
theorem dX6_newStateAsNewest_2 : decode cX6_newStateAsNewest 2 = .ok (.invokevirtual 67, 3) := by decide +kernel
theorem dX6_newStateAsNewest_5 : decode cX6_newStateAsNewest 5 = .ok (.astore_n 2, 1) := by decide +kernel
theorem dX6_newStateAsNewest_6 : decode cX6_newStateAsNewest 6 = .ok (.aload_n 1, 1) := by decide +kernel
theorem dX6_newStateAsNewest_7 : decode cX6_newStateAsNewest 7 = .ok (.getfield 86, 3) := by decide +kernel
theorem dX6_newStateAsNewest_10 : decode cX6_newStateAsNewest 10 = .ok (.astore_n 3, 1) := by decide +kernel
theorem dX6_newStateAsNewest_11 : decode cX6_newStateAsNewest 11 = .ok (.aload_n 3, 1) := by decide +kernel
theorem dX6_newStateAsNewest_12 : decode cX6_newStateAsNewest 12 = .ok (.ifnull 8, 3) := by decide +kernel
theorem dX6_newStateAsNewest_15 : decode cX6_newStateAsNewest 15 = .ok (.aload_n 2, 1) := by decide +kernel
theorem dX6_newStateAsNewest_16 : decode cX6_newStateAsNewest 16 = .ok (.aload_n 3, 1) := by decide +kernel
theorem dX6_newStateAsNewest_17 : decode cX6_newStateAsNewest 17 = .ok (.invokevirtual 119, 3) := by decide +kernel
theorem dX6_newStateAsNewest_20 : decode cX6_newStateAsNewest 20 = .ok (.aload_n 2, 1) := by decide +kernel
theorem dX6_newStateAsNewest_21 : decode cX6_newStateAsNewest 21 = .ok (.areturn, 1) := by decide +kernel
theorem dX6_change_0 : decode cX6_change 0 = .ok (.aload_n 0, 1) := by decide +kernel
theorem dX6_change_1 : decode cX6_change 1 = .ok (.iload_n 1, 1) := by decide +kernel
theorem dX6_change_2 : decode cX6_change 2 = .ok (.invokevirtual 123, 3) := by decide +kernel
theorem dX6_change_5 : decode cX6_change 5 = .ok (.astore 5, 2) := by decide +kernel
theorem dX6_change_7 : decode cX6_change 7 = .ok (.aload 5, 2) := by decide +kernel
theorem dX6_change_9 : decode cX6_change 9 = .ok (.ifnull 21, 3) := by decide +kernel
theorem dX6_change_12 : decode cX6_change 12 = .ok (.aload 5, 2) := by decide +kernel
theorem dX6_change_14 : decode cX6_change 14 = .ok (.iload_n 2, 1) := by decide +kernel
theorem dX6_change_15 : decode cX6_change 15 = .ok (.invokevirtual 127, 3) := by decide +kernel
theorem dX6_change_18 : decode cX6_change 18 = .ok (.ifCond .eq 12, 3) := by decide +kernel
theorem dX6_change_21 : decode cX6_change 21 = .ok (.aload 5, 2) := by decide +kernel
theorem dX6_change_23 : decode cX6_change 23 = .ok (.iload_n 3, 1) := by decide +kernel
theorem dX6_change_24 : decode cX6_change 24 = .ok (.invokevirtual 127, 3) := by decide +kernel
theorem dX6_change_27 : decode cX6_change 27 = .ok (.ifCond .ne 5, 3) := by decide +kernel
theorem dX6_change_30 : decode cX6_change 30 = .ok (.iconst (-1), 1) := by decide +kernel
theorem dX6_change_31 : decode cX6_change 31 = .ok (.ireturn, 1) := by decide +kernel
theorem dX6_change_32 : decode cX6_change 32 = .ok (.aload 5, 2) := by decide +kernel
theorem dX6_change_34 : decode cX6_change 34 = .ok (.invokevirtual 128, 3) := by decide +kernel
theorem dX6_change_37 : decode cX6_change 37 = .ok (.ifCond .eq 6, 3) := by decide +kernel
theorem dX6_change_40 : decode cX6_change 40 = .ok (.bipush (-2), 2) := by decide +kernel
theorem dX6_change_42 : decode cX6_change 42 = .ok (.ireturn, 1) := by decide +kernel
theorem dX6_change_43 : decode cX6_change 43 = .ok (.iload 4, 2) := by decide +kernel
theorem dX6_change_45 : decode cX6_change 45 = .ok (.iconst 1, 1) := by decide +kernel
theorem dX6_change_46 : decode cX6_change 46 = .ok (.ldc 132, 2) := by decide +kernel
theorem dX6_change_48 : decode cX6_change 48 = .ok (.invokestatic 42, 3) := by decide +kernel
theorem dX6_change_51 : decode cX6_change 51 = .ok (.ifCond .ne 6, 3) := by decide +kernel
theorem dX6_change_54 : decode cX6_change 54 = .ok (.bipush (-3), 2) := by decide +kernel
theorem dX6_change_56 : decode cX6_change 56 = .ok (.ireturn, 1) := by decide +kernel
theorem dX6_change_57 : decode cX6_change 57 = .ok (.iload_n 2, 1) := by decide +kernel
theorem dX6_change_58 : decode cX6_change 58 = .ok (.iload_n 3, 1) := by decide +kernel
theorem dX6_change_59 : decode cX6_change 59 = .ok (.if_icmp .eq 14, 3) := by decide +kernel
theorem dX6_change_62 : decode cX6_change 62 = .ok (.aload 5, 2) := by decide +kernel
theorem dX6_change_64 : decode cX6_change 64 = .ok (.iload_n 2, 1) := by decide +kernel
theorem dX6_change_65 : decode cX6_change 65 = .ok (.invokevirtual 133, 3) := by decide +kernel
theorem dX6_change_68 : decode cX6_change 68 = .ok (.iload 4, 2) := by decide +kernel
theorem dX6_change_70 : decode cX6_change 70 = .ok (.if_icmp .ge 6, 3) := by decide +kernel
theorem dX6_change_73 : decode cX6_change 73 = .ok (.bipush (-4), 2) := by decide +kernel
theorem dX6_change_75 : decode cX6_change 75 = .ok (.ireturn, 1) := by decide +kernel
theorem dX6_change_76 : decode cX6_change 76 = .ok (.aload 5, 2) := by decide +kernel
theorem dX6_change_78 : decode cX6_change 78 = .ok (.getfield 80, 3) := by decide +kernel
theorem dX6_change_81 : decode cX6_change 81 = .ok (.iload_n 2, 1) := by decide +kernel
theorem dX6_change_82 : decode cX6_change 82 = .ok (.iload 4, 2) := by decide +kernel
theorem dX6_change_84 : decode cX6_change 84 = .ok (.ineg, 1) := by decide +kernel
theorem dX6_change_85 : decode cX6_change 85 = .ok (.invokevirtual 74, 3) := by decide +kernel
theorem dX6_change_88 : decode cX6_change 88 = .ok (.aload 5, 2) := by decide +kernel
theorem dX6_change_90 : decode cX6_change 90 = .ok (.getfield 80, 3) := by decide +kernel
theorem dX6_change_93 : decode cX6_change 93 = .ok (.iload_n 3, 1) := by decide +kernel
theorem dX6_change_94 : decode cX6_change 94 = .ok (.iload 4, 2) := by decide +kernel
theorem dX6_change_96 : decode cX6_change 96 = .ok (.invokevirtual 74, 3) := by decide +kernel
theorem dX6_change_99 : decode cX6_change 99 = .ok (.aload 5, 2) := by decide +kernel
theorem dX6_change_101 : decode cX6_change 101 = .ok (.getfield 80, 3) := by decide +kernel
theorem dX6_change_104 : decode cX6_change 104 = .ok (.iload_n 2, 1) := by decide +kernel
theorem dX6_change_105 : decode cX6_change 105 = .ok (.invokevirtual 110, 3) := by decide +kernel
theorem dX6_change_108 : decode cX6_change 108 = .ok (.ireturn, 1) := by decide +kernel
theorem dX6_lock_0 : decode cX6_lock 0 = .ok (.aload_n 0, 1) := by decide +kernel
theorem dX6_lock_1 : decode cX6_lock 1 = .ok (.iload_n 1, 1) := by decide +kernel
theorem dX6_lock_2 : decode cX6_lock 2 = .ok (.invokevirtual 123, 3) := by decide +kernel
theorem dX6_lock_5 : decode cX6_lock 5 = .ok (.astore 7, 2) := by decide +kernel
theorem dX6_lock_7 : decode cX6_lock 7 = .ok (.aload 7, 2) := by decide +kernel
theorem dX6_lock_9 : decode cX6_lock 9 = .ok (.ifnull 30, 3) := by decide +kernel
theorem dX6_lock_12 : decode cX6_lock 12 = .ok (.aload 7, 2) := by decide +kernel
theorem dX6_lock_14 : decode cX6_lock 14 = .ok (.iload_n 2, 1) := by decide +kernel
theorem dX6_lock_15 : decode cX6_lock 15 = .ok (.invokevirtual 127, 3) := by decide +kernel
theorem dX6_lock_18 : decode cX6_lock 18 = .ok (.ifCond .eq 21, 3) := by decide +kernel
theorem dX6_lock_21 : decode cX6_lock 21 = .ok (.aload 7, 2) := by decide +kernel
theorem dX6_lock_23 : decode cX6_lock 23 = .ok (.iload_n 3, 1) := by decide +kernel
theorem dX6_lock_24 : decode cX6_lock 24 = .ok (.invokevirtual 127, 3) := by decide +kernel
theorem dX6_lock_27 : decode cX6_lock 27 = .ok (.ifCond .eq 12, 3) := by decide +kernel
theorem dX6_lock_30 : decode cX6_lock 30 = .ok (.aload_n 0, 1) := by decide +kernel
theorem dX6_lock_31 : decode cX6_lock 31 = .ok (.iload 5, 2) := by decide +kernel
theorem dX6_lock_33 : decode cX6_lock 33 = .ok (.invokevirtual 136, 3) := by decide +kernel
theorem dX6_lock_36 : decode cX6_lock 36 = .ok (.ifCond .ne 5, 3) := by decide +kernel
theorem dX6_lock_39 : decode cX6_lock 39 = .ok (.iconst (-1), 1) := by decide +kernel
theorem dX6_lock_40 : decode cX6_lock 40 = .ok (.ireturn, 1) := by decide +kernel
theorem dX6_lock_41 : decode cX6_lock 41 = .ok (.aload 7, 2) := by decide +kernel
theorem dX6_lock_43 : decode cX6_lock 43 = .ok (.invokevirtual 128, 3) := by decide +kernel
theorem dX6_lock_46 : decode cX6_lock 46 = .ok (.ifCond .eq 6, 3) := by decide +kernel
theorem dX6_lock_49 : decode cX6_lock 49 = .ok (.bipush (-2), 2) := by decide +kernel
theorem dX6_lock_51 : decode cX6_lock 51 = .ok (.ireturn, 1) := by decide +kernel
theorem dX6_lock_52 : decode cX6_lock 52 = .ok (.iload 4, 2) := by decide +kernel
theorem dX6_lock_54 : decode cX6_lock 54 = .ok (.iconst 1, 1) := by decide +kernel
theorem dX6_lock_55 : decode cX6_lock 55 = .ok (.ldc 132, 2) := by decide +kernel
theorem dX6_lock_57 : decode cX6_lock 57 = .ok (.invokestatic 42, 3) := by decide +kernel
theorem dX6_lock_60 : decode cX6_lock 60 = .ok (.ifCond .eq 14, 3) := by decide +kernel
theorem dX6_lock_63 : decode cX6_lock 63 = .ok (.iload 6, 2) := by decide +kernel
theorem dX6_lock_65 : decode cX6_lock 65 = .ok (.iconst 1, 1) := by decide +kernel
theorem dX6_lock_66 : decode cX6_lock 66 = .ok (.ldc 139, 2) := by decide +kernel
theorem dX6_lock_68 : decode cX6_lock 68 = .ok (.invokestatic 42, 3) := by decide +kernel
theorem dX6_lock_71 : decode cX6_lock 71 = .ok (.ifCond .ne 6, 3) := by decide +kernel
theorem dX6_lock_74 : decode cX6_lock 74 = .ok (.bipush (-3), 2) := by decide +kernel
theorem dX6_lock_76 : decode cX6_lock 76 = .ok (.ireturn, 1) := by decide +kernel
theorem dX6_lock_77 : decode cX6_lock 77 = .ok (.iload_n 2, 1) := by decide +kernel
theorem dX6_lock_78 : decode cX6_lock 78 = .ok (.iload_n 3, 1) := by decide +kernel
theorem dX6_lock_79 : decode cX6_lock 79 = .ok (.if_icmp .eq 23, 3) := by decide +kernel
theorem dX6_lock_82 : decode cX6_lock 82 = .ok (.aload 7, 2) := by decide +kernel
theorem dX6_lock_84 : decode cX6_lock 84 = .ok (.iload_n 2, 1) := by decide +kernel
theorem dX6_lock_85 : decode cX6_lock 85 = .ok (.invokevirtual 133, 3) := by decide +kernel
theorem dX6_lock_88 : decode cX6_lock 88 = .ok (.iload 4, 2) := by decide +kernel
theorem dX6_lock_90 : decode cX6_lock 90 = .ok (.if_icmp .lt 12, 3) := by decide +kernel
theorem dX6_lock_93 : decode cX6_lock 93 = .ok (.aload 7, 2) := by decide +kernel
theorem dX6_lock_95 : decode cX6_lock 95 = .ok (.invokevirtual 140, 3) := by decide +kernel
theorem dX6_lock_98 : decode cX6_lock 98 = .ok (.iconst (-1), 1) := by decide +kernel
theorem dX6_lock_99 : decode cX6_lock 99 = .ok (.if_icmp .ne 6, 3) := by decide +kernel
theorem dX6_lock_102 : decode cX6_lock 102 = .ok (.bipush (-4), 2) := by decide +kernel
theorem dX6_lock_104 : decode cX6_lock 104 = .ok (.ireturn, 1) := by decide +kernel
theorem dX6_lock_105 : decode cX6_lock 105 = .ok (.aload 7, 2) := by decide +kernel
theorem dX6_lock_107 : decode cX6_lock 107 = .ok (.new 144, 3) := by decide +kernel
theorem dX6_lock_110 : decode cX6_lock 110 = .ok (.dup, 1) := by decide +kernel
theorem dX6_lock_111 : decode cX6_lock 111 = .ok (.iload_n 2, 1) := by decide +kernel
theorem dX6_lock_112 : decode cX6_lock 112 = .ok (.iload_n 3, 1) := by decide +kernel
theorem dX6_lock_113 : decode cX6_lock 113 = .ok (.iload 4, 2) := by decide +kernel
theorem dX6_lock_115 : decode cX6_lock 115 = .ok (.iload 5, 2) := by decide +kernel
theorem dX6_lock_117 : decode cX6_lock 117 = .ok (.iload 6, 2) := by decide +kernel
theorem dX6_lock_119 : decode cX6_lock 119 = .ok (.invokespecial 146, 3) := by decide +kernel
theorem dX6_lock_122 : decode cX6_lock 122 = .ok (.invokevirtual 149, 3) := by decide +kernel
theorem dX6_lock_125 : decode cX6_lock 125 = .ok (.ireturn, 1) := by decide +kernel
theorem dX6_unlock_0 : decode cX6_unlock 0 = .ok (.aload_n 0, 1) := by decide +kernel
theorem dX6_unlock_1 : decode cX6_unlock 1 = .ok (.iload_n 1, 1) := by decide +kernel
theorem dX6_unlock_2 : decode cX6_unlock 2 = .ok (.invokevirtual 123, 3) := by decide +kernel
theorem dX6_unlock_5 : decode cX6_unlock 5 = .ok (.astore 4, 2) := by decide +kernel
theorem dX6_unlock_7 : decode cX6_unlock 7 = .ok (.aload 4, 2) := by decide +kernel
theorem dX6_unlock_9 : decode cX6_unlock 9 = .ok (.ifnonnull 5, 3) := by decide +kernel
theorem dX6_unlock_12 : decode cX6_unlock 12 = .ok (.iconst (-1), 1) := by decide +kernel
theorem dX6_unlock_13 : decode cX6_unlock 13 = .ok (.ireturn, 1) := by decide +kernel
theorem dX6_unlock_14 : decode cX6_unlock 14 = .ok (.aload 4, 2) := by decide +kernel
theorem dX6_unlock_16 : decode cX6_unlock 16 = .ok (.iload_n 2, 1) := by decide +kernel
theorem dX6_unlock_17 : decode cX6_unlock 17 = .ok (.invokevirtual 153, 3) := by decide +kernel
theorem dX6_unlock_20 : decode cX6_unlock 20 = .ok (.astore 5, 2) := by decide +kernel
theorem dX6_unlock_22 : decode cX6_unlock 22 = .ok (.aload 5, 2) := by decide +kernel
theorem dX6_unlock_24 : decode cX6_unlock 24 = .ok (.ifnonnull 5, 3) := by decide +kernel
theorem dX6_unlock_27 : decode cX6_unlock 27 = .ok (.iconst (-1), 1) := by decide +kernel
theorem dX6_unlock_28 : decode cX6_unlock 28 = .ok (.ireturn, 1) := by decide +kernel
theorem dX6_unlock_29 : decode cX6_unlock 29 = .ok (.aload 4, 2) := by decide +kernel
theorem dX6_unlock_31 : decode cX6_unlock 31 = .ok (.invokevirtual 128, 3) := by decide +kernel
theorem dX6_unlock_34 : decode cX6_unlock 34 = .ok (.ifCond .eq 6, 3) := by decide +kernel
theorem dX6_unlock_37 : decode cX6_unlock 37 = .ok (.bipush (-2), 2) := by decide +kernel
theorem dX6_unlock_39 : decode cX6_unlock 39 = .ok (.ireturn, 1) := by decide +kernel
theorem dX6_unlock_40 : decode cX6_unlock 40 = .ok (.aload 4, 2) := by decide +kernel
theorem dX6_unlock_42 : decode cX6_unlock 42 = .ok (.iload_n 2, 1) := by decide +kernel
theorem dX6_unlock_43 : decode cX6_unlock 43 = .ok (.invokevirtual 157, 3) := by decide +kernel
theorem dX6_unlock_46 : decode cX6_unlock 46 = .ok (.aload 4, 2) := by decide +kernel
theorem dX6_unlock_48 : decode cX6_unlock 48 = .ok (.getfield 80, 3) := by decide +kernel
theorem dX6_unlock_51 : decode cX6_unlock 51 = .ok (.iload_n 3, 1) := by decide +kernel
theorem dX6_unlock_52 : decode cX6_unlock 52 = .ok (.ifCond .eq 11, 3) := by decide +kernel
theorem dX6_unlock_55 : decode cX6_unlock 55 = .ok (.aload 5, 2) := by decide +kernel
theorem dX6_unlock_57 : decode cX6_unlock 57 = .ok (.getfield 161, 3) := by decide +kernel
theorem dX6_unlock_60 : decode cX6_unlock 60 = .ok (.goto 8, 3) := by decide +kernel
theorem dX6_unlock_63 : decode cX6_unlock 63 = .ok (.aload 5, 2) := by decide +kernel
theorem dX6_unlock_65 : decode cX6_unlock 65 = .ok (.getfield 164, 3) := by decide +kernel
theorem dX6_unlock_68 : decode cX6_unlock 68 = .ok (.aload 5, 2) := by decide +kernel
theorem dX6_unlock_70 : decode cX6_unlock 70 = .ok (.getfield 167, 3) := by decide +kernel
theorem dX6_unlock_73 : decode cX6_unlock 73 = .ok (.invokevirtual 74, 3) := by decide +kernel
theorem dX6_unlock_76 : decode cX6_unlock 76 = .ok (.aload 5, 2) := by decide +kernel
theorem dX6_unlock_78 : decode cX6_unlock 78 = .ok (.getfield 167, 3) := by decide +kernel
theorem dX6_unlock_81 : decode cX6_unlock 81 = .ok (.ireturn, 1) := by decide +kernel
theorem dX6_game_0 : decode cX6_game 0 = .ok (.aload_n 0, 1) := by decide +kernel
theorem dX6_game_1 : decode cX6_game 1 = .ok (.iload_n 1, 1) := by decide +kernel
theorem dX6_game_2 : decode cX6_game 2 = .ok (.invokevirtual 123, 3) := by decide +kernel
theorem dX6_game_5 : decode cX6_game 5 = .ok (.astore 6, 2) := by decide +kernel
theorem dX6_game_7 : decode cX6_game 7 = .ok (.aload 6, 2) := by decide +kernel
theorem dX6_game_9 : decode cX6_game 9 = .ok (.ifnull 21, 3) := by decide +kernel
theorem dX6_game_12 : decode cX6_game 12 = .ok (.aload 6, 2) := by decide +kernel
theorem dX6_game_14 : decode cX6_game 14 = .ok (.iload_n 2, 1) := by decide +kernel
theorem dX6_game_15 : decode cX6_game 15 = .ok (.invokevirtual 127, 3) := by decide +kernel
theorem dX6_game_18 : decode cX6_game 18 = .ok (.ifCond .eq 12, 3) := by decide +kernel
theorem dX6_game_21 : decode cX6_game 21 = .ok (.aload 6, 2) := by decide +kernel
theorem dX6_game_23 : decode cX6_game 23 = .ok (.iload_n 3, 1) := by decide +kernel
theorem dX6_game_24 : decode cX6_game 24 = .ok (.invokevirtual 127, 3) := by decide +kernel
theorem dX6_game_27 : decode cX6_game 27 = .ok (.ifCond .ne 5, 3) := by decide +kernel
theorem dX6_game_30 : decode cX6_game 30 = .ok (.iconst (-1), 1) := by decide +kernel
theorem dX6_game_31 : decode cX6_game 31 = .ok (.ireturn, 1) := by decide +kernel
theorem dX6_game_32 : decode cX6_game 32 = .ok (.aload 6, 2) := by decide +kernel
theorem dX6_game_34 : decode cX6_game 34 = .ok (.invokevirtual 128, 3) := by decide +kernel
theorem dX6_game_37 : decode cX6_game 37 = .ok (.ifCond .eq 6, 3) := by decide +kernel
theorem dX6_game_40 : decode cX6_game 40 = .ok (.bipush (-2), 2) := by decide +kernel
theorem dX6_game_42 : decode cX6_game 42 = .ok (.ireturn, 1) := by decide +kernel
theorem dX6_game_43 : decode cX6_game 43 = .ok (.iload 4, 2) := by decide +kernel
theorem dX6_game_45 : decode cX6_game 45 = .ok (.iconst 1, 1) := by decide +kernel
theorem dX6_game_46 : decode cX6_game 46 = .ok (.sipush 10000, 3) := by decide +kernel
theorem dX6_game_49 : decode cX6_game 49 = .ok (.invokestatic 42, 3) := by decide +kernel
theorem dX6_game_52 : decode cX6_game 52 = .ok (.ifCond .eq 14, 3) := by decide +kernel
theorem dX6_game_55 : decode cX6_game 55 = .ok (.iload 5, 2) := by decide +kernel
theorem dX6_game_57 : decode cX6_game 57 = .ok (.iconst 1, 1) := by decide +kernel
theorem dX6_game_58 : decode cX6_game 58 = .ok (.bipush 20, 2) := by decide +kernel
theorem dX6_game_60 : decode cX6_game 60 = .ok (.invokestatic 42, 3) := by decide +kernel
theorem dX6_game_63 : decode cX6_game 63 = .ok (.ifCond .ne 6, 3) := by decide +kernel
theorem dX6_game_66 : decode cX6_game 66 = .ok (.bipush (-3), 2) := by decide +kernel
theorem dX6_game_68 : decode cX6_game 68 = .ok (.ireturn, 1) := by decide +kernel
theorem dX6_game_69 : decode cX6_game 69 = .ok (.iload_n 2, 1) := by decide +kernel
theorem dX6_game_70 : decode cX6_game 70 = .ok (.iload_n 3, 1) := by decide +kernel
theorem dX6_game_71 : decode cX6_game 71 = .ok (.if_icmp .eq 33, 3) := by decide +kernel
theorem dX6_game_74 : decode cX6_game 74 = .ok (.aload 6, 2) := by decide +kernel
theorem dX6_game_76 : decode cX6_game 76 = .ok (.getfield 170, 3) := by decide +kernel
theorem dX6_game_79 : decode cX6_game 79 = .ok (.ifnonnull 25, 3) := by decide +kernel
theorem dX6_game_82 : decode cX6_game 82 = .ok (.aload 6, 2) := by decide +kernel
theorem dX6_game_84 : decode cX6_game 84 = .ok (.iload_n 2, 1) := by decide +kernel
theorem dX6_game_85 : decode cX6_game 85 = .ok (.invokevirtual 133, 3) := by decide +kernel
theorem dX6_game_88 : decode cX6_game 88 = .ok (.iload 4, 2) := by decide +kernel
theorem dX6_game_90 : decode cX6_game 90 = .ok (.if_icmp .lt 14, 3) := by decide +kernel
theorem dX6_game_93 : decode cX6_game 93 = .ok (.aload 6, 2) := by decide +kernel
theorem dX6_game_95 : decode cX6_game 95 = .ok (.iload_n 3, 1) := by decide +kernel
theorem dX6_game_96 : decode cX6_game 96 = .ok (.invokevirtual 133, 3) := by decide +kernel
theorem dX6_game_99 : decode cX6_game 99 = .ok (.iload 4, 2) := by decide +kernel
theorem dX6_game_101 : decode cX6_game 101 = .ok (.if_icmp .ge 6, 3) := by decide +kernel
theorem dX6_game_104 : decode cX6_game 104 = .ok (.bipush (-4), 2) := by decide +kernel
theorem dX6_game_106 : decode cX6_game 106 = .ok (.ireturn, 1) := by decide +kernel
theorem dX6_game_107 : decode cX6_game 107 = .ok (.aload 6, 2) := by decide +kernel
theorem dX6_game_109 : decode cX6_game 109 = .ok (.getfield 80, 3) := by decide +kernel
theorem dX6_game_112 : decode cX6_game 112 = .ok (.iload_n 2, 1) := by decide +kernel
theorem dX6_game_113 : decode cX6_game 113 = .ok (.iload 4, 2) := by decide +kernel
theorem dX6_game_115 : decode cX6_game 115 = .ok (.ineg, 1) := by decide +kernel
theorem dX6_game_116 : decode cX6_game 116 = .ok (.invokevirtual 74, 3) := by decide +kernel
theorem dX6_game_119 : decode cX6_game 119 = .ok (.aload 6, 2) := by decide +kernel
theorem dX6_game_121 : decode cX6_game 121 = .ok (.getfield 80, 3) := by decide +kernel
theorem dX6_game_124 : decode cX6_game 124 = .ok (.iload_n 3, 1) := by decide +kernel
theorem dX6_game_125 : decode cX6_game 125 = .ok (.iload 4, 2) := by decide +kernel
theorem dX6_game_127 : decode cX6_game 127 = .ok (.ineg, 1) := by decide +kernel
theorem dX6_game_128 : decode cX6_game 128 = .ok (.invokevirtual 74, 3) := by decide +kernel
theorem dX6_game_131 : decode cX6_game 131 = .ok (.new 174, 3) := by decide +kernel
theorem dX6_game_134 : decode cX6_game 134 = .ok (.dup, 1) := by decide +kernel
theorem dX6_game_135 : decode cX6_game 135 = .ok (.iload_n 2, 1) := by decide +kernel
theorem dX6_game_136 : decode cX6_game 136 = .ok (.iload_n 3, 1) := by decide +kernel
theorem dX6_game_137 : decode cX6_game 137 = .ok (.iconst 2, 1) := by decide +kernel
theorem dX6_game_138 : decode cX6_game 138 = .ok (.iload 4, 2) := by decide +kernel
theorem dX6_game_140 : decode cX6_game 140 = .ok (.imul, 1) := by decide +kernel
theorem dX6_game_141 : decode cX6_game 141 = .ok (.iload 5, 2) := by decide +kernel
theorem dX6_game_143 : decode cX6_game 143 = .ok (.invokespecial 176, 3) := by decide +kernel
theorem dX6_game_146 : decode cX6_game 146 = .ok (.astore 7, 2) := by decide +kernel
theorem dX6_game_148 : decode cX6_game 148 = .ok (.aload 6, 2) := by decide +kernel
theorem dX6_game_150 : decode cX6_game 150 = .ok (.aload 7, 2) := by decide +kernel
theorem dX6_game_152 : decode cX6_game 152 = .ok (.putfield 170, 3) := by decide +kernel
theorem dX6_game_155 : decode cX6_game 155 = .ok (.aload 7, 2) := by decide +kernel
theorem dX6_game_157 : decode cX6_game 157 = .ok (.getfield 179, 3) := by decide +kernel
theorem dX6_game_160 : decode cX6_game 160 = .ok (.ireturn, 1) := by decide +kernel
theorem dX6_move_0 : decode cX6_move 0 = .ok (.aload_n 0, 1) := by decide +kernel
theorem dX6_move_1 : decode cX6_move 1 = .ok (.iload_n 1, 1) := by decide +kernel
theorem dX6_move_2 : decode cX6_move 2 = .ok (.invokevirtual 123, 3) := by decide +kernel
theorem dX6_move_5 : decode cX6_move 5 = .ok (.astore_n 3, 1) := by decide +kernel
theorem dX6_move_6 : decode cX6_move 6 = .ok (.aload_n 3, 1) := by decide +kernel
theorem dX6_move_7 : decode cX6_move 7 = .ok (.ifnonnull 5, 3) := by decide +kernel
theorem dX6_move_10 : decode cX6_move 10 = .ok (.iconst (-1), 1) := by decide +kernel
theorem dX6_move_11 : decode cX6_move 11 = .ok (.ireturn, 1) := by decide +kernel
theorem dX6_move_12 : decode cX6_move 12 = .ok (.aload_n 3, 1) := by decide +kernel
theorem dX6_move_13 : decode cX6_move 13 = .ok (.invokevirtual 128, 3) := by decide +kernel
theorem dX6_move_16 : decode cX6_move 16 = .ok (.ifCond .eq 6, 3) := by decide +kernel
theorem dX6_move_19 : decode cX6_move 19 = .ok (.bipush (-2), 2) := by decide +kernel
theorem dX6_move_21 : decode cX6_move 21 = .ok (.ireturn, 1) := by decide +kernel
theorem dX6_move_22 : decode cX6_move 22 = .ok (.iload_n 2, 1) := by decide +kernel
theorem dX6_move_23 : decode cX6_move 23 = .ok (.iconst 1, 1) := by decide +kernel
theorem dX6_move_24 : decode cX6_move 24 = .ok (.iconst 3, 1) := by decide +kernel
theorem dX6_move_25 : decode cX6_move 25 = .ok (.invokestatic 42, 3) := by decide +kernel
theorem dX6_move_28 : decode cX6_move 28 = .ok (.ifCond .ne 6, 3) := by decide +kernel
theorem dX6_move_31 : decode cX6_move 31 = .ok (.bipush (-3), 2) := by decide +kernel
theorem dX6_move_33 : decode cX6_move 33 = .ok (.ireturn, 1) := by decide +kernel
theorem dX6_move_34 : decode cX6_move 34 = .ok (.aload_n 3, 1) := by decide +kernel
theorem dX6_move_35 : decode cX6_move 35 = .ok (.getfield 170, 3) := by decide +kernel
theorem dX6_move_38 : decode cX6_move 38 = .ok (.astore 4, 2) := by decide +kernel
theorem dX6_move_40 : decode cX6_move 40 = .ok (.aload 4, 2) := by decide +kernel
theorem dX6_move_42 : decode cX6_move 42 = .ok (.ifnull 12, 3) := by decide +kernel
theorem dX6_move_45 : decode cX6_move 45 = .ok (.aload 4, 2) := by decide +kernel
theorem dX6_move_47 : decode cX6_move 47 = .ok (.getfield 182, 3) := by decide +kernel
theorem dX6_move_50 : decode cX6_move 50 = .ok (.iload_n 2, 1) := by decide +kernel
theorem dX6_move_51 : decode cX6_move 51 = .ok (.if_icmp .ge 6, 3) := by decide +kernel
theorem dX6_move_54 : decode cX6_move 54 = .ok (.bipush (-4), 2) := by decide +kernel
theorem dX6_move_56 : decode cX6_move 56 = .ok (.ireturn, 1) := by decide +kernel
theorem dX6_move_57 : decode cX6_move 57 = .ok (.aload_n 3, 1) := by decide +kernel
theorem dX6_move_58 : decode cX6_move 58 = .ok (.aload 4, 2) := by decide +kernel
theorem dX6_move_60 : decode cX6_move 60 = .ok (.iload_n 2, 1) := by decide +kernel
theorem dX6_move_61 : decode cX6_move 61 = .ok (.invokevirtual 185, 3) := by decide +kernel
theorem dX6_move_64 : decode cX6_move 64 = .ok (.putfield 170, 3) := by decide +kernel
theorem dX6_move_67 : decode cX6_move 67 = .ok (.aload_n 3, 1) := by decide +kernel
theorem dX6_move_68 : decode cX6_move 68 = .ok (.getfield 170, 3) := by decide +kernel
theorem dX6_move_71 : decode cX6_move 71 = .ok (.ifnonnull 20, 3) := by decide +kernel
theorem dX6_move_74 : decode cX6_move 74 = .ok (.aload_n 3, 1) := by decide +kernel
theorem dX6_move_75 : decode cX6_move 75 = .ok (.getfield 80, 3) := by decide +kernel
theorem dX6_move_78 : decode cX6_move 78 = .ok (.aload 4, 2) := by decide +kernel
theorem dX6_move_80 : decode cX6_move 80 = .ok (.getfield 189, 3) := by decide +kernel
theorem dX6_move_83 : decode cX6_move 83 = .ok (.aload 4, 2) := by decide +kernel
theorem dX6_move_85 : decode cX6_move 85 = .ok (.getfield 179, 3) := by decide +kernel
theorem dX6_move_88 : decode cX6_move 88 = .ok (.invokevirtual 74, 3) := by decide +kernel
theorem dX6_move_91 : decode cX6_move 91 = .ok (.aload 4, 2) := by decide +kernel
theorem dX6_move_93 : decode cX6_move 93 = .ok (.getfield 182, 3) := by decide +kernel
theorem dX6_move_96 : decode cX6_move 96 = .ok (.iload_n 2, 1) := by decide +kernel
theorem dX6_move_97 : decode cX6_move 97 = .ok (.isub, 1) := by decide +kernel
theorem dX6_move_98 : decode cX6_move 98 = .ok (.ireturn, 1) := by decide +kernel
theorem dX6_out_0 : decode cX6_out 0 = .ok (.aload_n 0, 1) := by decide +kernel
theorem dX6_out_1 : decode cX6_out 1 = .ok (.iload_n 1, 1) := by decide +kernel
theorem dX6_out_2 : decode cX6_out 2 = .ok (.invokevirtual 123, 3) := by decide +kernel
theorem dX6_out_5 : decode cX6_out 5 = .ok (.astore 4, 2) := by decide +kernel
theorem dX6_out_7 : decode cX6_out 7 = .ok (.aload 4, 2) := by decide +kernel
theorem dX6_out_9 : decode cX6_out 9 = .ok (.ifnull 12, 3) := by decide +kernel
theorem dX6_out_12 : decode cX6_out 12 = .ok (.aload 4, 2) := by decide +kernel
theorem dX6_out_14 : decode cX6_out 14 = .ok (.iload_n 2, 1) := by decide +kernel
theorem dX6_out_15 : decode cX6_out 15 = .ok (.invokevirtual 127, 3) := by decide +kernel
theorem dX6_out_18 : decode cX6_out 18 = .ok (.ifCond .ne 5, 3) := by decide +kernel
theorem dX6_out_21 : decode cX6_out 21 = .ok (.iconst (-1), 1) := by decide +kernel
theorem dX6_out_22 : decode cX6_out 22 = .ok (.ireturn, 1) := by decide +kernel
theorem dX6_out_23 : decode cX6_out 23 = .ok (.aload 4, 2) := by decide +kernel
theorem dX6_out_25 : decode cX6_out 25 = .ok (.invokevirtual 128, 3) := by decide +kernel
theorem dX6_out_28 : decode cX6_out 28 = .ok (.ifCond .eq 6, 3) := by decide +kernel
theorem dX6_out_31 : decode cX6_out 31 = .ok (.bipush (-2), 2) := by decide +kernel
theorem dX6_out_33 : decode cX6_out 33 = .ok (.ireturn, 1) := by decide +kernel
theorem dX6_out_34 : decode cX6_out 34 = .ok (.iload_n 3, 1) := by decide +kernel
theorem dX6_out_35 : decode cX6_out 35 = .ok (.iconst 0, 1) := by decide +kernel
theorem dX6_out_36 : decode cX6_out 36 = .ok (.ldc 132, 2) := by decide +kernel
theorem dX6_out_38 : decode cX6_out 38 = .ok (.invokestatic 42, 3) := by decide +kernel
theorem dX6_out_41 : decode cX6_out 41 = .ok (.ifCond .ne 6, 3) := by decide +kernel
theorem dX6_out_44 : decode cX6_out 44 = .ok (.bipush (-3), 2) := by decide +kernel
theorem dX6_out_46 : decode cX6_out 46 = .ok (.ireturn, 1) := by decide +kernel
theorem dX6_out_47 : decode cX6_out 47 = .ok (.aload 4, 2) := by decide +kernel
theorem dX6_out_49 : decode cX6_out 49 = .ok (.getfield 80, 3) := by decide +kernel
theorem dX6_out_52 : decode cX6_out 52 = .ok (.iload_n 2, 1) := by decide +kernel
theorem dX6_out_53 : decode cX6_out 53 = .ok (.invokevirtual 110, 3) := by decide +kernel
theorem dX6_out_56 : decode cX6_out 56 = .ok (.iload_n 3, 1) := by decide +kernel
theorem dX6_out_57 : decode cX6_out 57 = .ok (.if_icmp .ge 6, 3) := by decide +kernel
theorem dX6_out_60 : decode cX6_out 60 = .ok (.bipush (-4), 2) := by decide +kernel
theorem dX6_out_62 : decode cX6_out 62 = .ok (.ireturn, 1) := by decide +kernel
theorem dX6_out_63 : decode cX6_out 63 = .ok (.aload 4, 2) := by decide +kernel
theorem dX6_out_65 : decode cX6_out 65 = .ok (.getfield 192, 3) := by decide +kernel
theorem dX6_out_68 : decode cX6_out 68 = .ok (.iload_n 2, 1) := by decide +kernel
theorem dX6_out_69 : decode cX6_out 69 = .ok (.invokevirtual 110, 3) := by decide +kernel
theorem dX6_out_72 : decode cX6_out 72 = .ok (.istore 5, 2) := by decide +kernel
theorem dX6_out_74 : decode cX6_out 74 = .ok (.aload 4, 2) := by decide +kernel
theorem dX6_out_76 : decode cX6_out 76 = .ok (.getfield 192, 3) := by decide +kernel
theorem dX6_out_79 : decode cX6_out 79 = .ok (.iload_n 2, 1) := by decide +kernel
theorem dX6_out_80 : decode cX6_out 80 = .ok (.iload_n 3, 1) := by decide +kernel
theorem dX6_out_81 : decode cX6_out 81 = .ok (.invokevirtual 38, 3) := by decide +kernel
theorem dX6_out_84 : decode cX6_out 84 = .ok (.iload 5, 2) := by decide +kernel
theorem dX6_out_86 : decode cX6_out 86 = .ok (.ireturn, 1) := by decide +kernel
theorem dX6_sign_0 : decode cX6_sign 0 = .ok (.aload_n 0, 1) := by decide +kernel
theorem dX6_sign_1 : decode cX6_sign 1 = .ok (.iload_n 1, 1) := by decide +kernel
theorem dX6_sign_2 : decode cX6_sign 2 = .ok (.invokevirtual 123, 3) := by decide +kernel
theorem dX6_sign_5 : decode cX6_sign 5 = .ok (.astore_n 3, 1) := by decide +kernel
theorem dX6_sign_6 : decode cX6_sign 6 = .ok (.aload_n 3, 1) := by decide +kernel
theorem dX6_sign_7 : decode cX6_sign 7 = .ok (.ifnull 11, 3) := by decide +kernel
theorem dX6_sign_10 : decode cX6_sign 10 = .ok (.aload_n 3, 1) := by decide +kernel
theorem dX6_sign_11 : decode cX6_sign 11 = .ok (.iload_n 2, 1) := by decide +kernel
theorem dX6_sign_12 : decode cX6_sign 12 = .ok (.invokevirtual 127, 3) := by decide +kernel
theorem dX6_sign_15 : decode cX6_sign 15 = .ok (.ifCond .ne 5, 3) := by decide +kernel
theorem dX6_sign_18 : decode cX6_sign 18 = .ok (.iconst (-1), 1) := by decide +kernel
theorem dX6_sign_19 : decode cX6_sign 19 = .ok (.ireturn, 1) := by decide +kernel
theorem dX6_sign_20 : decode cX6_sign 20 = .ok (.aload_n 3, 1) := by decide +kernel
theorem dX6_sign_21 : decode cX6_sign 21 = .ok (.getfield 195, 3) := by decide +kernel
theorem dX6_sign_24 : decode cX6_sign 24 = .ok (.getfield 97, 3) := by decide +kernel
theorem dX6_sign_27 : decode cX6_sign 27 = .ok (.iconst 3, 1) := by decide +kernel
theorem dX6_sign_28 : decode cX6_sign 28 = .ok (.if_icmp .ne 6, 3) := by decide +kernel
theorem dX6_sign_31 : decode cX6_sign 31 = .ok (.bipush (-2), 2) := by decide +kernel
theorem dX6_sign_33 : decode cX6_sign 33 = .ok (.ireturn, 1) := by decide +kernel
theorem dX6_sign_34 : decode cX6_sign 34 = .ok (.aload_n 3, 1) := by decide +kernel
theorem dX6_sign_35 : decode cX6_sign 35 = .ok (.getfield 83, 3) := by decide +kernel
theorem dX6_sign_38 : decode cX6_sign 38 = .ok (.iload_n 2, 1) := by decide +kernel
theorem dX6_sign_39 : decode cX6_sign 39 = .ok (.invokestatic 107, 3) := by decide +kernel
theorem dX6_sign_42 : decode cX6_sign 42 = .ok (.ifCond .eq 6, 3) := by decide +kernel
theorem dX6_sign_45 : decode cX6_sign 45 = .ok (.bipush (-4), 2) := by decide +kernel
theorem dX6_sign_47 : decode cX6_sign 47 = .ok (.ireturn, 1) := by decide +kernel
theorem dX6_sign_48 : decode cX6_sign 48 = .ok (.aload_n 3, 1) := by decide +kernel
theorem dX6_sign_49 : decode cX6_sign 49 = .ok (.dup, 1) := by decide +kernel
theorem dX6_sign_50 : decode cX6_sign 50 = .ok (.getfield 83, 3) := by decide +kernel
theorem dX6_sign_53 : decode cX6_sign 53 = .ok (.iconst 1, 1) := by decide +kernel
theorem dX6_sign_54 : decode cX6_sign 54 = .ok (.iload_n 2, 1) := by decide +kernel
theorem dX6_sign_55 : decode cX6_sign 55 = .ok (.ishl, 1) := by decide +kernel
theorem dX6_sign_56 : decode cX6_sign 56 = .ok (.ior, 1) := by decide +kernel
theorem dX6_sign_57 : decode cX6_sign 57 = .ok (.putfield 83, 3) := by decide +kernel
theorem dX6_sign_60 : decode cX6_sign 60 = .ok (.aload_n 3, 1) := by decide +kernel
theorem dX6_sign_61 : decode cX6_sign 61 = .ok (.getfield 195, 3) := by decide +kernel
theorem dX6_sign_64 : decode cX6_sign 64 = .ok (.aload_n 3, 1) := by decide +kernel
theorem dX6_sign_65 : decode cX6_sign 65 = .ok (.invokevirtual 199, 3) := by decide +kernel
theorem dX6_sign_68 : decode cX6_sign 68 = .ok (.aload_n 3, 1) := by decide +kernel
theorem dX6_sign_69 : decode cX6_sign 69 = .ok (.getfield 83, 3) := by decide +kernel
theorem dX6_sign_72 : decode cX6_sign 72 = .ok (.invokestatic 46, 3) := by decide +kernel
theorem dX6_sign_75 : decode cX6_sign 75 = .ok (.ireturn, 1) := by decide +kernel
theorem dX6_show_0 : decode cX6_show 0 = .ok (.aload_n 0, 1) := by decide +kernel
theorem dX6_show_1 : decode cX6_show 1 = .ok (.iload_n 1, 1) := by decide +kernel
theorem dX6_show_2 : decode cX6_show 2 = .ok (.invokevirtual 123, 3) := by decide +kernel
theorem dX6_show_5 : decode cX6_show 5 = .ok (.astore_n 3, 1) := by decide +kernel
theorem dX6_show_6 : decode cX6_show 6 = .ok (.aload_n 3, 1) := by decide +kernel
theorem dX6_show_7 : decode cX6_show 7 = .ok (.ifnull 11, 3) := by decide +kernel
theorem dX6_show_10 : decode cX6_show 10 = .ok (.aload_n 3, 1) := by decide +kernel
theorem dX6_show_11 : decode cX6_show 11 = .ok (.iload_n 2, 1) := by decide +kernel
theorem dX6_show_12 : decode cX6_show 12 = .ok (.invokevirtual 127, 3) := by decide +kernel
theorem dX6_show_15 : decode cX6_show 15 = .ok (.ifCond .ne 5, 3) := by decide +kernel
theorem dX6_show_18 : decode cX6_show 18 = .ok (.iconst (-1), 1) := by decide +kernel
theorem dX6_show_19 : decode cX6_show 19 = .ok (.ireturn, 1) := by decide +kernel
theorem dX6_show_20 : decode cX6_show 20 = .ok (.aload_n 3, 1) := by decide +kernel
theorem dX6_show_21 : decode cX6_show 21 = .ok (.getfield 195, 3) := by decide +kernel
theorem dX6_show_24 : decode cX6_show 24 = .ok (.astore 4, 2) := by decide +kernel
theorem dX6_show_26 : decode cX6_show 26 = .ok (.aload 4, 2) := by decide +kernel
theorem dX6_show_28 : decode cX6_show 28 = .ok (.getfield 97, 3) := by decide +kernel
theorem dX6_show_31 : decode cX6_show 31 = .ok (.iconst 3, 1) := by decide +kernel
theorem dX6_show_32 : decode cX6_show 32 = .ok (.if_icmp .ne 6, 3) := by decide +kernel
theorem dX6_show_35 : decode cX6_show 35 = .ok (.bipush (-2), 2) := by decide +kernel
theorem dX6_show_37 : decode cX6_show 37 = .ok (.ireturn, 1) := by decide +kernel
theorem dX6_show_38 : decode cX6_show 38 = .ok (.aload_n 3, 1) := by decide +kernel
theorem dX6_show_39 : decode cX6_show 39 = .ok (.invokevirtual 202, 3) := by decide +kernel
theorem dX6_show_42 : decode cX6_show 42 = .ok (.ifCond .eq 12, 3) := by decide +kernel
theorem dX6_show_45 : decode cX6_show 45 = .ok (.aload 4, 2) := by decide +kernel
theorem dX6_show_47 : decode cX6_show 47 = .ok (.aload_n 3, 1) := by decide +kernel
theorem dX6_show_48 : decode cX6_show 48 = .ok (.invokevirtual 205, 3) := by decide +kernel
theorem dX6_show_51 : decode cX6_show 51 = .ok (.ifCond .ne 6, 3) := by decide +kernel
theorem dX6_show_54 : decode cX6_show 54 = .ok (.bipush (-4), 2) := by decide +kernel
theorem dX6_show_56 : decode cX6_show 56 = .ok (.ireturn, 1) := by decide +kernel
theorem dX6_show_57 : decode cX6_show 57 = .ok (.aload_n 0, 1) := by decide +kernel
theorem dX6_show_58 : decode cX6_show 58 = .ok (.aload_n 3, 1) := by decide +kernel
theorem dX6_show_59 : decode cX6_show 59 = .ok (.invokevirtual 209, 3) := by decide +kernel
theorem dX6_show_62 : decode cX6_show 62 = .ok (.aload 4, 2) := by decide +kernel
theorem dX6_show_64 : decode cX6_show 64 = .ok (.getfield 212, 3) := by decide +kernel
theorem dX6_show_67 : decode cX6_show 67 = .ok (.ireturn, 1) := by decide +kernel
theorem dX6_agree_0 : decode cX6_agree 0 = .ok (.aload_n 0, 1) := by decide +kernel
theorem dX6_agree_1 : decode cX6_agree 1 = .ok (.iload_n 1, 1) := by decide +kernel
theorem dX6_agree_2 : decode cX6_agree 2 = .ok (.invokevirtual 123, 3) := by decide +kernel
theorem dX6_agree_5 : decode cX6_agree 5 = .ok (.astore_n 3, 1) := by decide +kernel
theorem dX6_agree_6 : decode cX6_agree 6 = .ok (.aload_n 3, 1) := by decide +kernel
theorem dX6_agree_7 : decode cX6_agree 7 = .ok (.ifnull 11, 3) := by decide +kernel
theorem dX6_agree_10 : decode cX6_agree 10 = .ok (.aload_n 3, 1) := by decide +kernel
theorem dX6_agree_11 : decode cX6_agree 11 = .ok (.iload_n 2, 1) := by decide +kernel
theorem dX6_agree_12 : decode cX6_agree 12 = .ok (.invokevirtual 127, 3) := by decide +kernel
theorem dX6_agree_15 : decode cX6_agree 15 = .ok (.ifCond .ne 5, 3) := by decide +kernel
theorem dX6_agree_18 : decode cX6_agree 18 = .ok (.iconst (-1), 1) := by decide +kernel
theorem dX6_agree_19 : decode cX6_agree 19 = .ok (.ireturn, 1) := by decide +kernel
theorem dX6_agree_20 : decode cX6_agree 20 = .ok (.aload_n 3, 1) := by decide +kernel
theorem dX6_agree_21 : decode cX6_agree 21 = .ok (.getfield 195, 3) := by decide +kernel
theorem dX6_agree_24 : decode cX6_agree 24 = .ok (.astore 4, 2) := by decide +kernel
theorem dX6_agree_26 : decode cX6_agree 26 = .ok (.aload 4, 2) := by decide +kernel
theorem dX6_agree_28 : decode cX6_agree 28 = .ok (.getfield 97, 3) := by decide +kernel
theorem dX6_agree_31 : decode cX6_agree 31 = .ok (.iconst 1, 1) := by decide +kernel
theorem dX6_agree_32 : decode cX6_agree 32 = .ok (.if_icmp .eq 6, 3) := by decide +kernel
theorem dX6_agree_35 : decode cX6_agree 35 = .ok (.bipush (-2), 2) := by decide +kernel
theorem dX6_agree_37 : decode cX6_agree 37 = .ok (.ireturn, 1) := by decide +kernel
theorem dX6_agree_38 : decode cX6_agree 38 = .ok (.aload_n 3, 1) := by decide +kernel
theorem dX6_agree_39 : decode cX6_agree 39 = .ok (.aload 4, 2) := by decide +kernel
theorem dX6_agree_41 : decode cX6_agree 41 = .ok (.getfield 86, 3) := by decide +kernel
theorem dX6_agree_44 : decode cX6_agree 44 = .ok (.if_acmp .ne 14, 3) := by decide +kernel
theorem dX6_agree_47 : decode cX6_agree 47 = .ok (.aload_n 3, 1) := by decide +kernel
theorem dX6_agree_48 : decode cX6_agree 48 = .ok (.getfield 215, 3) := by decide +kernel
theorem dX6_agree_51 : decode cX6_agree 51 = .ok (.iload_n 2, 1) := by decide +kernel
theorem dX6_agree_52 : decode cX6_agree 52 = .ok (.invokestatic 107, 3) := by decide +kernel
theorem dX6_agree_55 : decode cX6_agree 55 = .ok (.ifCond .eq 6, 3) := by decide +kernel
theorem dX6_agree_58 : decode cX6_agree 58 = .ok (.bipush (-4), 2) := by decide +kernel
theorem dX6_agree_60 : decode cX6_agree 60 = .ok (.ireturn, 1) := by decide +kernel
theorem dX6_agree_61 : decode cX6_agree 61 = .ok (.aload_n 3, 1) := by decide +kernel
theorem dX6_agree_62 : decode cX6_agree 62 = .ok (.dup, 1) := by decide +kernel
theorem dX6_agree_63 : decode cX6_agree 63 = .ok (.getfield 215, 3) := by decide +kernel
theorem dX6_agree_66 : decode cX6_agree 66 = .ok (.iconst 1, 1) := by decide +kernel
theorem dX6_agree_67 : decode cX6_agree 67 = .ok (.iload_n 2, 1) := by decide +kernel
theorem dX6_agree_68 : decode cX6_agree 68 = .ok (.ishl, 1) := by decide +kernel
theorem dX6_agree_69 : decode cX6_agree 69 = .ok (.ior, 1) := by decide +kernel
theorem dX6_agree_70 : decode cX6_agree 70 = .ok (.putfield 215, 3) := by decide +kernel
theorem dX6_agree_73 : decode cX6_agree 73 = .ok (.aload_n 3, 1) := by decide +kernel
theorem dX6_agree_74 : decode cX6_agree 74 = .ok (.getfield 215, 3) := by decide +kernel
theorem dX6_agree_77 : decode cX6_agree 77 = .ok (.istore 5, 2) := by decide +kernel
theorem dX6_agree_79 : decode cX6_agree 79 = .ok (.iload 5, 2) := by decide +kernel
theorem dX6_agree_81 : decode cX6_agree 81 = .ok (.aload 4, 2) := by decide +kernel
theorem dX6_agree_83 : decode cX6_agree 83 = .ok (.getfield 218, 3) := by decide +kernel
theorem dX6_agree_86 : decode cX6_agree 86 = .ok (.if_icmp .ne 8, 3) := by decide +kernel
theorem dX6_agree_89 : decode cX6_agree 89 = .ok (.aload_n 0, 1) := by decide +kernel
theorem dX6_agree_90 : decode cX6_agree 90 = .ok (.aload_n 3, 1) := by decide +kernel
theorem dX6_agree_91 : decode cX6_agree 91 = .ok (.invokevirtual 221, 3) := by decide +kernel
theorem dX6_agree_94 : decode cX6_agree 94 = .ok (.iload 5, 2) := by decide +kernel
theorem dX6_agree_96 : decode cX6_agree 96 = .ok (.invokestatic 46, 3) := by decide +kernel
theorem dX6_agree_99 : decode cX6_agree 99 = .ok (.ireturn, 1) := by decide +kernel
theorem dX6_makeShown_0 : decode cX6_makeShown 0 = .ok (.aload_n 1, 1) := by decide +kernel
theorem dX6_makeShown_1 : decode cX6_makeShown 1 = .ok (.getfield 195, 3) := by decide +kernel
theorem dX6_makeShown_4 : decode cX6_makeShown 4 = .ok (.astore_n 2, 1) := by decide +kernel
theorem dX6_makeShown_5 : decode cX6_makeShown 5 = .ok (.aload_n 2, 1) := by decide +kernel
theorem dX6_makeShown_6 : decode cX6_makeShown 6 = .ok (.getfield 97, 3) := by decide +kernel
theorem dX6_makeShown_9 : decode cX6_makeShown 9 = .ok (.iconst 1, 1) := by decide +kernel
theorem dX6_makeShown_10 : decode cX6_makeShown 10 = .ok (.if_icmp .ne 21, 3) := by decide +kernel
theorem dX6_makeShown_13 : decode cX6_makeShown 13 = .ok (.aload_n 2, 1) := by decide +kernel
theorem dX6_makeShown_14 : decode cX6_makeShown 14 = .ok (.iconst 2, 1) := by decide +kernel
theorem dX6_makeShown_15 : decode cX6_makeShown 15 = .ok (.putfield 97, 3) := by decide +kernel
theorem dX6_makeShown_18 : decode cX6_makeShown 18 = .ok (.aload_n 2, 1) := by decide +kernel
theorem dX6_makeShown_19 : decode cX6_makeShown 19 = .ok (.aload_n 0, 1) := by decide +kernel
theorem dX6_makeShown_20 : decode cX6_makeShown 20 = .ok (.getfield 224, 3) := by decide +kernel
theorem dX6_makeShown_23 : decode cX6_makeShown 23 = .ok (.aload_n 2, 1) := by decide +kernel
theorem dX6_makeShown_24 : decode cX6_makeShown 24 = .ok (.getfield 227, 3) := by decide +kernel
theorem dX6_makeShown_27 : decode cX6_makeShown 27 = .ok (.iadd, 1) := by decide +kernel
theorem dX6_makeShown_28 : decode cX6_makeShown 28 = .ok (.putfield 212, 3) := by decide +kernel
theorem dX6_makeShown_31 : decode cX6_makeShown 31 = .ok (.aload_n 2, 1) := by decide +kernel
theorem dX6_makeShown_32 : decode cX6_makeShown 32 = .ok (.aload_n 1, 1) := by decide +kernel
theorem dX6_makeShown_33 : decode cX6_makeShown 33 = .ok (.putfield 230, 3) := by decide +kernel
theorem dX6_makeShown_36 : decode cX6_makeShown 36 = .ok (.return_, 1) := by decide +kernel
theorem dX6_fulfil_0 : decode cX6_fulfil 0 = .ok (.aload_n 1, 1) := by decide +kernel
theorem dX6_fulfil_1 : decode cX6_fulfil 1 = .ok (.invokevirtual 233, 3) := by decide +kernel
theorem dX6_fulfil_4 : decode cX6_fulfil 4 = .ok (.ifCond .eq 11, 3) := by decide +kernel
theorem dX6_fulfil_7 : decode cX6_fulfil 7 = .ok (.aload_n 0, 1) := by decide +kernel
theorem dX6_fulfil_8 : decode cX6_fulfil 8 = .ok (.aload_n 1, 1) := by decide +kernel
theorem dX6_fulfil_9 : decode cX6_fulfil 9 = .ok (.invokevirtual 236, 3) := by decide +kernel
theorem dX6_fulfil_12 : decode cX6_fulfil 12 = .ok (.goto 8, 3) := by decide +kernel
theorem dX6_fulfil_15 : decode cX6_fulfil 15 = .ok (.aload_n 0, 1) := by decide +kernel
theorem dX6_fulfil_16 : decode cX6_fulfil 16 = .ok (.aload_n 1, 1) := by decide +kernel
theorem dX6_fulfil_17 : decode cX6_fulfil 17 = .ok (.invokevirtual 239, 3) := by decide +kernel
theorem dX6_fulfil_20 : decode cX6_fulfil 20 = .ok (.return_, 1) := by decide +kernel
theorem dX6_payOuts_0 : decode cX6_payOuts 0 = .ok (.iconst 0, 1) := by decide +kernel
theorem dX6_payOuts_1 : decode cX6_payOuts 1 = .ok (.istore_n 2, 1) := by decide +kernel
theorem dX6_payOuts_2 : decode cX6_payOuts 2 = .ok (.iload_n 2, 1) := by decide +kernel
theorem dX6_payOuts_3 : decode cX6_payOuts 3 = .ok (.bipush 6, 2) := by decide +kernel
theorem dX6_payOuts_5 : decode cX6_payOuts 5 = .ok (.if_icmp .ge 47, 3) := by decide +kernel
theorem dX6_payOuts_8 : decode cX6_payOuts 8 = .ok (.aload_n 1, 1) := by decide +kernel
theorem dX6_payOuts_9 : decode cX6_payOuts 9 = .ok (.getfield 192, 3) := by decide +kernel
theorem dX6_payOuts_12 : decode cX6_payOuts 12 = .ok (.iload_n 2, 1) := by decide +kernel
theorem dX6_payOuts_13 : decode cX6_payOuts 13 = .ok (.invokevirtual 110, 3) := by decide +kernel
theorem dX6_payOuts_16 : decode cX6_payOuts 16 = .ok (.istore_n 3, 1) := by decide +kernel
theorem dX6_payOuts_17 : decode cX6_payOuts 17 = .ok (.aload_n 1, 1) := by decide +kernel
theorem dX6_payOuts_18 : decode cX6_payOuts 18 = .ok (.getfield 80, 3) := by decide +kernel
theorem dX6_payOuts_21 : decode cX6_payOuts 21 = .ok (.iload_n 2, 1) := by decide +kernel
theorem dX6_payOuts_22 : decode cX6_payOuts 22 = .ok (.iload_n 3, 1) := by decide +kernel
theorem dX6_payOuts_23 : decode cX6_payOuts 23 = .ok (.ineg, 1) := by decide +kernel
theorem dX6_payOuts_24 : decode cX6_payOuts 24 = .ok (.invokevirtual 74, 3) := by decide +kernel
theorem dX6_payOuts_27 : decode cX6_payOuts 27 = .ok (.aload_n 1, 1) := by decide +kernel
theorem dX6_payOuts_28 : decode cX6_payOuts 28 = .ok (.getfield 192, 3) := by decide +kernel
theorem dX6_payOuts_31 : decode cX6_payOuts 31 = .ok (.iload_n 2, 1) := by decide +kernel
theorem dX6_payOuts_32 : decode cX6_payOuts 32 = .ok (.iconst 0, 1) := by decide +kernel
theorem dX6_payOuts_33 : decode cX6_payOuts 33 = .ok (.invokevirtual 38, 3) := by decide +kernel
theorem dX6_payOuts_36 : decode cX6_payOuts 36 = .ok (.aload_n 0, 1) := by decide +kernel
theorem dX6_payOuts_37 : decode cX6_payOuts 37 = .ok (.aload_n 1, 1) := by decide +kernel
theorem dX6_payOuts_38 : decode cX6_payOuts 38 = .ok (.getfield 195, 3) := by decide +kernel
theorem dX6_payOuts_41 : decode cX6_payOuts 41 = .ok (.iload_n 2, 1) := by decide +kernel
theorem dX6_payOuts_42 : decode cX6_payOuts 42 = .ok (.iload_n 3, 1) := by decide +kernel
theorem dX6_payOuts_43 : decode cX6_payOuts 43 = .ok (.invokevirtual 242, 3) := by decide +kernel
theorem dX6_payOuts_46 : decode cX6_payOuts 46 = .ok (.iinc 2 1, 3) := by decide +kernel
theorem dX6_payOuts_49 : decode cX6_payOuts 49 = .ok (.goto (-47), 3) := by decide +kernel
theorem dX6_payOuts_52 : decode cX6_payOuts 52 = .ok (.aload_n 1, 1) := by decide +kernel
theorem dX6_payOuts_53 : decode cX6_payOuts 53 = .ok (.iconst 0, 1) := by decide +kernel
theorem dX6_payOuts_54 : decode cX6_payOuts 54 = .ok (.putfield 215, 3) := by decide +kernel
theorem dX6_payOuts_57 : decode cX6_payOuts 57 = .ok (.return_, 1) := by decide +kernel
theorem dX6_endBy_0 : decode cX6_endBy 0 = .ok (.aload_n 1, 1) := by decide +kernel
theorem dX6_endBy_1 : decode cX6_endBy 1 = .ok (.getfield 195, 3) := by decide +kernel
theorem dX6_endBy_4 : decode cX6_endBy 4 = .ok (.astore_n 2, 1) := by decide +kernel
theorem dX6_endBy_5 : decode cX6_endBy 5 = .ok (.aload_n 2, 1) := by decide +kernel
theorem dX6_endBy_6 : decode cX6_endBy 6 = .ok (.iconst 3, 1) := by decide +kernel
theorem dX6_endBy_7 : decode cX6_endBy 7 = .ok (.putfield 97, 3) := by decide +kernel
theorem dX6_endBy_10 : decode cX6_endBy 10 = .ok (.aload_n 2, 1) := by decide +kernel
theorem dX6_endBy_11 : decode cX6_endBy 11 = .ok (.aload_n 1, 1) := by decide +kernel
theorem dX6_endBy_12 : decode cX6_endBy 12 = .ok (.putfield 230, 3) := by decide +kernel
theorem dX6_endBy_15 : decode cX6_endBy 15 = .ok (.aload_n 2, 1) := by decide +kernel
theorem dX6_endBy_16 : decode cX6_endBy 16 = .ok (.aconst_null, 1) := by decide +kernel
theorem dX6_endBy_17 : decode cX6_endBy 17 = .ok (.putfield 86, 3) := by decide +kernel
theorem dX6_endBy_20 : decode cX6_endBy 20 = .ok (.aload_n 2, 1) := by decide +kernel
theorem dX6_endBy_21 : decode cX6_endBy 21 = .ok (.iconst 0, 1) := by decide +kernel
theorem dX6_endBy_22 : decode cX6_endBy 22 = .ok (.putfield 212, 3) := by decide +kernel
theorem dX6_endBy_25 : decode cX6_endBy 25 = .ok (.iconst 0, 1) := by decide +kernel
theorem dX6_endBy_26 : decode cX6_endBy 26 = .ok (.istore_n 3, 1) := by decide +kernel
theorem dX6_endBy_27 : decode cX6_endBy 27 = .ok (.iload_n 3, 1) := by decide +kernel
theorem dX6_endBy_28 : decode cX6_endBy 28 = .ok (.bipush 6, 2) := by decide +kernel
theorem dX6_endBy_30 : decode cX6_endBy 30 = .ok (.if_icmp .ge 23, 3) := by decide +kernel
theorem dX6_endBy_33 : decode cX6_endBy 33 = .ok (.aload_n 0, 1) := by decide +kernel
theorem dX6_endBy_34 : decode cX6_endBy 34 = .ok (.aload_n 2, 1) := by decide +kernel
theorem dX6_endBy_35 : decode cX6_endBy 35 = .ok (.iload_n 3, 1) := by decide +kernel
theorem dX6_endBy_36 : decode cX6_endBy 36 = .ok (.aload_n 1, 1) := by decide +kernel
theorem dX6_endBy_37 : decode cX6_endBy 37 = .ok (.getfield 80, 3) := by decide +kernel
theorem dX6_endBy_40 : decode cX6_endBy 40 = .ok (.iload_n 3, 1) := by decide +kernel
theorem dX6_endBy_41 : decode cX6_endBy 41 = .ok (.invokevirtual 110, 3) := by decide +kernel
theorem dX6_endBy_44 : decode cX6_endBy 44 = .ok (.invokevirtual 242, 3) := by decide +kernel
theorem dX6_endBy_47 : decode cX6_endBy 47 = .ok (.iinc 3 1, 3) := by decide +kernel
theorem dX6_endBy_50 : decode cX6_endBy 50 = .ok (.goto (-23), 3) := by decide +kernel
theorem dX6_endBy_53 : decode cX6_endBy 53 = .ok (.iconst 0, 1) := by decide +kernel
theorem dX6_endBy_54 : decode cX6_endBy 54 = .ok (.istore_n 3, 1) := by decide +kernel
theorem dX6_endBy_55 : decode cX6_endBy 55 = .ok (.iload_n 3, 1) := by decide +kernel
theorem dX6_endBy_56 : decode cX6_endBy 56 = .ok (.iconst 3, 1) := by decide +kernel
theorem dX6_endBy_57 : decode cX6_endBy 57 = .ok (.if_icmp .ge 20, 3) := by decide +kernel
theorem dX6_endBy_60 : decode cX6_endBy 60 = .ok (.aload_n 0, 1) := by decide +kernel
theorem dX6_endBy_61 : decode cX6_endBy 61 = .ok (.aload_n 2, 1) := by decide +kernel
theorem dX6_endBy_62 : decode cX6_endBy 62 = .ok (.iload_n 3, 1) := by decide +kernel
theorem dX6_endBy_63 : decode cX6_endBy 63 = .ok (.aload_n 1, 1) := by decide +kernel
theorem dX6_endBy_64 : decode cX6_endBy 64 = .ok (.iload_n 3, 1) := by decide +kernel
theorem dX6_endBy_65 : decode cX6_endBy 65 = .ok (.invokevirtual 153, 3) := by decide +kernel
theorem dX6_endBy_68 : decode cX6_endBy 68 = .ok (.invokevirtual 246, 3) := by decide +kernel
theorem dX6_endBy_71 : decode cX6_endBy 71 = .ok (.iinc 3 1, 3) := by decide +kernel
theorem dX6_endBy_74 : decode cX6_endBy 74 = .ok (.goto (-19), 3) := by decide +kernel
theorem dX6_endBy_77 : decode cX6_endBy 77 = .ok (.aload_n 2, 1) := by decide +kernel
theorem dX6_endBy_78 : decode cX6_endBy 78 = .ok (.aload_n 1, 1) := by decide +kernel
theorem dX6_endBy_79 : decode cX6_endBy 79 = .ok (.getfield 170, 3) := by decide +kernel
theorem dX6_endBy_82 : decode cX6_endBy 82 = .ok (.putfield 250, 3) := by decide +kernel
theorem dX6_endBy_85 : decode cX6_endBy 85 = .ok (.aload_n 2, 1) := by decide +kernel
theorem dX6_endBy_86 : decode cX6_endBy 86 = .ok (.aload_n 1, 1) := by decide +kernel
theorem dX6_endBy_87 : decode cX6_endBy 87 = .ok (.getfield 170, 3) := by decide +kernel
theorem dX6_endBy_90 : decode cX6_endBy 90 = .ok (.ifnonnull 7, 3) := by decide +kernel
theorem dX6_endBy_93 : decode cX6_endBy 93 = .ok (.iconst 0, 1) := by decide +kernel
theorem dX6_endBy_94 : decode cX6_endBy 94 = .ok (.goto 12, 3) := by decide +kernel
theorem dX6_endBy_97 : decode cX6_endBy 97 = .ok (.aload_n 0, 1) := by decide +kernel
theorem dX6_endBy_98 : decode cX6_endBy 98 = .ok (.getfield 224, 3) := by decide +kernel
theorem dX6_endBy_101 : decode cX6_endBy 101 = .ok (.aload_n 2, 1) := by decide +kernel
theorem dX6_endBy_102 : decode cX6_endBy 102 = .ok (.getfield 227, 3) := by decide +kernel
theorem dX6_endBy_105 : decode cX6_endBy 105 = .ok (.iadd, 1) := by decide +kernel
theorem dX6_endBy_106 : decode cX6_endBy 106 = .ok (.putfield 253, 3) := by decide +kernel
theorem dX6_endBy_109 : decode cX6_endBy 109 = .ok (.return_, 1) := by decide +kernel
theorem dX6_holdOrGiveBack_0 : decode cX6_holdOrGiveBack 0 = .ok (.aload_n 3, 1) := by decide +kernel
theorem dX6_holdOrGiveBack_1 : decode cX6_holdOrGiveBack 1 = .ok (.ifnonnull 4, 3) := by decide +kernel
theorem dX6_holdOrGiveBack_4 : decode cX6_holdOrGiveBack 4 = .ok (.return_, 1) := by decide +kernel
theorem dX6_holdOrGiveBack_5 : decode cX6_holdOrGiveBack 5 = .ok (.aload_n 3, 1) := by decide +kernel
theorem dX6_holdOrGiveBack_6 : decode cX6_holdOrGiveBack 6 = .ok (.getfield 256, 3) := by decide +kernel
theorem dX6_holdOrGiveBack_9 : decode cX6_holdOrGiveBack 9 = .ok (.aload_n 0, 1) := by decide +kernel
theorem dX6_holdOrGiveBack_10 : decode cX6_holdOrGiveBack 10 = .ok (.getfield 224, 3) := by decide +kernel
theorem dX6_holdOrGiveBack_13 : decode cX6_holdOrGiveBack 13 = .ok (.if_icmp .le 18, 3) := by decide +kernel
theorem dX6_holdOrGiveBack_16 : decode cX6_holdOrGiveBack 16 = .ok (.aload_n 1, 1) := by decide +kernel
theorem dX6_holdOrGiveBack_17 : decode cX6_holdOrGiveBack 17 = .ok (.dup, 1) := by decide +kernel
theorem dX6_holdOrGiveBack_18 : decode cX6_holdOrGiveBack 18 = .ok (.getfield 259, 3) := by decide +kernel
theorem dX6_holdOrGiveBack_21 : decode cX6_holdOrGiveBack 21 = .ok (.iconst 1, 1) := by decide +kernel
theorem dX6_holdOrGiveBack_22 : decode cX6_holdOrGiveBack 22 = .ok (.iload_n 2, 1) := by decide +kernel
theorem dX6_holdOrGiveBack_23 : decode cX6_holdOrGiveBack 23 = .ok (.ishl, 1) := by decide +kernel
theorem dX6_holdOrGiveBack_24 : decode cX6_holdOrGiveBack 24 = .ok (.ior, 1) := by decide +kernel
theorem dX6_holdOrGiveBack_25 : decode cX6_holdOrGiveBack 25 = .ok (.putfield 259, 3) := by decide +kernel
theorem dX6_holdOrGiveBack_28 : decode cX6_holdOrGiveBack 28 = .ok (.goto 16, 3) := by decide +kernel
theorem dX6_holdOrGiveBack_31 : decode cX6_holdOrGiveBack 31 = .ok (.aload_n 0, 1) := by decide +kernel
theorem dX6_holdOrGiveBack_32 : decode cX6_holdOrGiveBack 32 = .ok (.aload_n 1, 1) := by decide +kernel
theorem dX6_holdOrGiveBack_33 : decode cX6_holdOrGiveBack 33 = .ok (.aload_n 3, 1) := by decide +kernel
theorem dX6_holdOrGiveBack_34 : decode cX6_holdOrGiveBack 34 = .ok (.getfield 164, 3) := by decide +kernel
theorem dX6_holdOrGiveBack_37 : decode cX6_holdOrGiveBack 37 = .ok (.aload_n 3, 1) := by decide +kernel
theorem dX6_holdOrGiveBack_38 : decode cX6_holdOrGiveBack 38 = .ok (.getfield 167, 3) := by decide +kernel
theorem dX6_holdOrGiveBack_41 : decode cX6_holdOrGiveBack 41 = .ok (.invokevirtual 242, 3) := by decide +kernel
theorem dX6_holdOrGiveBack_44 : decode cX6_holdOrGiveBack 44 = .ok (.return_, 1) := by decide +kernel
theorem dX6_payFrom_0 : decode cX6_payFrom 0 = .ok (.aload_n 1, 1) := by decide +kernel
theorem dX6_payFrom_1 : decode cX6_payFrom 1 = .ok (.dup, 1) := by decide +kernel
theorem dX6_payFrom_2 : decode cX6_payFrom 2 = .ok (.getfield 77, 3) := by decide +kernel
theorem dX6_payFrom_5 : decode cX6_payFrom 5 = .ok (.iload_n 3, 1) := by decide +kernel
theorem dX6_payFrom_6 : decode cX6_payFrom 6 = .ok (.isub, 1) := by decide +kernel
theorem dX6_payFrom_7 : decode cX6_payFrom 7 = .ok (.putfield 77, 3) := by decide +kernel
theorem dX6_payFrom_10 : decode cX6_payFrom 10 = .ok (.aload_n 0, 1) := by decide +kernel
theorem dX6_payFrom_11 : decode cX6_payFrom 11 = .ok (.getfield 10, 3) := by decide +kernel
theorem dX6_payFrom_14 : decode cX6_payFrom 14 = .ok (.iload_n 2, 1) := by decide +kernel
theorem dX6_payFrom_15 : decode cX6_payFrom 15 = .ok (.iload_n 3, 1) := by decide +kernel
theorem dX6_payFrom_16 : decode cX6_payFrom 16 = .ok (.invokevirtual 74, 3) := by decide +kernel
theorem dX6_payFrom_19 : decode cX6_payFrom 19 = .ok (.return_, 1) := by decide +kernel
theorem dX6_secret_0 : decode cX6_secret 0 = .ok (.iload_n 1, 1) := by decide +kernel
theorem dX6_secret_1 : decode cX6_secret 1 = .ok (.invokestatic 262, 3) := by decide +kernel
theorem dX6_secret_4 : decode cX6_secret 4 = .ok (.ifCond .ne 5, 3) := by decide +kernel
theorem dX6_secret_7 : decode cX6_secret 7 = .ok (.iconst (-1), 1) := by decide +kernel
theorem dX6_secret_8 : decode cX6_secret 8 = .ok (.ireturn, 1) := by decide +kernel
theorem dX6_secret_9 : decode cX6_secret 9 = .ok (.aload_n 0, 1) := by decide +kernel
theorem dX6_secret_10 : decode cX6_secret 10 = .ok (.invokevirtual 265, 3) := by decide +kernel
theorem dX6_secret_13 : decode cX6_secret 13 = .ok (.ifCond .ne 6, 3) := by decide +kernel
theorem dX6_secret_16 : decode cX6_secret 16 = .ok (.bipush (-4), 2) := by decide +kernel
theorem dX6_secret_18 : decode cX6_secret 18 = .ok (.ireturn, 1) := by decide +kernel
theorem dX6_secret_19 : decode cX6_secret 19 = .ok (.aload_n 0, 1) := by decide +kernel
theorem dX6_secret_20 : decode cX6_secret 20 = .ok (.iload_n 1, 1) := by decide +kernel
theorem dX6_secret_21 : decode cX6_secret 21 = .ok (.invokevirtual 268, 3) := by decide +kernel
theorem dX6_secret_24 : decode cX6_secret 24 = .ok (.ireturn, 1) := by decide +kernel
theorem dX6_tell_0 : decode cX6_tell 0 = .ok (.aload_n 0, 1) := by decide +kernel
theorem dX6_tell_1 : decode cX6_tell 1 = .ok (.iload_n 1, 1) := by decide +kernel
theorem dX6_tell_2 : decode cX6_tell 2 = .ok (.invokevirtual 136, 3) := by decide +kernel
theorem dX6_tell_5 : decode cX6_tell 5 = .ok (.ifCond .eq 17, 3) := by decide +kernel
theorem dX6_tell_8 : decode cX6_tell 8 = .ok (.iload_n 2, 1) := by decide +kernel
theorem dX6_tell_9 : decode cX6_tell 9 = .ok (.invokestatic 262, 3) := by decide +kernel
theorem dX6_tell_12 : decode cX6_tell 12 = .ok (.ifCond .eq 10, 3) := by decide +kernel
theorem dX6_tell_15 : decode cX6_tell 15 = .ok (.iload_n 3, 1) := by decide +kernel
theorem dX6_tell_16 : decode cX6_tell 16 = .ok (.invokestatic 262, 3) := by decide +kernel
theorem dX6_tell_19 : decode cX6_tell 19 = .ok (.ifCond .ne 5, 3) := by decide +kernel
theorem dX6_tell_22 : decode cX6_tell 22 = .ok (.iconst (-1), 1) := by decide +kernel
theorem dX6_tell_23 : decode cX6_tell 23 = .ok (.ireturn, 1) := by decide +kernel
theorem dX6_tell_24 : decode cX6_tell 24 = .ok (.aload_n 0, 1) := by decide +kernel
theorem dX6_tell_25 : decode cX6_tell 25 = .ok (.iload_n 1, 1) := by decide +kernel
theorem dX6_tell_26 : decode cX6_tell 26 = .ok (.iload_n 2, 1) := by decide +kernel
theorem dX6_tell_27 : decode cX6_tell 27 = .ok (.invokevirtual 271, 3) := by decide +kernel
theorem dX6_tell_30 : decode cX6_tell 30 = .ok (.ifCond .ne 6, 3) := by decide +kernel
theorem dX6_tell_33 : decode cX6_tell 33 = .ok (.bipush (-4), 2) := by decide +kernel
theorem dX6_tell_35 : decode cX6_tell 35 = .ok (.ireturn, 1) := by decide +kernel
theorem dX6_tell_36 : decode cX6_tell 36 = .ok (.aload_n 0, 1) := by decide +kernel
theorem dX6_tell_37 : decode cX6_tell 37 = .ok (.iload_n 1, 1) := by decide +kernel
theorem dX6_tell_38 : decode cX6_tell 38 = .ok (.iload_n 3, 1) := by decide +kernel
theorem dX6_tell_39 : decode cX6_tell 39 = .ok (.invokevirtual 271, 3) := by decide +kernel
theorem dX6_tell_42 : decode cX6_tell 42 = .ok (.ifCond .eq 5, 3) := by decide +kernel
theorem dX6_tell_45 : decode cX6_tell 45 = .ok (.iconst 0, 1) := by decide +kernel
theorem dX6_tell_46 : decode cX6_tell 46 = .ok (.ireturn, 1) := by decide +kernel
theorem dX6_tell_47 : decode cX6_tell 47 = .ok (.aload_n 0, 1) := by decide +kernel
theorem dX6_tell_48 : decode cX6_tell 48 = .ok (.getfield 28, 3) := by decide +kernel
theorem dX6_tell_51 : decode cX6_tell 51 = .ok (.iload_n 1, 1) := by decide +kernel
theorem dX6_tell_52 : decode cX6_tell 52 = .ok (.dup2, 1) := by decide +kernel
theorem dX6_tell_53 : decode cX6_tell 53 = .ok (.iaload, 1) := by decide +kernel
theorem dX6_tell_54 : decode cX6_tell 54 = .ok (.iconst 1, 1) := by decide +kernel
theorem dX6_tell_55 : decode cX6_tell 55 = .ok (.iload_n 3, 1) := by decide +kernel
theorem dX6_tell_56 : decode cX6_tell 56 = .ok (.ishl, 1) := by decide +kernel
theorem dX6_tell_57 : decode cX6_tell 57 = .ok (.ior, 1) := by decide +kernel
theorem dX6_tell_58 : decode cX6_tell 58 = .ok (.iastore, 1) := by decide +kernel
theorem dX6_tell_59 : decode cX6_tell 59 = .ok (.iconst 1, 1) := by decide +kernel
theorem dX6_tell_60 : decode cX6_tell 60 = .ok (.ireturn, 1) := by decide +kernel
theorem dX6_hasRoomForSecret_0 : decode cX6_hasRoomForSecret 0 = .ok (.aload_n 0, 1) := by decide +kernel
theorem dX6_hasRoomForSecret_1 : decode cX6_hasRoomForSecret 1 = .ok (.getfield 274, 3) := by decide +kernel
theorem dX6_hasRoomForSecret_4 : decode cX6_hasRoomForSecret 4 = .ok (.aload_n 0, 1) := by decide +kernel
theorem dX6_hasRoomForSecret_5 : decode cX6_hasRoomForSecret 5 = .ok (.getfield 28, 3) := by decide +kernel
theorem dX6_hasRoomForSecret_8 : decode cX6_hasRoomForSecret 8 = .ok (.arraylength, 1) := by decide +kernel
theorem dX6_hasRoomForSecret_9 : decode cX6_hasRoomForSecret 9 = .ok (.if_icmp .ge 7, 3) := by decide +kernel
theorem dX6_hasRoomForSecret_12 : decode cX6_hasRoomForSecret 12 = .ok (.iconst 1, 1) := by decide +kernel
theorem dX6_hasRoomForSecret_13 : decode cX6_hasRoomForSecret 13 = .ok (.goto 4, 3) := by decide +kernel
theorem dX6_hasRoomForSecret_16 : decode cX6_hasRoomForSecret 16 = .ok (.iconst 0, 1) := by decide +kernel
theorem dX6_hasRoomForSecret_17 : decode cX6_hasRoomForSecret 17 = .ok (.ireturn, 1) := by decide +kernel
theorem dX6_newSecret_0 : decode cX6_newSecret 0 = .ok (.aload_n 0, 1) := by decide +kernel
theorem dX6_newSecret_1 : decode cX6_newSecret 1 = .ok (.getfield 274, 3) := by decide +kernel
theorem dX6_newSecret_4 : decode cX6_newSecret 4 = .ok (.istore_n 2, 1) := by decide +kernel
theorem dX6_newSecret_5 : decode cX6_newSecret 5 = .ok (.iload_n 2, 1) := by decide +kernel
theorem dX6_newSecret_6 : decode cX6_newSecret 6 = .ok (.ifCond .lt 31, 3) := by decide +kernel
theorem dX6_newSecret_9 : decode cX6_newSecret 9 = .ok (.iload_n 2, 1) := by decide +kernel
theorem dX6_newSecret_10 : decode cX6_newSecret 10 = .ok (.aload_n 0, 1) := by decide +kernel
theorem dX6_newSecret_11 : decode cX6_newSecret 11 = .ok (.getfield 28, 3) := by decide +kernel
theorem dX6_newSecret_14 : decode cX6_newSecret 14 = .ok (.arraylength, 1) := by decide +kernel
theorem dX6_newSecret_15 : decode cX6_newSecret 15 = .ok (.if_icmp .ge 22, 3) := by decide +kernel
theorem dX6_newSecret_18 : decode cX6_newSecret 18 = .ok (.aload_n 0, 1) := by decide +kernel
theorem dX6_newSecret_19 : decode cX6_newSecret 19 = .ok (.getfield 28, 3) := by decide +kernel
theorem dX6_newSecret_22 : decode cX6_newSecret 22 = .ok (.iload_n 2, 1) := by decide +kernel
theorem dX6_newSecret_23 : decode cX6_newSecret 23 = .ok (.iconst 1, 1) := by decide +kernel
theorem dX6_newSecret_24 : decode cX6_newSecret 24 = .ok (.iload_n 1, 1) := by decide +kernel
theorem dX6_newSecret_25 : decode cX6_newSecret 25 = .ok (.ishl, 1) := by decide +kernel
theorem dX6_newSecret_26 : decode cX6_newSecret 26 = .ok (.iastore, 1) := by decide +kernel
theorem dX6_newSecret_27 : decode cX6_newSecret 27 = .ok (.aload_n 0, 1) := by decide +kernel
theorem dX6_newSecret_28 : decode cX6_newSecret 28 = .ok (.dup, 1) := by decide +kernel
theorem dX6_newSecret_29 : decode cX6_newSecret 29 = .ok (.getfield 274, 3) := by decide +kernel
theorem dX6_newSecret_32 : decode cX6_newSecret 32 = .ok (.iconst 1, 1) := by decide +kernel
theorem dX6_newSecret_33 : decode cX6_newSecret 33 = .ok (.iadd, 1) := by decide +kernel
theorem dX6_newSecret_34 : decode cX6_newSecret 34 = .ok (.putfield 274, 3) := by decide +kernel
theorem dX6_newSecret_37 : decode cX6_newSecret 37 = .ok (.iload_n 2, 1) := by decide +kernel
theorem dX6_newSecret_38 : decode cX6_newSecret 38 = .ok (.ireturn, 1) := by decide +kernel
theorem dX6_isKnownBy_0 : decode cX6_isKnownBy 0 = .ok (.aload_n 0, 1) := by decide +kernel
theorem dX6_isKnownBy_1 : decode cX6_isKnownBy 1 = .ok (.iload_n 1, 1) := by decide +kernel
theorem dX6_isKnownBy_2 : decode cX6_isKnownBy 2 = .ok (.invokevirtual 136, 3) := by decide +kernel
theorem dX6_isKnownBy_5 : decode cX6_isKnownBy 5 = .ok (.ifCond .eq 20, 3) := by decide +kernel
theorem dX6_isKnownBy_8 : decode cX6_isKnownBy 8 = .ok (.aload_n 0, 1) := by decide +kernel
theorem dX6_isKnownBy_9 : decode cX6_isKnownBy 9 = .ok (.getfield 28, 3) := by decide +kernel
theorem dX6_isKnownBy_12 : decode cX6_isKnownBy 12 = .ok (.iload_n 1, 1) := by decide +kernel
theorem dX6_isKnownBy_13 : decode cX6_isKnownBy 13 = .ok (.iaload, 1) := by decide +kernel
theorem dX6_isKnownBy_14 : decode cX6_isKnownBy 14 = .ok (.iload_n 2, 1) := by decide +kernel
theorem dX6_isKnownBy_15 : decode cX6_isKnownBy 15 = .ok (.invokestatic 107, 3) := by decide +kernel
theorem dX6_isKnownBy_18 : decode cX6_isKnownBy 18 = .ok (.ifCond .eq 7, 3) := by decide +kernel
theorem dX6_isKnownBy_21 : decode cX6_isKnownBy 21 = .ok (.iconst 1, 1) := by decide +kernel
theorem dX6_isKnownBy_22 : decode cX6_isKnownBy 22 = .ok (.goto 4, 3) := by decide +kernel
theorem dX6_isKnownBy_25 : decode cX6_isKnownBy 25 = .ok (.iconst 0, 1) := by decide +kernel
theorem dX6_isKnownBy_26 : decode cX6_isKnownBy 26 = .ok (.ireturn, 1) := by decide +kernel
theorem dX6_claim_0 : decode cX6_claim 0 = .ok (.aload_n 0, 1) := by decide +kernel
theorem dX6_claim_1 : decode cX6_claim 1 = .ok (.iload_n 1, 1) := by decide +kernel
theorem dX6_claim_2 : decode cX6_claim 2 = .ok (.invokevirtual 93, 3) := by decide +kernel
theorem dX6_claim_5 : decode cX6_claim 5 = .ok (.astore 4, 2) := by decide +kernel
theorem dX6_claim_7 : decode cX6_claim 7 = .ok (.aload 4, 2) := by decide +kernel
theorem dX6_claim_9 : decode cX6_claim 9 = .ok (.ifnull 17, 3) := by decide +kernel
theorem dX6_claim_12 : decode cX6_claim 12 = .ok (.iload_n 2, 1) := by decide +kernel
theorem dX6_claim_13 : decode cX6_claim 13 = .ok (.invokestatic 277, 3) := by decide +kernel
theorem dX6_claim_16 : decode cX6_claim 16 = .ok (.ifCond .eq 10, 3) := by decide +kernel
theorem dX6_claim_19 : decode cX6_claim 19 = .ok (.iload_n 3, 1) := by decide +kernel
theorem dX6_claim_20 : decode cX6_claim 20 = .ok (.invokestatic 262, 3) := by decide +kernel
theorem dX6_claim_23 : decode cX6_claim 23 = .ok (.ifCond .ne 5, 3) := by decide +kernel
theorem dX6_claim_26 : decode cX6_claim 26 = .ok (.iconst (-1), 1) := by decide +kernel
theorem dX6_claim_27 : decode cX6_claim 27 = .ok (.ireturn, 1) := by decide +kernel
theorem dX6_claim_28 : decode cX6_claim 28 = .ok (.aload 4, 2) := by decide +kernel
theorem dX6_claim_30 : decode cX6_claim 30 = .ok (.getfield 97, 3) := by decide +kernel
theorem dX6_claim_33 : decode cX6_claim 33 = .ok (.iconst 3, 1) := by decide +kernel
theorem dX6_claim_34 : decode cX6_claim 34 = .ok (.if_icmp .eq 6, 3) := by decide +kernel
theorem dX6_claim_37 : decode cX6_claim 37 = .ok (.bipush (-2), 2) := by decide +kernel
theorem dX6_claim_39 : decode cX6_claim 39 = .ok (.ireturn, 1) := by decide +kernel
theorem dX6_claim_40 : decode cX6_claim 40 = .ok (.aload_n 0, 1) := by decide +kernel
theorem dX6_claim_41 : decode cX6_claim 41 = .ok (.aload 4, 2) := by decide +kernel
theorem dX6_claim_43 : decode cX6_claim 43 = .ok (.iload_n 2, 1) := by decide +kernel
theorem dX6_claim_44 : decode cX6_claim 44 = .ok (.iload_n 3, 1) := by decide +kernel
theorem dX6_claim_45 : decode cX6_claim 45 = .ok (.invokevirtual 280, 3) := by decide +kernel
theorem dX6_claim_48 : decode cX6_claim 48 = .ok (.istore 5, 2) := by decide +kernel
theorem dX6_claim_50 : decode cX6_claim 50 = .ok (.iload 5, 2) := by decide +kernel
theorem dX6_claim_52 : decode cX6_claim 52 = .ok (.iconst (-1), 1) := by decide +kernel
theorem dX6_claim_53 : decode cX6_claim 53 = .ok (.if_icmp .ne 8, 3) := by decide +kernel
theorem dX6_claim_56 : decode cX6_claim 56 = .ok (.bipush (-4), 2) := by decide +kernel
theorem dX6_claim_58 : decode cX6_claim 58 = .ok (.goto 5, 3) := by decide +kernel
theorem dX6_claim_61 : decode cX6_claim 61 = .ok (.iload 5, 2) := by decide +kernel
theorem dX6_claim_63 : decode cX6_claim 63 = .ok (.ireturn, 1) := by decide +kernel
theorem dX6_step_0 : decode cX6_step 0 = .ok (.aload_n 0, 1) := by decide +kernel
theorem dX6_step_1 : decode cX6_step 1 = .ok (.iload_n 1, 1) := by decide +kernel
theorem dX6_step_2 : decode cX6_step 2 = .ok (.invokevirtual 93, 3) := by decide +kernel
theorem dX6_step_5 : decode cX6_step 5 = .ok (.astore 4, 2) := by decide +kernel
theorem dX6_step_7 : decode cX6_step 7 = .ok (.aload 4, 2) := by decide +kernel
theorem dX6_step_9 : decode cX6_step 9 = .ok (.ifnull 10, 3) := by decide +kernel
theorem dX6_step_12 : decode cX6_step 12 = .ok (.iload_n 2, 1) := by decide +kernel
theorem dX6_step_13 : decode cX6_step 13 = .ok (.invokestatic 262, 3) := by decide +kernel
theorem dX6_step_16 : decode cX6_step 16 = .ok (.ifCond .ne 5, 3) := by decide +kernel
theorem dX6_step_19 : decode cX6_step 19 = .ok (.iconst (-1), 1) := by decide +kernel
theorem dX6_step_20 : decode cX6_step 20 = .ok (.ireturn, 1) := by decide +kernel
theorem dX6_step_21 : decode cX6_step 21 = .ok (.aload 4, 2) := by decide +kernel
theorem dX6_step_23 : decode cX6_step 23 = .ok (.getfield 250, 3) := by decide +kernel
theorem dX6_step_26 : decode cX6_step 26 = .ok (.astore 5, 2) := by decide +kernel
theorem dX6_step_28 : decode cX6_step 28 = .ok (.aload 5, 2) := by decide +kernel
theorem dX6_step_30 : decode cX6_step 30 = .ok (.ifnonnull 6, 3) := by decide +kernel
theorem dX6_step_33 : decode cX6_step 33 = .ok (.bipush (-2), 2) := by decide +kernel
theorem dX6_step_35 : decode cX6_step 35 = .ok (.ireturn, 1) := by decide +kernel
theorem dX6_step_36 : decode cX6_step 36 = .ok (.iload_n 3, 1) := by decide +kernel
theorem dX6_step_37 : decode cX6_step 37 = .ok (.iconst 1, 1) := by decide +kernel
theorem dX6_step_38 : decode cX6_step 38 = .ok (.iconst 3, 1) := by decide +kernel
theorem dX6_step_39 : decode cX6_step 39 = .ok (.invokestatic 42, 3) := by decide +kernel
theorem dX6_step_42 : decode cX6_step 42 = .ok (.ifCond .ne 6, 3) := by decide +kernel
theorem dX6_step_45 : decode cX6_step 45 = .ok (.bipush (-3), 2) := by decide +kernel
theorem dX6_step_47 : decode cX6_step 47 = .ok (.ireturn, 1) := by decide +kernel
theorem dX6_step_48 : decode cX6_step 48 = .ok (.aload 5, 2) := by decide +kernel
theorem dX6_step_50 : decode cX6_step 50 = .ok (.getfield 189, 3) := by decide +kernel
theorem dX6_step_53 : decode cX6_step 53 = .ok (.iload_n 2, 1) := by decide +kernel
theorem dX6_step_54 : decode cX6_step 54 = .ok (.if_icmp .ne 12, 3) := by decide +kernel
theorem dX6_step_57 : decode cX6_step 57 = .ok (.aload 5, 2) := by decide +kernel
theorem dX6_step_59 : decode cX6_step 59 = .ok (.getfield 182, 3) := by decide +kernel
theorem dX6_step_62 : decode cX6_step 62 = .ok (.iload_n 3, 1) := by decide +kernel
theorem dX6_step_63 : decode cX6_step 63 = .ok (.if_icmp .ge 6, 3) := by decide +kernel
theorem dX6_step_66 : decode cX6_step 66 = .ok (.bipush (-4), 2) := by decide +kernel
theorem dX6_step_68 : decode cX6_step 68 = .ok (.ireturn, 1) := by decide +kernel
theorem dX6_step_69 : decode cX6_step 69 = .ok (.aload_n 0, 1) := by decide +kernel
theorem dX6_step_70 : decode cX6_step 70 = .ok (.aload 4, 2) := by decide +kernel
theorem dX6_step_72 : decode cX6_step 72 = .ok (.aload 5, 2) := by decide +kernel
theorem dX6_step_74 : decode cX6_step 74 = .ok (.iload_n 3, 1) := by decide +kernel
theorem dX6_step_75 : decode cX6_step 75 = .ok (.invokevirtual 284, 3) := by decide +kernel
theorem dX6_step_78 : decode cX6_step 78 = .ok (.aload 5, 2) := by decide +kernel
theorem dX6_step_80 : decode cX6_step 80 = .ok (.getfield 182, 3) := by decide +kernel
theorem dX6_step_83 : decode cX6_step 83 = .ok (.iload_n 3, 1) := by decide +kernel
theorem dX6_step_84 : decode cX6_step 84 = .ok (.isub, 1) := by decide +kernel
theorem dX6_step_85 : decode cX6_step 85 = .ok (.ireturn, 1) := by decide +kernel
theorem dX6_canClaim_0 : decode cX6_canClaim 0 = .ok (.aload_n 1, 1) := by decide +kernel
theorem dX6_canClaim_1 : decode cX6_canClaim 1 = .ok (.getfield 161, 3) := by decide +kernel
theorem dX6_canClaim_4 : decode cX6_canClaim 4 = .ok (.iload_n 2, 1) := by decide +kernel
theorem dX6_canClaim_5 : decode cX6_canClaim 5 = .ok (.if_icmp .ne 19, 3) := by decide +kernel
theorem dX6_canClaim_8 : decode cX6_canClaim 8 = .ok (.aload_n 0, 1) := by decide +kernel
theorem dX6_canClaim_9 : decode cX6_canClaim 9 = .ok (.aload_n 1, 1) := by decide +kernel
theorem dX6_canClaim_10 : decode cX6_canClaim 10 = .ok (.getfield 288, 3) := by decide +kernel
theorem dX6_canClaim_13 : decode cX6_canClaim 13 = .ok (.iload_n 2, 1) := by decide +kernel
theorem dX6_canClaim_14 : decode cX6_canClaim 14 = .ok (.invokevirtual 271, 3) := by decide +kernel
theorem dX6_canClaim_17 : decode cX6_canClaim 17 = .ok (.ifCond .eq 7, 3) := by decide +kernel
theorem dX6_canClaim_20 : decode cX6_canClaim 20 = .ok (.iconst 1, 1) := by decide +kernel
theorem dX6_canClaim_21 : decode cX6_canClaim 21 = .ok (.goto 4, 3) := by decide +kernel
theorem dX6_canClaim_24 : decode cX6_canClaim 24 = .ok (.iconst 0, 1) := by decide +kernel
theorem dX6_canClaim_25 : decode cX6_canClaim 25 = .ok (.ireturn, 1) := by decide +kernel
theorem dX6_claimHeld_0 : decode cX6_claimHeld 0 = .ok (.aload_n 1, 1) := by decide +kernel
theorem dX6_claimHeld_1 : decode cX6_claimHeld 1 = .ok (.iload_n 2, 1) := by decide +kernel
theorem dX6_claimHeld_2 : decode cX6_claimHeld 2 = .ok (.invokevirtual 291, 3) := by decide +kernel
theorem dX6_claimHeld_5 : decode cX6_claimHeld 5 = .ok (.astore 4, 2) := by decide +kernel
theorem dX6_claimHeld_7 : decode cX6_claimHeld 7 = .ok (.aload 4, 2) := by decide +kernel
theorem dX6_claimHeld_9 : decode cX6_claimHeld 9 = .ok (.ifnull 13, 3) := by decide +kernel
theorem dX6_claimHeld_12 : decode cX6_claimHeld 12 = .ok (.aload_n 0, 1) := by decide +kernel
theorem dX6_claimHeld_13 : decode cX6_claimHeld 13 = .ok (.aload 4, 2) := by decide +kernel
theorem dX6_claimHeld_15 : decode cX6_claimHeld 15 = .ok (.iload_n 3, 1) := by decide +kernel
theorem dX6_claimHeld_16 : decode cX6_claimHeld 16 = .ok (.invokevirtual 294, 3) := by decide +kernel
theorem dX6_claimHeld_19 : decode cX6_claimHeld 19 = .ok (.ifCond .ne 5, 3) := by decide +kernel
theorem dX6_claimHeld_22 : decode cX6_claimHeld 22 = .ok (.iconst (-1), 1) := by decide +kernel
theorem dX6_claimHeld_23 : decode cX6_claimHeld 23 = .ok (.ireturn, 1) := by decide +kernel
theorem dX6_claimHeld_24 : decode cX6_claimHeld 24 = .ok (.aload_n 0, 1) := by decide +kernel
theorem dX6_claimHeld_25 : decode cX6_claimHeld 25 = .ok (.aload_n 1, 1) := by decide +kernel
theorem dX6_claimHeld_26 : decode cX6_claimHeld 26 = .ok (.iload_n 2, 1) := by decide +kernel
theorem dX6_claimHeld_27 : decode cX6_claimHeld 27 = .ok (.iload_n 3, 1) := by decide +kernel
theorem dX6_claimHeld_28 : decode cX6_claimHeld 28 = .ok (.aload 4, 2) := by decide +kernel
theorem dX6_claimHeld_30 : decode cX6_claimHeld 30 = .ok (.getfield 167, 3) := by decide +kernel
theorem dX6_claimHeld_33 : decode cX6_claimHeld 33 = .ok (.invokevirtual 298, 3) := by decide +kernel
theorem dX6_claimHeld_36 : decode cX6_claimHeld 36 = .ok (.aload_n 0, 1) := by decide +kernel
theorem dX6_claimHeld_37 : decode cX6_claimHeld 37 = .ok (.aload 4, 2) := by decide +kernel
theorem dX6_claimHeld_39 : decode cX6_claimHeld 39 = .ok (.getfield 288, 3) := by decide +kernel
theorem dX6_claimHeld_42 : decode cX6_claimHeld 42 = .ok (.invokevirtual 136, 3) := by decide +kernel
theorem dX6_claimHeld_45 : decode cX6_claimHeld 45 = .ok (.ifCond .eq 15, 3) := by decide +kernel
theorem dX6_claimHeld_48 : decode cX6_claimHeld 48 = .ok (.aload_n 0, 1) := by decide +kernel
theorem dX6_claimHeld_49 : decode cX6_claimHeld 49 = .ok (.getfield 28, 3) := by decide +kernel
theorem dX6_claimHeld_52 : decode cX6_claimHeld 52 = .ok (.aload 4, 2) := by decide +kernel
theorem dX6_claimHeld_54 : decode cX6_claimHeld 54 = .ok (.getfield 288, 3) := by decide +kernel
theorem dX6_claimHeld_57 : decode cX6_claimHeld 57 = .ok (.bipush 63, 2) := by decide +kernel
theorem dX6_claimHeld_59 : decode cX6_claimHeld 59 = .ok (.iastore, 1) := by decide +kernel
theorem dX6_claimHeld_60 : decode cX6_claimHeld 60 = .ok (.aload 4, 2) := by decide +kernel
theorem dX6_claimHeld_62 : decode cX6_claimHeld 62 = .ok (.getfield 167, 3) := by decide +kernel
theorem dX6_claimHeld_65 : decode cX6_claimHeld 65 = .ok (.ireturn, 1) := by decide +kernel
theorem dX6_payHeldLock_0 : decode cX6_payHeldLock 0 = .ok (.aload_n 1, 1) := by decide +kernel
theorem dX6_payHeldLock_1 : decode cX6_payHeldLock 1 = .ok (.dup, 1) := by decide +kernel
theorem dX6_payHeldLock_2 : decode cX6_payHeldLock 2 = .ok (.getfield 259, 3) := by decide +kernel
theorem dX6_payHeldLock_5 : decode cX6_payHeldLock 5 = .ok (.iconst 1, 1) := by decide +kernel
theorem dX6_payHeldLock_6 : decode cX6_payHeldLock 6 = .ok (.iload_n 2, 1) := by decide +kernel
theorem dX6_payHeldLock_7 : decode cX6_payHeldLock 7 = .ok (.ishl, 1) := by decide +kernel
theorem dX6_payHeldLock_8 : decode cX6_payHeldLock 8 = .ok (.iconst (-1), 1) := by decide +kernel
theorem dX6_payHeldLock_9 : decode cX6_payHeldLock 9 = .ok (.ixor, 1) := by decide +kernel
theorem dX6_payHeldLock_10 : decode cX6_payHeldLock 10 = .ok (.iand, 1) := by decide +kernel
theorem dX6_payHeldLock_11 : decode cX6_payHeldLock 11 = .ok (.putfield 259, 3) := by decide +kernel
theorem dX6_payHeldLock_14 : decode cX6_payHeldLock 14 = .ok (.aload_n 0, 1) := by decide +kernel
theorem dX6_payHeldLock_15 : decode cX6_payHeldLock 15 = .ok (.aload_n 1, 1) := by decide +kernel
theorem dX6_payHeldLock_16 : decode cX6_payHeldLock 16 = .ok (.iload_n 3, 1) := by decide +kernel
theorem dX6_payHeldLock_17 : decode cX6_payHeldLock 17 = .ok (.iload 4, 2) := by decide +kernel
theorem dX6_payHeldLock_19 : decode cX6_payHeldLock 19 = .ok (.invokevirtual 242, 3) := by decide +kernel
theorem dX6_payHeldLock_22 : decode cX6_payHeldLock 22 = .ok (.return_, 1) := by decide +kernel
theorem dX6_moveHeld_0 : decode cX6_moveHeld 0 = .ok (.aload_n 2, 1) := by decide +kernel
theorem dX6_moveHeld_1 : decode cX6_moveHeld 1 = .ok (.iload_n 3, 1) := by decide +kernel
theorem dX6_moveHeld_2 : decode cX6_moveHeld 2 = .ok (.invokevirtual 185, 3) := by decide +kernel
theorem dX6_moveHeld_5 : decode cX6_moveHeld 5 = .ok (.astore 4, 2) := by decide +kernel
theorem dX6_moveHeld_7 : decode cX6_moveHeld 7 = .ok (.aload 4, 2) := by decide +kernel
theorem dX6_moveHeld_9 : decode cX6_moveHeld 9 = .ok (.ifnonnull 19, 3) := by decide +kernel
theorem dX6_moveHeld_12 : decode cX6_moveHeld 12 = .ok (.aload_n 0, 1) := by decide +kernel
theorem dX6_moveHeld_13 : decode cX6_moveHeld 13 = .ok (.aload_n 1, 1) := by decide +kernel
theorem dX6_moveHeld_14 : decode cX6_moveHeld 14 = .ok (.aload_n 2, 1) := by decide +kernel
theorem dX6_moveHeld_15 : decode cX6_moveHeld 15 = .ok (.getfield 189, 3) := by decide +kernel
theorem dX6_moveHeld_18 : decode cX6_moveHeld 18 = .ok (.aload_n 2, 1) := by decide +kernel
theorem dX6_moveHeld_19 : decode cX6_moveHeld 19 = .ok (.getfield 179, 3) := by decide +kernel
theorem dX6_moveHeld_22 : decode cX6_moveHeld 22 = .ok (.invokevirtual 302, 3) := by decide +kernel
theorem dX6_moveHeld_25 : decode cX6_moveHeld 25 = .ok (.goto 22, 3) := by decide +kernel
theorem dX6_moveHeld_28 : decode cX6_moveHeld 28 = .ok (.aload_n 1, 1) := by decide +kernel
theorem dX6_moveHeld_29 : decode cX6_moveHeld 29 = .ok (.aload 4, 2) := by decide +kernel
theorem dX6_moveHeld_31 : decode cX6_moveHeld 31 = .ok (.putfield 250, 3) := by decide +kernel
theorem dX6_moveHeld_34 : decode cX6_moveHeld 34 = .ok (.aload_n 1, 1) := by decide +kernel
theorem dX6_moveHeld_35 : decode cX6_moveHeld 35 = .ok (.aload_n 0, 1) := by decide +kernel
theorem dX6_moveHeld_36 : decode cX6_moveHeld 36 = .ok (.getfield 224, 3) := by decide +kernel
theorem dX6_moveHeld_39 : decode cX6_moveHeld 39 = .ok (.aload_n 1, 1) := by decide +kernel
theorem dX6_moveHeld_40 : decode cX6_moveHeld 40 = .ok (.getfield 227, 3) := by decide +kernel
theorem dX6_moveHeld_43 : decode cX6_moveHeld 43 = .ok (.iadd, 1) := by decide +kernel
theorem dX6_moveHeld_44 : decode cX6_moveHeld 44 = .ok (.putfield 253, 3) := by decide +kernel
theorem dX6_moveHeld_47 : decode cX6_moveHeld 47 = .ok (.return_, 1) := by decide +kernel
theorem dX6_payHeldStake_0 : decode cX6_payHeldStake 0 = .ok (.aload_n 1, 1) := by decide +kernel
theorem dX6_payHeldStake_1 : decode cX6_payHeldStake 1 = .ok (.aconst_null, 1) := by decide +kernel
theorem dX6_payHeldStake_2 : decode cX6_payHeldStake 2 = .ok (.putfield 250, 3) := by decide +kernel
theorem dX6_payHeldStake_5 : decode cX6_payHeldStake 5 = .ok (.aload_n 1, 1) := by decide +kernel
theorem dX6_payHeldStake_6 : decode cX6_payHeldStake 6 = .ok (.iconst 0, 1) := by decide +kernel
theorem dX6_payHeldStake_7 : decode cX6_payHeldStake 7 = .ok (.putfield 253, 3) := by decide +kernel
theorem dX6_payHeldStake_10 : decode cX6_payHeldStake 10 = .ok (.aload_n 0, 1) := by decide +kernel
theorem dX6_payHeldStake_11 : decode cX6_payHeldStake 11 = .ok (.aload_n 1, 1) := by decide +kernel
theorem dX6_payHeldStake_12 : decode cX6_payHeldStake 12 = .ok (.iload_n 2, 1) := by decide +kernel
theorem dX6_payHeldStake_13 : decode cX6_payHeldStake 13 = .ok (.iload_n 3, 1) := by decide +kernel
theorem dX6_payHeldStake_14 : decode cX6_payHeldStake 14 = .ok (.invokevirtual 242, 3) := by decide +kernel
theorem dX6_payHeldStake_17 : decode cX6_payHeldStake 17 = .ok (.return_, 1) := by decide +kernel
theorem dX6_watch_0 : decode cX6_watch 0 = .ok (.iload_n 1, 1) := by decide +kernel
theorem dX6_watch_1 : decode cX6_watch 1 = .ok (.invokestatic 262, 3) := by decide +kernel
theorem dX6_watch_4 : decode cX6_watch 4 = .ok (.ifCond .ne 5, 3) := by decide +kernel
theorem dX6_watch_7 : decode cX6_watch 7 = .ok (.iconst (-1), 1) := by decide +kernel
theorem dX6_watch_8 : decode cX6_watch 8 = .ok (.ireturn, 1) := by decide +kernel
theorem dX6_watch_9 : decode cX6_watch 9 = .ok (.aload_n 0, 1) := by decide +kernel
theorem dX6_watch_10 : decode cX6_watch 10 = .ok (.getfield 305, 3) := by decide +kernel
theorem dX6_watch_13 : decode cX6_watch 13 = .ok (.iload_n 1, 1) := by decide +kernel
theorem dX6_watch_14 : decode cX6_watch 14 = .ok (.invokestatic 107, 3) := by decide +kernel
theorem dX6_watch_17 : decode cX6_watch 17 = .ok (.ifCond .eq 7, 3) := by decide +kernel
theorem dX6_watch_20 : decode cX6_watch 20 = .ok (.iconst 1, 1) := by decide +kernel
theorem dX6_watch_21 : decode cX6_watch 21 = .ok (.goto 4, 3) := by decide +kernel
theorem dX6_watch_24 : decode cX6_watch 24 = .ok (.iconst 0, 1) := by decide +kernel
theorem dX6_watch_25 : decode cX6_watch 25 = .ok (.istore_n 3, 1) := by decide +kernel
theorem dX6_watch_26 : decode cX6_watch 26 = .ok (.aload_n 0, 1) := by decide +kernel
theorem dX6_watch_27 : decode cX6_watch 27 = .ok (.iload_n 2, 1) := by decide +kernel
theorem dX6_watch_28 : decode cX6_watch 28 = .ok (.ifCond .eq 14, 3) := by decide +kernel
theorem dX6_watch_31 : decode cX6_watch 31 = .ok (.aload_n 0, 1) := by decide +kernel
theorem dX6_watch_32 : decode cX6_watch 32 = .ok (.getfield 305, 3) := by decide +kernel
theorem dX6_watch_35 : decode cX6_watch 35 = .ok (.iconst 1, 1) := by decide +kernel
theorem dX6_watch_36 : decode cX6_watch 36 = .ok (.iload_n 1, 1) := by decide +kernel
theorem dX6_watch_37 : decode cX6_watch 37 = .ok (.ishl, 1) := by decide +kernel
theorem dX6_watch_38 : decode cX6_watch 38 = .ok (.ior, 1) := by decide +kernel
theorem dX6_watch_39 : decode cX6_watch 39 = .ok (.goto 13, 3) := by decide +kernel
theorem dX6_watch_42 : decode cX6_watch 42 = .ok (.aload_n 0, 1) := by decide +kernel
theorem dX6_watch_43 : decode cX6_watch 43 = .ok (.getfield 305, 3) := by decide +kernel
theorem dX6_watch_46 : decode cX6_watch 46 = .ok (.iconst 1, 1) := by decide +kernel
theorem dX6_watch_47 : decode cX6_watch 47 = .ok (.iload_n 1, 1) := by decide +kernel
theorem dX6_watch_48 : decode cX6_watch 48 = .ok (.ishl, 1) := by decide +kernel
theorem dX6_watch_49 : decode cX6_watch 49 = .ok (.iconst (-1), 1) := by decide +kernel
theorem dX6_watch_50 : decode cX6_watch 50 = .ok (.ixor, 1) := by decide +kernel
theorem dX6_watch_51 : decode cX6_watch 51 = .ok (.iand, 1) := by decide +kernel
theorem dX6_watch_52 : decode cX6_watch 52 = .ok (.putfield 305, 3) := by decide +kernel
theorem dX6_watch_55 : decode cX6_watch 55 = .ok (.iload_n 3, 1) := by decide +kernel
theorem dX6_watch_56 : decode cX6_watch 56 = .ok (.ireturn, 1) := by decide +kernel
theorem dX6_height_0 : decode cX6_height 0 = .ok (.iload_n 1, 1) := by decide +kernel
theorem dX6_height_1 : decode cX6_height 1 = .ok (.iconst 1, 1) := by decide +kernel
theorem dX6_height_2 : decode cX6_height 2 = .ok (.bipush 100, 2) := by decide +kernel
theorem dX6_height_4 : decode cX6_height 4 = .ok (.invokestatic 42, 3) := by decide +kernel
theorem dX6_height_7 : decode cX6_height 7 = .ok (.ifCond .ne 6, 3) := by decide +kernel
theorem dX6_height_10 : decode cX6_height 10 = .ok (.bipush (-3), 2) := by decide +kernel
theorem dX6_height_12 : decode cX6_height 12 = .ok (.ireturn, 1) := by decide +kernel
theorem dX6_height_13 : decode cX6_height 13 = .ok (.iconst 0, 1) := by decide +kernel
theorem dX6_height_14 : decode cX6_height 14 = .ok (.istore_n 2, 1) := by decide +kernel
theorem dX6_height_15 : decode cX6_height 15 = .ok (.iload_n 2, 1) := by decide +kernel
theorem dX6_height_16 : decode cX6_height 16 = .ok (.iload_n 1, 1) := by decide +kernel
theorem dX6_height_17 : decode cX6_height 17 = .ok (.if_icmp .ge 13, 3) := by decide +kernel
theorem dX6_height_20 : decode cX6_height 20 = .ok (.aload_n 0, 1) := by decide +kernel
theorem dX6_height_21 : decode cX6_height 21 = .ok (.invokevirtual 308, 3) := by decide +kernel
theorem dX6_height_24 : decode cX6_height 24 = .ok (.iinc 2 1, 3) := by decide +kernel
theorem dX6_height_27 : decode cX6_height 27 = .ok (.goto (-12), 3) := by decide +kernel
theorem dX6_height_30 : decode cX6_height 30 = .ok (.aload_n 0, 1) := by decide +kernel
theorem dX6_height_31 : decode cX6_height 31 = .ok (.getfield 224, 3) := by decide +kernel
theorem dX6_height_34 : decode cX6_height 34 = .ok (.ireturn, 1) := by decide +kernel
theorem dX6_oneHeightMore_0 : decode cX6_oneHeightMore 0 = .ok (.aload_n 0, 1) := by decide +kernel
theorem dX6_oneHeightMore_1 : decode cX6_oneHeightMore 1 = .ok (.dup, 1) := by decide +kernel
theorem dX6_oneHeightMore_2 : decode cX6_oneHeightMore 2 = .ok (.getfield 224, 3) := by decide +kernel
theorem dX6_oneHeightMore_5 : decode cX6_oneHeightMore 5 = .ok (.iconst 1, 1) := by decide +kernel
theorem dX6_oneHeightMore_6 : decode cX6_oneHeightMore 6 = .ok (.iadd, 1) := by decide +kernel
theorem dX6_oneHeightMore_7 : decode cX6_oneHeightMore 7 = .ok (.putfield 224, 3) := by decide +kernel
theorem dX6_oneHeightMore_10 : decode cX6_oneHeightMore 10 = .ok (.iconst 0, 1) := by decide +kernel
theorem dX6_oneHeightMore_11 : decode cX6_oneHeightMore 11 = .ok (.istore_n 1, 1) := by decide +kernel
theorem dX6_oneHeightMore_12 : decode cX6_oneHeightMore 12 = .ok (.iload_n 1, 1) := by decide +kernel
theorem dX6_oneHeightMore_13 : decode cX6_oneHeightMore 13 = .ok (.aload_n 0, 1) := by decide +kernel
theorem dX6_oneHeightMore_14 : decode cX6_oneHeightMore 14 = .ok (.getfield 52, 3) := by decide +kernel
theorem dX6_oneHeightMore_17 : decode cX6_oneHeightMore 17 = .ok (.if_icmp .ge 18, 3) := by decide +kernel
theorem dX6_oneHeightMore_20 : decode cX6_oneHeightMore 20 = .ok (.aload_n 0, 1) := by decide +kernel
theorem dX6_oneHeightMore_21 : decode cX6_oneHeightMore 21 = .ok (.aload_n 0, 1) := by decide +kernel
theorem dX6_oneHeightMore_22 : decode cX6_oneHeightMore 22 = .ok (.iload_n 1, 1) := by decide +kernel
theorem dX6_oneHeightMore_23 : decode cX6_oneHeightMore 23 = .ok (.invokevirtual 93, 3) := by decide +kernel
theorem dX6_oneHeightMore_26 : decode cX6_oneHeightMore 26 = .ok (.invokevirtual 311, 3) := by decide +kernel
theorem dX6_oneHeightMore_29 : decode cX6_oneHeightMore 29 = .ok (.iinc 1 1, 3) := by decide +kernel
theorem dX6_oneHeightMore_32 : decode cX6_oneHeightMore 32 = .ok (.goto (-20), 3) := by decide +kernel
theorem dX6_oneHeightMore_35 : decode cX6_oneHeightMore 35 = .ok (.iconst 0, 1) := by decide +kernel
theorem dX6_oneHeightMore_36 : decode cX6_oneHeightMore 36 = .ok (.istore_n 1, 1) := by decide +kernel
theorem dX6_oneHeightMore_37 : decode cX6_oneHeightMore 37 = .ok (.iload_n 1, 1) := by decide +kernel
theorem dX6_oneHeightMore_38 : decode cX6_oneHeightMore 38 = .ok (.bipush 6, 2) := by decide +kernel
theorem dX6_oneHeightMore_40 : decode cX6_oneHeightMore 40 = .ok (.if_icmp .ge 46, 3) := by decide +kernel
theorem dX6_oneHeightMore_43 : decode cX6_oneHeightMore 43 = .ok (.aload_n 0, 1) := by decide +kernel
theorem dX6_oneHeightMore_44 : decode cX6_oneHeightMore 44 = .ok (.getfield 305, 3) := by decide +kernel
theorem dX6_oneHeightMore_47 : decode cX6_oneHeightMore 47 = .ok (.iload_n 1, 1) := by decide +kernel
theorem dX6_oneHeightMore_48 : decode cX6_oneHeightMore 48 = .ok (.invokestatic 107, 3) := by decide +kernel
theorem dX6_oneHeightMore_51 : decode cX6_oneHeightMore 51 = .ok (.ifCond .eq 29, 3) := by decide +kernel
theorem dX6_oneHeightMore_54 : decode cX6_oneHeightMore 54 = .ok (.iconst 0, 1) := by decide +kernel
theorem dX6_oneHeightMore_55 : decode cX6_oneHeightMore 55 = .ok (.istore_n 2, 1) := by decide +kernel
theorem dX6_oneHeightMore_56 : decode cX6_oneHeightMore 56 = .ok (.iload_n 2, 1) := by decide +kernel
theorem dX6_oneHeightMore_57 : decode cX6_oneHeightMore 57 = .ok (.aload_n 0, 1) := by decide +kernel
theorem dX6_oneHeightMore_58 : decode cX6_oneHeightMore 58 = .ok (.getfield 52, 3) := by decide +kernel
theorem dX6_oneHeightMore_61 : decode cX6_oneHeightMore 61 = .ok (.if_icmp .ge 19, 3) := by decide +kernel
theorem dX6_oneHeightMore_64 : decode cX6_oneHeightMore 64 = .ok (.aload_n 0, 1) := by decide +kernel
theorem dX6_oneHeightMore_65 : decode cX6_oneHeightMore 65 = .ok (.iload_n 1, 1) := by decide +kernel
theorem dX6_oneHeightMore_66 : decode cX6_oneHeightMore 66 = .ok (.aload_n 0, 1) := by decide +kernel
theorem dX6_oneHeightMore_67 : decode cX6_oneHeightMore 67 = .ok (.iload_n 2, 1) := by decide +kernel
theorem dX6_oneHeightMore_68 : decode cX6_oneHeightMore 68 = .ok (.invokevirtual 93, 3) := by decide +kernel
theorem dX6_oneHeightMore_71 : decode cX6_oneHeightMore 71 = .ok (.invokevirtual 315, 3) := by decide +kernel
theorem dX6_oneHeightMore_74 : decode cX6_oneHeightMore 74 = .ok (.iinc 2 1, 3) := by decide +kernel
theorem dX6_oneHeightMore_77 : decode cX6_oneHeightMore 77 = .ok (.goto (-21), 3) := by decide +kernel
theorem dX6_oneHeightMore_80 : decode cX6_oneHeightMore 80 = .ok (.iinc 1 1, 3) := by decide +kernel
theorem dX6_oneHeightMore_83 : decode cX6_oneHeightMore 83 = .ok (.goto (-46), 3) := by decide +kernel
theorem dX6_oneHeightMore_86 : decode cX6_oneHeightMore 86 = .ok (.return_, 1) := by decide +kernel
theorem dX6_meetHeight_0 : decode cX6_meetHeight 0 = .ok (.aload_n 1, 1) := by decide +kernel
theorem dX6_meetHeight_1 : decode cX6_meetHeight 1 = .ok (.ifnonnull 4, 3) := by decide +kernel
theorem dX6_meetHeight_4 : decode cX6_meetHeight 4 = .ok (.return_, 1) := by decide +kernel
theorem dX6_meetHeight_5 : decode cX6_meetHeight 5 = .ok (.aload_n 1, 1) := by decide +kernel
theorem dX6_meetHeight_6 : decode cX6_meetHeight 6 = .ok (.getfield 97, 3) := by decide +kernel
theorem dX6_meetHeight_9 : decode cX6_meetHeight 9 = .ok (.iconst 2, 1) := by decide +kernel
theorem dX6_meetHeight_10 : decode cX6_meetHeight 10 = .ok (.if_icmp .ne 29, 3) := by decide +kernel
theorem dX6_meetHeight_13 : decode cX6_meetHeight 13 = .ok (.aload_n 1, 1) := by decide +kernel
theorem dX6_meetHeight_14 : decode cX6_meetHeight 14 = .ok (.getfield 212, 3) := by decide +kernel
theorem dX6_meetHeight_17 : decode cX6_meetHeight 17 = .ok (.aload_n 0, 1) := by decide +kernel
theorem dX6_meetHeight_18 : decode cX6_meetHeight 18 = .ok (.getfield 224, 3) := by decide +kernel
theorem dX6_meetHeight_21 : decode cX6_meetHeight 21 = .ok (.if_icmp .ne 18, 3) := by decide +kernel
theorem dX6_meetHeight_24 : decode cX6_meetHeight 24 = .ok (.aload_n 1, 1) := by decide +kernel
theorem dX6_meetHeight_25 : decode cX6_meetHeight 25 = .ok (.getfield 230, 3) := by decide +kernel
theorem dX6_meetHeight_28 : decode cX6_meetHeight 28 = .ok (.ifnull 11, 3) := by decide +kernel
theorem dX6_meetHeight_31 : decode cX6_meetHeight 31 = .ok (.aload_n 0, 1) := by decide +kernel
theorem dX6_meetHeight_32 : decode cX6_meetHeight 32 = .ok (.aload_n 1, 1) := by decide +kernel
theorem dX6_meetHeight_33 : decode cX6_meetHeight 33 = .ok (.getfield 230, 3) := by decide +kernel
theorem dX6_meetHeight_36 : decode cX6_meetHeight 36 = .ok (.invokevirtual 239, 3) := by decide +kernel
theorem dX6_meetHeight_39 : decode cX6_meetHeight 39 = .ok (.iconst 0, 1) := by decide +kernel
theorem dX6_meetHeight_40 : decode cX6_meetHeight 40 = .ok (.istore_n 2, 1) := by decide +kernel
theorem dX6_meetHeight_41 : decode cX6_meetHeight 41 = .ok (.iload_n 2, 1) := by decide +kernel
theorem dX6_meetHeight_42 : decode cX6_meetHeight 42 = .ok (.iconst 3, 1) := by decide +kernel
theorem dX6_meetHeight_43 : decode cX6_meetHeight 43 = .ok (.if_icmp .ge 44, 3) := by decide +kernel
theorem dX6_meetHeight_46 : decode cX6_meetHeight 46 = .ok (.aload_n 1, 1) := by decide +kernel
theorem dX6_meetHeight_47 : decode cX6_meetHeight 47 = .ok (.iload_n 2, 1) := by decide +kernel
theorem dX6_meetHeight_48 : decode cX6_meetHeight 48 = .ok (.invokevirtual 291, 3) := by decide +kernel
theorem dX6_meetHeight_51 : decode cX6_meetHeight 51 = .ok (.astore_n 3, 1) := by decide +kernel
theorem dX6_meetHeight_52 : decode cX6_meetHeight 52 = .ok (.aload_n 3, 1) := by decide +kernel
theorem dX6_meetHeight_53 : decode cX6_meetHeight 53 = .ok (.ifnull 28, 3) := by decide +kernel
theorem dX6_meetHeight_56 : decode cX6_meetHeight 56 = .ok (.aload_n 3, 1) := by decide +kernel
theorem dX6_meetHeight_57 : decode cX6_meetHeight 57 = .ok (.getfield 256, 3) := by decide +kernel
theorem dX6_meetHeight_60 : decode cX6_meetHeight 60 = .ok (.aload_n 0, 1) := by decide +kernel
theorem dX6_meetHeight_61 : decode cX6_meetHeight 61 = .ok (.getfield 224, 3) := by decide +kernel
theorem dX6_meetHeight_64 : decode cX6_meetHeight 64 = .ok (.if_icmp .ne 17, 3) := by decide +kernel
theorem dX6_meetHeight_67 : decode cX6_meetHeight 67 = .ok (.aload_n 0, 1) := by decide +kernel
theorem dX6_meetHeight_68 : decode cX6_meetHeight 68 = .ok (.aload_n 1, 1) := by decide +kernel
theorem dX6_meetHeight_69 : decode cX6_meetHeight 69 = .ok (.iload_n 2, 1) := by decide +kernel
theorem dX6_meetHeight_70 : decode cX6_meetHeight 70 = .ok (.aload_n 3, 1) := by decide +kernel
theorem dX6_meetHeight_71 : decode cX6_meetHeight 71 = .ok (.getfield 164, 3) := by decide +kernel
theorem dX6_meetHeight_74 : decode cX6_meetHeight 74 = .ok (.aload_n 3, 1) := by decide +kernel
theorem dX6_meetHeight_75 : decode cX6_meetHeight 75 = .ok (.getfield 167, 3) := by decide +kernel
theorem dX6_meetHeight_78 : decode cX6_meetHeight 78 = .ok (.invokevirtual 298, 3) := by decide +kernel
theorem dX6_meetHeight_81 : decode cX6_meetHeight 81 = .ok (.iinc 2 1, 3) := by decide +kernel
theorem dX6_meetHeight_84 : decode cX6_meetHeight 84 = .ok (.goto (-43), 3) := by decide +kernel
theorem dX6_meetHeight_87 : decode cX6_meetHeight 87 = .ok (.aload_n 1, 1) := by decide +kernel
theorem dX6_meetHeight_88 : decode cX6_meetHeight 88 = .ok (.getfield 250, 3) := by decide +kernel
theorem dX6_meetHeight_91 : decode cX6_meetHeight 91 = .ok (.astore_n 2, 1) := by decide +kernel
theorem dX6_meetHeight_92 : decode cX6_meetHeight 92 = .ok (.aload_n 2, 1) := by decide +kernel
theorem dX6_meetHeight_93 : decode cX6_meetHeight 93 = .ok (.ifnull 27, 3) := by decide +kernel
theorem dX6_meetHeight_96 : decode cX6_meetHeight 96 = .ok (.aload_n 1, 1) := by decide +kernel
theorem dX6_meetHeight_97 : decode cX6_meetHeight 97 = .ok (.getfield 253, 3) := by decide +kernel
theorem dX6_meetHeight_100 : decode cX6_meetHeight 100 = .ok (.aload_n 0, 1) := by decide +kernel
theorem dX6_meetHeight_101 : decode cX6_meetHeight 101 = .ok (.getfield 224, 3) := by decide +kernel
theorem dX6_meetHeight_104 : decode cX6_meetHeight 104 = .ok (.if_icmp .ne 16, 3) := by decide +kernel
theorem dX6_meetHeight_107 : decode cX6_meetHeight 107 = .ok (.aload_n 0, 1) := by decide +kernel
theorem dX6_meetHeight_108 : decode cX6_meetHeight 108 = .ok (.aload_n 1, 1) := by decide +kernel
theorem dX6_meetHeight_109 : decode cX6_meetHeight 109 = .ok (.aload_n 2, 1) := by decide +kernel
theorem dX6_meetHeight_110 : decode cX6_meetHeight 110 = .ok (.getfield 319, 3) := by decide +kernel
theorem dX6_meetHeight_113 : decode cX6_meetHeight 113 = .ok (.aload_n 2, 1) := by decide +kernel
theorem dX6_meetHeight_114 : decode cX6_meetHeight 114 = .ok (.getfield 179, 3) := by decide +kernel
theorem dX6_meetHeight_117 : decode cX6_meetHeight 117 = .ok (.invokevirtual 302, 3) := by decide +kernel
theorem dX6_meetHeight_120 : decode cX6_meetHeight 120 = .ok (.return_, 1) := by decide +kernel
theorem dX6_watchFor_0 : decode cX6_watchFor 0 = .ok (.aload_n 2, 1) := by decide +kernel
theorem dX6_watchFor_1 : decode cX6_watchFor 1 = .ok (.ifnull 11, 3) := by decide +kernel
theorem dX6_watchFor_4 : decode cX6_watchFor 4 = .ok (.aload_n 2, 1) := by decide +kernel
theorem dX6_watchFor_5 : decode cX6_watchFor 5 = .ok (.iload_n 1, 1) := by decide +kernel
theorem dX6_watchFor_6 : decode cX6_watchFor 6 = .ok (.invokevirtual 71, 3) := by decide +kernel
theorem dX6_watchFor_9 : decode cX6_watchFor 9 = .ok (.ifCond .ne 4, 3) := by decide +kernel
theorem dX6_watchFor_12 : decode cX6_watchFor 12 = .ok (.return_, 1) := by decide +kernel
theorem dX6_watchFor_13 : decode cX6_watchFor 13 = .ok (.aload_n 2, 1) := by decide +kernel
theorem dX6_watchFor_14 : decode cX6_watchFor 14 = .ok (.getfield 97, 3) := by decide +kernel
theorem dX6_watchFor_17 : decode cX6_watchFor 17 = .ok (.iconst 3, 1) := by decide +kernel
theorem dX6_watchFor_18 : decode cX6_watchFor 18 = .ok (.if_icmp .ne 31, 3) := by decide +kernel
theorem dX6_watchFor_21 : decode cX6_watchFor 21 = .ok (.iconst 0, 1) := by decide +kernel
theorem dX6_watchFor_22 : decode cX6_watchFor 22 = .ok (.istore_n 3, 1) := by decide +kernel
theorem dX6_watchFor_23 : decode cX6_watchFor 23 = .ok (.iload_n 3, 1) := by decide +kernel
theorem dX6_watchFor_24 : decode cX6_watchFor 24 = .ok (.iconst 3, 1) := by decide +kernel
theorem dX6_watchFor_25 : decode cX6_watchFor 25 = .ok (.if_icmp .ge 17, 3) := by decide +kernel
theorem dX6_watchFor_28 : decode cX6_watchFor 28 = .ok (.aload_n 0, 1) := by decide +kernel
theorem dX6_watchFor_29 : decode cX6_watchFor 29 = .ok (.aload_n 2, 1) := by decide +kernel
theorem dX6_watchFor_30 : decode cX6_watchFor 30 = .ok (.iload_n 3, 1) := by decide +kernel
theorem dX6_watchFor_31 : decode cX6_watchFor 31 = .ok (.iload_n 1, 1) := by decide +kernel
theorem dX6_watchFor_32 : decode cX6_watchFor 32 = .ok (.invokevirtual 280, 3) := by decide +kernel
theorem dX6_watchFor_35 : decode cX6_watchFor 35 = .ok (.pop, 1) := by decide +kernel
theorem dX6_watchFor_36 : decode cX6_watchFor 36 = .ok (.iinc 3 1, 3) := by decide +kernel
theorem dX6_watchFor_39 : decode cX6_watchFor 39 = .ok (.goto (-16), 3) := by decide +kernel
theorem dX6_watchFor_42 : decode cX6_watchFor 42 = .ok (.aload_n 0, 1) := by decide +kernel
theorem dX6_watchFor_43 : decode cX6_watchFor 43 = .ok (.iload_n 1, 1) := by decide +kernel
theorem dX6_watchFor_44 : decode cX6_watchFor 44 = .ok (.aload_n 2, 1) := by decide +kernel
theorem dX6_watchFor_45 : decode cX6_watchFor 45 = .ok (.invokevirtual 322, 3) := by decide +kernel
theorem dX6_watchFor_48 : decode cX6_watchFor 48 = .ok (.return_, 1) := by decide +kernel
theorem dX6_watchFor_49 : decode cX6_watchFor 49 = .ok (.aload_n 2, 1) := by decide +kernel
theorem dX6_watchFor_50 : decode cX6_watchFor 50 = .ok (.getfield 86, 3) := by decide +kernel
theorem dX6_watchFor_53 : decode cX6_watchFor 53 = .ok (.astore_n 3, 1) := by decide +kernel
theorem dX6_watchFor_54 : decode cX6_watchFor 54 = .ok (.aload_n 3, 1) := by decide +kernel
theorem dX6_watchFor_55 : decode cX6_watchFor 55 = .ok (.ifnull 33, 3) := by decide +kernel
theorem dX6_watchFor_58 : decode cX6_watchFor 58 = .ok (.aload_n 2, 1) := by decide +kernel
theorem dX6_watchFor_59 : decode cX6_watchFor 59 = .ok (.aload_n 3, 1) := by decide +kernel
theorem dX6_watchFor_60 : decode cX6_watchFor 60 = .ok (.invokevirtual 205, 3) := by decide +kernel
theorem dX6_watchFor_63 : decode cX6_watchFor 63 = .ok (.ifCond .eq 25, 3) := by decide +kernel
theorem dX6_watchFor_66 : decode cX6_watchFor 66 = .ok (.aload_n 2, 1) := by decide +kernel
theorem dX6_watchFor_67 : decode cX6_watchFor 67 = .ok (.getfield 97, 3) := by decide +kernel
theorem dX6_watchFor_70 : decode cX6_watchFor 70 = .ok (.iconst 2, 1) := by decide +kernel
theorem dX6_watchFor_71 : decode cX6_watchFor 71 = .ok (.if_icmp .eq 12, 3) := by decide +kernel
theorem dX6_watchFor_74 : decode cX6_watchFor 74 = .ok (.aload_n 0, 1) := by decide +kernel
theorem dX6_watchFor_75 : decode cX6_watchFor 75 = .ok (.aload_n 3, 1) := by decide +kernel
theorem dX6_watchFor_76 : decode cX6_watchFor 76 = .ok (.iload_n 1, 1) := by decide +kernel
theorem dX6_watchFor_77 : decode cX6_watchFor 77 = .ok (.invokevirtual 325, 3) := by decide +kernel
theorem dX6_watchFor_80 : decode cX6_watchFor 80 = .ok (.ifCond .eq 8, 3) := by decide +kernel
theorem dX6_watchFor_83 : decode cX6_watchFor 83 = .ok (.aload_n 0, 1) := by decide +kernel
theorem dX6_watchFor_84 : decode cX6_watchFor 84 = .ok (.aload_n 3, 1) := by decide +kernel
theorem dX6_watchFor_85 : decode cX6_watchFor 85 = .ok (.invokevirtual 209, 3) := by decide +kernel
theorem dX6_watchFor_88 : decode cX6_watchFor 88 = .ok (.return_, 1) := by decide +kernel
theorem dX6_hasUrgentLock_0 : decode cX6_hasUrgentLock 0 = .ok (.iconst 0, 1) := by decide +kernel
theorem dX6_hasUrgentLock_1 : decode cX6_hasUrgentLock 1 = .ok (.istore_n 3, 1) := by decide +kernel
theorem dX6_hasUrgentLock_2 : decode cX6_hasUrgentLock 2 = .ok (.iload_n 3, 1) := by decide +kernel
theorem dX6_hasUrgentLock_3 : decode cX6_hasUrgentLock 3 = .ok (.iconst 3, 1) := by decide +kernel
theorem dX6_hasUrgentLock_4 : decode cX6_hasUrgentLock 4 = .ok (.if_icmp .ge 55, 3) := by decide +kernel
theorem dX6_hasUrgentLock_7 : decode cX6_hasUrgentLock 7 = .ok (.aload_n 1, 1) := by decide +kernel
theorem dX6_hasUrgentLock_8 : decode cX6_hasUrgentLock 8 = .ok (.iload_n 3, 1) := by decide +kernel
theorem dX6_hasUrgentLock_9 : decode cX6_hasUrgentLock 9 = .ok (.invokevirtual 153, 3) := by decide +kernel
theorem dX6_hasUrgentLock_12 : decode cX6_hasUrgentLock 12 = .ok (.astore 4, 2) := by decide +kernel
theorem dX6_hasUrgentLock_14 : decode cX6_hasUrgentLock 14 = .ok (.aload 4, 2) := by decide +kernel
theorem dX6_hasUrgentLock_16 : decode cX6_hasUrgentLock 16 = .ok (.ifnull 37, 3) := by decide +kernel
theorem dX6_hasUrgentLock_19 : decode cX6_hasUrgentLock 19 = .ok (.aload_n 0, 1) := by decide +kernel
theorem dX6_hasUrgentLock_20 : decode cX6_hasUrgentLock 20 = .ok (.aload 4, 2) := by decide +kernel
theorem dX6_hasUrgentLock_22 : decode cX6_hasUrgentLock 22 = .ok (.iload_n 2, 1) := by decide +kernel
theorem dX6_hasUrgentLock_23 : decode cX6_hasUrgentLock 23 = .ok (.invokevirtual 294, 3) := by decide +kernel
theorem dX6_hasUrgentLock_26 : decode cX6_hasUrgentLock 26 = .ok (.ifCond .eq 27, 3) := by decide +kernel
theorem dX6_hasUrgentLock_29 : decode cX6_hasUrgentLock 29 = .ok (.aload 4, 2) := by decide +kernel
theorem dX6_hasUrgentLock_31 : decode cX6_hasUrgentLock 31 = .ok (.getfield 256, 3) := by decide +kernel
theorem dX6_hasUrgentLock_34 : decode cX6_hasUrgentLock 34 = .ok (.aload_n 0, 1) := by decide +kernel
theorem dX6_hasUrgentLock_35 : decode cX6_hasUrgentLock 35 = .ok (.getfield 224, 3) := by decide +kernel
theorem dX6_hasUrgentLock_38 : decode cX6_hasUrgentLock 38 = .ok (.aload_n 1, 1) := by decide +kernel
theorem dX6_hasUrgentLock_39 : decode cX6_hasUrgentLock 39 = .ok (.getfield 195, 3) := by decide +kernel
theorem dX6_hasUrgentLock_42 : decode cX6_hasUrgentLock 42 = .ok (.getfield 227, 3) := by decide +kernel
theorem dX6_hasUrgentLock_45 : decode cX6_hasUrgentLock 45 = .ok (.iadd, 1) := by decide +kernel
theorem dX6_hasUrgentLock_46 : decode cX6_hasUrgentLock 46 = .ok (.iconst 1, 1) := by decide +kernel
theorem dX6_hasUrgentLock_47 : decode cX6_hasUrgentLock 47 = .ok (.iadd, 1) := by decide +kernel
theorem dX6_hasUrgentLock_48 : decode cX6_hasUrgentLock 48 = .ok (.if_icmp .ne 5, 3) := by decide +kernel
theorem dX6_hasUrgentLock_51 : decode cX6_hasUrgentLock 51 = .ok (.iconst 1, 1) := by decide +kernel
theorem dX6_hasUrgentLock_52 : decode cX6_hasUrgentLock 52 = .ok (.ireturn, 1) := by decide +kernel
theorem dX6_hasUrgentLock_53 : decode cX6_hasUrgentLock 53 = .ok (.iinc 3 1, 3) := by decide +kernel
theorem dX6_hasUrgentLock_56 : decode cX6_hasUrgentLock 56 = .ok (.goto (-54), 3) := by decide +kernel
theorem dX6_hasUrgentLock_59 : decode cX6_hasUrgentLock 59 = .ok (.iconst 0, 1) := by decide +kernel
theorem dX6_hasUrgentLock_60 : decode cX6_hasUrgentLock 60 = .ok (.ireturn, 1) := by decide +kernel
theorem dX6_playFor_0 : decode cX6_playFor 0 = .ok (.aload_n 2, 1) := by decide +kernel
theorem dX6_playFor_1 : decode cX6_playFor 1 = .ok (.getfield 250, 3) := by decide +kernel
theorem dX6_playFor_4 : decode cX6_playFor 4 = .ok (.astore_n 3, 1) := by decide +kernel
theorem dX6_playFor_5 : decode cX6_playFor 5 = .ok (.aload_n 3, 1) := by decide +kernel
theorem dX6_playFor_6 : decode cX6_playFor 6 = .ok (.ifnull 36, 3) := by decide +kernel
theorem dX6_playFor_9 : decode cX6_playFor 9 = .ok (.aload_n 3, 1) := by decide +kernel
theorem dX6_playFor_10 : decode cX6_playFor 10 = .ok (.getfield 189, 3) := by decide +kernel
theorem dX6_playFor_13 : decode cX6_playFor 13 = .ok (.iload_n 1, 1) := by decide +kernel
theorem dX6_playFor_14 : decode cX6_playFor 14 = .ok (.if_icmp .ne 28, 3) := by decide +kernel
theorem dX6_playFor_17 : decode cX6_playFor 17 = .ok (.aload_n 3, 1) := by decide +kernel
theorem dX6_playFor_18 : decode cX6_playFor 18 = .ok (.getfield 182, 3) := by decide +kernel
theorem dX6_playFor_21 : decode cX6_playFor 21 = .ok (.iconst 4, 1) := by decide +kernel
theorem dX6_playFor_22 : decode cX6_playFor 22 = .ok (.irem, 1) := by decide +kernel
theorem dX6_playFor_23 : decode cX6_playFor 23 = .ok (.istore 4, 2) := by decide +kernel
theorem dX6_playFor_25 : decode cX6_playFor 25 = .ok (.aload_n 0, 1) := by decide +kernel
theorem dX6_playFor_26 : decode cX6_playFor 26 = .ok (.aload_n 2, 1) := by decide +kernel
theorem dX6_playFor_27 : decode cX6_playFor 27 = .ok (.aload_n 3, 1) := by decide +kernel
theorem dX6_playFor_28 : decode cX6_playFor 28 = .ok (.iload 4, 2) := by decide +kernel
theorem dX6_playFor_30 : decode cX6_playFor 30 = .ok (.ifCond .ne 7, 3) := by decide +kernel
theorem dX6_playFor_33 : decode cX6_playFor 33 = .ok (.iconst 1, 1) := by decide +kernel
theorem dX6_playFor_34 : decode cX6_playFor 34 = .ok (.goto 5, 3) := by decide +kernel
theorem dX6_playFor_37 : decode cX6_playFor 37 = .ok (.iload 4, 2) := by decide +kernel
theorem dX6_playFor_39 : decode cX6_playFor 39 = .ok (.invokevirtual 284, 3) := by decide +kernel
theorem dX6_playFor_42 : decode cX6_playFor 42 = .ok (.return_, 1) := by decide +kernel
theorem dX6_hop_0 : decode cX6_hop 0 = .ok (.aload_n 0, 1) := by decide +kernel
theorem dX6_hop_1 : decode cX6_hop 1 = .ok (.iload_n 1, 1) := by decide +kernel
theorem dX6_hop_2 : decode cX6_hop 2 = .ok (.invokevirtual 93, 3) := by decide +kernel
theorem dX6_hop_5 : decode cX6_hop 5 = .ok (.astore 4, 2) := by decide +kernel
theorem dX6_hop_7 : decode cX6_hop 7 = .ok (.aload 4, 2) := by decide +kernel
theorem dX6_hop_9 : decode cX6_hop 9 = .ok (.ifnull 21, 3) := by decide +kernel
theorem dX6_hop_12 : decode cX6_hop 12 = .ok (.aload 4, 2) := by decide +kernel
theorem dX6_hop_14 : decode cX6_hop 14 = .ok (.iload_n 2, 1) := by decide +kernel
theorem dX6_hop_15 : decode cX6_hop 15 = .ok (.invokevirtual 71, 3) := by decide +kernel
theorem dX6_hop_18 : decode cX6_hop 18 = .ok (.ifCond .eq 12, 3) := by decide +kernel
theorem dX6_hop_21 : decode cX6_hop 21 = .ok (.aload 4, 2) := by decide +kernel
theorem dX6_hop_23 : decode cX6_hop 23 = .ok (.iload_n 3, 1) := by decide +kernel
theorem dX6_hop_24 : decode cX6_hop 24 = .ok (.invokevirtual 71, 3) := by decide +kernel
theorem dX6_hop_27 : decode cX6_hop 27 = .ok (.ifCond .ne 5, 3) := by decide +kernel
theorem dX6_hop_30 : decode cX6_hop 30 = .ok (.iconst (-1), 1) := by decide +kernel
theorem dX6_hop_31 : decode cX6_hop 31 = .ok (.ireturn, 1) := by decide +kernel
theorem dX6_hop_32 : decode cX6_hop 32 = .ok (.aload 4, 2) := by decide +kernel
theorem dX6_hop_34 : decode cX6_hop 34 = .ok (.getfield 97, 3) := by decide +kernel
theorem dX6_hop_37 : decode cX6_hop 37 = .ok (.iconst 1, 1) := by decide +kernel
theorem dX6_hop_38 : decode cX6_hop 38 = .ok (.if_icmp .eq 6, 3) := by decide +kernel
theorem dX6_hop_41 : decode cX6_hop 41 = .ok (.bipush (-2), 2) := by decide +kernel
theorem dX6_hop_43 : decode cX6_hop 43 = .ok (.ireturn, 1) := by decide +kernel
theorem dX6_hop_44 : decode cX6_hop 44 = .ok (.aload_n 0, 1) := by decide +kernel
theorem dX6_hop_45 : decode cX6_hop 45 = .ok (.getfield 329, 3) := by decide +kernel
theorem dX6_hop_48 : decode cX6_hop 48 = .ok (.aload_n 0, 1) := by decide +kernel
theorem dX6_hop_49 : decode cX6_hop 49 = .ok (.getfield 34, 3) := by decide +kernel
theorem dX6_hop_52 : decode cX6_hop 52 = .ok (.arraylength, 1) := by decide +kernel
theorem dX6_hop_53 : decode cX6_hop 53 = .ok (.if_icmp .ge 18, 3) := by decide +kernel
theorem dX6_hop_56 : decode cX6_hop 56 = .ok (.iload_n 2, 1) := by decide +kernel
theorem dX6_hop_57 : decode cX6_hop 57 = .ok (.iload_n 3, 1) := by decide +kernel
theorem dX6_hop_58 : decode cX6_hop 58 = .ok (.if_icmp .eq 13, 3) := by decide +kernel
theorem dX6_hop_61 : decode cX6_hop 61 = .ok (.aload_n 0, 1) := by decide +kernel
theorem dX6_hop_62 : decode cX6_hop 62 = .ok (.aload 4, 2) := by decide +kernel
theorem dX6_hop_64 : decode cX6_hop 64 = .ok (.iload_n 2, 1) := by decide +kernel
theorem dX6_hop_65 : decode cX6_hop 65 = .ok (.invokevirtual 332, 3) := by decide +kernel
theorem dX6_hop_68 : decode cX6_hop 68 = .ok (.ifCond .ne 6, 3) := by decide +kernel
theorem dX6_hop_71 : decode cX6_hop 71 = .ok (.bipush (-4), 2) := by decide +kernel
theorem dX6_hop_73 : decode cX6_hop 73 = .ok (.ireturn, 1) := by decide +kernel
theorem dX6_hop_74 : decode cX6_hop 74 = .ok (.aload_n 0, 1) := by decide +kernel
theorem dX6_hop_75 : decode cX6_hop 75 = .ok (.getfield 34, 3) := by decide +kernel
theorem dX6_hop_78 : decode cX6_hop 78 = .ok (.aload_n 0, 1) := by decide +kernel
theorem dX6_hop_79 : decode cX6_hop 79 = .ok (.getfield 329, 3) := by decide +kernel
theorem dX6_hop_82 : decode cX6_hop 82 = .ok (.new 32, 3) := by decide +kernel
theorem dX6_hop_85 : decode cX6_hop 85 = .ok (.dup, 1) := by decide +kernel
theorem dX6_hop_86 : decode cX6_hop 86 = .ok (.aload 4, 2) := by decide +kernel
theorem dX6_hop_88 : decode cX6_hop 88 = .ok (.iload_n 2, 1) := by decide +kernel
theorem dX6_hop_89 : decode cX6_hop 89 = .ok (.iload_n 3, 1) := by decide +kernel
theorem dX6_hop_90 : decode cX6_hop 90 = .ok (.invokespecial 336, 3) := by decide +kernel
theorem dX6_hop_93 : decode cX6_hop 93 = .ok (.aastore, 1) := by decide +kernel
theorem dX6_hop_94 : decode cX6_hop 94 = .ok (.aload_n 0, 1) := by decide +kernel
theorem dX6_hop_95 : decode cX6_hop 95 = .ok (.dup, 1) := by decide +kernel
theorem dX6_hop_96 : decode cX6_hop 96 = .ok (.getfield 329, 3) := by decide +kernel
theorem dX6_hop_99 : decode cX6_hop 99 = .ok (.iconst 1, 1) := by decide +kernel
theorem dX6_hop_100 : decode cX6_hop 100 = .ok (.iadd, 1) := by decide +kernel
theorem dX6_hop_101 : decode cX6_hop 101 = .ok (.putfield 329, 3) := by decide +kernel
theorem dX6_hop_104 : decode cX6_hop 104 = .ok (.aload_n 0, 1) := by decide +kernel
theorem dX6_hop_105 : decode cX6_hop 105 = .ok (.getfield 329, 3) := by decide +kernel
theorem dX6_hop_108 : decode cX6_hop 108 = .ok (.ireturn, 1) := by decide +kernel
theorem dX6_pay_0 : decode cX6_pay 0 = .ok (.aload_n 0, 1) := by decide +kernel
theorem dX6_pay_1 : decode cX6_pay 1 = .ok (.getfield 329, 3) := by decide +kernel
theorem dX6_pay_4 : decode cX6_pay 4 = .ok (.istore_n 3, 1) := by decide +kernel
theorem dX6_pay_5 : decode cX6_pay 5 = .ok (.aload_n 0, 1) := by decide +kernel
theorem dX6_pay_6 : decode cX6_pay 6 = .ok (.iconst 0, 1) := by decide +kernel
theorem dX6_pay_7 : decode cX6_pay 7 = .ok (.putfield 329, 3) := by decide +kernel
theorem dX6_pay_10 : decode cX6_pay 10 = .ok (.iload_n 1, 1) := by decide +kernel
theorem dX6_pay_11 : decode cX6_pay 11 = .ok (.iconst 1, 1) := by decide +kernel
theorem dX6_pay_12 : decode cX6_pay 12 = .ok (.ldc 132, 2) := by decide +kernel
theorem dX6_pay_14 : decode cX6_pay 14 = .ok (.invokestatic 42, 3) := by decide +kernel
theorem dX6_pay_17 : decode cX6_pay 17 = .ok (.ifCond .eq 13, 3) := by decide +kernel
theorem dX6_pay_20 : decode cX6_pay 20 = .ok (.iload_n 2, 1) := by decide +kernel
theorem dX6_pay_21 : decode cX6_pay 21 = .ok (.iconst 1, 1) := by decide +kernel
theorem dX6_pay_22 : decode cX6_pay 22 = .ok (.ldc 139, 2) := by decide +kernel
theorem dX6_pay_24 : decode cX6_pay 24 = .ok (.invokestatic 42, 3) := by decide +kernel
theorem dX6_pay_27 : decode cX6_pay 27 = .ok (.ifCond .ne 6, 3) := by decide +kernel
theorem dX6_pay_30 : decode cX6_pay 30 = .ok (.bipush (-3), 2) := by decide +kernel
theorem dX6_pay_32 : decode cX6_pay 32 = .ok (.ireturn, 1) := by decide +kernel
theorem dX6_pay_33 : decode cX6_pay 33 = .ok (.aload_n 0, 1) := by decide +kernel
theorem dX6_pay_34 : decode cX6_pay 34 = .ok (.iload_n 3, 1) := by decide +kernel
theorem dX6_pay_35 : decode cX6_pay 35 = .ok (.iconst 1, 1) := by decide +kernel
theorem dX6_pay_36 : decode cX6_pay 36 = .ok (.isub, 1) := by decide +kernel
theorem dX6_pay_37 : decode cX6_pay 37 = .ok (.invokevirtual 338, 3) := by decide +kernel
theorem dX6_pay_40 : decode cX6_pay 40 = .ok (.astore 4, 2) := by decide +kernel
theorem dX6_pay_42 : decode cX6_pay 42 = .ok (.aload 4, 2) := by decide +kernel
theorem dX6_pay_44 : decode cX6_pay 44 = .ok (.ifnull 27, 3) := by decide +kernel
theorem dX6_pay_47 : decode cX6_pay 47 = .ok (.aload_n 0, 1) := by decide +kernel
theorem dX6_pay_48 : decode cX6_pay 48 = .ok (.invokevirtual 265, 3) := by decide +kernel
theorem dX6_pay_51 : decode cX6_pay 51 = .ok (.ifCond .eq 20, 3) := by decide +kernel
theorem dX6_pay_54 : decode cX6_pay 54 = .ok (.aload_n 0, 1) := by decide +kernel
theorem dX6_pay_55 : decode cX6_pay 55 = .ok (.iload_n 3, 1) := by decide +kernel
theorem dX6_pay_56 : decode cX6_pay 56 = .ok (.invokevirtual 56, 3) := by decide +kernel
theorem dX6_pay_59 : decode cX6_pay 59 = .ok (.ifCond .eq 12, 3) := by decide +kernel
theorem dX6_pay_62 : decode cX6_pay 62 = .ok (.aload_n 0, 1) := by decide +kernel
theorem dX6_pay_63 : decode cX6_pay 63 = .ok (.iload_n 3, 1) := by decide +kernel
theorem dX6_pay_64 : decode cX6_pay 64 = .ok (.iload_n 1, 1) := by decide +kernel
theorem dX6_pay_65 : decode cX6_pay 65 = .ok (.invokevirtual 342, 3) := by decide +kernel
theorem dX6_pay_68 : decode cX6_pay 68 = .ok (.ifCond .ne 6, 3) := by decide +kernel
theorem dX6_pay_71 : decode cX6_pay 71 = .ok (.bipush (-4), 2) := by decide +kernel
theorem dX6_pay_73 : decode cX6_pay 73 = .ok (.ireturn, 1) := by decide +kernel
theorem dX6_pay_74 : decode cX6_pay 74 = .ok (.aload_n 0, 1) := by decide +kernel
theorem dX6_pay_75 : decode cX6_pay 75 = .ok (.aload 4, 2) := by decide +kernel
theorem dX6_pay_77 : decode cX6_pay 77 = .ok (.getfield 345, 3) := by decide +kernel
theorem dX6_pay_80 : decode cX6_pay 80 = .ok (.invokevirtual 268, 3) := by decide +kernel
theorem dX6_pay_83 : decode cX6_pay 83 = .ok (.istore 5, 2) := by decide +kernel
theorem dX6_pay_85 : decode cX6_pay 85 = .ok (.aload_n 0, 1) := by decide +kernel
theorem dX6_pay_86 : decode cX6_pay 86 = .ok (.iload_n 3, 1) := by decide +kernel
theorem dX6_pay_87 : decode cX6_pay 87 = .ok (.iload_n 2, 1) := by decide +kernel
theorem dX6_pay_88 : decode cX6_pay 88 = .ok (.invokevirtual 346, 3) := by decide +kernel
theorem dX6_pay_91 : decode cX6_pay 91 = .ok (.istore 6, 2) := by decide +kernel
theorem dX6_pay_93 : decode cX6_pay 93 = .ok (.iconst 0, 1) := by decide +kernel
theorem dX6_pay_94 : decode cX6_pay 94 = .ok (.istore 7, 2) := by decide +kernel
theorem dX6_pay_96 : decode cX6_pay 96 = .ok (.iload 7, 2) := by decide +kernel
theorem dX6_pay_98 : decode cX6_pay 98 = .ok (.iload_n 3, 1) := by decide +kernel
theorem dX6_pay_99 : decode cX6_pay 99 = .ok (.if_icmp .ge 48, 3) := by decide +kernel
theorem dX6_pay_102 : decode cX6_pay 102 = .ok (.aload_n 0, 1) := by decide +kernel
theorem dX6_pay_103 : decode cX6_pay 103 = .ok (.iload 7, 2) := by decide +kernel
theorem dX6_pay_105 : decode cX6_pay 105 = .ok (.invokevirtual 338, 3) := by decide +kernel
theorem dX6_pay_108 : decode cX6_pay 108 = .ok (.astore 8, 2) := by decide +kernel
theorem dX6_pay_110 : decode cX6_pay 110 = .ok (.aload 8, 2) := by decide +kernel
theorem dX6_pay_112 : decode cX6_pay 112 = .ok (.ifnull 29, 3) := by decide +kernel
theorem dX6_pay_115 : decode cX6_pay 115 = .ok (.aload_n 0, 1) := by decide +kernel
theorem dX6_pay_116 : decode cX6_pay 116 = .ok (.aload 8, 2) := by decide +kernel
theorem dX6_pay_118 : decode cX6_pay 118 = .ok (.iload_n 1, 1) := by decide +kernel
theorem dX6_pay_119 : decode cX6_pay 119 = .ok (.iload 5, 2) := by decide +kernel
theorem dX6_pay_121 : decode cX6_pay 121 = .ok (.iload 6, 2) := by decide +kernel
theorem dX6_pay_123 : decode cX6_pay 123 = .ok (.invokevirtual 350, 3) := by decide +kernel
theorem dX6_pay_126 : decode cX6_pay 126 = .ok (.iload 6, 2) := by decide +kernel
theorem dX6_pay_128 : decode cX6_pay 128 = .ok (.aload 8, 2) := by decide +kernel
theorem dX6_pay_130 : decode cX6_pay 130 = .ok (.getfield 354, 3) := by decide +kernel
theorem dX6_pay_133 : decode cX6_pay 133 = .ok (.getfield 227, 3) := by decide +kernel
theorem dX6_pay_136 : decode cX6_pay 136 = .ok (.iconst 1, 1) := by decide +kernel
theorem dX6_pay_137 : decode cX6_pay 137 = .ok (.iadd, 1) := by decide +kernel
theorem dX6_pay_138 : decode cX6_pay 138 = .ok (.isub, 1) := by decide +kernel
theorem dX6_pay_139 : decode cX6_pay 139 = .ok (.istore 6, 2) := by decide +kernel
theorem dX6_pay_141 : decode cX6_pay 141 = .ok (.iinc 7 1, 3) := by decide +kernel
theorem dX6_pay_144 : decode cX6_pay 144 = .ok (.goto (-48), 3) := by decide +kernel
theorem dX6_pay_147 : decode cX6_pay 147 = .ok (.iload 5, 2) := by decide +kernel
theorem dX6_pay_149 : decode cX6_pay 149 = .ok (.ireturn, 1) := by decide +kernel
theorem dX6_continuesRoute_0 : decode cX6_continuesRoute 0 = .ok (.iconst 0, 1) := by decide +kernel
theorem dX6_continuesRoute_1 : decode cX6_continuesRoute 1 = .ok (.istore_n 3, 1) := by decide +kernel
theorem dX6_continuesRoute_2 : decode cX6_continuesRoute 2 = .ok (.iload_n 3, 1) := by decide +kernel
theorem dX6_continuesRoute_3 : decode cX6_continuesRoute 3 = .ok (.aload_n 0, 1) := by decide +kernel
theorem dX6_continuesRoute_4 : decode cX6_continuesRoute 4 = .ok (.getfield 329, 3) := by decide +kernel
theorem dX6_continuesRoute_7 : decode cX6_continuesRoute 7 = .ok (.if_icmp .ge 32, 3) := by decide +kernel
theorem dX6_continuesRoute_10 : decode cX6_continuesRoute 10 = .ok (.aload_n 0, 1) := by decide +kernel
theorem dX6_continuesRoute_11 : decode cX6_continuesRoute 11 = .ok (.iload_n 3, 1) := by decide +kernel
theorem dX6_continuesRoute_12 : decode cX6_continuesRoute 12 = .ok (.invokevirtual 338, 3) := by decide +kernel
theorem dX6_continuesRoute_15 : decode cX6_continuesRoute 15 = .ok (.astore 4, 2) := by decide +kernel
theorem dX6_continuesRoute_17 : decode cX6_continuesRoute 17 = .ok (.aload 4, 2) := by decide +kernel
theorem dX6_continuesRoute_19 : decode cX6_continuesRoute 19 = .ok (.ifnull 14, 3) := by decide +kernel
theorem dX6_continuesRoute_22 : decode cX6_continuesRoute 22 = .ok (.aload 4, 2) := by decide +kernel
theorem dX6_continuesRoute_24 : decode cX6_continuesRoute 24 = .ok (.getfield 354, 3) := by decide +kernel
theorem dX6_continuesRoute_27 : decode cX6_continuesRoute 27 = .ok (.aload_n 1, 1) := by decide +kernel
theorem dX6_continuesRoute_28 : decode cX6_continuesRoute 28 = .ok (.if_acmp .ne 5, 3) := by decide +kernel
theorem dX6_continuesRoute_31 : decode cX6_continuesRoute 31 = .ok (.iconst 0, 1) := by decide +kernel
theorem dX6_continuesRoute_32 : decode cX6_continuesRoute 32 = .ok (.ireturn, 1) := by decide +kernel
theorem dX6_continuesRoute_33 : decode cX6_continuesRoute 33 = .ok (.iinc 3 1, 3) := by decide +kernel
theorem dX6_continuesRoute_36 : decode cX6_continuesRoute 36 = .ok (.goto (-34), 3) := by decide +kernel
theorem dX6_continuesRoute_39 : decode cX6_continuesRoute 39 = .ok (.aload_n 0, 1) := by decide +kernel
theorem dX6_continuesRoute_40 : decode cX6_continuesRoute 40 = .ok (.aload_n 0, 1) := by decide +kernel
theorem dX6_continuesRoute_41 : decode cX6_continuesRoute 41 = .ok (.getfield 329, 3) := by decide +kernel
theorem dX6_continuesRoute_44 : decode cX6_continuesRoute 44 = .ok (.iconst 1, 1) := by decide +kernel
theorem dX6_continuesRoute_45 : decode cX6_continuesRoute 45 = .ok (.isub, 1) := by decide +kernel
theorem dX6_continuesRoute_46 : decode cX6_continuesRoute 46 = .ok (.invokevirtual 338, 3) := by decide +kernel
theorem dX6_continuesRoute_49 : decode cX6_continuesRoute 49 = .ok (.astore_n 3, 1) := by decide +kernel
theorem dX6_continuesRoute_50 : decode cX6_continuesRoute 50 = .ok (.aload_n 3, 1) := by decide +kernel
theorem dX6_continuesRoute_51 : decode cX6_continuesRoute 51 = .ok (.ifnull 11, 3) := by decide +kernel
theorem dX6_continuesRoute_54 : decode cX6_continuesRoute 54 = .ok (.aload_n 3, 1) := by decide +kernel
theorem dX6_continuesRoute_55 : decode cX6_continuesRoute 55 = .ok (.getfield 345, 3) := by decide +kernel
theorem dX6_continuesRoute_58 : decode cX6_continuesRoute 58 = .ok (.iload_n 2, 1) := by decide +kernel
theorem dX6_continuesRoute_59 : decode cX6_continuesRoute 59 = .ok (.if_icmp .ne 7, 3) := by decide +kernel
theorem dX6_continuesRoute_62 : decode cX6_continuesRoute 62 = .ok (.iconst 1, 1) := by decide +kernel
theorem dX6_continuesRoute_63 : decode cX6_continuesRoute 63 = .ok (.goto 4, 3) := by decide +kernel
theorem dX6_continuesRoute_66 : decode cX6_continuesRoute 66 = .ok (.iconst 0, 1) := by decide +kernel
theorem dX6_continuesRoute_67 : decode cX6_continuesRoute 67 = .ok (.ireturn, 1) := by decide +kernel
theorem dX6_allCarry_0 : decode cX6_allCarry 0 = .ok (.iconst 0, 1) := by decide +kernel
theorem dX6_allCarry_1 : decode cX6_allCarry 1 = .ok (.istore_n 3, 1) := by decide +kernel
theorem dX6_allCarry_2 : decode cX6_allCarry 2 = .ok (.iload_n 3, 1) := by decide +kernel
theorem dX6_allCarry_3 : decode cX6_allCarry 3 = .ok (.iload_n 1, 1) := by decide +kernel
theorem dX6_allCarry_4 : decode cX6_allCarry 4 = .ok (.if_icmp .ge 32, 3) := by decide +kernel
theorem dX6_allCarry_7 : decode cX6_allCarry 7 = .ok (.aload_n 0, 1) := by decide +kernel
theorem dX6_allCarry_8 : decode cX6_allCarry 8 = .ok (.iload_n 3, 1) := by decide +kernel
theorem dX6_allCarry_9 : decode cX6_allCarry 9 = .ok (.invokevirtual 338, 3) := by decide +kernel
theorem dX6_allCarry_12 : decode cX6_allCarry 12 = .ok (.astore 4, 2) := by decide +kernel
theorem dX6_allCarry_14 : decode cX6_allCarry 14 = .ok (.aload 4, 2) := by decide +kernel
theorem dX6_allCarry_16 : decode cX6_allCarry 16 = .ok (.ifnull 12, 3) := by decide +kernel
theorem dX6_allCarry_19 : decode cX6_allCarry 19 = .ok (.aload 4, 2) := by decide +kernel
theorem dX6_allCarry_21 : decode cX6_allCarry 21 = .ok (.iload_n 2, 1) := by decide +kernel
theorem dX6_allCarry_22 : decode cX6_allCarry 22 = .ok (.invokevirtual 355, 3) := by decide +kernel
theorem dX6_allCarry_25 : decode cX6_allCarry 25 = .ok (.ifCond .ne 5, 3) := by decide +kernel
theorem dX6_allCarry_28 : decode cX6_allCarry 28 = .ok (.iconst 0, 1) := by decide +kernel
theorem dX6_allCarry_29 : decode cX6_allCarry 29 = .ok (.ireturn, 1) := by decide +kernel
theorem dX6_allCarry_30 : decode cX6_allCarry 30 = .ok (.iinc 3 1, 3) := by decide +kernel
theorem dX6_allCarry_33 : decode cX6_allCarry 33 = .ok (.goto (-31), 3) := by decide +kernel
theorem dX6_allCarry_36 : decode cX6_allCarry 36 = .ok (.iconst 1, 1) := by decide +kernel
theorem dX6_allCarry_37 : decode cX6_allCarry 37 = .ok (.ireturn, 1) := by decide +kernel
theorem dX6_firstExpiry_0 : decode cX6_firstExpiry 0 = .ok (.iload_n 2, 1) := by decide +kernel
theorem dX6_firstExpiry_1 : decode cX6_firstExpiry 1 = .ok (.istore_n 3, 1) := by decide +kernel
theorem dX6_firstExpiry_2 : decode cX6_firstExpiry 2 = .ok (.iconst 0, 1) := by decide +kernel
theorem dX6_firstExpiry_3 : decode cX6_firstExpiry 3 = .ok (.istore 4, 2) := by decide +kernel
theorem dX6_firstExpiry_5 : decode cX6_firstExpiry 5 = .ok (.iload 4, 2) := by decide +kernel
theorem dX6_firstExpiry_7 : decode cX6_firstExpiry 7 = .ok (.iload_n 1, 1) := by decide +kernel
theorem dX6_firstExpiry_8 : decode cX6_firstExpiry 8 = .ok (.iconst 1, 1) := by decide +kernel
theorem dX6_firstExpiry_9 : decode cX6_firstExpiry 9 = .ok (.isub, 1) := by decide +kernel
theorem dX6_firstExpiry_10 : decode cX6_firstExpiry 10 = .ok (.if_icmp .ge 35, 3) := by decide +kernel
theorem dX6_firstExpiry_13 : decode cX6_firstExpiry 13 = .ok (.aload_n 0, 1) := by decide +kernel
theorem dX6_firstExpiry_14 : decode cX6_firstExpiry 14 = .ok (.iload 4, 2) := by decide +kernel
theorem dX6_firstExpiry_16 : decode cX6_firstExpiry 16 = .ok (.invokevirtual 338, 3) := by decide +kernel
theorem dX6_firstExpiry_19 : decode cX6_firstExpiry 19 = .ok (.astore 5, 2) := by decide +kernel
theorem dX6_firstExpiry_21 : decode cX6_firstExpiry 21 = .ok (.aload 5, 2) := by decide +kernel
theorem dX6_firstExpiry_23 : decode cX6_firstExpiry 23 = .ok (.ifnull 16, 3) := by decide +kernel
theorem dX6_firstExpiry_26 : decode cX6_firstExpiry 26 = .ok (.iload_n 3, 1) := by decide +kernel
theorem dX6_firstExpiry_27 : decode cX6_firstExpiry 27 = .ok (.aload 5, 2) := by decide +kernel
theorem dX6_firstExpiry_29 : decode cX6_firstExpiry 29 = .ok (.getfield 354, 3) := by decide +kernel
theorem dX6_firstExpiry_32 : decode cX6_firstExpiry 32 = .ok (.getfield 227, 3) := by decide +kernel
theorem dX6_firstExpiry_35 : decode cX6_firstExpiry 35 = .ok (.iconst 1, 1) := by decide +kernel
theorem dX6_firstExpiry_36 : decode cX6_firstExpiry 36 = .ok (.iadd, 1) := by decide +kernel
theorem dX6_firstExpiry_37 : decode cX6_firstExpiry 37 = .ok (.iadd, 1) := by decide +kernel
theorem dX6_firstExpiry_38 : decode cX6_firstExpiry 38 = .ok (.istore_n 3, 1) := by decide +kernel
theorem dX6_firstExpiry_39 : decode cX6_firstExpiry 39 = .ok (.iinc 4 1, 3) := by decide +kernel
theorem dX6_firstExpiry_42 : decode cX6_firstExpiry 42 = .ok (.goto (-37), 3) := by decide +kernel
theorem dX6_firstExpiry_45 : decode cX6_firstExpiry 45 = .ok (.iload_n 3, 1) := by decide +kernel
theorem dX6_firstExpiry_46 : decode cX6_firstExpiry 46 = .ok (.ireturn, 1) := by decide +kernel
theorem dX6_payHop_0 : decode cX6_payHop 0 = .ok (.aload_n 0, 1) := by decide +kernel
theorem dX6_payHop_1 : decode cX6_payHop 1 = .ok (.aload_n 1, 1) := by decide +kernel
theorem dX6_payHop_2 : decode cX6_payHop 2 = .ok (.getfield 354, 3) := by decide +kernel
theorem dX6_payHop_5 : decode cX6_payHop 5 = .ok (.invokevirtual 100, 3) := by decide +kernel
theorem dX6_payHop_8 : decode cX6_payHop 8 = .ok (.astore 5, 2) := by decide +kernel
theorem dX6_payHop_10 : decode cX6_payHop 10 = .ok (.aload 5, 2) := by decide +kernel
theorem dX6_payHop_12 : decode cX6_payHop 12 = .ok (.new 144, 3) := by decide +kernel
theorem dX6_payHop_15 : decode cX6_payHop 15 = .ok (.dup, 1) := by decide +kernel
theorem dX6_payHop_16 : decode cX6_payHop 16 = .ok (.aload_n 1, 1) := by decide +kernel
theorem dX6_payHop_17 : decode cX6_payHop 17 = .ok (.getfield 358, 3) := by decide +kernel
theorem dX6_payHop_20 : decode cX6_payHop 20 = .ok (.aload_n 1, 1) := by decide +kernel
theorem dX6_payHop_21 : decode cX6_payHop 21 = .ok (.getfield 345, 3) := by decide +kernel
theorem dX6_payHop_24 : decode cX6_payHop 24 = .ok (.iload_n 2, 1) := by decide +kernel
theorem dX6_payHop_25 : decode cX6_payHop 25 = .ok (.iload_n 3, 1) := by decide +kernel
theorem dX6_payHop_26 : decode cX6_payHop 26 = .ok (.iload 4, 2) := by decide +kernel
theorem dX6_payHop_28 : decode cX6_payHop 28 = .ok (.invokespecial 146, 3) := by decide +kernel
theorem dX6_payHop_31 : decode cX6_payHop 31 = .ok (.invokevirtual 149, 3) := by decide +kernel
theorem dX6_payHop_34 : decode cX6_payHop 34 = .ok (.pop, 1) := by decide +kernel
theorem dX6_payHop_35 : decode cX6_payHop 35 = .ok (.aload 5, 2) := by decide +kernel
theorem dX6_payHop_37 : decode cX6_payHop 37 = .ok (.aload_n 1, 1) := by decide +kernel
theorem dX6_payHop_38 : decode cX6_payHop 38 = .ok (.getfield 354, 3) := by decide +kernel
theorem dX6_payHop_41 : decode cX6_payHop 41 = .ok (.getfield 218, 3) := by decide +kernel
theorem dX6_payHop_44 : decode cX6_payHop 44 = .ok (.putfield 83, 3) := by decide +kernel
theorem dX6_payHop_47 : decode cX6_payHop 47 = .ok (.aload_n 1, 1) := by decide +kernel
theorem dX6_payHop_48 : decode cX6_payHop 48 = .ok (.getfield 354, 3) := by decide +kernel
theorem dX6_payHop_51 : decode cX6_payHop 51 = .ok (.aload 5, 2) := by decide +kernel
theorem dX6_payHop_53 : decode cX6_payHop 53 = .ok (.invokevirtual 199, 3) := by decide +kernel
theorem dX6_payHop_56 : decode cX6_payHop 56 = .ok (.return_, 1) := by decide +kernel
theorem dX6_account_0 : decode cX6_account 0 = .ok (.iload_n 1, 1) := by decide +kernel
theorem dX6_account_1 : decode cX6_account 1 = .ok (.invokestatic 262, 3) := by decide +kernel
theorem dX6_account_4 : decode cX6_account 4 = .ok (.ifCond .eq 14, 3) := by decide +kernel
theorem dX6_account_7 : decode cX6_account 7 = .ok (.aload_n 0, 1) := by decide +kernel
theorem dX6_account_8 : decode cX6_account 8 = .ok (.getfield 10, 3) := by decide +kernel
theorem dX6_account_11 : decode cX6_account 11 = .ok (.iload_n 1, 1) := by decide +kernel
theorem dX6_account_12 : decode cX6_account 12 = .ok (.invokevirtual 110, 3) := by decide +kernel
theorem dX6_account_15 : decode cX6_account 15 = .ok (.goto 4, 3) := by decide +kernel
theorem dX6_account_18 : decode cX6_account 18 = .ok (.iconst (-1), 1) := by decide +kernel
theorem dX6_account_19 : decode cX6_account 19 = .ok (.ireturn, 1) := by decide +kernel
theorem dX6_told_0 : decode cX6_told 0 = .ok (.aload_n 0, 1) := by decide +kernel
theorem dX6_told_1 : decode cX6_told 1 = .ok (.iload_n 1, 1) := by decide +kernel
theorem dX6_told_2 : decode cX6_told 2 = .ok (.invokevirtual 93, 3) := by decide +kernel
theorem dX6_told_5 : decode cX6_told 5 = .ok (.astore_n 3, 1) := by decide +kernel
theorem dX6_told_6 : decode cX6_told 6 = .ok (.aload_n 3, 1) := by decide +kernel
theorem dX6_told_7 : decode cX6_told 7 = .ok (.ifnonnull 5, 3) := by decide +kernel
theorem dX6_told_10 : decode cX6_told 10 = .ok (.iconst (-1), 1) := by decide +kernel
theorem dX6_told_11 : decode cX6_told 11 = .ok (.ireturn, 1) := by decide +kernel
theorem dX6_told_12 : decode cX6_told 12 = .ok (.aload_n 3, 1) := by decide +kernel
theorem dX6_told_13 : decode cX6_told 13 = .ok (.getfield 250, 3) := by decide +kernel
theorem dX6_told_16 : decode cX6_told 16 = .ok (.astore 4, 2) := by decide +kernel
theorem dX6_told_18 : decode cX6_told 18 = .ok (.iload_n 2, 1) := by decide +kernel
theorem dX6_told_19 : decode cX6_told 19 = .ok (.tableswitch 157 0 11 #[61, 66, 71, 76, 81, 89, 97, 102, 107, 122, 137, 142], 61) := by decide +kernel
theorem dX6_told_80 : decode cX6_told 80 = .ok (.aload_n 3, 1) := by decide +kernel
theorem dX6_told_81 : decode cX6_told 81 = .ok (.getfield 97, 3) := by decide +kernel
theorem dX6_told_84 : decode cX6_told 84 = .ok (.ireturn, 1) := by decide +kernel
theorem dX6_told_85 : decode cX6_told 85 = .ok (.aload_n 3, 1) := by decide +kernel
theorem dX6_told_86 : decode cX6_told 86 = .ok (.getfield 77, 3) := by decide +kernel
theorem dX6_told_89 : decode cX6_told 89 = .ok (.ireturn, 1) := by decide +kernel
theorem dX6_told_90 : decode cX6_told 90 = .ok (.aload_n 3, 1) := by decide +kernel
theorem dX6_told_91 : decode cX6_told 91 = .ok (.getfield 227, 3) := by decide +kernel
theorem dX6_told_94 : decode cX6_told 94 = .ok (.ireturn, 1) := by decide +kernel
theorem dX6_told_95 : decode cX6_told 95 = .ok (.aload_n 3, 1) := by decide +kernel
theorem dX6_told_96 : decode cX6_told 96 = .ok (.getfield 218, 3) := by decide +kernel
theorem dX6_told_99 : decode cX6_told 99 = .ok (.ireturn, 1) := by decide +kernel
theorem dX6_told_100 : decode cX6_told 100 = .ok (.aload_n 3, 1) := by decide +kernel
theorem dX6_told_101 : decode cX6_told 101 = .ok (.getfield 86, 3) := by decide +kernel
theorem dX6_told_104 : decode cX6_told 104 = .ok (.invokestatic 359, 3) := by decide +kernel
theorem dX6_told_107 : decode cX6_told 107 = .ok (.ireturn, 1) := by decide +kernel
theorem dX6_told_108 : decode cX6_told 108 = .ok (.aload_n 3, 1) := by decide +kernel
theorem dX6_told_109 : decode cX6_told 109 = .ok (.getfield 230, 3) := by decide +kernel
theorem dX6_told_112 : decode cX6_told 112 = .ok (.invokestatic 359, 3) := by decide +kernel
theorem dX6_told_115 : decode cX6_told 115 = .ok (.ireturn, 1) := by decide +kernel
theorem dX6_told_116 : decode cX6_told 116 = .ok (.aload_n 3, 1) := by decide +kernel
theorem dX6_told_117 : decode cX6_told 117 = .ok (.getfield 212, 3) := by decide +kernel
theorem dX6_told_120 : decode cX6_told 120 = .ok (.ireturn, 1) := by decide +kernel
theorem dX6_told_121 : decode cX6_told 121 = .ok (.aload_n 3, 1) := by decide +kernel
theorem dX6_told_122 : decode cX6_told 122 = .ok (.getfield 259, 3) := by decide +kernel
theorem dX6_told_125 : decode cX6_told 125 = .ok (.ireturn, 1) := by decide +kernel
theorem dX6_told_126 : decode cX6_told 126 = .ok (.aload 4, 2) := by decide +kernel
theorem dX6_told_128 : decode cX6_told 128 = .ok (.ifnonnull 7, 3) := by decide +kernel
theorem dX6_told_131 : decode cX6_told 131 = .ok (.iconst (-1), 1) := by decide +kernel
theorem dX6_told_132 : decode cX6_told 132 = .ok (.goto 8, 3) := by decide +kernel
theorem dX6_told_135 : decode cX6_told 135 = .ok (.aload 4, 2) := by decide +kernel
theorem dX6_told_137 : decode cX6_told 137 = .ok (.getfield 189, 3) := by decide +kernel
theorem dX6_told_140 : decode cX6_told 140 = .ok (.ireturn, 1) := by decide +kernel
theorem dX6_told_141 : decode cX6_told 141 = .ok (.aload 4, 2) := by decide +kernel
theorem dX6_told_143 : decode cX6_told 143 = .ok (.ifnonnull 7, 3) := by decide +kernel
theorem dX6_told_146 : decode cX6_told 146 = .ok (.iconst 0, 1) := by decide +kernel
theorem dX6_told_147 : decode cX6_told 147 = .ok (.goto 8, 3) := by decide +kernel
theorem dX6_told_150 : decode cX6_told 150 = .ok (.aload 4, 2) := by decide +kernel
theorem dX6_told_152 : decode cX6_told 152 = .ok (.getfield 182, 3) := by decide +kernel
theorem dX6_told_155 : decode cX6_told 155 = .ok (.ireturn, 1) := by decide +kernel
theorem dX6_told_156 : decode cX6_told 156 = .ok (.aload_n 3, 1) := by decide +kernel
theorem dX6_told_157 : decode cX6_told 157 = .ok (.getfield 253, 3) := by decide +kernel
theorem dX6_told_160 : decode cX6_told 160 = .ok (.ireturn, 1) := by decide +kernel
theorem dX6_told_161 : decode cX6_told 161 = .ok (.aload 4, 2) := by decide +kernel
theorem dX6_told_163 : decode cX6_told 163 = .ok (.ifnonnull 7, 3) := by decide +kernel
theorem dX6_told_166 : decode cX6_told 166 = .ok (.iconst 0, 1) := by decide +kernel
theorem dX6_told_167 : decode cX6_told 167 = .ok (.goto 8, 3) := by decide +kernel
theorem dX6_told_170 : decode cX6_told 170 = .ok (.aload 4, 2) := by decide +kernel
theorem dX6_told_172 : decode cX6_told 172 = .ok (.getfield 179, 3) := by decide +kernel
theorem dX6_told_175 : decode cX6_told 175 = .ok (.ireturn, 1) := by decide +kernel
theorem dX6_told_176 : decode cX6_told 176 = .ok (.iconst (-1), 1) := by decide +kernel
theorem dX6_told_177 : decode cX6_told 177 = .ok (.ireturn, 1) := by decide +kernel
theorem dX6_of_0 : decode cX6_of 0 = .ok (.aload_n 0, 1) := by decide +kernel
theorem dX6_of_1 : decode cX6_of 1 = .ok (.iload_n 1, 1) := by decide +kernel
theorem dX6_of_2 : decode cX6_of 2 = .ok (.invokevirtual 123, 3) := by decide +kernel
theorem dX6_of_5 : decode cX6_of 5 = .ok (.astore_n 3, 1) := by decide +kernel
theorem dX6_of_6 : decode cX6_of 6 = .ok (.aload_n 3, 1) := by decide +kernel
theorem dX6_of_7 : decode cX6_of 7 = .ok (.ifnonnull 5, 3) := by decide +kernel
theorem dX6_of_10 : decode cX6_of 10 = .ok (.iconst (-1), 1) := by decide +kernel
theorem dX6_of_11 : decode cX6_of 11 = .ok (.ireturn, 1) := by decide +kernel
theorem dX6_of_12 : decode cX6_of 12 = .ok (.aload_n 3, 1) := by decide +kernel
theorem dX6_of_13 : decode cX6_of 13 = .ok (.getfield 170, 3) := by decide +kernel
theorem dX6_of_16 : decode cX6_of 16 = .ok (.astore 4, 2) := by decide +kernel
theorem dX6_of_18 : decode cX6_of 18 = .ok (.iload_n 2, 1) := by decide +kernel
theorem dX6_of_19 : decode cX6_of 19 = .ok (.tableswitch 154 0 9 #[53, 61, 66, 71, 76, 89, 94, 109, 124, 139], 53) := by decide +kernel
theorem dX6_of_72 : decode cX6_of 72 = .ok (.aload_n 3, 1) := by decide +kernel
theorem dX6_of_73 : decode cX6_of 73 = .ok (.getfield 195, 3) := by decide +kernel
theorem dX6_of_76 : decode cX6_of 76 = .ok (.getfield 90, 3) := by decide +kernel
theorem dX6_of_79 : decode cX6_of 79 = .ok (.ireturn, 1) := by decide +kernel
theorem dX6_of_80 : decode cX6_of 80 = .ok (.aload_n 3, 1) := by decide +kernel
theorem dX6_of_81 : decode cX6_of 81 = .ok (.getfield 363, 3) := by decide +kernel
theorem dX6_of_84 : decode cX6_of 84 = .ok (.ireturn, 1) := by decide +kernel
theorem dX6_of_85 : decode cX6_of 85 = .ok (.aload_n 3, 1) := by decide +kernel
theorem dX6_of_86 : decode cX6_of 86 = .ok (.getfield 83, 3) := by decide +kernel
theorem dX6_of_89 : decode cX6_of 89 = .ok (.ireturn, 1) := by decide +kernel
theorem dX6_of_90 : decode cX6_of 90 = .ok (.aload_n 3, 1) := by decide +kernel
theorem dX6_of_91 : decode cX6_of 91 = .ok (.getfield 215, 3) := by decide +kernel
theorem dX6_of_94 : decode cX6_of 94 = .ok (.ireturn, 1) := by decide +kernel
theorem dX6_of_95 : decode cX6_of 95 = .ok (.aload_n 3, 1) := by decide +kernel
theorem dX6_of_96 : decode cX6_of 96 = .ok (.invokevirtual 202, 3) := by decide +kernel
theorem dX6_of_99 : decode cX6_of 99 = .ok (.ifCond .eq 7, 3) := by decide +kernel
theorem dX6_of_102 : decode cX6_of 102 = .ok (.iconst 1, 1) := by decide +kernel
theorem dX6_of_103 : decode cX6_of 103 = .ok (.goto 4, 3) := by decide +kernel
theorem dX6_of_106 : decode cX6_of 106 = .ok (.iconst 0, 1) := by decide +kernel
theorem dX6_of_107 : decode cX6_of 107 = .ok (.ireturn, 1) := by decide +kernel
theorem dX6_of_108 : decode cX6_of 108 = .ok (.aload_n 3, 1) := by decide +kernel
theorem dX6_of_109 : decode cX6_of 109 = .ok (.invokevirtual 366, 3) := by decide +kernel
theorem dX6_of_112 : decode cX6_of 112 = .ok (.ireturn, 1) := by decide +kernel
theorem dX6_of_113 : decode cX6_of 113 = .ok (.aload 4, 2) := by decide +kernel
theorem dX6_of_115 : decode cX6_of 115 = .ok (.ifnonnull 7, 3) := by decide +kernel
theorem dX6_of_118 : decode cX6_of 118 = .ok (.iconst (-1), 1) := by decide +kernel
theorem dX6_of_119 : decode cX6_of 119 = .ok (.goto 8, 3) := by decide +kernel
theorem dX6_of_122 : decode cX6_of 122 = .ok (.aload 4, 2) := by decide +kernel
theorem dX6_of_124 : decode cX6_of 124 = .ok (.getfield 189, 3) := by decide +kernel
theorem dX6_of_127 : decode cX6_of 127 = .ok (.ireturn, 1) := by decide +kernel
theorem dX6_of_128 : decode cX6_of 128 = .ok (.aload 4, 2) := by decide +kernel
theorem dX6_of_130 : decode cX6_of 130 = .ok (.ifnonnull 7, 3) := by decide +kernel
theorem dX6_of_133 : decode cX6_of 133 = .ok (.iconst (-1), 1) := by decide +kernel
theorem dX6_of_134 : decode cX6_of 134 = .ok (.goto 8, 3) := by decide +kernel
theorem dX6_of_137 : decode cX6_of 137 = .ok (.aload 4, 2) := by decide +kernel
theorem dX6_of_139 : decode cX6_of 139 = .ok (.getfield 319, 3) := by decide +kernel
theorem dX6_of_142 : decode cX6_of 142 = .ok (.ireturn, 1) := by decide +kernel
theorem dX6_of_143 : decode cX6_of 143 = .ok (.aload 4, 2) := by decide +kernel
theorem dX6_of_145 : decode cX6_of 145 = .ok (.ifnonnull 7, 3) := by decide +kernel
theorem dX6_of_148 : decode cX6_of 148 = .ok (.iconst 0, 1) := by decide +kernel
theorem dX6_of_149 : decode cX6_of 149 = .ok (.goto 8, 3) := by decide +kernel
theorem dX6_of_152 : decode cX6_of 152 = .ok (.aload 4, 2) := by decide +kernel
theorem dX6_of_154 : decode cX6_of 154 = .ok (.getfield 179, 3) := by decide +kernel
theorem dX6_of_157 : decode cX6_of 157 = .ok (.ireturn, 1) := by decide +kernel
theorem dX6_of_158 : decode cX6_of 158 = .ok (.aload 4, 2) := by decide +kernel
theorem dX6_of_160 : decode cX6_of 160 = .ok (.ifnonnull 7, 3) := by decide +kernel
theorem dX6_of_163 : decode cX6_of 163 = .ok (.iconst 0, 1) := by decide +kernel
theorem dX6_of_164 : decode cX6_of 164 = .ok (.goto 8, 3) := by decide +kernel
theorem dX6_of_167 : decode cX6_of 167 = .ok (.aload 4, 2) := by decide +kernel
theorem dX6_of_169 : decode cX6_of 169 = .ok (.getfield 182, 3) := by decide +kernel
theorem dX6_of_172 : decode cX6_of 172 = .ok (.ireturn, 1) := by decide +kernel
theorem dX6_of_173 : decode cX6_of 173 = .ok (.iconst (-1), 1) := by decide +kernel
theorem dX6_of_174 : decode cX6_of 174 = .ok (.ireturn, 1) := by decide +kernel
theorem dX6_share_0 : decode cX6_share 0 = .ok (.aload_n 0, 1) := by decide +kernel
theorem dX6_share_1 : decode cX6_share 1 = .ok (.iload_n 1, 1) := by decide +kernel
theorem dX6_share_2 : decode cX6_share 2 = .ok (.invokevirtual 123, 3) := by decide +kernel
theorem dX6_share_5 : decode cX6_share 5 = .ok (.astore 4, 2) := by decide +kernel
theorem dX6_share_7 : decode cX6_share 7 = .ok (.aload 4, 2) := by decide +kernel
theorem dX6_share_9 : decode cX6_share 9 = .ok (.ifnull 12, 3) := by decide +kernel
theorem dX6_share_12 : decode cX6_share 12 = .ok (.aload 4, 2) := by decide +kernel
theorem dX6_share_14 : decode cX6_share 14 = .ok (.iload_n 2, 1) := by decide +kernel
theorem dX6_share_15 : decode cX6_share 15 = .ok (.invokevirtual 127, 3) := by decide +kernel
theorem dX6_share_18 : decode cX6_share 18 = .ok (.ifCond .ne 5, 3) := by decide +kernel
theorem dX6_share_21 : decode cX6_share 21 = .ok (.iconst (-1), 1) := by decide +kernel
theorem dX6_share_22 : decode cX6_share 22 = .ok (.ireturn, 1) := by decide +kernel
theorem dX6_share_23 : decode cX6_share 23 = .ok (.iload_n 3, 1) := by decide +kernel
theorem dX6_share_24 : decode cX6_share 24 = .ok (.lookupswitch 48 #[(0, 28), (1, 38)], 28) := by decide +kernel
theorem dX6_share_52 : decode cX6_share 52 = .ok (.aload 4, 2) := by decide +kernel
theorem dX6_share_54 : decode cX6_share 54 = .ok (.getfield 80, 3) := by decide +kernel
theorem dX6_share_57 : decode cX6_share 57 = .ok (.iload_n 2, 1) := by decide +kernel
theorem dX6_share_58 : decode cX6_share 58 = .ok (.invokevirtual 110, 3) := by decide +kernel
theorem dX6_share_61 : decode cX6_share 61 = .ok (.ireturn, 1) := by decide +kernel
theorem dX6_share_62 : decode cX6_share 62 = .ok (.aload 4, 2) := by decide +kernel
theorem dX6_share_64 : decode cX6_share 64 = .ok (.getfield 192, 3) := by decide +kernel
theorem dX6_share_67 : decode cX6_share 67 = .ok (.iload_n 2, 1) := by decide +kernel
theorem dX6_share_68 : decode cX6_share 68 = .ok (.invokevirtual 110, 3) := by decide +kernel
theorem dX6_share_71 : decode cX6_share 71 = .ok (.ireturn, 1) := by decide +kernel
theorem dX6_share_72 : decode cX6_share 72 = .ok (.iconst (-1), 1) := by decide +kernel
theorem dX6_share_73 : decode cX6_share 73 = .ok (.ireturn, 1) := by decide +kernel
theorem dX6_locked_0 : decode cX6_locked 0 = .ok (.aload_n 0, 1) := by decide +kernel
theorem dX6_locked_1 : decode cX6_locked 1 = .ok (.iload_n 1, 1) := by decide +kernel
theorem dX6_locked_2 : decode cX6_locked 2 = .ok (.invokevirtual 123, 3) := by decide +kernel
theorem dX6_locked_5 : decode cX6_locked 5 = .ok (.astore 4, 2) := by decide +kernel
theorem dX6_locked_7 : decode cX6_locked 7 = .ok (.aload 4, 2) := by decide +kernel
theorem dX6_locked_9 : decode cX6_locked 9 = .ok (.ifnonnull 5, 3) := by decide +kernel
theorem dX6_locked_12 : decode cX6_locked 12 = .ok (.iconst (-1), 1) := by decide +kernel
theorem dX6_locked_13 : decode cX6_locked 13 = .ok (.ireturn, 1) := by decide +kernel
theorem dX6_locked_14 : decode cX6_locked 14 = .ok (.aload 4, 2) := by decide +kernel
theorem dX6_locked_16 : decode cX6_locked 16 = .ok (.iload_n 2, 1) := by decide +kernel
theorem dX6_locked_17 : decode cX6_locked 17 = .ok (.invokevirtual 153, 3) := by decide +kernel
theorem dX6_locked_20 : decode cX6_locked 20 = .ok (.astore 5, 2) := by decide +kernel
theorem dX6_locked_22 : decode cX6_locked 22 = .ok (.aload 5, 2) := by decide +kernel
theorem dX6_locked_24 : decode cX6_locked 24 = .ok (.ifnonnull 5, 3) := by decide +kernel
theorem dX6_locked_27 : decode cX6_locked 27 = .ok (.iconst (-1), 1) := by decide +kernel
theorem dX6_locked_28 : decode cX6_locked 28 = .ok (.ireturn, 1) := by decide +kernel
theorem dX6_locked_29 : decode cX6_locked 29 = .ok (.iload_n 3, 1) := by decide +kernel
theorem dX6_locked_30 : decode cX6_locked 30 = .ok (.tableswitch 64 0 4 #[34, 40, 46, 52, 58], 34) := by decide +kernel
theorem dX6_locked_64 : decode cX6_locked 64 = .ok (.aload 5, 2) := by decide +kernel
theorem dX6_locked_66 : decode cX6_locked 66 = .ok (.getfield 164, 3) := by decide +kernel
theorem dX6_locked_69 : decode cX6_locked 69 = .ok (.ireturn, 1) := by decide +kernel
theorem dX6_locked_70 : decode cX6_locked 70 = .ok (.aload 5, 2) := by decide +kernel
theorem dX6_locked_72 : decode cX6_locked 72 = .ok (.getfield 161, 3) := by decide +kernel
theorem dX6_locked_75 : decode cX6_locked 75 = .ok (.ireturn, 1) := by decide +kernel
theorem dX6_locked_76 : decode cX6_locked 76 = .ok (.aload 5, 2) := by decide +kernel
theorem dX6_locked_78 : decode cX6_locked 78 = .ok (.getfield 167, 3) := by decide +kernel
theorem dX6_locked_81 : decode cX6_locked 81 = .ok (.ireturn, 1) := by decide +kernel
theorem dX6_locked_82 : decode cX6_locked 82 = .ok (.aload 5, 2) := by decide +kernel
theorem dX6_locked_84 : decode cX6_locked 84 = .ok (.getfield 288, 3) := by decide +kernel
theorem dX6_locked_87 : decode cX6_locked 87 = .ok (.ireturn, 1) := by decide +kernel
theorem dX6_locked_88 : decode cX6_locked 88 = .ok (.aload 5, 2) := by decide +kernel
theorem dX6_locked_90 : decode cX6_locked 90 = .ok (.getfield 256, 3) := by decide +kernel
theorem dX6_locked_93 : decode cX6_locked 93 = .ok (.ireturn, 1) := by decide +kernel
theorem dX6_locked_94 : decode cX6_locked 94 = .ok (.iconst (-1), 1) := by decide +kernel
theorem dX6_locked_95 : decode cX6_locked 95 = .ok (.ireturn, 1) := by decide +kernel
theorem dX6_knows_0 : decode cX6_knows 0 = .ok (.aload_n 0, 1) := by decide +kernel
theorem dX6_knows_1 : decode cX6_knows 1 = .ok (.iload_n 1, 1) := by decide +kernel
theorem dX6_knows_2 : decode cX6_knows 2 = .ok (.invokevirtual 136, 3) := by decide +kernel
theorem dX6_knows_5 : decode cX6_knows 5 = .ok (.ifCond .eq 12, 3) := by decide +kernel
theorem dX6_knows_8 : decode cX6_knows 8 = .ok (.aload_n 0, 1) := by decide +kernel
theorem dX6_knows_9 : decode cX6_knows 9 = .ok (.getfield 28, 3) := by decide +kernel
theorem dX6_knows_12 : decode cX6_knows 12 = .ok (.iload_n 1, 1) := by decide +kernel
theorem dX6_knows_13 : decode cX6_knows 13 = .ok (.iaload, 1) := by decide +kernel
theorem dX6_knows_14 : decode cX6_knows 14 = .ok (.goto 4, 3) := by decide +kernel
theorem dX6_knows_17 : decode cX6_knows 17 = .ok (.iconst (-1), 1) := by decide +kernel
theorem dX6_knows_18 : decode cX6_knows 18 = .ok (.ireturn, 1) := by decide +kernel
theorem dX6_count_0 : decode cX6_count 0 = .ok (.iload_n 1, 1) := by decide +kernel
theorem dX6_count_1 : decode cX6_count 1 = .ok (.tableswitch 78 0 6 #[43, 48, 53, 58, 63, 68, 73], 43) := by decide +kernel
theorem dX6_count_44 : decode cX6_count 44 = .ok (.aload_n 0, 1) := by decide +kernel
theorem dX6_count_45 : decode cX6_count 45 = .ok (.getfield 52, 3) := by decide +kernel
theorem dX6_count_48 : decode cX6_count 48 = .ok (.ireturn, 1) := by decide +kernel
theorem dX6_count_49 : decode cX6_count 49 = .ok (.aload_n 0, 1) := by decide +kernel
theorem dX6_count_50 : decode cX6_count 50 = .ok (.getfield 104, 3) := by decide +kernel
theorem dX6_count_53 : decode cX6_count 53 = .ok (.ireturn, 1) := by decide +kernel
theorem dX6_count_54 : decode cX6_count 54 = .ok (.aload_n 0, 1) := by decide +kernel
theorem dX6_count_55 : decode cX6_count 55 = .ok (.getfield 274, 3) := by decide +kernel
theorem dX6_count_58 : decode cX6_count 58 = .ok (.ireturn, 1) := by decide +kernel
theorem dX6_count_59 : decode cX6_count 59 = .ok (.aload_n 0, 1) := by decide +kernel
theorem dX6_count_60 : decode cX6_count 60 = .ok (.getfield 224, 3) := by decide +kernel
theorem dX6_count_63 : decode cX6_count 63 = .ok (.ireturn, 1) := by decide +kernel
theorem dX6_count_64 : decode cX6_count 64 = .ok (.aload_n 0, 1) := by decide +kernel
theorem dX6_count_65 : decode cX6_count 65 = .ok (.getfield 329, 3) := by decide +kernel
theorem dX6_count_68 : decode cX6_count 68 = .ok (.ireturn, 1) := by decide +kernel
theorem dX6_count_69 : decode cX6_count 69 = .ok (.aload_n 0, 1) := by decide +kernel
theorem dX6_count_70 : decode cX6_count 70 = .ok (.getfield 305, 3) := by decide +kernel
theorem dX6_count_73 : decode cX6_count 73 = .ok (.ireturn, 1) := by decide +kernel
theorem dX6_count_74 : decode cX6_count 74 = .ok (.aload_n 0, 1) := by decide +kernel
theorem dX6_count_75 : decode cX6_count 75 = .ok (.invokevirtual 369, 3) := by decide +kernel
theorem dX6_count_78 : decode cX6_count 78 = .ok (.ireturn, 1) := by decide +kernel
theorem dX6_count_79 : decode cX6_count 79 = .ok (.iconst (-1), 1) := by decide +kernel
theorem dX6_count_80 : decode cX6_count 80 = .ok (.ireturn, 1) := by decide +kernel
theorem dX6_allThereIs_0 : decode cX6_allThereIs 0 = .ok (.aload_n 0, 1) := by decide +kernel
theorem dX6_allThereIs_1 : decode cX6_allThereIs 1 = .ok (.getfield 10, 3) := by decide +kernel
theorem dX6_allThereIs_4 : decode cX6_allThereIs 4 = .ok (.invokevirtual 372, 3) := by decide +kernel
theorem dX6_allThereIs_7 : decode cX6_allThereIs 7 = .ok (.istore_n 1, 1) := by decide +kernel
theorem dX6_allThereIs_8 : decode cX6_allThereIs 8 = .ok (.iconst 0, 1) := by decide +kernel
theorem dX6_allThereIs_9 : decode cX6_allThereIs 9 = .ok (.istore_n 2, 1) := by decide +kernel
theorem dX6_allThereIs_10 : decode cX6_allThereIs 10 = .ok (.iload_n 2, 1) := by decide +kernel
theorem dX6_allThereIs_11 : decode cX6_allThereIs 11 = .ok (.aload_n 0, 1) := by decide +kernel
theorem dX6_allThereIs_12 : decode cX6_allThereIs 12 = .ok (.getfield 52, 3) := by decide +kernel
theorem dX6_allThereIs_15 : decode cX6_allThereIs 15 = .ok (.if_icmp .ge 26, 3) := by decide +kernel
theorem dX6_allThereIs_18 : decode cX6_allThereIs 18 = .ok (.aload_n 0, 1) := by decide +kernel
theorem dX6_allThereIs_19 : decode cX6_allThereIs 19 = .ok (.iload_n 2, 1) := by decide +kernel
theorem dX6_allThereIs_20 : decode cX6_allThereIs 20 = .ok (.invokevirtual 93, 3) := by decide +kernel
theorem dX6_allThereIs_23 : decode cX6_allThereIs 23 = .ok (.astore_n 3, 1) := by decide +kernel
theorem dX6_allThereIs_24 : decode cX6_allThereIs 24 = .ok (.aload_n 3, 1) := by decide +kernel
theorem dX6_allThereIs_25 : decode cX6_allThereIs 25 = .ok (.ifnull 10, 3) := by decide +kernel
theorem dX6_allThereIs_28 : decode cX6_allThereIs 28 = .ok (.iload_n 1, 1) := by decide +kernel
theorem dX6_allThereIs_29 : decode cX6_allThereIs 29 = .ok (.aload_n 3, 1) := by decide +kernel
theorem dX6_allThereIs_30 : decode cX6_allThereIs 30 = .ok (.getfield 77, 3) := by decide +kernel
theorem dX6_allThereIs_33 : decode cX6_allThereIs 33 = .ok (.iadd, 1) := by decide +kernel
theorem dX6_allThereIs_34 : decode cX6_allThereIs 34 = .ok (.istore_n 1, 1) := by decide +kernel
theorem dX6_allThereIs_35 : decode cX6_allThereIs 35 = .ok (.iinc 2 1, 3) := by decide +kernel
theorem dX6_allThereIs_38 : decode cX6_allThereIs 38 = .ok (.goto (-28), 3) := by decide +kernel
theorem dX6_allThereIs_41 : decode cX6_allThereIs 41 = .ok (.iload_n 1, 1) := by decide +kernel
theorem dX6_allThereIs_42 : decode cX6_allThereIs 42 = .ok (.ireturn, 1) := by decide +kernel
theorem dX6_channelAt_0 : decode cX6_channelAt 0 = .ok (.iload_n 1, 1) := by decide +kernel
theorem dX6_channelAt_1 : decode cX6_channelAt 1 = .ok (.ifCond .lt 29, 3) := by decide +kernel
theorem dX6_channelAt_4 : decode cX6_channelAt 4 = .ok (.iload_n 1, 1) := by decide +kernel
theorem dX6_channelAt_5 : decode cX6_channelAt 5 = .ok (.aload_n 0, 1) := by decide +kernel
theorem dX6_channelAt_6 : decode cX6_channelAt 6 = .ok (.getfield 52, 3) := by decide +kernel
theorem dX6_channelAt_9 : decode cX6_channelAt 9 = .ok (.if_icmp .ge 21, 3) := by decide +kernel
theorem dX6_channelAt_12 : decode cX6_channelAt 12 = .ok (.iload_n 1, 1) := by decide +kernel
theorem dX6_channelAt_13 : decode cX6_channelAt 13 = .ok (.aload_n 0, 1) := by decide +kernel
theorem dX6_channelAt_14 : decode cX6_channelAt 14 = .ok (.getfield 18, 3) := by decide +kernel
theorem dX6_channelAt_17 : decode cX6_channelAt 17 = .ok (.arraylength, 1) := by decide +kernel
theorem dX6_channelAt_18 : decode cX6_channelAt 18 = .ok (.if_icmp .ge 12, 3) := by decide +kernel
theorem dX6_channelAt_21 : decode cX6_channelAt 21 = .ok (.aload_n 0, 1) := by decide +kernel
theorem dX6_channelAt_22 : decode cX6_channelAt 22 = .ok (.getfield 18, 3) := by decide +kernel
theorem dX6_channelAt_25 : decode cX6_channelAt 25 = .ok (.iload_n 1, 1) := by decide +kernel
theorem dX6_channelAt_26 : decode cX6_channelAt 26 = .ok (.aaload, 1) := by decide +kernel
theorem dX6_channelAt_27 : decode cX6_channelAt 27 = .ok (.goto 4, 3) := by decide +kernel
theorem dX6_channelAt_30 : decode cX6_channelAt 30 = .ok (.aconst_null, 1) := by decide +kernel
theorem dX6_channelAt_31 : decode cX6_channelAt 31 = .ok (.areturn, 1) := by decide +kernel
theorem dX6_stateAt_0 : decode cX6_stateAt 0 = .ok (.iload_n 1, 1) := by decide +kernel
theorem dX6_stateAt_1 : decode cX6_stateAt 1 = .ok (.ifCond .lt 29, 3) := by decide +kernel
theorem dX6_stateAt_4 : decode cX6_stateAt 4 = .ok (.iload_n 1, 1) := by decide +kernel
theorem dX6_stateAt_5 : decode cX6_stateAt 5 = .ok (.aload_n 0, 1) := by decide +kernel
theorem dX6_stateAt_6 : decode cX6_stateAt 6 = .ok (.getfield 104, 3) := by decide +kernel
theorem dX6_stateAt_9 : decode cX6_stateAt 9 = .ok (.if_icmp .ge 21, 3) := by decide +kernel
theorem dX6_stateAt_12 : decode cX6_stateAt 12 = .ok (.iload_n 1, 1) := by decide +kernel
theorem dX6_stateAt_13 : decode cX6_stateAt 13 = .ok (.aload_n 0, 1) := by decide +kernel
theorem dX6_stateAt_14 : decode cX6_stateAt 14 = .ok (.getfield 24, 3) := by decide +kernel
theorem dX6_stateAt_17 : decode cX6_stateAt 17 = .ok (.arraylength, 1) := by decide +kernel
theorem dX6_stateAt_18 : decode cX6_stateAt 18 = .ok (.if_icmp .ge 12, 3) := by decide +kernel
theorem dX6_stateAt_21 : decode cX6_stateAt 21 = .ok (.aload_n 0, 1) := by decide +kernel
theorem dX6_stateAt_22 : decode cX6_stateAt 22 = .ok (.getfield 24, 3) := by decide +kernel
theorem dX6_stateAt_25 : decode cX6_stateAt 25 = .ok (.iload_n 1, 1) := by decide +kernel
theorem dX6_stateAt_26 : decode cX6_stateAt 26 = .ok (.aaload, 1) := by decide +kernel
theorem dX6_stateAt_27 : decode cX6_stateAt 27 = .ok (.goto 4, 3) := by decide +kernel
theorem dX6_stateAt_30 : decode cX6_stateAt 30 = .ok (.aconst_null, 1) := by decide +kernel
theorem dX6_stateAt_31 : decode cX6_stateAt 31 = .ok (.areturn, 1) := by decide +kernel
theorem dX6_hopAt_0 : decode cX6_hopAt 0 = .ok (.iload_n 1, 1) := by decide +kernel
theorem dX6_hopAt_1 : decode cX6_hopAt 1 = .ok (.ifCond .lt 21, 3) := by decide +kernel
theorem dX6_hopAt_4 : decode cX6_hopAt 4 = .ok (.iload_n 1, 1) := by decide +kernel
theorem dX6_hopAt_5 : decode cX6_hopAt 5 = .ok (.aload_n 0, 1) := by decide +kernel
theorem dX6_hopAt_6 : decode cX6_hopAt 6 = .ok (.getfield 34, 3) := by decide +kernel
theorem dX6_hopAt_9 : decode cX6_hopAt 9 = .ok (.arraylength, 1) := by decide +kernel
theorem dX6_hopAt_10 : decode cX6_hopAt 10 = .ok (.if_icmp .ge 12, 3) := by decide +kernel
theorem dX6_hopAt_13 : decode cX6_hopAt 13 = .ok (.aload_n 0, 1) := by decide +kernel
theorem dX6_hopAt_14 : decode cX6_hopAt 14 = .ok (.getfield 34, 3) := by decide +kernel
theorem dX6_hopAt_17 : decode cX6_hopAt 17 = .ok (.iload_n 1, 1) := by decide +kernel
theorem dX6_hopAt_18 : decode cX6_hopAt 18 = .ok (.aaload, 1) := by decide +kernel
theorem dX6_hopAt_19 : decode cX6_hopAt 19 = .ok (.goto 4, 3) := by decide +kernel
theorem dX6_hopAt_22 : decode cX6_hopAt 22 = .ok (.aconst_null, 1) := by decide +kernel
theorem dX6_hopAt_23 : decode cX6_hopAt 23 = .ok (.areturn, 1) := by decide +kernel
theorem dX6_isSecret_0 : decode cX6_isSecret 0 = .ok (.iload_n 1, 1) := by decide +kernel
theorem dX6_isSecret_1 : decode cX6_isSecret 1 = .ok (.ifCond .lt 24, 3) := by decide +kernel
theorem dX6_isSecret_4 : decode cX6_isSecret 4 = .ok (.iload_n 1, 1) := by decide +kernel
theorem dX6_isSecret_5 : decode cX6_isSecret 5 = .ok (.aload_n 0, 1) := by decide +kernel
theorem dX6_isSecret_6 : decode cX6_isSecret 6 = .ok (.getfield 274, 3) := by decide +kernel
theorem dX6_isSecret_9 : decode cX6_isSecret 9 = .ok (.if_icmp .ge 16, 3) := by decide +kernel
theorem dX6_isSecret_12 : decode cX6_isSecret 12 = .ok (.iload_n 1, 1) := by decide +kernel
theorem dX6_isSecret_13 : decode cX6_isSecret 13 = .ok (.aload_n 0, 1) := by decide +kernel
theorem dX6_isSecret_14 : decode cX6_isSecret 14 = .ok (.getfield 28, 3) := by decide +kernel
theorem dX6_isSecret_17 : decode cX6_isSecret 17 = .ok (.arraylength, 1) := by decide +kernel
theorem dX6_isSecret_18 : decode cX6_isSecret 18 = .ok (.if_icmp .ge 7, 3) := by decide +kernel
theorem dX6_isSecret_21 : decode cX6_isSecret 21 = .ok (.iconst 1, 1) := by decide +kernel
theorem dX6_isSecret_22 : decode cX6_isSecret 22 = .ok (.goto 4, 3) := by decide +kernel
theorem dX6_isSecret_25 : decode cX6_isSecret 25 = .ok (.iconst 0, 1) := by decide +kernel
theorem dX6_isSecret_26 : decode cX6_isSecret 26 = .ok (.ireturn, 1) := by decide +kernel
theorem dX6_numberOf_0 : decode cX6_numberOf 0 = .ok (.aload_n 0, 1) := by decide +kernel
theorem dX6_numberOf_1 : decode cX6_numberOf 1 = .ok (.ifnonnull 7, 3) := by decide +kernel
theorem dX6_numberOf_4 : decode cX6_numberOf 4 = .ok (.iconst (-1), 1) := by decide +kernel
theorem dX6_numberOf_5 : decode cX6_numberOf 5 = .ok (.goto 7, 3) := by decide +kernel
theorem dX6_numberOf_8 : decode cX6_numberOf 8 = .ok (.aload_n 0, 1) := by decide +kernel
theorem dX6_numberOf_9 : decode cX6_numberOf 9 = .ok (.getfield 103, 3) := by decide +kernel
theorem dX6_numberOf_12 : decode cX6_numberOf 12 = .ok (.ireturn, 1) := by decide +kernel
theorem dX6_isParty_0 : decode cX6_isParty 0 = .ok (.iload_n 0, 1) := by decide +kernel
theorem dX6_isParty_1 : decode cX6_isParty 1 = .ok (.ifCond .lt 13, 3) := by decide +kernel
theorem dX6_isParty_4 : decode cX6_isParty 4 = .ok (.iload_n 0, 1) := by decide +kernel
theorem dX6_isParty_5 : decode cX6_isParty 5 = .ok (.bipush 6, 2) := by decide +kernel
theorem dX6_isParty_7 : decode cX6_isParty 7 = .ok (.if_icmp .ge 7, 3) := by decide +kernel
theorem dX6_isParty_10 : decode cX6_isParty 10 = .ok (.iconst 1, 1) := by decide +kernel
theorem dX6_isParty_11 : decode cX6_isParty 11 = .ok (.goto 4, 3) := by decide +kernel
theorem dX6_isParty_14 : decode cX6_isParty 14 = .ok (.iconst 0, 1) := by decide +kernel
theorem dX6_isParty_15 : decode cX6_isParty 15 = .ok (.ireturn, 1) := by decide +kernel
theorem dX6_isPlace_0 : decode cX6_isPlace 0 = .ok (.iload_n 0, 1) := by decide +kernel
theorem dX6_isPlace_1 : decode cX6_isPlace 1 = .ok (.ifCond .lt 12, 3) := by decide +kernel
theorem dX6_isPlace_4 : decode cX6_isPlace 4 = .ok (.iload_n 0, 1) := by decide +kernel
theorem dX6_isPlace_5 : decode cX6_isPlace 5 = .ok (.iconst 3, 1) := by decide +kernel
theorem dX6_isPlace_6 : decode cX6_isPlace 6 = .ok (.if_icmp .ge 7, 3) := by decide +kernel
theorem dX6_isPlace_9 : decode cX6_isPlace 9 = .ok (.iconst 1, 1) := by decide +kernel
theorem dX6_isPlace_10 : decode cX6_isPlace 10 = .ok (.goto 4, 3) := by decide +kernel
theorem dX6_isPlace_13 : decode cX6_isPlace 13 = .ok (.iconst 0, 1) := by decide +kernel
theorem dX6_isPlace_14 : decode cX6_isPlace 14 = .ok (.ireturn, 1) := by decide +kernel
theorem dX6_isIn_0 : decode cX6_isIn 0 = .ok (.iload_n 1, 1) := by decide +kernel
theorem dX6_isIn_1 : decode cX6_isIn 1 = .ok (.ifCond .lt 21, 3) := by decide +kernel
theorem dX6_isIn_4 : decode cX6_isIn 4 = .ok (.iload_n 1, 1) := by decide +kernel
theorem dX6_isIn_5 : decode cX6_isIn 5 = .ok (.bipush 6, 2) := by decide +kernel
theorem dX6_isIn_7 : decode cX6_isIn 7 = .ok (.if_icmp .ge 15, 3) := by decide +kernel
theorem dX6_isIn_10 : decode cX6_isIn 10 = .ok (.iload_n 0, 1) := by decide +kernel
theorem dX6_isIn_11 : decode cX6_isIn 11 = .ok (.iconst 1, 1) := by decide +kernel
theorem dX6_isIn_12 : decode cX6_isIn 12 = .ok (.iload_n 1, 1) := by decide +kernel
theorem dX6_isIn_13 : decode cX6_isIn 13 = .ok (.ishl, 1) := by decide +kernel
theorem dX6_isIn_14 : decode cX6_isIn 14 = .ok (.iand, 1) := by decide +kernel
theorem dX6_isIn_15 : decode cX6_isIn 15 = .ok (.ifCond .eq 7, 3) := by decide +kernel
theorem dX6_isIn_18 : decode cX6_isIn 18 = .ok (.iconst 1, 1) := by decide +kernel
theorem dX6_isIn_19 : decode cX6_isIn 19 = .ok (.goto 4, 3) := by decide +kernel
theorem dX6_isIn_22 : decode cX6_isIn 22 = .ok (.iconst 0, 1) := by decide +kernel
theorem dX6_isIn_23 : decode cX6_isIn 23 = .ok (.ireturn, 1) := by decide +kernel
theorem dX6_isWithin_0 : decode cX6_isWithin 0 = .ok (.iload_n 0, 1) := by decide +kernel
theorem dX6_isWithin_1 : decode cX6_isWithin 1 = .ok (.iload_n 1, 1) := by decide +kernel
theorem dX6_isWithin_2 : decode cX6_isWithin 2 = .ok (.if_icmp .lt 12, 3) := by decide +kernel
theorem dX6_isWithin_5 : decode cX6_isWithin 5 = .ok (.iload_n 0, 1) := by decide +kernel
theorem dX6_isWithin_6 : decode cX6_isWithin 6 = .ok (.iload_n 2, 1) := by decide +kernel
theorem dX6_isWithin_7 : decode cX6_isWithin 7 = .ok (.if_icmp .gt 7, 3) := by decide +kernel
theorem dX6_isWithin_10 : decode cX6_isWithin 10 = .ok (.iconst 1, 1) := by decide +kernel
theorem dX6_isWithin_11 : decode cX6_isWithin 11 = .ok (.goto 4, 3) := by decide +kernel
theorem dX6_isWithin_14 : decode cX6_isWithin 14 = .ok (.iconst 0, 1) := by decide +kernel
theorem dX6_isWithin_15 : decode cX6_isWithin 15 = .ok (.ireturn, 1) := by decide +kernel
end
section
theorem dX7_init_0 : decode cX7_init 0 = .ok (.aload_n 0, 1) := by decide +kernel
theorem dX7_init_1 : decode cX7_init 1 = .ok (.invokespecial 1, 3) := by decide +kernel
theorem dX7_init_4 : decode cX7_init 4 = .ok (.aload_n 0, 1) := by decide +kernel
theorem dX7_init_5 : decode cX7_init 5 = .ok (.bipush 6, 2) := by decide +kernel
theorem dX7_init_7 : decode cX7_init 7 = .ok (.newarray .int, 2) := by decide +kernel
theorem dX7_init_9 : decode cX7_init 9 = .ok (.putfield 7, 3) := by decide +kernel
theorem dX7_init_12 : decode cX7_init 12 = .ok (.aload_n 0, 1) := by decide +kernel
theorem dX7_init_13 : decode cX7_init 13 = .ok (.bipush 16, 2) := by decide +kernel
theorem dX7_init_15 : decode cX7_init 15 = .ok (.newarray .int, 2) := by decide +kernel
theorem dX7_init_17 : decode cX7_init 17 = .ok (.putfield 13, 3) := by decide +kernel
theorem dX7_init_20 : decode cX7_init 20 = .ok (.aload_n 0, 1) := by decide +kernel
theorem dX7_init_21 : decode cX7_init 21 = .ok (.bipush 8, 2) := by decide +kernel
theorem dX7_init_23 : decode cX7_init 23 = .ok (.newarray .int, 2) := by decide +kernel
theorem dX7_init_25 : decode cX7_init 25 = .ok (.putfield 16, 3) := by decide +kernel
theorem dX7_init_28 : decode cX7_init 28 = .ok (.aload_n 0, 1) := by decide +kernel
theorem dX7_init_29 : decode cX7_init 29 = .ok (.bipush 8, 2) := by decide +kernel
theorem dX7_init_31 : decode cX7_init 31 = .ok (.newarray .int, 2) := by decide +kernel
theorem dX7_init_33 : decode cX7_init 33 = .ok (.putfield 19, 3) := by decide +kernel
theorem dX7_init_36 : decode cX7_init 36 = .ok (.aload_n 0, 1) := by decide +kernel
theorem dX7_init_37 : decode cX7_init 37 = .ok (.bipush 8, 2) := by decide +kernel
theorem dX7_init_39 : decode cX7_init 39 = .ok (.newarray .int, 2) := by decide +kernel
theorem dX7_init_41 : decode cX7_init 41 = .ok (.putfield 22, 3) := by decide +kernel
theorem dX7_init_44 : decode cX7_init 44 = .ok (.aload_n 0, 1) := by decide +kernel
theorem dX7_init_45 : decode cX7_init 45 = .ok (.bipush 8, 2) := by decide +kernel
theorem dX7_init_47 : decode cX7_init 47 = .ok (.newarray .int, 2) := by decide +kernel
theorem dX7_init_49 : decode cX7_init 49 = .ok (.putfield 25, 3) := by decide +kernel
theorem dX7_init_52 : decode cX7_init 52 = .ok (.aload_n 0, 1) := by decide +kernel
theorem dX7_init_53 : decode cX7_init 53 = .ok (.bipush 8, 2) := by decide +kernel
theorem dX7_init_55 : decode cX7_init 55 = .ok (.newarray .int, 2) := by decide +kernel
theorem dX7_init_57 : decode cX7_init 57 = .ok (.putfield 28, 3) := by decide +kernel
theorem dX7_init_60 : decode cX7_init 60 = .ok (.aload_n 0, 1) := by decide +kernel
theorem dX7_init_61 : decode cX7_init 61 = .ok (.bipush 8, 2) := by decide +kernel
theorem dX7_init_63 : decode cX7_init 63 = .ok (.newarray .int, 2) := by decide +kernel
theorem dX7_init_65 : decode cX7_init 65 = .ok (.putfield 31, 3) := by decide +kernel
theorem dX7_init_68 : decode cX7_init 68 = .ok (.aload_n 0, 1) := by decide +kernel
theorem dX7_init_69 : decode cX7_init 69 = .ok (.bipush 8, 2) := by decide +kernel
theorem dX7_init_71 : decode cX7_init 71 = .ok (.newarray .int, 2) := by decide +kernel
theorem dX7_init_73 : decode cX7_init 73 = .ok (.putfield 34, 3) := by decide +kernel
theorem dX7_init_76 : decode cX7_init 76 = .ok (.aload_n 0, 1) := by decide +kernel
theorem dX7_init_77 : decode cX7_init 77 = .ok (.bipush 8, 2) := by decide +kernel
theorem dX7_init_79 : decode cX7_init 79 = .ok (.newarray .int, 2) := by decide +kernel
theorem dX7_init_81 : decode cX7_init 81 = .ok (.putfield 37, 3) := by decide +kernel
theorem dX7_init_84 : decode cX7_init 84 = .ok (.aload_n 0, 1) := by decide +kernel
theorem dX7_init_85 : decode cX7_init 85 = .ok (.bipush 8, 2) := by decide +kernel
theorem dX7_init_87 : decode cX7_init 87 = .ok (.newarray .int, 2) := by decide +kernel
theorem dX7_init_89 : decode cX7_init 89 = .ok (.putfield 40, 3) := by decide +kernel
theorem dX7_init_92 : decode cX7_init 92 = .ok (.aload_n 0, 1) := by decide +kernel
theorem dX7_init_93 : decode cX7_init 93 = .ok (.bipush 8, 2) := by decide +kernel
theorem dX7_init_95 : decode cX7_init 95 = .ok (.newarray .int, 2) := by decide +kernel
theorem dX7_init_97 : decode cX7_init 97 = .ok (.putfield 43, 3) := by decide +kernel
theorem dX7_init_100 : decode cX7_init 100 = .ok (.aload_n 0, 1) := by decide +kernel
theorem dX7_init_101 : decode cX7_init 101 = .ok (.bipush 8, 2) := by decide +kernel
theorem dX7_init_103 : decode cX7_init 103 = .ok (.newarray .int, 2) := by decide +kernel
theorem dX7_init_105 : decode cX7_init 105 = .ok (.putfield 46, 3) := by decide +kernel
theorem dX7_init_108 : decode cX7_init 108 = .ok (.aload_n 0, 1) := by decide +kernel
theorem dX7_init_109 : decode cX7_init 109 = .ok (.bipush 8, 2) := by decide +kernel
theorem dX7_init_111 : decode cX7_init 111 = .ok (.newarray .int, 2) := by decide +kernel
theorem dX7_init_113 : decode cX7_init 113 = .ok (.putfield 49, 3) := by decide +kernel
theorem dX7_init_116 : decode cX7_init 116 = .ok (.aload_n 0, 1) := by decide +kernel
theorem dX7_init_117 : decode cX7_init 117 = .ok (.sipush 2240, 3) := by decide +kernel
theorem dX7_init_120 : decode cX7_init 120 = .ok (.newarray .int, 2) := by decide +kernel
theorem dX7_init_122 : decode cX7_init 122 = .ok (.putfield 52, 3) := by decide +kernel
theorem dX7_init_125 : decode cX7_init 125 = .ok (.aload_n 0, 1) := by decide +kernel
theorem dX7_init_126 : decode cX7_init 126 = .ok (.iconst 4, 1) := by decide +kernel
theorem dX7_init_127 : decode cX7_init 127 = .ok (.newarray .int, 2) := by decide +kernel
theorem dX7_init_129 : decode cX7_init 129 = .ok (.putfield 55, 3) := by decide +kernel
theorem dX7_init_132 : decode cX7_init 132 = .ok (.aload_n 0, 1) := by decide +kernel
theorem dX7_init_133 : decode cX7_init 133 = .ok (.iconst 4, 1) := by decide +kernel
theorem dX7_init_134 : decode cX7_init 134 = .ok (.newarray .int, 2) := by decide +kernel
theorem dX7_init_136 : decode cX7_init 136 = .ok (.putfield 58, 3) := by decide +kernel
theorem dX7_init_139 : decode cX7_init 139 = .ok (.aload_n 0, 1) := by decide +kernel
theorem dX7_init_140 : decode cX7_init 140 = .ok (.iconst 4, 1) := by decide +kernel
theorem dX7_init_141 : decode cX7_init 141 = .ok (.newarray .int, 2) := by decide +kernel
theorem dX7_init_143 : decode cX7_init 143 = .ok (.putfield 61, 3) := by decide +kernel
theorem dX7_init_146 : decode cX7_init 146 = .ok (.iconst 0, 1) := by decide +kernel
theorem dX7_init_147 : decode cX7_init 147 = .ok (.istore_n 1, 1) := by decide +kernel
theorem dX7_init_148 : decode cX7_init 148 = .ok (.iload_n 1, 1) := by decide +kernel
theorem dX7_init_149 : decode cX7_init 149 = .ok (.bipush 6, 2) := by decide +kernel
theorem dX7_init_151 : decode cX7_init 151 = .ok (.if_icmp .ge 18, 3) := by decide +kernel
theorem dX7_init_154 : decode cX7_init 154 = .ok (.aload_n 0, 1) := by decide +kernel
theorem dX7_init_155 : decode cX7_init 155 = .ok (.getfield 7, 3) := by decide +kernel
theorem dX7_init_158 : decode cX7_init 158 = .ok (.iload_n 1, 1) := by decide +kernel
theorem dX7_init_159 : decode cX7_init 159 = .ok (.sipush 10000, 3) := by decide +kernel
theorem dX7_init_162 : decode cX7_init 162 = .ok (.iastore, 1) := by decide +kernel
theorem dX7_init_163 : decode cX7_init 163 = .ok (.iinc 1 1, 3) := by decide +kernel
theorem dX7_init_166 : decode cX7_init 166 = .ok (.goto (-18), 3) := by decide +kernel
theorem dX7_init_169 : decode cX7_init 169 = .ok (.return_, 1) := by decide +kernel
theorem dX7_isIn_0 : decode cX7_isIn 0 = .ok (.iload_n 0, 1) := by decide +kernel
theorem dX7_isIn_1 : decode cX7_isIn 1 = .ok (.iload_n 1, 1) := by decide +kernel
theorem dX7_isIn_2 : decode cX7_isIn 2 = .ok (.if_icmp .lt 12, 3) := by decide +kernel
theorem dX7_isIn_5 : decode cX7_isIn 5 = .ok (.iload_n 0, 1) := by decide +kernel
theorem dX7_isIn_6 : decode cX7_isIn 6 = .ok (.iload_n 2, 1) := by decide +kernel
theorem dX7_isIn_7 : decode cX7_isIn 7 = .ok (.if_icmp .gt 7, 3) := by decide +kernel
theorem dX7_isIn_10 : decode cX7_isIn 10 = .ok (.iconst 1, 1) := by decide +kernel
theorem dX7_isIn_11 : decode cX7_isIn 11 = .ok (.goto 4, 3) := by decide +kernel
theorem dX7_isIn_14 : decode cX7_isIn 14 = .ok (.iconst 0, 1) := by decide +kernel
theorem dX7_isIn_15 : decode cX7_isIn 15 = .ok (.ireturn, 1) := by decide +kernel
theorem dX7_isParty_0 : decode cX7_isParty 0 = .ok (.iload_n 0, 1) := by decide +kernel
theorem dX7_isParty_1 : decode cX7_isParty 1 = .ok (.iconst 0, 1) := by decide +kernel
theorem dX7_isParty_2 : decode cX7_isParty 2 = .ok (.iconst 5, 1) := by decide +kernel
theorem dX7_isParty_3 : decode cX7_isParty 3 = .ok (.invokestatic 64, 3) := by decide +kernel
theorem dX7_isParty_6 : decode cX7_isParty 6 = .ok (.ireturn, 1) := by decide +kernel
theorem dX7_has_0 : decode cX7_has 0 = .ok (.iload_n 0, 1) := by decide +kernel
theorem dX7_has_1 : decode cX7_has 1 = .ok (.iload_n 1, 1) := by decide +kernel
theorem dX7_has_2 : decode cX7_has 2 = .ok (.ishr, 1) := by decide +kernel
theorem dX7_has_3 : decode cX7_has 3 = .ok (.iconst 1, 1) := by decide +kernel
theorem dX7_has_4 : decode cX7_has 4 = .ok (.iand, 1) := by decide +kernel
theorem dX7_has_5 : decode cX7_has 5 = .ok (.iconst 1, 1) := by decide +kernel
theorem dX7_has_6 : decode cX7_has 6 = .ok (.if_icmp .ne 7, 3) := by decide +kernel
theorem dX7_has_9 : decode cX7_has 9 = .ok (.iconst 1, 1) := by decide +kernel
theorem dX7_has_10 : decode cX7_has 10 = .ok (.goto 4, 3) := by decide +kernel
theorem dX7_has_13 : decode cX7_has 13 = .ok (.iconst 0, 1) := by decide +kernel
theorem dX7_has_14 : decode cX7_has 14 = .ok (.ireturn, 1) := by decide +kernel
theorem dX7_size_0 : decode cX7_size 0 = .ok (.iconst 0, 1) := by decide +kernel
theorem dX7_size_1 : decode cX7_size 1 = .ok (.istore_n 1, 1) := by decide +kernel
theorem dX7_size_2 : decode cX7_size 2 = .ok (.iconst 0, 1) := by decide +kernel
theorem dX7_size_3 : decode cX7_size 3 = .ok (.istore_n 2, 1) := by decide +kernel
theorem dX7_size_4 : decode cX7_size 4 = .ok (.iload_n 2, 1) := by decide +kernel
theorem dX7_size_5 : decode cX7_size 5 = .ok (.bipush 6, 2) := by decide +kernel
theorem dX7_size_7 : decode cX7_size 7 = .ok (.if_icmp .ge 17, 3) := by decide +kernel
theorem dX7_size_10 : decode cX7_size 10 = .ok (.iload_n 1, 1) := by decide +kernel
theorem dX7_size_11 : decode cX7_size 11 = .ok (.iload_n 0, 1) := by decide +kernel
theorem dX7_size_12 : decode cX7_size 12 = .ok (.iload_n 2, 1) := by decide +kernel
theorem dX7_size_13 : decode cX7_size 13 = .ok (.ishr, 1) := by decide +kernel
theorem dX7_size_14 : decode cX7_size 14 = .ok (.iconst 1, 1) := by decide +kernel
theorem dX7_size_15 : decode cX7_size 15 = .ok (.iand, 1) := by decide +kernel
theorem dX7_size_16 : decode cX7_size 16 = .ok (.iadd, 1) := by decide +kernel
theorem dX7_size_17 : decode cX7_size 17 = .ok (.istore_n 1, 1) := by decide +kernel
theorem dX7_size_18 : decode cX7_size 18 = .ok (.iinc 2 1, 3) := by decide +kernel
theorem dX7_size_21 : decode cX7_size 21 = .ok (.goto (-17), 3) := by decide +kernel
theorem dX7_size_24 : decode cX7_size 24 = .ok (.iload_n 1, 1) := by decide +kernel
theorem dX7_size_25 : decode cX7_size 25 = .ok (.ireturn, 1) := by decide +kernel
theorem dX7_isChannel_0 : decode cX7_isChannel 0 = .ok (.iload_n 1, 1) := by decide +kernel
theorem dX7_isChannel_1 : decode cX7_isChannel 1 = .ok (.iconst 0, 1) := by decide +kernel
theorem dX7_isChannel_2 : decode cX7_isChannel 2 = .ok (.aload_n 0, 1) := by decide +kernel
theorem dX7_isChannel_3 : decode cX7_isChannel 3 = .ok (.getfield 68, 3) := by decide +kernel
theorem dX7_isChannel_6 : decode cX7_isChannel 6 = .ok (.iconst 1, 1) := by decide +kernel
theorem dX7_isChannel_7 : decode cX7_isChannel 7 = .ok (.isub, 1) := by decide +kernel
theorem dX7_isChannel_8 : decode cX7_isChannel 8 = .ok (.invokestatic 64, 3) := by decide +kernel
theorem dX7_isChannel_11 : decode cX7_isChannel 11 = .ok (.ireturn, 1) := by decide +kernel
theorem dX7_isState_0 : decode cX7_isState 0 = .ok (.iload_n 1, 1) := by decide +kernel
theorem dX7_isState_1 : decode cX7_isState 1 = .ok (.iconst 0, 1) := by decide +kernel
theorem dX7_isState_2 : decode cX7_isState 2 = .ok (.aload_n 0, 1) := by decide +kernel
theorem dX7_isState_3 : decode cX7_isState 3 = .ok (.getfield 72, 3) := by decide +kernel
theorem dX7_isState_6 : decode cX7_isState 6 = .ok (.iconst 1, 1) := by decide +kernel
theorem dX7_isState_7 : decode cX7_isState 7 = .ok (.isub, 1) := by decide +kernel
theorem dX7_isState_8 : decode cX7_isState 8 = .ok (.invokestatic 64, 3) := by decide +kernel
theorem dX7_isState_11 : decode cX7_isState 11 = .ok (.ireturn, 1) := by decide +kernel
theorem dX7_isMember_0 : decode cX7_isMember 0 = .ok (.iload_n 2, 1) := by decide +kernel
theorem dX7_isMember_1 : decode cX7_isMember 1 = .ok (.invokestatic 75, 3) := by decide +kernel
theorem dX7_isMember_4 : decode cX7_isMember 4 = .ok (.ifCond .eq 20, 3) := by decide +kernel
theorem dX7_isMember_7 : decode cX7_isMember 7 = .ok (.aload_n 0, 1) := by decide +kernel
theorem dX7_isMember_8 : decode cX7_isMember 8 = .ok (.getfield 16, 3) := by decide +kernel
theorem dX7_isMember_11 : decode cX7_isMember 11 = .ok (.iload_n 1, 1) := by decide +kernel
theorem dX7_isMember_12 : decode cX7_isMember 12 = .ok (.iaload, 1) := by decide +kernel
theorem dX7_isMember_13 : decode cX7_isMember 13 = .ok (.iload_n 2, 1) := by decide +kernel
theorem dX7_isMember_14 : decode cX7_isMember 14 = .ok (.invokestatic 79, 3) := by decide +kernel
theorem dX7_isMember_17 : decode cX7_isMember 17 = .ok (.ifCond .eq 7, 3) := by decide +kernel
theorem dX7_isMember_20 : decode cX7_isMember 20 = .ok (.iconst 1, 1) := by decide +kernel
theorem dX7_isMember_21 : decode cX7_isMember 21 = .ok (.goto 4, 3) := by decide +kernel
theorem dX7_isMember_24 : decode cX7_isMember 24 = .ok (.iconst 0, 1) := by decide +kernel
theorem dX7_isMember_25 : decode cX7_isMember 25 = .ok (.ireturn, 1) := by decide +kernel
theorem dX7_channelOf_0 : decode cX7_channelOf 0 = .ok (.aload_n 0, 1) := by decide +kernel
theorem dX7_channelOf_1 : decode cX7_channelOf 1 = .ok (.getfield 52, 3) := by decide +kernel
theorem dX7_channelOf_4 : decode cX7_channelOf 4 = .ok (.bipush 35, 2) := by decide +kernel
theorem dX7_channelOf_6 : decode cX7_channelOf 6 = .ok (.iload_n 1, 1) := by decide +kernel
theorem dX7_channelOf_7 : decode cX7_channelOf 7 = .ok (.imul, 1) := by decide +kernel
theorem dX7_channelOf_8 : decode cX7_channelOf 8 = .ok (.iconst 0, 1) := by decide +kernel
theorem dX7_channelOf_9 : decode cX7_channelOf 9 = .ok (.iadd, 1) := by decide +kernel
theorem dX7_channelOf_10 : decode cX7_channelOf 10 = .ok (.iaload, 1) := by decide +kernel
theorem dX7_channelOf_11 : decode cX7_channelOf 11 = .ok (.ireturn, 1) := by decide +kernel
theorem dX7_isOf_0 : decode cX7_isOf 0 = .ok (.aload_n 0, 1) := by decide +kernel
theorem dX7_isOf_1 : decode cX7_isOf 1 = .ok (.iload_n 1, 1) := by decide +kernel
theorem dX7_isOf_2 : decode cX7_isOf 2 = .ok (.invokevirtual 83, 3) := by decide +kernel
theorem dX7_isOf_5 : decode cX7_isOf 5 = .ok (.ifCond .eq 20, 3) := by decide +kernel
theorem dX7_isOf_8 : decode cX7_isOf 8 = .ok (.aload_n 0, 1) := by decide +kernel
theorem dX7_isOf_9 : decode cX7_isOf 9 = .ok (.aload_n 0, 1) := by decide +kernel
theorem dX7_isOf_10 : decode cX7_isOf 10 = .ok (.iload_n 1, 1) := by decide +kernel
theorem dX7_isOf_11 : decode cX7_isOf 11 = .ok (.invokevirtual 86, 3) := by decide +kernel
theorem dX7_isOf_14 : decode cX7_isOf 14 = .ok (.iload_n 2, 1) := by decide +kernel
theorem dX7_isOf_15 : decode cX7_isOf 15 = .ok (.invokevirtual 90, 3) := by decide +kernel
theorem dX7_isOf_18 : decode cX7_isOf 18 = .ok (.ifCond .eq 7, 3) := by decide +kernel
theorem dX7_isOf_21 : decode cX7_isOf 21 = .ok (.iconst 1, 1) := by decide +kernel
theorem dX7_isOf_22 : decode cX7_isOf 22 = .ok (.goto 4, 3) := by decide +kernel
theorem dX7_isOf_25 : decode cX7_isOf 25 = .ok (.iconst 0, 1) := by decide +kernel
theorem dX7_isOf_26 : decode cX7_isOf 26 = .ok (.ireturn, 1) := by decide +kernel
theorem dX7_lockAt_0 : decode cX7_lockAt 0 = .ok (.bipush 35, 2) := by decide +kernel
theorem dX7_lockAt_2 : decode cX7_lockAt 2 = .ok (.iload_n 0, 1) := by decide +kernel
theorem dX7_lockAt_3 : decode cX7_lockAt 3 = .ok (.imul, 1) := by decide +kernel
theorem dX7_lockAt_4 : decode cX7_lockAt 4 = .ok (.bipush 16, 2) := by decide +kernel
theorem dX7_lockAt_6 : decode cX7_lockAt 6 = .ok (.iadd, 1) := by decide +kernel
theorem dX7_lockAt_7 : decode cX7_lockAt 7 = .ok (.iconst 5, 1) := by decide +kernel
theorem dX7_lockAt_8 : decode cX7_lockAt 8 = .ok (.iload_n 1, 1) := by decide +kernel
theorem dX7_lockAt_9 : decode cX7_lockAt 9 = .ok (.imul, 1) := by decide +kernel
theorem dX7_lockAt_10 : decode cX7_lockAt 10 = .ok (.iadd, 1) := by decide +kernel
theorem dX7_lockAt_11 : decode cX7_lockAt 11 = .ok (.ireturn, 1) := by decide +kernel
theorem dX7_whole_0 : decode cX7_whole 0 = .ok (.aload_n 0, 1) := by decide +kernel
theorem dX7_whole_1 : decode cX7_whole 1 = .ok (.getfield 52, 3) := by decide +kernel
theorem dX7_whole_4 : decode cX7_whole 4 = .ok (.bipush 35, 2) := by decide +kernel
theorem dX7_whole_6 : decode cX7_whole 6 = .ok (.iload_n 1, 1) := by decide +kernel
theorem dX7_whole_7 : decode cX7_whole 7 = .ok (.imul, 1) := by decide +kernel
theorem dX7_whole_8 : decode cX7_whole 8 = .ok (.bipush 31, 2) := by decide +kernel
theorem dX7_whole_10 : decode cX7_whole 10 = .ok (.iadd, 1) := by decide +kernel
theorem dX7_whole_11 : decode cX7_whole 11 = .ok (.iaload, 1) := by decide +kernel
theorem dX7_whole_12 : decode cX7_whole 12 = .ok (.istore_n 2, 1) := by decide +kernel
theorem dX7_whole_13 : decode cX7_whole 13 = .ok (.iconst 0, 1) := by decide +kernel
theorem dX7_whole_14 : decode cX7_whole 14 = .ok (.istore_n 3, 1) := by decide +kernel
theorem dX7_whole_15 : decode cX7_whole 15 = .ok (.iload_n 3, 1) := by decide +kernel
theorem dX7_whole_16 : decode cX7_whole 16 = .ok (.bipush 6, 2) := by decide +kernel
theorem dX7_whole_18 : decode cX7_whole 18 = .ok (.if_icmp .ge 25, 3) := by decide +kernel
theorem dX7_whole_21 : decode cX7_whole 21 = .ok (.iload_n 2, 1) := by decide +kernel
theorem dX7_whole_22 : decode cX7_whole 22 = .ok (.aload_n 0, 1) := by decide +kernel
theorem dX7_whole_23 : decode cX7_whole 23 = .ok (.getfield 52, 3) := by decide +kernel
theorem dX7_whole_26 : decode cX7_whole 26 = .ok (.bipush 35, 2) := by decide +kernel
theorem dX7_whole_28 : decode cX7_whole 28 = .ok (.iload_n 1, 1) := by decide +kernel
theorem dX7_whole_29 : decode cX7_whole 29 = .ok (.imul, 1) := by decide +kernel
theorem dX7_whole_30 : decode cX7_whole 30 = .ok (.iconst 4, 1) := by decide +kernel
theorem dX7_whole_31 : decode cX7_whole 31 = .ok (.iadd, 1) := by decide +kernel
theorem dX7_whole_32 : decode cX7_whole 32 = .ok (.iload_n 3, 1) := by decide +kernel
theorem dX7_whole_33 : decode cX7_whole 33 = .ok (.iadd, 1) := by decide +kernel
theorem dX7_whole_34 : decode cX7_whole 34 = .ok (.iaload, 1) := by decide +kernel
theorem dX7_whole_35 : decode cX7_whole 35 = .ok (.iadd, 1) := by decide +kernel
theorem dX7_whole_36 : decode cX7_whole 36 = .ok (.istore_n 2, 1) := by decide +kernel
theorem dX7_whole_37 : decode cX7_whole 37 = .ok (.iinc 3 1, 3) := by decide +kernel
theorem dX7_whole_40 : decode cX7_whole 40 = .ok (.goto (-25), 3) := by decide +kernel
theorem dX7_whole_43 : decode cX7_whole 43 = .ok (.iconst 0, 1) := by decide +kernel
theorem dX7_whole_44 : decode cX7_whole 44 = .ok (.istore_n 3, 1) := by decide +kernel
theorem dX7_whole_45 : decode cX7_whole 45 = .ok (.iload_n 3, 1) := by decide +kernel
theorem dX7_whole_46 : decode cX7_whole 46 = .ok (.iconst 3, 1) := by decide +kernel
theorem dX7_whole_47 : decode cX7_whole 47 = .ok (.if_icmp .ge 24, 3) := by decide +kernel
theorem dX7_whole_50 : decode cX7_whole 50 = .ok (.iload_n 2, 1) := by decide +kernel
theorem dX7_whole_51 : decode cX7_whole 51 = .ok (.aload_n 0, 1) := by decide +kernel
theorem dX7_whole_52 : decode cX7_whole 52 = .ok (.getfield 52, 3) := by decide +kernel
theorem dX7_whole_55 : decode cX7_whole 55 = .ok (.iload_n 1, 1) := by decide +kernel
theorem dX7_whole_56 : decode cX7_whole 56 = .ok (.iload_n 3, 1) := by decide +kernel
theorem dX7_whole_57 : decode cX7_whole 57 = .ok (.invokestatic 93, 3) := by decide +kernel
theorem dX7_whole_60 : decode cX7_whole 60 = .ok (.iconst 0, 1) := by decide +kernel
theorem dX7_whole_61 : decode cX7_whole 61 = .ok (.iadd, 1) := by decide +kernel
theorem dX7_whole_62 : decode cX7_whole 62 = .ok (.iaload, 1) := by decide +kernel
theorem dX7_whole_63 : decode cX7_whole 63 = .ok (.iadd, 1) := by decide +kernel
theorem dX7_whole_64 : decode cX7_whole 64 = .ok (.istore_n 2, 1) := by decide +kernel
theorem dX7_whole_65 : decode cX7_whole 65 = .ok (.iinc 3 1, 3) := by decide +kernel
theorem dX7_whole_68 : decode cX7_whole 68 = .ok (.goto (-23), 3) := by decide +kernel
theorem dX7_whole_71 : decode cX7_whole 71 = .ok (.iload_n 2, 1) := by decide +kernel
theorem dX7_whole_72 : decode cX7_whole 72 = .ok (.ireturn, 1) := by decide +kernel
theorem dX7_counts_0 : decode cX7_counts 0 = .ok (.aload_n 0, 1) := by decide +kernel
theorem dX7_counts_1 : decode cX7_counts 1 = .ok (.iload_n 1, 1) := by decide +kernel
theorem dX7_counts_2 : decode cX7_counts 2 = .ok (.invokevirtual 86, 3) := by decide +kernel
theorem dX7_counts_5 : decode cX7_counts 5 = .ok (.istore_n 2, 1) := by decide +kernel
theorem dX7_counts_6 : decode cX7_counts 6 = .ok (.aload_n 0, 1) := by decide +kernel
theorem dX7_counts_7 : decode cX7_counts 7 = .ok (.getfield 25, 3) := by decide +kernel
theorem dX7_counts_10 : decode cX7_counts 10 = .ok (.iload_n 2, 1) := by decide +kernel
theorem dX7_counts_11 : decode cX7_counts 11 = .ok (.iaload, 1) := by decide +kernel
theorem dX7_counts_12 : decode cX7_counts 12 = .ok (.iconst 3, 1) := by decide +kernel
theorem dX7_counts_13 : decode cX7_counts 13 = .ok (.if_icmp .eq 41, 3) := by decide +kernel
theorem dX7_counts_16 : decode cX7_counts 16 = .ok (.aload_n 0, 1) := by decide +kernel
theorem dX7_counts_17 : decode cX7_counts 17 = .ok (.getfield 52, 3) := by decide +kernel
theorem dX7_counts_20 : decode cX7_counts 20 = .ok (.bipush 35, 2) := by decide +kernel
theorem dX7_counts_22 : decode cX7_counts 22 = .ok (.iload_n 1, 1) := by decide +kernel
theorem dX7_counts_23 : decode cX7_counts 23 = .ok (.imul, 1) := by decide +kernel
theorem dX7_counts_24 : decode cX7_counts 24 = .ok (.iconst 2, 1) := by decide +kernel
theorem dX7_counts_25 : decode cX7_counts 25 = .ok (.iadd, 1) := by decide +kernel
theorem dX7_counts_26 : decode cX7_counts 26 = .ok (.iaload, 1) := by decide +kernel
theorem dX7_counts_27 : decode cX7_counts 27 = .ok (.aload_n 0, 1) := by decide +kernel
theorem dX7_counts_28 : decode cX7_counts 28 = .ok (.getfield 16, 3) := by decide +kernel
theorem dX7_counts_31 : decode cX7_counts 31 = .ok (.iload_n 2, 1) := by decide +kernel
theorem dX7_counts_32 : decode cX7_counts 32 = .ok (.iaload, 1) := by decide +kernel
theorem dX7_counts_33 : decode cX7_counts 33 = .ok (.if_icmp .ne 21, 3) := by decide +kernel
theorem dX7_counts_36 : decode cX7_counts 36 = .ok (.aload_n 0, 1) := by decide +kernel
theorem dX7_counts_37 : decode cX7_counts 37 = .ok (.iload_n 1, 1) := by decide +kernel
theorem dX7_counts_38 : decode cX7_counts 38 = .ok (.invokevirtual 97, 3) := by decide +kernel
theorem dX7_counts_41 : decode cX7_counts 41 = .ok (.aload_n 0, 1) := by decide +kernel
theorem dX7_counts_42 : decode cX7_counts 42 = .ok (.getfield 22, 3) := by decide +kernel
theorem dX7_counts_45 : decode cX7_counts 45 = .ok (.iload_n 2, 1) := by decide +kernel
theorem dX7_counts_46 : decode cX7_counts 46 = .ok (.iaload, 1) := by decide +kernel
theorem dX7_counts_47 : decode cX7_counts 47 = .ok (.if_icmp .ne 7, 3) := by decide +kernel
theorem dX7_counts_50 : decode cX7_counts 50 = .ok (.iconst 1, 1) := by decide +kernel
theorem dX7_counts_51 : decode cX7_counts 51 = .ok (.goto 4, 3) := by decide +kernel
theorem dX7_counts_54 : decode cX7_counts 54 = .ok (.iconst 0, 1) := by decide +kernel
theorem dX7_counts_55 : decode cX7_counts 55 = .ok (.ireturn, 1) := by decide +kernel
theorem dX7_newest_0 : decode cX7_newest 0 = .ok (.aload_n 0, 1) := by decide +kernel
theorem dX7_newest_1 : decode cX7_newest 1 = .ok (.getfield 72, 3) := by decide +kernel
theorem dX7_newest_4 : decode cX7_newest 4 = .ok (.iconst 1, 1) := by decide +kernel
theorem dX7_newest_5 : decode cX7_newest 5 = .ok (.isub, 1) := by decide +kernel
theorem dX7_newest_6 : decode cX7_newest 6 = .ok (.istore_n 2, 1) := by decide +kernel
theorem dX7_newest_7 : decode cX7_newest 7 = .ok (.iload_n 2, 1) := by decide +kernel
theorem dX7_newest_8 : decode cX7_newest 8 = .ok (.ifCond .lt 26, 3) := by decide +kernel
theorem dX7_newest_11 : decode cX7_newest 11 = .ok (.aload_n 0, 1) := by decide +kernel
theorem dX7_newest_12 : decode cX7_newest 12 = .ok (.iload_n 2, 1) := by decide +kernel
theorem dX7_newest_13 : decode cX7_newest 13 = .ok (.invokevirtual 86, 3) := by decide +kernel
theorem dX7_newest_16 : decode cX7_newest 16 = .ok (.iload_n 1, 1) := by decide +kernel
theorem dX7_newest_17 : decode cX7_newest 17 = .ok (.if_icmp .ne 11, 3) := by decide +kernel
theorem dX7_newest_20 : decode cX7_newest 20 = .ok (.aload_n 0, 1) := by decide +kernel
theorem dX7_newest_21 : decode cX7_newest 21 = .ok (.iload_n 2, 1) := by decide +kernel
theorem dX7_newest_22 : decode cX7_newest 22 = .ok (.invokevirtual 100, 3) := by decide +kernel
theorem dX7_newest_25 : decode cX7_newest 25 = .ok (.ifCond .ne 9, 3) := by decide +kernel
theorem dX7_newest_28 : decode cX7_newest 28 = .ok (.iinc 2 (-1), 3) := by decide +kernel
theorem dX7_newest_31 : decode cX7_newest 31 = .ok (.goto (-24), 3) := by decide +kernel
theorem dX7_newest_34 : decode cX7_newest 34 = .ok (.iload_n 2, 1) := by decide +kernel
theorem dX7_newest_35 : decode cX7_newest 35 = .ok (.ireturn, 1) := by decide +kernel
theorem dX7_free_0 : decode cX7_free 0 = .ok (.aload_n 0, 1) := by decide +kernel
theorem dX7_free_1 : decode cX7_free 1 = .ok (.getfield 52, 3) := by decide +kernel
theorem dX7_free_4 : decode cX7_free 4 = .ok (.bipush 35, 2) := by decide +kernel
theorem dX7_free_6 : decode cX7_free 6 = .ok (.iload_n 1, 1) := by decide +kernel
theorem dX7_free_7 : decode cX7_free 7 = .ok (.imul, 1) := by decide +kernel
theorem dX7_free_8 : decode cX7_free 8 = .ok (.iconst 4, 1) := by decide +kernel
theorem dX7_free_9 : decode cX7_free 9 = .ok (.iadd, 1) := by decide +kernel
theorem dX7_free_10 : decode cX7_free 10 = .ok (.iload_n 2, 1) := by decide +kernel
theorem dX7_free_11 : decode cX7_free 11 = .ok (.iadd, 1) := by decide +kernel
theorem dX7_free_12 : decode cX7_free 12 = .ok (.iaload, 1) := by decide +kernel
theorem dX7_free_13 : decode cX7_free 13 = .ok (.aload_n 0, 1) := by decide +kernel
theorem dX7_free_14 : decode cX7_free 14 = .ok (.getfield 52, 3) := by decide +kernel
theorem dX7_free_17 : decode cX7_free 17 = .ok (.bipush 35, 2) := by decide +kernel
theorem dX7_free_19 : decode cX7_free 19 = .ok (.iload_n 1, 1) := by decide +kernel
theorem dX7_free_20 : decode cX7_free 20 = .ok (.imul, 1) := by decide +kernel
theorem dX7_free_21 : decode cX7_free 21 = .ok (.bipush 10, 2) := by decide +kernel
theorem dX7_free_23 : decode cX7_free 23 = .ok (.iadd, 1) := by decide +kernel
theorem dX7_free_24 : decode cX7_free 24 = .ok (.iload_n 2, 1) := by decide +kernel
theorem dX7_free_25 : decode cX7_free 25 = .ok (.iadd, 1) := by decide +kernel
theorem dX7_free_26 : decode cX7_free 26 = .ok (.iaload, 1) := by decide +kernel
theorem dX7_free_27 : decode cX7_free 27 = .ok (.isub, 1) := by decide +kernel
theorem dX7_free_28 : decode cX7_free 28 = .ok (.ireturn, 1) := by decide +kernel
theorem dX7_isFixed_0 : decode cX7_isFixed 0 = .ok (.aload_n 0, 1) := by decide +kernel
theorem dX7_isFixed_1 : decode cX7_isFixed 1 = .ok (.getfield 25, 3) := by decide +kernel
theorem dX7_isFixed_4 : decode cX7_isFixed 4 = .ok (.aload_n 0, 1) := by decide +kernel
theorem dX7_isFixed_5 : decode cX7_isFixed 5 = .ok (.iload_n 1, 1) := by decide +kernel
theorem dX7_isFixed_6 : decode cX7_isFixed 6 = .ok (.invokevirtual 86, 3) := by decide +kernel
theorem dX7_isFixed_9 : decode cX7_isFixed 9 = .ok (.iaload, 1) := by decide +kernel
theorem dX7_isFixed_10 : decode cX7_isFixed 10 = .ok (.iconst 3, 1) := by decide +kernel
theorem dX7_isFixed_11 : decode cX7_isFixed 11 = .ok (.if_icmp .eq 17, 3) := by decide +kernel
theorem dX7_isFixed_14 : decode cX7_isFixed 14 = .ok (.aload_n 0, 1) := by decide +kernel
theorem dX7_isFixed_15 : decode cX7_isFixed 15 = .ok (.getfield 52, 3) := by decide +kernel
theorem dX7_isFixed_18 : decode cX7_isFixed 18 = .ok (.bipush 35, 2) := by decide +kernel
theorem dX7_isFixed_20 : decode cX7_isFixed 20 = .ok (.iload_n 1, 1) := by decide +kernel
theorem dX7_isFixed_21 : decode cX7_isFixed 21 = .ok (.imul, 1) := by decide +kernel
theorem dX7_isFixed_22 : decode cX7_isFixed 22 = .ok (.iconst 2, 1) := by decide +kernel
theorem dX7_isFixed_23 : decode cX7_isFixed 23 = .ok (.iadd, 1) := by decide +kernel
theorem dX7_isFixed_24 : decode cX7_isFixed 24 = .ok (.iaload, 1) := by decide +kernel
theorem dX7_isFixed_25 : decode cX7_isFixed 25 = .ok (.ifCond .eq 7, 3) := by decide +kernel
theorem dX7_isFixed_28 : decode cX7_isFixed 28 = .ok (.iconst 1, 1) := by decide +kernel
theorem dX7_isFixed_29 : decode cX7_isFixed 29 = .ok (.goto 4, 3) := by decide +kernel
theorem dX7_isFixed_32 : decode cX7_isFixed 32 = .ok (.iconst 0, 1) := by decide +kernel
theorem dX7_isFixed_33 : decode cX7_isFixed 33 = .ok (.ireturn, 1) := by decide +kernel
theorem dX7_emptyPlace_0 : decode cX7_emptyPlace 0 = .ok (.iconst 0, 1) := by decide +kernel
theorem dX7_emptyPlace_1 : decode cX7_emptyPlace 1 = .ok (.istore_n 2, 1) := by decide +kernel
theorem dX7_emptyPlace_2 : decode cX7_emptyPlace 2 = .ok (.iload_n 2, 1) := by decide +kernel
theorem dX7_emptyPlace_3 : decode cX7_emptyPlace 3 = .ok (.iconst 3, 1) := by decide +kernel
theorem dX7_emptyPlace_4 : decode cX7_emptyPlace 4 = .ok (.if_icmp .ge 24, 3) := by decide +kernel
theorem dX7_emptyPlace_7 : decode cX7_emptyPlace 7 = .ok (.aload_n 0, 1) := by decide +kernel
theorem dX7_emptyPlace_8 : decode cX7_emptyPlace 8 = .ok (.getfield 52, 3) := by decide +kernel
theorem dX7_emptyPlace_11 : decode cX7_emptyPlace 11 = .ok (.iload_n 1, 1) := by decide +kernel
theorem dX7_emptyPlace_12 : decode cX7_emptyPlace 12 = .ok (.iload_n 2, 1) := by decide +kernel
theorem dX7_emptyPlace_13 : decode cX7_emptyPlace 13 = .ok (.invokestatic 93, 3) := by decide +kernel
theorem dX7_emptyPlace_16 : decode cX7_emptyPlace 16 = .ok (.iconst 0, 1) := by decide +kernel
theorem dX7_emptyPlace_17 : decode cX7_emptyPlace 17 = .ok (.iadd, 1) := by decide +kernel
theorem dX7_emptyPlace_18 : decode cX7_emptyPlace 18 = .ok (.iaload, 1) := by decide +kernel
theorem dX7_emptyPlace_19 : decode cX7_emptyPlace 19 = .ok (.ifCond .le 9, 3) := by decide +kernel
theorem dX7_emptyPlace_22 : decode cX7_emptyPlace 22 = .ok (.iinc 2 1, 3) := by decide +kernel
theorem dX7_emptyPlace_25 : decode cX7_emptyPlace 25 = .ok (.goto (-23), 3) := by decide +kernel
theorem dX7_emptyPlace_28 : decode cX7_emptyPlace 28 = .ok (.iload_n 2, 1) := by decide +kernel
theorem dX7_emptyPlace_29 : decode cX7_emptyPlace 29 = .ok (.iconst 3, 1) := by decide +kernel
theorem dX7_emptyPlace_30 : decode cX7_emptyPlace 30 = .ok (.if_icmp .ne 7, 3) := by decide +kernel
theorem dX7_emptyPlace_33 : decode cX7_emptyPlace 33 = .ok (.iconst (-1), 1) := by decide +kernel
theorem dX7_emptyPlace_34 : decode cX7_emptyPlace 34 = .ok (.goto 4, 3) := by decide +kernel
theorem dX7_emptyPlace_37 : decode cX7_emptyPlace 37 = .ok (.iload_n 2, 1) := by decide +kernel
theorem dX7_emptyPlace_38 : decode cX7_emptyPlace 38 = .ok (.ireturn, 1) := by decide +kernel
theorem dX7_shows_0 : decode cX7_shows 0 = .ok (.aload_n 0, 1) := by decide +kernel
theorem dX7_shows_1 : decode cX7_shows 1 = .ok (.iload_n 1, 1) := by decide +kernel
theorem dX7_shows_2 : decode cX7_shows 2 = .ok (.invokevirtual 86, 3) := by decide +kernel
theorem dX7_shows_5 : decode cX7_shows 5 = .ok (.istore_n 2, 1) := by decide +kernel
theorem dX7_shows_6 : decode cX7_shows 6 = .ok (.aload_n 0, 1) := by decide +kernel
theorem dX7_shows_7 : decode cX7_shows 7 = .ok (.getfield 25, 3) := by decide +kernel
theorem dX7_shows_10 : decode cX7_shows 10 = .ok (.iload_n 2, 1) := by decide +kernel
theorem dX7_shows_11 : decode cX7_shows 11 = .ok (.iaload, 1) := by decide +kernel
theorem dX7_shows_12 : decode cX7_shows 12 = .ok (.iconst 1, 1) := by decide +kernel
theorem dX7_shows_13 : decode cX7_shows 13 = .ok (.if_icmp .ne 37, 3) := by decide +kernel
theorem dX7_shows_16 : decode cX7_shows 16 = .ok (.aload_n 0, 1) := by decide +kernel
theorem dX7_shows_17 : decode cX7_shows 17 = .ok (.getfield 25, 3) := by decide +kernel
theorem dX7_shows_20 : decode cX7_shows 20 = .ok (.iload_n 2, 1) := by decide +kernel
theorem dX7_shows_21 : decode cX7_shows 21 = .ok (.iconst 2, 1) := by decide +kernel
theorem dX7_shows_22 : decode cX7_shows 22 = .ok (.iastore, 1) := by decide +kernel
theorem dX7_shows_23 : decode cX7_shows 23 = .ok (.aload_n 0, 1) := by decide +kernel
theorem dX7_shows_24 : decode cX7_shows 24 = .ok (.getfield 28, 3) := by decide +kernel
theorem dX7_shows_27 : decode cX7_shows 27 = .ok (.iload_n 2, 1) := by decide +kernel
theorem dX7_shows_28 : decode cX7_shows 28 = .ok (.iload_n 1, 1) := by decide +kernel
theorem dX7_shows_29 : decode cX7_shows 29 = .ok (.iastore, 1) := by decide +kernel
theorem dX7_shows_30 : decode cX7_shows 30 = .ok (.aload_n 0, 1) := by decide +kernel
theorem dX7_shows_31 : decode cX7_shows 31 = .ok (.getfield 31, 3) := by decide +kernel
theorem dX7_shows_34 : decode cX7_shows 34 = .ok (.iload_n 2, 1) := by decide +kernel
theorem dX7_shows_35 : decode cX7_shows 35 = .ok (.aload_n 0, 1) := by decide +kernel
theorem dX7_shows_36 : decode cX7_shows 36 = .ok (.getfield 103, 3) := by decide +kernel
theorem dX7_shows_39 : decode cX7_shows 39 = .ok (.aload_n 0, 1) := by decide +kernel
theorem dX7_shows_40 : decode cX7_shows 40 = .ok (.getfield 19, 3) := by decide +kernel
theorem dX7_shows_43 : decode cX7_shows 43 = .ok (.iload_n 2, 1) := by decide +kernel
theorem dX7_shows_44 : decode cX7_shows 44 = .ok (.iaload, 1) := by decide +kernel
theorem dX7_shows_45 : decode cX7_shows 45 = .ok (.iadd, 1) := by decide +kernel
theorem dX7_shows_46 : decode cX7_shows 46 = .ok (.iastore, 1) := by decide +kernel
theorem dX7_shows_47 : decode cX7_shows 47 = .ok (.goto 40, 3) := by decide +kernel
theorem dX7_shows_50 : decode cX7_shows 50 = .ok (.aload_n 0, 1) := by decide +kernel
theorem dX7_shows_51 : decode cX7_shows 51 = .ok (.getfield 52, 3) := by decide +kernel
theorem dX7_shows_54 : decode cX7_shows 54 = .ok (.bipush 35, 2) := by decide +kernel
theorem dX7_shows_56 : decode cX7_shows 56 = .ok (.aload_n 0, 1) := by decide +kernel
theorem dX7_shows_57 : decode cX7_shows 57 = .ok (.getfield 28, 3) := by decide +kernel
theorem dX7_shows_60 : decode cX7_shows 60 = .ok (.iload_n 2, 1) := by decide +kernel
theorem dX7_shows_61 : decode cX7_shows 61 = .ok (.iaload, 1) := by decide +kernel
theorem dX7_shows_62 : decode cX7_shows 62 = .ok (.imul, 1) := by decide +kernel
theorem dX7_shows_63 : decode cX7_shows 63 = .ok (.iconst 1, 1) := by decide +kernel
theorem dX7_shows_64 : decode cX7_shows 64 = .ok (.iadd, 1) := by decide +kernel
theorem dX7_shows_65 : decode cX7_shows 65 = .ok (.iaload, 1) := by decide +kernel
theorem dX7_shows_66 : decode cX7_shows 66 = .ok (.aload_n 0, 1) := by decide +kernel
theorem dX7_shows_67 : decode cX7_shows 67 = .ok (.getfield 52, 3) := by decide +kernel
theorem dX7_shows_70 : decode cX7_shows 70 = .ok (.bipush 35, 2) := by decide +kernel
theorem dX7_shows_72 : decode cX7_shows 72 = .ok (.iload_n 1, 1) := by decide +kernel
theorem dX7_shows_73 : decode cX7_shows 73 = .ok (.imul, 1) := by decide +kernel
theorem dX7_shows_74 : decode cX7_shows 74 = .ok (.iconst 1, 1) := by decide +kernel
theorem dX7_shows_75 : decode cX7_shows 75 = .ok (.iadd, 1) := by decide +kernel
theorem dX7_shows_76 : decode cX7_shows 76 = .ok (.iaload, 1) := by decide +kernel
theorem dX7_shows_77 : decode cX7_shows 77 = .ok (.if_icmp .ge 10, 3) := by decide +kernel
theorem dX7_shows_80 : decode cX7_shows 80 = .ok (.aload_n 0, 1) := by decide +kernel
theorem dX7_shows_81 : decode cX7_shows 81 = .ok (.getfield 28, 3) := by decide +kernel
theorem dX7_shows_84 : decode cX7_shows 84 = .ok (.iload_n 2, 1) := by decide +kernel
theorem dX7_shows_85 : decode cX7_shows 85 = .ok (.iload_n 1, 1) := by decide +kernel
theorem dX7_shows_86 : decode cX7_shows 86 = .ok (.iastore, 1) := by decide +kernel
theorem dX7_shows_87 : decode cX7_shows 87 = .ok (.return_, 1) := by decide +kernel
theorem dX7_end_0 : decode cX7_end 0 = .ok (.aload_n 0, 1) := by decide +kernel
theorem dX7_end_1 : decode cX7_end 1 = .ok (.getfield 25, 3) := by decide +kernel
theorem dX7_end_4 : decode cX7_end 4 = .ok (.iload_n 1, 1) := by decide +kernel
theorem dX7_end_5 : decode cX7_end 5 = .ok (.iconst 3, 1) := by decide +kernel
theorem dX7_end_6 : decode cX7_end 6 = .ok (.iastore, 1) := by decide +kernel
theorem dX7_end_7 : decode cX7_end 7 = .ok (.aload_n 0, 1) := by decide +kernel
theorem dX7_end_8 : decode cX7_end 8 = .ok (.getfield 28, 3) := by decide +kernel
theorem dX7_end_11 : decode cX7_end 11 = .ok (.iload_n 1, 1) := by decide +kernel
theorem dX7_end_12 : decode cX7_end 12 = .ok (.iload_n 2, 1) := by decide +kernel
theorem dX7_end_13 : decode cX7_end 13 = .ok (.iastore, 1) := by decide +kernel
theorem dX7_end_14 : decode cX7_end 14 = .ok (.aload_n 0, 1) := by decide +kernel
theorem dX7_end_15 : decode cX7_end 15 = .ok (.getfield 34, 3) := by decide +kernel
theorem dX7_end_18 : decode cX7_end 18 = .ok (.iload_n 1, 1) := by decide +kernel
theorem dX7_end_19 : decode cX7_end 19 = .ok (.iconst 0, 1) := by decide +kernel
theorem dX7_end_20 : decode cX7_end 20 = .ok (.iastore, 1) := by decide +kernel
theorem dX7_end_21 : decode cX7_end 21 = .ok (.iconst 0, 1) := by decide +kernel
theorem dX7_end_22 : decode cX7_end 22 = .ok (.istore_n 3, 1) := by decide +kernel
theorem dX7_end_23 : decode cX7_end 23 = .ok (.iload_n 3, 1) := by decide +kernel
theorem dX7_end_24 : decode cX7_end 24 = .ok (.bipush 6, 2) := by decide +kernel
theorem dX7_end_26 : decode cX7_end 26 = .ok (.if_icmp .ge 53, 3) := by decide +kernel
theorem dX7_end_29 : decode cX7_end 29 = .ok (.aload_n 0, 1) := by decide +kernel
theorem dX7_end_30 : decode cX7_end 30 = .ok (.getfield 7, 3) := by decide +kernel
theorem dX7_end_33 : decode cX7_end 33 = .ok (.iload_n 3, 1) := by decide +kernel
theorem dX7_end_34 : decode cX7_end 34 = .ok (.dup2, 1) := by decide +kernel
theorem dX7_end_35 : decode cX7_end 35 = .ok (.iaload, 1) := by decide +kernel
theorem dX7_end_36 : decode cX7_end 36 = .ok (.aload_n 0, 1) := by decide +kernel
theorem dX7_end_37 : decode cX7_end 37 = .ok (.getfield 52, 3) := by decide +kernel
theorem dX7_end_40 : decode cX7_end 40 = .ok (.bipush 35, 2) := by decide +kernel
theorem dX7_end_42 : decode cX7_end 42 = .ok (.iload_n 2, 1) := by decide +kernel
theorem dX7_end_43 : decode cX7_end 43 = .ok (.imul, 1) := by decide +kernel
theorem dX7_end_44 : decode cX7_end 44 = .ok (.iconst 4, 1) := by decide +kernel
theorem dX7_end_45 : decode cX7_end 45 = .ok (.iadd, 1) := by decide +kernel
theorem dX7_end_46 : decode cX7_end 46 = .ok (.iload_n 3, 1) := by decide +kernel
theorem dX7_end_47 : decode cX7_end 47 = .ok (.iadd, 1) := by decide +kernel
theorem dX7_end_48 : decode cX7_end 48 = .ok (.iaload, 1) := by decide +kernel
theorem dX7_end_49 : decode cX7_end 49 = .ok (.iadd, 1) := by decide +kernel
theorem dX7_end_50 : decode cX7_end 50 = .ok (.iastore, 1) := by decide +kernel
theorem dX7_end_51 : decode cX7_end 51 = .ok (.aload_n 0, 1) := by decide +kernel
theorem dX7_end_52 : decode cX7_end 52 = .ok (.getfield 22, 3) := by decide +kernel
theorem dX7_end_55 : decode cX7_end 55 = .ok (.iload_n 1, 1) := by decide +kernel
theorem dX7_end_56 : decode cX7_end 56 = .ok (.dup2, 1) := by decide +kernel
theorem dX7_end_57 : decode cX7_end 57 = .ok (.iaload, 1) := by decide +kernel
theorem dX7_end_58 : decode cX7_end 58 = .ok (.aload_n 0, 1) := by decide +kernel
theorem dX7_end_59 : decode cX7_end 59 = .ok (.getfield 52, 3) := by decide +kernel
theorem dX7_end_62 : decode cX7_end 62 = .ok (.bipush 35, 2) := by decide +kernel
theorem dX7_end_64 : decode cX7_end 64 = .ok (.iload_n 2, 1) := by decide +kernel
theorem dX7_end_65 : decode cX7_end 65 = .ok (.imul, 1) := by decide +kernel
theorem dX7_end_66 : decode cX7_end 66 = .ok (.iconst 4, 1) := by decide +kernel
theorem dX7_end_67 : decode cX7_end 67 = .ok (.iadd, 1) := by decide +kernel
theorem dX7_end_68 : decode cX7_end 68 = .ok (.iload_n 3, 1) := by decide +kernel
theorem dX7_end_69 : decode cX7_end 69 = .ok (.iadd, 1) := by decide +kernel
theorem dX7_end_70 : decode cX7_end 70 = .ok (.iaload, 1) := by decide +kernel
theorem dX7_end_71 : decode cX7_end 71 = .ok (.isub, 1) := by decide +kernel
theorem dX7_end_72 : decode cX7_end 72 = .ok (.iastore, 1) := by decide +kernel
theorem dX7_end_73 : decode cX7_end 73 = .ok (.iinc 3 1, 3) := by decide +kernel
theorem dX7_end_76 : decode cX7_end 76 = .ok (.goto (-53), 3) := by decide +kernel
theorem dX7_end_79 : decode cX7_end 79 = .ok (.iconst 0, 1) := by decide +kernel
theorem dX7_end_80 : decode cX7_end 80 = .ok (.istore_n 3, 1) := by decide +kernel
theorem dX7_end_81 : decode cX7_end 81 = .ok (.iload_n 3, 1) := by decide +kernel
theorem dX7_end_82 : decode cX7_end 82 = .ok (.iconst 3, 1) := by decide +kernel
theorem dX7_end_83 : decode cX7_end 83 = .ok (.if_icmp .ge 73, 3) := by decide +kernel
theorem dX7_end_86 : decode cX7_end 86 = .ok (.aload_n 0, 1) := by decide +kernel
theorem dX7_end_87 : decode cX7_end 87 = .ok (.getfield 52, 3) := by decide +kernel
theorem dX7_end_90 : decode cX7_end 90 = .ok (.iload_n 2, 1) := by decide +kernel
theorem dX7_end_91 : decode cX7_end 91 = .ok (.iload_n 3, 1) := by decide +kernel
theorem dX7_end_92 : decode cX7_end 92 = .ok (.invokestatic 93, 3) := by decide +kernel
theorem dX7_end_95 : decode cX7_end 95 = .ok (.iconst 0, 1) := by decide +kernel
theorem dX7_end_96 : decode cX7_end 96 = .ok (.iadd, 1) := by decide +kernel
theorem dX7_end_97 : decode cX7_end 97 = .ok (.iaload, 1) := by decide +kernel
theorem dX7_end_98 : decode cX7_end 98 = .ok (.ifCond .le 52, 3) := by decide +kernel
theorem dX7_end_101 : decode cX7_end 101 = .ok (.aload_n 0, 1) := by decide +kernel
theorem dX7_end_102 : decode cX7_end 102 = .ok (.getfield 34, 3) := by decide +kernel
theorem dX7_end_105 : decode cX7_end 105 = .ok (.iload_n 1, 1) := by decide +kernel
theorem dX7_end_106 : decode cX7_end 106 = .ok (.dup2, 1) := by decide +kernel
theorem dX7_end_107 : decode cX7_end 107 = .ok (.iaload, 1) := by decide +kernel
theorem dX7_end_108 : decode cX7_end 108 = .ok (.iconst 1, 1) := by decide +kernel
theorem dX7_end_109 : decode cX7_end 109 = .ok (.iload_n 3, 1) := by decide +kernel
theorem dX7_end_110 : decode cX7_end 110 = .ok (.ishl, 1) := by decide +kernel
theorem dX7_end_111 : decode cX7_end 111 = .ok (.iadd, 1) := by decide +kernel
theorem dX7_end_112 : decode cX7_end 112 = .ok (.iastore, 1) := by decide +kernel
theorem dX7_end_113 : decode cX7_end 113 = .ok (.aload_n 0, 1) := by decide +kernel
theorem dX7_end_114 : decode cX7_end 114 = .ok (.getfield 52, 3) := by decide +kernel
theorem dX7_end_117 : decode cX7_end 117 = .ok (.iload_n 2, 1) := by decide +kernel
theorem dX7_end_118 : decode cX7_end 118 = .ok (.iload_n 3, 1) := by decide +kernel
theorem dX7_end_119 : decode cX7_end 119 = .ok (.invokestatic 93, 3) := by decide +kernel
theorem dX7_end_122 : decode cX7_end 122 = .ok (.iconst 4, 1) := by decide +kernel
theorem dX7_end_123 : decode cX7_end 123 = .ok (.iadd, 1) := by decide +kernel
theorem dX7_end_124 : decode cX7_end 124 = .ok (.iaload, 1) := by decide +kernel
theorem dX7_end_125 : decode cX7_end 125 = .ok (.aload_n 0, 1) := by decide +kernel
theorem dX7_end_126 : decode cX7_end 126 = .ok (.getfield 103, 3) := by decide +kernel
theorem dX7_end_129 : decode cX7_end 129 = .ok (.if_icmp .gt 21, 3) := by decide +kernel
theorem dX7_end_132 : decode cX7_end 132 = .ok (.aload_n 0, 1) := by decide +kernel
theorem dX7_end_133 : decode cX7_end 133 = .ok (.iload_n 1, 1) := by decide +kernel
theorem dX7_end_134 : decode cX7_end 134 = .ok (.iload_n 3, 1) := by decide +kernel
theorem dX7_end_135 : decode cX7_end 135 = .ok (.aload_n 0, 1) := by decide +kernel
theorem dX7_end_136 : decode cX7_end 136 = .ok (.getfield 52, 3) := by decide +kernel
theorem dX7_end_139 : decode cX7_end 139 = .ok (.iload_n 2, 1) := by decide +kernel
theorem dX7_end_140 : decode cX7_end 140 = .ok (.iload_n 3, 1) := by decide +kernel
theorem dX7_end_141 : decode cX7_end 141 = .ok (.invokestatic 93, 3) := by decide +kernel
theorem dX7_end_144 : decode cX7_end 144 = .ok (.iconst 1, 1) := by decide +kernel
theorem dX7_end_145 : decode cX7_end 145 = .ok (.iadd, 1) := by decide +kernel
theorem dX7_end_146 : decode cX7_end 146 = .ok (.iaload, 1) := by decide +kernel
theorem dX7_end_147 : decode cX7_end 147 = .ok (.invokevirtual 106, 3) := by decide +kernel
theorem dX7_end_150 : decode cX7_end 150 = .ok (.iinc 3 1, 3) := by decide +kernel
theorem dX7_end_153 : decode cX7_end 153 = .ok (.goto (-72), 3) := by decide +kernel
theorem dX7_end_156 : decode cX7_end 156 = .ok (.aload_n 0, 1) := by decide +kernel
theorem dX7_end_157 : decode cX7_end 157 = .ok (.getfield 37, 3) := by decide +kernel
theorem dX7_end_160 : decode cX7_end 160 = .ok (.iload_n 1, 1) := by decide +kernel
theorem dX7_end_161 : decode cX7_end 161 = .ok (.aload_n 0, 1) := by decide +kernel
theorem dX7_end_162 : decode cX7_end 162 = .ok (.getfield 52, 3) := by decide +kernel
theorem dX7_end_165 : decode cX7_end 165 = .ok (.bipush 35, 2) := by decide +kernel
theorem dX7_end_167 : decode cX7_end 167 = .ok (.iload_n 2, 1) := by decide +kernel
theorem dX7_end_168 : decode cX7_end 168 = .ok (.imul, 1) := by decide +kernel
theorem dX7_end_169 : decode cX7_end 169 = .ok (.bipush 31, 2) := by decide +kernel
theorem dX7_end_171 : decode cX7_end 171 = .ok (.iadd, 1) := by decide +kernel
theorem dX7_end_172 : decode cX7_end 172 = .ok (.iaload, 1) := by decide +kernel
theorem dX7_end_173 : decode cX7_end 173 = .ok (.iastore, 1) := by decide +kernel
theorem dX7_end_174 : decode cX7_end 174 = .ok (.aload_n 0, 1) := by decide +kernel
theorem dX7_end_175 : decode cX7_end 175 = .ok (.getfield 40, 3) := by decide +kernel
theorem dX7_end_178 : decode cX7_end 178 = .ok (.iload_n 1, 1) := by decide +kernel
theorem dX7_end_179 : decode cX7_end 179 = .ok (.aload_n 0, 1) := by decide +kernel
theorem dX7_end_180 : decode cX7_end 180 = .ok (.getfield 52, 3) := by decide +kernel
theorem dX7_end_183 : decode cX7_end 183 = .ok (.bipush 35, 2) := by decide +kernel
theorem dX7_end_185 : decode cX7_end 185 = .ok (.iload_n 2, 1) := by decide +kernel
theorem dX7_end_186 : decode cX7_end 186 = .ok (.imul, 1) := by decide +kernel
theorem dX7_end_187 : decode cX7_end 187 = .ok (.bipush 32, 2) := by decide +kernel
theorem dX7_end_189 : decode cX7_end 189 = .ok (.iadd, 1) := by decide +kernel
theorem dX7_end_190 : decode cX7_end 190 = .ok (.iaload, 1) := by decide +kernel
theorem dX7_end_191 : decode cX7_end 191 = .ok (.iastore, 1) := by decide +kernel
theorem dX7_end_192 : decode cX7_end 192 = .ok (.aload_n 0, 1) := by decide +kernel
theorem dX7_end_193 : decode cX7_end 193 = .ok (.getfield 43, 3) := by decide +kernel
theorem dX7_end_196 : decode cX7_end 196 = .ok (.iload_n 1, 1) := by decide +kernel
theorem dX7_end_197 : decode cX7_end 197 = .ok (.aload_n 0, 1) := by decide +kernel
theorem dX7_end_198 : decode cX7_end 198 = .ok (.getfield 52, 3) := by decide +kernel
theorem dX7_end_201 : decode cX7_end 201 = .ok (.bipush 35, 2) := by decide +kernel
theorem dX7_end_203 : decode cX7_end 203 = .ok (.iload_n 2, 1) := by decide +kernel
theorem dX7_end_204 : decode cX7_end 204 = .ok (.imul, 1) := by decide +kernel
theorem dX7_end_205 : decode cX7_end 205 = .ok (.bipush 33, 2) := by decide +kernel
theorem dX7_end_207 : decode cX7_end 207 = .ok (.iadd, 1) := by decide +kernel
theorem dX7_end_208 : decode cX7_end 208 = .ok (.iaload, 1) := by decide +kernel
theorem dX7_end_209 : decode cX7_end 209 = .ok (.iastore, 1) := by decide +kernel
theorem dX7_end_210 : decode cX7_end 210 = .ok (.aload_n 0, 1) := by decide +kernel
theorem dX7_end_211 : decode cX7_end 211 = .ok (.getfield 46, 3) := by decide +kernel
theorem dX7_end_214 : decode cX7_end 214 = .ok (.iload_n 1, 1) := by decide +kernel
theorem dX7_end_215 : decode cX7_end 215 = .ok (.aload_n 0, 1) := by decide +kernel
theorem dX7_end_216 : decode cX7_end 216 = .ok (.getfield 52, 3) := by decide +kernel
theorem dX7_end_219 : decode cX7_end 219 = .ok (.bipush 35, 2) := by decide +kernel
theorem dX7_end_221 : decode cX7_end 221 = .ok (.iload_n 2, 1) := by decide +kernel
theorem dX7_end_222 : decode cX7_end 222 = .ok (.imul, 1) := by decide +kernel
theorem dX7_end_223 : decode cX7_end 223 = .ok (.bipush 34, 2) := by decide +kernel
theorem dX7_end_225 : decode cX7_end 225 = .ok (.iadd, 1) := by decide +kernel
theorem dX7_end_226 : decode cX7_end 226 = .ok (.iaload, 1) := by decide +kernel
theorem dX7_end_227 : decode cX7_end 227 = .ok (.iastore, 1) := by decide +kernel
theorem dX7_end_228 : decode cX7_end 228 = .ok (.aload_n 0, 1) := by decide +kernel
theorem dX7_end_229 : decode cX7_end 229 = .ok (.getfield 49, 3) := by decide +kernel
theorem dX7_end_232 : decode cX7_end 232 = .ok (.iload_n 1, 1) := by decide +kernel
theorem dX7_end_233 : decode cX7_end 233 = .ok (.aload_n 0, 1) := by decide +kernel
theorem dX7_end_234 : decode cX7_end 234 = .ok (.getfield 103, 3) := by decide +kernel
theorem dX7_end_237 : decode cX7_end 237 = .ok (.aload_n 0, 1) := by decide +kernel
theorem dX7_end_238 : decode cX7_end 238 = .ok (.getfield 19, 3) := by decide +kernel
theorem dX7_end_241 : decode cX7_end 241 = .ok (.iload_n 1, 1) := by decide +kernel
theorem dX7_end_242 : decode cX7_end 242 = .ok (.iaload, 1) := by decide +kernel
theorem dX7_end_243 : decode cX7_end 243 = .ok (.iadd, 1) := by decide +kernel
theorem dX7_end_244 : decode cX7_end 244 = .ok (.iastore, 1) := by decide +kernel
theorem dX7_end_245 : decode cX7_end 245 = .ok (.return_, 1) := by decide +kernel
theorem dX7_pays_0 : decode cX7_pays 0 = .ok (.aload_n 0, 1) := by decide +kernel
theorem dX7_pays_1 : decode cX7_pays 1 = .ok (.getfield 52, 3) := by decide +kernel
theorem dX7_pays_4 : decode cX7_pays 4 = .ok (.aload_n 0, 1) := by decide +kernel
theorem dX7_pays_5 : decode cX7_pays 5 = .ok (.getfield 28, 3) := by decide +kernel
theorem dX7_pays_8 : decode cX7_pays 8 = .ok (.iload_n 1, 1) := by decide +kernel
theorem dX7_pays_9 : decode cX7_pays 9 = .ok (.iaload, 1) := by decide +kernel
theorem dX7_pays_10 : decode cX7_pays 10 = .ok (.iload_n 2, 1) := by decide +kernel
theorem dX7_pays_11 : decode cX7_pays 11 = .ok (.invokestatic 93, 3) := by decide +kernel
theorem dX7_pays_14 : decode cX7_pays 14 = .ok (.iconst 0, 1) := by decide +kernel
theorem dX7_pays_15 : decode cX7_pays 15 = .ok (.iadd, 1) := by decide +kernel
theorem dX7_pays_16 : decode cX7_pays 16 = .ok (.iaload, 1) := by decide +kernel
theorem dX7_pays_17 : decode cX7_pays 17 = .ok (.istore 4, 2) := by decide +kernel
theorem dX7_pays_19 : decode cX7_pays 19 = .ok (.aload_n 0, 1) := by decide +kernel
theorem dX7_pays_20 : decode cX7_pays 20 = .ok (.getfield 7, 3) := by decide +kernel
theorem dX7_pays_23 : decode cX7_pays 23 = .ok (.iload_n 3, 1) := by decide +kernel
theorem dX7_pays_24 : decode cX7_pays 24 = .ok (.dup2, 1) := by decide +kernel
theorem dX7_pays_25 : decode cX7_pays 25 = .ok (.iaload, 1) := by decide +kernel
theorem dX7_pays_26 : decode cX7_pays 26 = .ok (.iload 4, 2) := by decide +kernel
theorem dX7_pays_28 : decode cX7_pays 28 = .ok (.iadd, 1) := by decide +kernel
theorem dX7_pays_29 : decode cX7_pays 29 = .ok (.iastore, 1) := by decide +kernel
theorem dX7_pays_30 : decode cX7_pays 30 = .ok (.aload_n 0, 1) := by decide +kernel
theorem dX7_pays_31 : decode cX7_pays 31 = .ok (.getfield 22, 3) := by decide +kernel
theorem dX7_pays_34 : decode cX7_pays 34 = .ok (.iload_n 1, 1) := by decide +kernel
theorem dX7_pays_35 : decode cX7_pays 35 = .ok (.dup2, 1) := by decide +kernel
theorem dX7_pays_36 : decode cX7_pays 36 = .ok (.iaload, 1) := by decide +kernel
theorem dX7_pays_37 : decode cX7_pays 37 = .ok (.iload 4, 2) := by decide +kernel
theorem dX7_pays_39 : decode cX7_pays 39 = .ok (.isub, 1) := by decide +kernel
theorem dX7_pays_40 : decode cX7_pays 40 = .ok (.iastore, 1) := by decide +kernel
theorem dX7_pays_41 : decode cX7_pays 41 = .ok (.aload_n 0, 1) := by decide +kernel
theorem dX7_pays_42 : decode cX7_pays 42 = .ok (.getfield 34, 3) := by decide +kernel
theorem dX7_pays_45 : decode cX7_pays 45 = .ok (.iload_n 1, 1) := by decide +kernel
theorem dX7_pays_46 : decode cX7_pays 46 = .ok (.dup2, 1) := by decide +kernel
theorem dX7_pays_47 : decode cX7_pays 47 = .ok (.iaload, 1) := by decide +kernel
theorem dX7_pays_48 : decode cX7_pays 48 = .ok (.iconst 1, 1) := by decide +kernel
theorem dX7_pays_49 : decode cX7_pays 49 = .ok (.iload_n 2, 1) := by decide +kernel
theorem dX7_pays_50 : decode cX7_pays 50 = .ok (.ishl, 1) := by decide +kernel
theorem dX7_pays_51 : decode cX7_pays 51 = .ok (.isub, 1) := by decide +kernel
theorem dX7_pays_52 : decode cX7_pays 52 = .ok (.iastore, 1) := by decide +kernel
theorem dX7_pays_53 : decode cX7_pays 53 = .ok (.return_, 1) := by decide +kernel
theorem dX7_canClaim_0 : decode cX7_canClaim 0 = .ok (.aload_n 0, 1) := by decide +kernel
theorem dX7_canClaim_1 : decode cX7_canClaim 1 = .ok (.getfield 28, 3) := by decide +kernel
theorem dX7_canClaim_4 : decode cX7_canClaim 4 = .ok (.iload_n 1, 1) := by decide +kernel
theorem dX7_canClaim_5 : decode cX7_canClaim 5 = .ok (.iaload, 1) := by decide +kernel
theorem dX7_canClaim_6 : decode cX7_canClaim 6 = .ok (.iload_n 2, 1) := by decide +kernel
theorem dX7_canClaim_7 : decode cX7_canClaim 7 = .ok (.invokestatic 93, 3) := by decide +kernel
theorem dX7_canClaim_10 : decode cX7_canClaim 10 = .ok (.istore 4, 2) := by decide +kernel
theorem dX7_canClaim_12 : decode cX7_canClaim 12 = .ok (.aload_n 0, 1) := by decide +kernel
theorem dX7_canClaim_13 : decode cX7_canClaim 13 = .ok (.getfield 34, 3) := by decide +kernel
theorem dX7_canClaim_16 : decode cX7_canClaim 16 = .ok (.iload_n 1, 1) := by decide +kernel
theorem dX7_canClaim_17 : decode cX7_canClaim 17 = .ok (.iaload, 1) := by decide +kernel
theorem dX7_canClaim_18 : decode cX7_canClaim 18 = .ok (.iload_n 2, 1) := by decide +kernel
theorem dX7_canClaim_19 : decode cX7_canClaim 19 = .ok (.invokestatic 79, 3) := by decide +kernel
theorem dX7_canClaim_22 : decode cX7_canClaim 22 = .ok (.ifCond .eq 41, 3) := by decide +kernel
theorem dX7_canClaim_25 : decode cX7_canClaim 25 = .ok (.aload_n 0, 1) := by decide +kernel
theorem dX7_canClaim_26 : decode cX7_canClaim 26 = .ok (.getfield 52, 3) := by decide +kernel
theorem dX7_canClaim_29 : decode cX7_canClaim 29 = .ok (.iload 4, 2) := by decide +kernel
theorem dX7_canClaim_31 : decode cX7_canClaim 31 = .ok (.iconst 2, 1) := by decide +kernel
theorem dX7_canClaim_32 : decode cX7_canClaim 32 = .ok (.iadd, 1) := by decide +kernel
theorem dX7_canClaim_33 : decode cX7_canClaim 33 = .ok (.iaload, 1) := by decide +kernel
theorem dX7_canClaim_34 : decode cX7_canClaim 34 = .ok (.iload_n 3, 1) := by decide +kernel
theorem dX7_canClaim_35 : decode cX7_canClaim 35 = .ok (.if_icmp .ne 28, 3) := by decide +kernel
theorem dX7_canClaim_38 : decode cX7_canClaim 38 = .ok (.aload_n 0, 1) := by decide +kernel
theorem dX7_canClaim_39 : decode cX7_canClaim 39 = .ok (.getfield 13, 3) := by decide +kernel
theorem dX7_canClaim_42 : decode cX7_canClaim 42 = .ok (.aload_n 0, 1) := by decide +kernel
theorem dX7_canClaim_43 : decode cX7_canClaim 43 = .ok (.getfield 52, 3) := by decide +kernel
theorem dX7_canClaim_46 : decode cX7_canClaim 46 = .ok (.iload 4, 2) := by decide +kernel
theorem dX7_canClaim_48 : decode cX7_canClaim 48 = .ok (.iconst 3, 1) := by decide +kernel
theorem dX7_canClaim_49 : decode cX7_canClaim 49 = .ok (.iadd, 1) := by decide +kernel
theorem dX7_canClaim_50 : decode cX7_canClaim 50 = .ok (.iaload, 1) := by decide +kernel
theorem dX7_canClaim_51 : decode cX7_canClaim 51 = .ok (.iaload, 1) := by decide +kernel
theorem dX7_canClaim_52 : decode cX7_canClaim 52 = .ok (.iload_n 3, 1) := by decide +kernel
theorem dX7_canClaim_53 : decode cX7_canClaim 53 = .ok (.invokestatic 79, 3) := by decide +kernel
theorem dX7_canClaim_56 : decode cX7_canClaim 56 = .ok (.ifCond .eq 7, 3) := by decide +kernel
theorem dX7_canClaim_59 : decode cX7_canClaim 59 = .ok (.iconst 1, 1) := by decide +kernel
theorem dX7_canClaim_60 : decode cX7_canClaim 60 = .ok (.goto 4, 3) := by decide +kernel
theorem dX7_canClaim_63 : decode cX7_canClaim 63 = .ok (.iconst 0, 1) := by decide +kernel
theorem dX7_canClaim_64 : decode cX7_canClaim 64 = .ok (.ireturn, 1) := by decide +kernel
theorem dX7_claims_0 : decode cX7_claims 0 = .ok (.aload_n 0, 1) := by decide +kernel
theorem dX7_claims_1 : decode cX7_claims 1 = .ok (.getfield 28, 3) := by decide +kernel
theorem dX7_claims_4 : decode cX7_claims 4 = .ok (.iload_n 1, 1) := by decide +kernel
theorem dX7_claims_5 : decode cX7_claims 5 = .ok (.iaload, 1) := by decide +kernel
theorem dX7_claims_6 : decode cX7_claims 6 = .ok (.iload_n 2, 1) := by decide +kernel
theorem dX7_claims_7 : decode cX7_claims 7 = .ok (.invokestatic 93, 3) := by decide +kernel
theorem dX7_claims_10 : decode cX7_claims 10 = .ok (.istore 4, 2) := by decide +kernel
theorem dX7_claims_12 : decode cX7_claims 12 = .ok (.aload_n 0, 1) := by decide +kernel
theorem dX7_claims_13 : decode cX7_claims 13 = .ok (.getfield 13, 3) := by decide +kernel
theorem dX7_claims_16 : decode cX7_claims 16 = .ok (.aload_n 0, 1) := by decide +kernel
theorem dX7_claims_17 : decode cX7_claims 17 = .ok (.getfield 52, 3) := by decide +kernel
theorem dX7_claims_20 : decode cX7_claims 20 = .ok (.iload 4, 2) := by decide +kernel
theorem dX7_claims_22 : decode cX7_claims 22 = .ok (.iconst 3, 1) := by decide +kernel
theorem dX7_claims_23 : decode cX7_claims 23 = .ok (.iadd, 1) := by decide +kernel
theorem dX7_claims_24 : decode cX7_claims 24 = .ok (.iaload, 1) := by decide +kernel
theorem dX7_claims_25 : decode cX7_claims 25 = .ok (.bipush 63, 2) := by decide +kernel
theorem dX7_claims_27 : decode cX7_claims 27 = .ok (.iastore, 1) := by decide +kernel
theorem dX7_claims_28 : decode cX7_claims 28 = .ok (.aload_n 0, 1) := by decide +kernel
theorem dX7_claims_29 : decode cX7_claims 29 = .ok (.iload_n 1, 1) := by decide +kernel
theorem dX7_claims_30 : decode cX7_claims 30 = .ok (.iload_n 2, 1) := by decide +kernel
theorem dX7_claims_31 : decode cX7_claims 31 = .ok (.iload_n 3, 1) := by decide +kernel
theorem dX7_claims_32 : decode cX7_claims 32 = .ok (.invokevirtual 106, 3) := by decide +kernel
theorem dX7_claims_35 : decode cX7_claims 35 = .ok (.aload_n 0, 1) := by decide +kernel
theorem dX7_claims_36 : decode cX7_claims 36 = .ok (.getfield 52, 3) := by decide +kernel
theorem dX7_claims_39 : decode cX7_claims 39 = .ok (.iload 4, 2) := by decide +kernel
theorem dX7_claims_41 : decode cX7_claims 41 = .ok (.iconst 0, 1) := by decide +kernel
theorem dX7_claims_42 : decode cX7_claims 42 = .ok (.iadd, 1) := by decide +kernel
theorem dX7_claims_43 : decode cX7_claims 43 = .ok (.iaload, 1) := by decide +kernel
theorem dX7_claims_44 : decode cX7_claims 44 = .ok (.ireturn, 1) := by decide +kernel
theorem dX7_wins_0 : decode cX7_wins 0 = .ok (.aload_n 0, 1) := by decide +kernel
theorem dX7_wins_1 : decode cX7_wins 1 = .ok (.getfield 7, 3) := by decide +kernel
theorem dX7_wins_4 : decode cX7_wins 4 = .ok (.iload_n 2, 1) := by decide +kernel
theorem dX7_wins_5 : decode cX7_wins 5 = .ok (.dup2, 1) := by decide +kernel
theorem dX7_wins_6 : decode cX7_wins 6 = .ok (.iaload, 1) := by decide +kernel
theorem dX7_wins_7 : decode cX7_wins 7 = .ok (.aload_n 0, 1) := by decide +kernel
theorem dX7_wins_8 : decode cX7_wins 8 = .ok (.getfield 37, 3) := by decide +kernel
theorem dX7_wins_11 : decode cX7_wins 11 = .ok (.iload_n 1, 1) := by decide +kernel
theorem dX7_wins_12 : decode cX7_wins 12 = .ok (.iaload, 1) := by decide +kernel
theorem dX7_wins_13 : decode cX7_wins 13 = .ok (.iadd, 1) := by decide +kernel
theorem dX7_wins_14 : decode cX7_wins 14 = .ok (.iastore, 1) := by decide +kernel
theorem dX7_wins_15 : decode cX7_wins 15 = .ok (.aload_n 0, 1) := by decide +kernel
theorem dX7_wins_16 : decode cX7_wins 16 = .ok (.getfield 22, 3) := by decide +kernel
theorem dX7_wins_19 : decode cX7_wins 19 = .ok (.iload_n 1, 1) := by decide +kernel
theorem dX7_wins_20 : decode cX7_wins 20 = .ok (.dup2, 1) := by decide +kernel
theorem dX7_wins_21 : decode cX7_wins 21 = .ok (.iaload, 1) := by decide +kernel
theorem dX7_wins_22 : decode cX7_wins 22 = .ok (.aload_n 0, 1) := by decide +kernel
theorem dX7_wins_23 : decode cX7_wins 23 = .ok (.getfield 37, 3) := by decide +kernel
theorem dX7_wins_26 : decode cX7_wins 26 = .ok (.iload_n 1, 1) := by decide +kernel
theorem dX7_wins_27 : decode cX7_wins 27 = .ok (.iaload, 1) := by decide +kernel
theorem dX7_wins_28 : decode cX7_wins 28 = .ok (.isub, 1) := by decide +kernel
theorem dX7_wins_29 : decode cX7_wins 29 = .ok (.iastore, 1) := by decide +kernel
theorem dX7_wins_30 : decode cX7_wins 30 = .ok (.aload_n 0, 1) := by decide +kernel
theorem dX7_wins_31 : decode cX7_wins 31 = .ok (.getfield 37, 3) := by decide +kernel
theorem dX7_wins_34 : decode cX7_wins 34 = .ok (.iload_n 1, 1) := by decide +kernel
theorem dX7_wins_35 : decode cX7_wins 35 = .ok (.iconst 0, 1) := by decide +kernel
theorem dX7_wins_36 : decode cX7_wins 36 = .ok (.iastore, 1) := by decide +kernel
theorem dX7_wins_37 : decode cX7_wins 37 = .ok (.aload_n 0, 1) := by decide +kernel
theorem dX7_wins_38 : decode cX7_wins 38 = .ok (.getfield 40, 3) := by decide +kernel
theorem dX7_wins_41 : decode cX7_wins 41 = .ok (.iload_n 1, 1) := by decide +kernel
theorem dX7_wins_42 : decode cX7_wins 42 = .ok (.iconst 0, 1) := by decide +kernel
theorem dX7_wins_43 : decode cX7_wins 43 = .ok (.iastore, 1) := by decide +kernel
theorem dX7_wins_44 : decode cX7_wins 44 = .ok (.return_, 1) := by decide +kernel
theorem dX7_steps_0 : decode cX7_steps 0 = .ok (.aload_n 0, 1) := by decide +kernel
theorem dX7_steps_1 : decode cX7_steps 1 = .ok (.getfield 40, 3) := by decide +kernel
theorem dX7_steps_4 : decode cX7_steps 4 = .ok (.iload_n 1, 1) := by decide +kernel
theorem dX7_steps_5 : decode cX7_steps 5 = .ok (.dup2, 1) := by decide +kernel
theorem dX7_steps_6 : decode cX7_steps 6 = .ok (.iaload, 1) := by decide +kernel
theorem dX7_steps_7 : decode cX7_steps 7 = .ok (.iload_n 2, 1) := by decide +kernel
theorem dX7_steps_8 : decode cX7_steps 8 = .ok (.isub, 1) := by decide +kernel
theorem dX7_steps_9 : decode cX7_steps 9 = .ok (.iastore, 1) := by decide +kernel
theorem dX7_steps_10 : decode cX7_steps 10 = .ok (.aload_n 0, 1) := by decide +kernel
theorem dX7_steps_11 : decode cX7_steps 11 = .ok (.getfield 40, 3) := by decide +kernel
theorem dX7_steps_14 : decode cX7_steps 14 = .ok (.iload_n 1, 1) := by decide +kernel
theorem dX7_steps_15 : decode cX7_steps 15 = .ok (.iaload, 1) := by decide +kernel
theorem dX7_steps_16 : decode cX7_steps 16 = .ok (.ifCond .ne 17, 3) := by decide +kernel
theorem dX7_steps_19 : decode cX7_steps 19 = .ok (.aload_n 0, 1) := by decide +kernel
theorem dX7_steps_20 : decode cX7_steps 20 = .ok (.iload_n 1, 1) := by decide +kernel
theorem dX7_steps_21 : decode cX7_steps 21 = .ok (.aload_n 0, 1) := by decide +kernel
theorem dX7_steps_22 : decode cX7_steps 22 = .ok (.getfield 43, 3) := by decide +kernel
theorem dX7_steps_25 : decode cX7_steps 25 = .ok (.iload_n 1, 1) := by decide +kernel
theorem dX7_steps_26 : decode cX7_steps 26 = .ok (.iaload, 1) := by decide +kernel
theorem dX7_steps_27 : decode cX7_steps 27 = .ok (.invokevirtual 110, 3) := by decide +kernel
theorem dX7_steps_30 : decode cX7_steps 30 = .ok (.goto 46, 3) := by decide +kernel
theorem dX7_steps_33 : decode cX7_steps 33 = .ok (.aload_n 0, 1) := by decide +kernel
theorem dX7_steps_34 : decode cX7_steps 34 = .ok (.getfield 43, 3) := by decide +kernel
theorem dX7_steps_37 : decode cX7_steps 37 = .ok (.iload_n 1, 1) := by decide +kernel
theorem dX7_steps_38 : decode cX7_steps 38 = .ok (.iaload, 1) := by decide +kernel
theorem dX7_steps_39 : decode cX7_steps 39 = .ok (.istore_n 3, 1) := by decide +kernel
theorem dX7_steps_40 : decode cX7_steps 40 = .ok (.aload_n 0, 1) := by decide +kernel
theorem dX7_steps_41 : decode cX7_steps 41 = .ok (.getfield 43, 3) := by decide +kernel
theorem dX7_steps_44 : decode cX7_steps 44 = .ok (.iload_n 1, 1) := by decide +kernel
theorem dX7_steps_45 : decode cX7_steps 45 = .ok (.aload_n 0, 1) := by decide +kernel
theorem dX7_steps_46 : decode cX7_steps 46 = .ok (.getfield 46, 3) := by decide +kernel
theorem dX7_steps_49 : decode cX7_steps 49 = .ok (.iload_n 1, 1) := by decide +kernel
theorem dX7_steps_50 : decode cX7_steps 50 = .ok (.iaload, 1) := by decide +kernel
theorem dX7_steps_51 : decode cX7_steps 51 = .ok (.iastore, 1) := by decide +kernel
theorem dX7_steps_52 : decode cX7_steps 52 = .ok (.aload_n 0, 1) := by decide +kernel
theorem dX7_steps_53 : decode cX7_steps 53 = .ok (.getfield 46, 3) := by decide +kernel
theorem dX7_steps_56 : decode cX7_steps 56 = .ok (.iload_n 1, 1) := by decide +kernel
theorem dX7_steps_57 : decode cX7_steps 57 = .ok (.iload_n 3, 1) := by decide +kernel
theorem dX7_steps_58 : decode cX7_steps 58 = .ok (.iastore, 1) := by decide +kernel
theorem dX7_steps_59 : decode cX7_steps 59 = .ok (.aload_n 0, 1) := by decide +kernel
theorem dX7_steps_60 : decode cX7_steps 60 = .ok (.getfield 49, 3) := by decide +kernel
theorem dX7_steps_63 : decode cX7_steps 63 = .ok (.iload_n 1, 1) := by decide +kernel
theorem dX7_steps_64 : decode cX7_steps 64 = .ok (.aload_n 0, 1) := by decide +kernel
theorem dX7_steps_65 : decode cX7_steps 65 = .ok (.getfield 103, 3) := by decide +kernel
theorem dX7_steps_68 : decode cX7_steps 68 = .ok (.aload_n 0, 1) := by decide +kernel
theorem dX7_steps_69 : decode cX7_steps 69 = .ok (.getfield 19, 3) := by decide +kernel
theorem dX7_steps_72 : decode cX7_steps 72 = .ok (.iload_n 1, 1) := by decide +kernel
theorem dX7_steps_73 : decode cX7_steps 73 = .ok (.iaload, 1) := by decide +kernel
theorem dX7_steps_74 : decode cX7_steps 74 = .ok (.iadd, 1) := by decide +kernel
theorem dX7_steps_75 : decode cX7_steps 75 = .ok (.iastore, 1) := by decide +kernel
theorem dX7_steps_76 : decode cX7_steps 76 = .ok (.aload_n 0, 1) := by decide +kernel
theorem dX7_steps_77 : decode cX7_steps 77 = .ok (.getfield 40, 3) := by decide +kernel
theorem dX7_steps_80 : decode cX7_steps 80 = .ok (.iload_n 1, 1) := by decide +kernel
theorem dX7_steps_81 : decode cX7_steps 81 = .ok (.iaload, 1) := by decide +kernel
theorem dX7_steps_82 : decode cX7_steps 82 = .ok (.ireturn, 1) := by decide +kernel
theorem dX7_dues_0 : decode cX7_dues 0 = .ok (.aload_n 0, 1) := by decide +kernel
theorem dX7_dues_1 : decode cX7_dues 1 = .ok (.getfield 25, 3) := by decide +kernel
theorem dX7_dues_4 : decode cX7_dues 4 = .ok (.iload_n 1, 1) := by decide +kernel
theorem dX7_dues_5 : decode cX7_dues 5 = .ok (.iaload, 1) := by decide +kernel
theorem dX7_dues_6 : decode cX7_dues 6 = .ok (.iconst 2, 1) := by decide +kernel
theorem dX7_dues_7 : decode cX7_dues 7 = .ok (.if_icmp .ne 27, 3) := by decide +kernel
theorem dX7_dues_10 : decode cX7_dues 10 = .ok (.aload_n 0, 1) := by decide +kernel
theorem dX7_dues_11 : decode cX7_dues 11 = .ok (.getfield 31, 3) := by decide +kernel
theorem dX7_dues_14 : decode cX7_dues 14 = .ok (.iload_n 1, 1) := by decide +kernel
theorem dX7_dues_15 : decode cX7_dues 15 = .ok (.iaload, 1) := by decide +kernel
theorem dX7_dues_16 : decode cX7_dues 16 = .ok (.aload_n 0, 1) := by decide +kernel
theorem dX7_dues_17 : decode cX7_dues 17 = .ok (.getfield 103, 3) := by decide +kernel
theorem dX7_dues_20 : decode cX7_dues 20 = .ok (.if_icmp .ne 14, 3) := by decide +kernel
theorem dX7_dues_23 : decode cX7_dues 23 = .ok (.aload_n 0, 1) := by decide +kernel
theorem dX7_dues_24 : decode cX7_dues 24 = .ok (.iload_n 1, 1) := by decide +kernel
theorem dX7_dues_25 : decode cX7_dues 25 = .ok (.aload_n 0, 1) := by decide +kernel
theorem dX7_dues_26 : decode cX7_dues 26 = .ok (.getfield 28, 3) := by decide +kernel
theorem dX7_dues_29 : decode cX7_dues 29 = .ok (.iload_n 1, 1) := by decide +kernel
theorem dX7_dues_30 : decode cX7_dues 30 = .ok (.iaload, 1) := by decide +kernel
theorem dX7_dues_31 : decode cX7_dues 31 = .ok (.invokevirtual 114, 3) := by decide +kernel
theorem dX7_dues_34 : decode cX7_dues 34 = .ok (.iconst 0, 1) := by decide +kernel
theorem dX7_dues_35 : decode cX7_dues 35 = .ok (.istore_n 2, 1) := by decide +kernel
theorem dX7_dues_36 : decode cX7_dues 36 = .ok (.iload_n 2, 1) := by decide +kernel
theorem dX7_dues_37 : decode cX7_dues 37 = .ok (.iconst 3, 1) := by decide +kernel
theorem dX7_dues_38 : decode cX7_dues 38 = .ok (.if_icmp .ge 69, 3) := by decide +kernel
theorem dX7_dues_41 : decode cX7_dues 41 = .ok (.aload_n 0, 1) := by decide +kernel
theorem dX7_dues_42 : decode cX7_dues 42 = .ok (.getfield 34, 3) := by decide +kernel
theorem dX7_dues_45 : decode cX7_dues 45 = .ok (.iload_n 1, 1) := by decide +kernel
theorem dX7_dues_46 : decode cX7_dues 46 = .ok (.iaload, 1) := by decide +kernel
theorem dX7_dues_47 : decode cX7_dues 47 = .ok (.iload_n 2, 1) := by decide +kernel
theorem dX7_dues_48 : decode cX7_dues 48 = .ok (.invokestatic 79, 3) := by decide +kernel
theorem dX7_dues_51 : decode cX7_dues 51 = .ok (.ifCond .eq 50, 3) := by decide +kernel
theorem dX7_dues_54 : decode cX7_dues 54 = .ok (.aload_n 0, 1) := by decide +kernel
theorem dX7_dues_55 : decode cX7_dues 55 = .ok (.getfield 52, 3) := by decide +kernel
theorem dX7_dues_58 : decode cX7_dues 58 = .ok (.aload_n 0, 1) := by decide +kernel
theorem dX7_dues_59 : decode cX7_dues 59 = .ok (.getfield 28, 3) := by decide +kernel
theorem dX7_dues_62 : decode cX7_dues 62 = .ok (.iload_n 1, 1) := by decide +kernel
theorem dX7_dues_63 : decode cX7_dues 63 = .ok (.iaload, 1) := by decide +kernel
theorem dX7_dues_64 : decode cX7_dues 64 = .ok (.iload_n 2, 1) := by decide +kernel
theorem dX7_dues_65 : decode cX7_dues 65 = .ok (.invokestatic 93, 3) := by decide +kernel
theorem dX7_dues_68 : decode cX7_dues 68 = .ok (.iconst 4, 1) := by decide +kernel
theorem dX7_dues_69 : decode cX7_dues 69 = .ok (.iadd, 1) := by decide +kernel
theorem dX7_dues_70 : decode cX7_dues 70 = .ok (.iaload, 1) := by decide +kernel
theorem dX7_dues_71 : decode cX7_dues 71 = .ok (.aload_n 0, 1) := by decide +kernel
theorem dX7_dues_72 : decode cX7_dues 72 = .ok (.getfield 103, 3) := by decide +kernel
theorem dX7_dues_75 : decode cX7_dues 75 = .ok (.if_icmp .ne 26, 3) := by decide +kernel
theorem dX7_dues_78 : decode cX7_dues 78 = .ok (.aload_n 0, 1) := by decide +kernel
theorem dX7_dues_79 : decode cX7_dues 79 = .ok (.iload_n 1, 1) := by decide +kernel
theorem dX7_dues_80 : decode cX7_dues 80 = .ok (.iload_n 2, 1) := by decide +kernel
theorem dX7_dues_81 : decode cX7_dues 81 = .ok (.aload_n 0, 1) := by decide +kernel
theorem dX7_dues_82 : decode cX7_dues 82 = .ok (.getfield 52, 3) := by decide +kernel
theorem dX7_dues_85 : decode cX7_dues 85 = .ok (.aload_n 0, 1) := by decide +kernel
theorem dX7_dues_86 : decode cX7_dues 86 = .ok (.getfield 28, 3) := by decide +kernel
theorem dX7_dues_89 : decode cX7_dues 89 = .ok (.iload_n 1, 1) := by decide +kernel
theorem dX7_dues_90 : decode cX7_dues 90 = .ok (.iaload, 1) := by decide +kernel
theorem dX7_dues_91 : decode cX7_dues 91 = .ok (.iload_n 2, 1) := by decide +kernel
theorem dX7_dues_92 : decode cX7_dues 92 = .ok (.invokestatic 93, 3) := by decide +kernel
theorem dX7_dues_95 : decode cX7_dues 95 = .ok (.iconst 1, 1) := by decide +kernel
theorem dX7_dues_96 : decode cX7_dues 96 = .ok (.iadd, 1) := by decide +kernel
theorem dX7_dues_97 : decode cX7_dues 97 = .ok (.iaload, 1) := by decide +kernel
theorem dX7_dues_98 : decode cX7_dues 98 = .ok (.invokevirtual 106, 3) := by decide +kernel
theorem dX7_dues_101 : decode cX7_dues 101 = .ok (.iinc 2 1, 3) := by decide +kernel
theorem dX7_dues_104 : decode cX7_dues 104 = .ok (.goto (-68), 3) := by decide +kernel
theorem dX7_dues_107 : decode cX7_dues 107 = .ok (.aload_n 0, 1) := by decide +kernel
theorem dX7_dues_108 : decode cX7_dues 108 = .ok (.getfield 37, 3) := by decide +kernel
theorem dX7_dues_111 : decode cX7_dues 111 = .ok (.iload_n 1, 1) := by decide +kernel
theorem dX7_dues_112 : decode cX7_dues 112 = .ok (.iaload, 1) := by decide +kernel
theorem dX7_dues_113 : decode cX7_dues 113 = .ok (.ifCond .le 27, 3) := by decide +kernel
theorem dX7_dues_116 : decode cX7_dues 116 = .ok (.aload_n 0, 1) := by decide +kernel
theorem dX7_dues_117 : decode cX7_dues 117 = .ok (.getfield 49, 3) := by decide +kernel
theorem dX7_dues_120 : decode cX7_dues 120 = .ok (.iload_n 1, 1) := by decide +kernel
theorem dX7_dues_121 : decode cX7_dues 121 = .ok (.iaload, 1) := by decide +kernel
theorem dX7_dues_122 : decode cX7_dues 122 = .ok (.aload_n 0, 1) := by decide +kernel
theorem dX7_dues_123 : decode cX7_dues 123 = .ok (.getfield 103, 3) := by decide +kernel
theorem dX7_dues_126 : decode cX7_dues 126 = .ok (.if_icmp .ne 14, 3) := by decide +kernel
theorem dX7_dues_129 : decode cX7_dues 129 = .ok (.aload_n 0, 1) := by decide +kernel
theorem dX7_dues_130 : decode cX7_dues 130 = .ok (.iload_n 1, 1) := by decide +kernel
theorem dX7_dues_131 : decode cX7_dues 131 = .ok (.aload_n 0, 1) := by decide +kernel
theorem dX7_dues_132 : decode cX7_dues 132 = .ok (.getfield 46, 3) := by decide +kernel
theorem dX7_dues_135 : decode cX7_dues 135 = .ok (.iload_n 1, 1) := by decide +kernel
theorem dX7_dues_136 : decode cX7_dues 136 = .ok (.iaload, 1) := by decide +kernel
theorem dX7_dues_137 : decode cX7_dues 137 = .ok (.invokevirtual 110, 3) := by decide +kernel
theorem dX7_dues_140 : decode cX7_dues 140 = .ok (.return_, 1) := by decide +kernel
theorem dX7_watches_0 : decode cX7_watches 0 = .ok (.aload_n 0, 1) := by decide +kernel
theorem dX7_watches_1 : decode cX7_watches 1 = .ok (.iload_n 2, 1) := by decide +kernel
theorem dX7_watches_2 : decode cX7_watches 2 = .ok (.invokevirtual 117, 3) := by decide +kernel
theorem dX7_watches_5 : decode cX7_watches 5 = .ok (.istore_n 3, 1) := by decide +kernel
theorem dX7_watches_6 : decode cX7_watches 6 = .ok (.aload_n 0, 1) := by decide +kernel
theorem dX7_watches_7 : decode cX7_watches 7 = .ok (.getfield 25, 3) := by decide +kernel
theorem dX7_watches_10 : decode cX7_watches 10 = .ok (.iload_n 2, 1) := by decide +kernel
theorem dX7_watches_11 : decode cX7_watches 11 = .ok (.iaload, 1) := by decide +kernel
theorem dX7_watches_12 : decode cX7_watches 12 = .ok (.iconst 1, 1) := by decide +kernel
theorem dX7_watches_13 : decode cX7_watches 13 = .ok (.if_icmp .ne 125, 3) := by decide +kernel
theorem dX7_watches_16 : decode cX7_watches 16 = .ok (.iconst 0, 1) := by decide +kernel
theorem dX7_watches_17 : decode cX7_watches 17 = .ok (.istore 4, 2) := by decide +kernel
theorem dX7_watches_19 : decode cX7_watches 19 = .ok (.iconst 0, 1) := by decide +kernel
theorem dX7_watches_20 : decode cX7_watches 20 = .ok (.istore 5, 2) := by decide +kernel
theorem dX7_watches_22 : decode cX7_watches 22 = .ok (.iload 5, 2) := by decide +kernel
theorem dX7_watches_24 : decode cX7_watches 24 = .ok (.iconst 3, 1) := by decide +kernel
theorem dX7_watches_25 : decode cX7_watches 25 = .ok (.if_icmp .ge 100, 3) := by decide +kernel
theorem dX7_watches_28 : decode cX7_watches 28 = .ok (.iload_n 3, 1) := by decide +kernel
theorem dX7_watches_29 : decode cX7_watches 29 = .ok (.iload 5, 2) := by decide +kernel
theorem dX7_watches_31 : decode cX7_watches 31 = .ok (.invokestatic 93, 3) := by decide +kernel
theorem dX7_watches_34 : decode cX7_watches 34 = .ok (.istore 6, 2) := by decide +kernel
theorem dX7_watches_36 : decode cX7_watches 36 = .ok (.iload 4, 2) := by decide +kernel
theorem dX7_watches_38 : decode cX7_watches 38 = .ok (.ifCond .ne 74, 3) := by decide +kernel
theorem dX7_watches_41 : decode cX7_watches 41 = .ok (.aload_n 0, 1) := by decide +kernel
theorem dX7_watches_42 : decode cX7_watches 42 = .ok (.getfield 52, 3) := by decide +kernel
theorem dX7_watches_45 : decode cX7_watches 45 = .ok (.iload 6, 2) := by decide +kernel
theorem dX7_watches_47 : decode cX7_watches 47 = .ok (.iconst 0, 1) := by decide +kernel
theorem dX7_watches_48 : decode cX7_watches 48 = .ok (.iadd, 1) := by decide +kernel
theorem dX7_watches_49 : decode cX7_watches 49 = .ok (.iaload, 1) := by decide +kernel
theorem dX7_watches_50 : decode cX7_watches 50 = .ok (.ifCond .le 66, 3) := by decide +kernel
theorem dX7_watches_53 : decode cX7_watches 53 = .ok (.aload_n 0, 1) := by decide +kernel
theorem dX7_watches_54 : decode cX7_watches 54 = .ok (.getfield 52, 3) := by decide +kernel
theorem dX7_watches_57 : decode cX7_watches 57 = .ok (.iload 6, 2) := by decide +kernel
theorem dX7_watches_59 : decode cX7_watches 59 = .ok (.iconst 2, 1) := by decide +kernel
theorem dX7_watches_60 : decode cX7_watches 60 = .ok (.iadd, 1) := by decide +kernel
theorem dX7_watches_61 : decode cX7_watches 61 = .ok (.iaload, 1) := by decide +kernel
theorem dX7_watches_62 : decode cX7_watches 62 = .ok (.iload_n 1, 1) := by decide +kernel
theorem dX7_watches_63 : decode cX7_watches 63 = .ok (.if_icmp .ne 53, 3) := by decide +kernel
theorem dX7_watches_66 : decode cX7_watches 66 = .ok (.aload_n 0, 1) := by decide +kernel
theorem dX7_watches_67 : decode cX7_watches 67 = .ok (.getfield 13, 3) := by decide +kernel
theorem dX7_watches_70 : decode cX7_watches 70 = .ok (.aload_n 0, 1) := by decide +kernel
theorem dX7_watches_71 : decode cX7_watches 71 = .ok (.getfield 52, 3) := by decide +kernel
theorem dX7_watches_74 : decode cX7_watches 74 = .ok (.iload 6, 2) := by decide +kernel
theorem dX7_watches_76 : decode cX7_watches 76 = .ok (.iconst 3, 1) := by decide +kernel
theorem dX7_watches_77 : decode cX7_watches 77 = .ok (.iadd, 1) := by decide +kernel
theorem dX7_watches_78 : decode cX7_watches 78 = .ok (.iaload, 1) := by decide +kernel
theorem dX7_watches_79 : decode cX7_watches 79 = .ok (.iaload, 1) := by decide +kernel
theorem dX7_watches_80 : decode cX7_watches 80 = .ok (.iload_n 1, 1) := by decide +kernel
theorem dX7_watches_81 : decode cX7_watches 81 = .ok (.invokestatic 79, 3) := by decide +kernel
theorem dX7_watches_84 : decode cX7_watches 84 = .ok (.ifCond .eq 32, 3) := by decide +kernel
theorem dX7_watches_87 : decode cX7_watches 87 = .ok (.aload_n 0, 1) := by decide +kernel
theorem dX7_watches_88 : decode cX7_watches 88 = .ok (.getfield 52, 3) := by decide +kernel
theorem dX7_watches_91 : decode cX7_watches 91 = .ok (.iload 6, 2) := by decide +kernel
theorem dX7_watches_93 : decode cX7_watches 93 = .ok (.iconst 4, 1) := by decide +kernel
theorem dX7_watches_94 : decode cX7_watches 94 = .ok (.iadd, 1) := by decide +kernel
theorem dX7_watches_95 : decode cX7_watches 95 = .ok (.iaload, 1) := by decide +kernel
theorem dX7_watches_96 : decode cX7_watches 96 = .ok (.aload_n 0, 1) := by decide +kernel
theorem dX7_watches_97 : decode cX7_watches 97 = .ok (.getfield 103, 3) := by decide +kernel
theorem dX7_watches_100 : decode cX7_watches 100 = .ok (.aload_n 0, 1) := by decide +kernel
theorem dX7_watches_101 : decode cX7_watches 101 = .ok (.getfield 19, 3) := by decide +kernel
theorem dX7_watches_104 : decode cX7_watches 104 = .ok (.iload_n 2, 1) := by decide +kernel
theorem dX7_watches_105 : decode cX7_watches 105 = .ok (.iaload, 1) := by decide +kernel
theorem dX7_watches_106 : decode cX7_watches 106 = .ok (.iadd, 1) := by decide +kernel
theorem dX7_watches_107 : decode cX7_watches 107 = .ok (.iconst 1, 1) := by decide +kernel
theorem dX7_watches_108 : decode cX7_watches 108 = .ok (.iadd, 1) := by decide +kernel
theorem dX7_watches_109 : decode cX7_watches 109 = .ok (.if_icmp .ne 7, 3) := by decide +kernel
theorem dX7_watches_112 : decode cX7_watches 112 = .ok (.iconst 1, 1) := by decide +kernel
theorem dX7_watches_113 : decode cX7_watches 113 = .ok (.goto 4, 3) := by decide +kernel
theorem dX7_watches_116 : decode cX7_watches 116 = .ok (.iconst 0, 1) := by decide +kernel
theorem dX7_watches_117 : decode cX7_watches 117 = .ok (.istore 4, 2) := by decide +kernel
theorem dX7_watches_119 : decode cX7_watches 119 = .ok (.iinc 5 1, 3) := by decide +kernel
theorem dX7_watches_122 : decode cX7_watches 122 = .ok (.goto (-100), 3) := by decide +kernel
theorem dX7_watches_125 : decode cX7_watches 125 = .ok (.iload 4, 2) := by decide +kernel
theorem dX7_watches_127 : decode cX7_watches 127 = .ok (.ifCond .eq 8, 3) := by decide +kernel
theorem dX7_watches_130 : decode cX7_watches 130 = .ok (.aload_n 0, 1) := by decide +kernel
theorem dX7_watches_131 : decode cX7_watches 131 = .ok (.iload_n 3, 1) := by decide +kernel
theorem dX7_watches_132 : decode cX7_watches 132 = .ok (.invokevirtual 120, 3) := by decide +kernel
theorem dX7_watches_135 : decode cX7_watches 135 = .ok (.goto 111, 3) := by decide +kernel
theorem dX7_watches_138 : decode cX7_watches 138 = .ok (.aload_n 0, 1) := by decide +kernel
theorem dX7_watches_139 : decode cX7_watches 139 = .ok (.getfield 25, 3) := by decide +kernel
theorem dX7_watches_142 : decode cX7_watches 142 = .ok (.iload_n 2, 1) := by decide +kernel
theorem dX7_watches_143 : decode cX7_watches 143 = .ok (.iaload, 1) := by decide +kernel
theorem dX7_watches_144 : decode cX7_watches 144 = .ok (.iconst 2, 1) := by decide +kernel
theorem dX7_watches_145 : decode cX7_watches 145 = .ok (.if_icmp .ne 11, 3) := by decide +kernel
theorem dX7_watches_148 : decode cX7_watches 148 = .ok (.aload_n 0, 1) := by decide +kernel
theorem dX7_watches_149 : decode cX7_watches 149 = .ok (.iload_n 3, 1) := by decide +kernel
theorem dX7_watches_150 : decode cX7_watches 150 = .ok (.invokevirtual 120, 3) := by decide +kernel
theorem dX7_watches_153 : decode cX7_watches 153 = .ok (.goto 93, 3) := by decide +kernel
theorem dX7_watches_156 : decode cX7_watches 156 = .ok (.iconst 0, 1) := by decide +kernel
theorem dX7_watches_157 : decode cX7_watches 157 = .ok (.istore 4, 2) := by decide +kernel
theorem dX7_watches_159 : decode cX7_watches 159 = .ok (.iload 4, 2) := by decide +kernel
theorem dX7_watches_161 : decode cX7_watches 161 = .ok (.iconst 3, 1) := by decide +kernel
theorem dX7_watches_162 : decode cX7_watches 162 = .ok (.if_icmp .ge 30, 3) := by decide +kernel
theorem dX7_watches_165 : decode cX7_watches 165 = .ok (.aload_n 0, 1) := by decide +kernel
theorem dX7_watches_166 : decode cX7_watches 166 = .ok (.iload_n 2, 1) := by decide +kernel
theorem dX7_watches_167 : decode cX7_watches 167 = .ok (.iload 4, 2) := by decide +kernel
theorem dX7_watches_169 : decode cX7_watches 169 = .ok (.iload_n 1, 1) := by decide +kernel
theorem dX7_watches_170 : decode cX7_watches 170 = .ok (.invokevirtual 124, 3) := by decide +kernel
theorem dX7_watches_173 : decode cX7_watches 173 = .ok (.ifCond .eq 13, 3) := by decide +kernel
theorem dX7_watches_176 : decode cX7_watches 176 = .ok (.aload_n 0, 1) := by decide +kernel
theorem dX7_watches_177 : decode cX7_watches 177 = .ok (.iload_n 2, 1) := by decide +kernel
theorem dX7_watches_178 : decode cX7_watches 178 = .ok (.iload 4, 2) := by decide +kernel
theorem dX7_watches_180 : decode cX7_watches 180 = .ok (.iload_n 1, 1) := by decide +kernel
theorem dX7_watches_181 : decode cX7_watches 181 = .ok (.invokevirtual 127, 3) := by decide +kernel
theorem dX7_watches_184 : decode cX7_watches 184 = .ok (.istore 5, 2) := by decide +kernel
theorem dX7_watches_186 : decode cX7_watches 186 = .ok (.iinc 4 1, 3) := by decide +kernel
theorem dX7_watches_189 : decode cX7_watches 189 = .ok (.goto (-30), 3) := by decide +kernel
theorem dX7_watches_192 : decode cX7_watches 192 = .ok (.aload_n 0, 1) := by decide +kernel
theorem dX7_watches_193 : decode cX7_watches 193 = .ok (.getfield 37, 3) := by decide +kernel
theorem dX7_watches_196 : decode cX7_watches 196 = .ok (.iload_n 2, 1) := by decide +kernel
theorem dX7_watches_197 : decode cX7_watches 197 = .ok (.iaload, 1) := by decide +kernel
theorem dX7_watches_198 : decode cX7_watches 198 = .ok (.ifCond .le 48, 3) := by decide +kernel
theorem dX7_watches_201 : decode cX7_watches 201 = .ok (.aload_n 0, 1) := by decide +kernel
theorem dX7_watches_202 : decode cX7_watches 202 = .ok (.getfield 43, 3) := by decide +kernel
theorem dX7_watches_205 : decode cX7_watches 205 = .ok (.iload_n 2, 1) := by decide +kernel
theorem dX7_watches_206 : decode cX7_watches 206 = .ok (.iaload, 1) := by decide +kernel
theorem dX7_watches_207 : decode cX7_watches 207 = .ok (.iload_n 1, 1) := by decide +kernel
theorem dX7_watches_208 : decode cX7_watches 208 = .ok (.if_icmp .ne 38, 3) := by decide +kernel
theorem dX7_watches_211 : decode cX7_watches 211 = .ok (.aload_n 0, 1) := by decide +kernel
theorem dX7_watches_212 : decode cX7_watches 212 = .ok (.getfield 40, 3) := by decide +kernel
theorem dX7_watches_215 : decode cX7_watches 215 = .ok (.iload_n 2, 1) := by decide +kernel
theorem dX7_watches_216 : decode cX7_watches 216 = .ok (.iaload, 1) := by decide +kernel
theorem dX7_watches_217 : decode cX7_watches 217 = .ok (.iconst 4, 1) := by decide +kernel
theorem dX7_watches_218 : decode cX7_watches 218 = .ok (.irem, 1) := by decide +kernel
theorem dX7_watches_219 : decode cX7_watches 219 = .ok (.ifCond .ne 12, 3) := by decide +kernel
theorem dX7_watches_222 : decode cX7_watches 222 = .ok (.aload_n 0, 1) := by decide +kernel
theorem dX7_watches_223 : decode cX7_watches 223 = .ok (.iload_n 2, 1) := by decide +kernel
theorem dX7_watches_224 : decode cX7_watches 224 = .ok (.iconst 1, 1) := by decide +kernel
theorem dX7_watches_225 : decode cX7_watches 225 = .ok (.invokevirtual 131, 3) := by decide +kernel
theorem dX7_watches_228 : decode cX7_watches 228 = .ok (.goto 16, 3) := by decide +kernel
theorem dX7_watches_231 : decode cX7_watches 231 = .ok (.aload_n 0, 1) := by decide +kernel
theorem dX7_watches_232 : decode cX7_watches 232 = .ok (.iload_n 2, 1) := by decide +kernel
theorem dX7_watches_233 : decode cX7_watches 233 = .ok (.aload_n 0, 1) := by decide +kernel
theorem dX7_watches_234 : decode cX7_watches 234 = .ok (.getfield 40, 3) := by decide +kernel
theorem dX7_watches_237 : decode cX7_watches 237 = .ok (.iload_n 2, 1) := by decide +kernel
theorem dX7_watches_238 : decode cX7_watches 238 = .ok (.iaload, 1) := by decide +kernel
theorem dX7_watches_239 : decode cX7_watches 239 = .ok (.iconst 4, 1) := by decide +kernel
theorem dX7_watches_240 : decode cX7_watches 240 = .ok (.irem, 1) := by decide +kernel
theorem dX7_watches_241 : decode cX7_watches 241 = .ok (.invokevirtual 131, 3) := by decide +kernel
theorem dX7_watches_244 : decode cX7_watches 244 = .ok (.istore 4, 2) := by decide +kernel
theorem dX7_watches_246 : decode cX7_watches 246 = .ok (.return_, 1) := by decide +kernel
theorem dX7_oneMore_0 : decode cX7_oneMore 0 = .ok (.aload_n 0, 1) := by decide +kernel
theorem dX7_oneMore_1 : decode cX7_oneMore 1 = .ok (.dup, 1) := by decide +kernel
theorem dX7_oneMore_2 : decode cX7_oneMore 2 = .ok (.getfield 103, 3) := by decide +kernel
theorem dX7_oneMore_5 : decode cX7_oneMore 5 = .ok (.iconst 1, 1) := by decide +kernel
theorem dX7_oneMore_6 : decode cX7_oneMore 6 = .ok (.iadd, 1) := by decide +kernel
theorem dX7_oneMore_7 : decode cX7_oneMore 7 = .ok (.putfield 103, 3) := by decide +kernel
theorem dX7_oneMore_10 : decode cX7_oneMore 10 = .ok (.iconst 0, 1) := by decide +kernel
theorem dX7_oneMore_11 : decode cX7_oneMore 11 = .ok (.istore_n 1, 1) := by decide +kernel
theorem dX7_oneMore_12 : decode cX7_oneMore 12 = .ok (.iload_n 1, 1) := by decide +kernel
theorem dX7_oneMore_13 : decode cX7_oneMore 13 = .ok (.aload_n 0, 1) := by decide +kernel
theorem dX7_oneMore_14 : decode cX7_oneMore 14 = .ok (.getfield 68, 3) := by decide +kernel
theorem dX7_oneMore_17 : decode cX7_oneMore 17 = .ok (.if_icmp .ge 14, 3) := by decide +kernel
theorem dX7_oneMore_20 : decode cX7_oneMore 20 = .ok (.aload_n 0, 1) := by decide +kernel
theorem dX7_oneMore_21 : decode cX7_oneMore 21 = .ok (.iload_n 1, 1) := by decide +kernel
theorem dX7_oneMore_22 : decode cX7_oneMore 22 = .ok (.invokevirtual 134, 3) := by decide +kernel
theorem dX7_oneMore_25 : decode cX7_oneMore 25 = .ok (.iinc 1 1, 3) := by decide +kernel
theorem dX7_oneMore_28 : decode cX7_oneMore 28 = .ok (.goto (-16), 3) := by decide +kernel
theorem dX7_oneMore_31 : decode cX7_oneMore 31 = .ok (.iconst 0, 1) := by decide +kernel
theorem dX7_oneMore_32 : decode cX7_oneMore 32 = .ok (.istore_n 1, 1) := by decide +kernel
theorem dX7_oneMore_33 : decode cX7_oneMore 33 = .ok (.iload_n 1, 1) := by decide +kernel
theorem dX7_oneMore_34 : decode cX7_oneMore 34 = .ok (.bipush 6, 2) := by decide +kernel
theorem dX7_oneMore_36 : decode cX7_oneMore 36 = .ok (.if_icmp .ge 55, 3) := by decide +kernel
theorem dX7_oneMore_39 : decode cX7_oneMore 39 = .ok (.iconst 0, 1) := by decide +kernel
theorem dX7_oneMore_40 : decode cX7_oneMore 40 = .ok (.istore_n 2, 1) := by decide +kernel
theorem dX7_oneMore_41 : decode cX7_oneMore 41 = .ok (.iload_n 2, 1) := by decide +kernel
theorem dX7_oneMore_42 : decode cX7_oneMore 42 = .ok (.aload_n 0, 1) := by decide +kernel
theorem dX7_oneMore_43 : decode cX7_oneMore 43 = .ok (.getfield 68, 3) := by decide +kernel
theorem dX7_oneMore_46 : decode cX7_oneMore 46 = .ok (.if_icmp .ge 39, 3) := by decide +kernel
theorem dX7_oneMore_49 : decode cX7_oneMore 49 = .ok (.aload_n 0, 1) := by decide +kernel
theorem dX7_oneMore_50 : decode cX7_oneMore 50 = .ok (.getfield 137, 3) := by decide +kernel
theorem dX7_oneMore_53 : decode cX7_oneMore 53 = .ok (.iload_n 1, 1) := by decide +kernel
theorem dX7_oneMore_54 : decode cX7_oneMore 54 = .ok (.invokestatic 79, 3) := by decide +kernel
theorem dX7_oneMore_57 : decode cX7_oneMore 57 = .ok (.ifCond .eq 28, 3) := by decide +kernel
theorem dX7_oneMore_60 : decode cX7_oneMore 60 = .ok (.aload_n 0, 1) := by decide +kernel
theorem dX7_oneMore_61 : decode cX7_oneMore 61 = .ok (.getfield 16, 3) := by decide +kernel
theorem dX7_oneMore_64 : decode cX7_oneMore 64 = .ok (.iload_n 2, 1) := by decide +kernel
theorem dX7_oneMore_65 : decode cX7_oneMore 65 = .ok (.iaload, 1) := by decide +kernel
theorem dX7_oneMore_66 : decode cX7_oneMore 66 = .ok (.iload_n 1, 1) := by decide +kernel
theorem dX7_oneMore_67 : decode cX7_oneMore 67 = .ok (.invokestatic 79, 3) := by decide +kernel
theorem dX7_oneMore_70 : decode cX7_oneMore 70 = .ok (.ifCond .eq 9, 3) := by decide +kernel
theorem dX7_oneMore_73 : decode cX7_oneMore 73 = .ok (.aload_n 0, 1) := by decide +kernel
theorem dX7_oneMore_74 : decode cX7_oneMore 74 = .ok (.iload_n 1, 1) := by decide +kernel
theorem dX7_oneMore_75 : decode cX7_oneMore 75 = .ok (.iload_n 2, 1) := by decide +kernel
theorem dX7_oneMore_76 : decode cX7_oneMore 76 = .ok (.invokevirtual 140, 3) := by decide +kernel
theorem dX7_oneMore_79 : decode cX7_oneMore 79 = .ok (.iinc 2 1, 3) := by decide +kernel
theorem dX7_oneMore_82 : decode cX7_oneMore 82 = .ok (.goto (-41), 3) := by decide +kernel
theorem dX7_oneMore_85 : decode cX7_oneMore 85 = .ok (.iinc 1 1, 3) := by decide +kernel
theorem dX7_oneMore_88 : decode cX7_oneMore 88 = .ok (.goto (-55), 3) := by decide +kernel
theorem dX7_oneMore_91 : decode cX7_oneMore 91 = .ok (.return_, 1) := by decide +kernel
theorem dX7_channel_0 : decode cX7_channel 0 = .ok (.iload_n 1, 1) := by decide +kernel
theorem dX7_channel_1 : decode cX7_channel 1 = .ok (.iconst 0, 1) := by decide +kernel
theorem dX7_channel_2 : decode cX7_channel 2 = .ok (.bipush 63, 2) := by decide +kernel
theorem dX7_channel_4 : decode cX7_channel 4 = .ok (.invokestatic 64, 3) := by decide +kernel
theorem dX7_channel_7 : decode cX7_channel 7 = .ok (.ifCond .ne 5, 3) := by decide +kernel
theorem dX7_channel_10 : decode cX7_channel 10 = .ok (.iconst (-1), 1) := by decide +kernel
theorem dX7_channel_11 : decode cX7_channel 11 = .ok (.ireturn, 1) := by decide +kernel
theorem dX7_channel_12 : decode cX7_channel 12 = .ok (.iload_n 1, 1) := by decide +kernel
theorem dX7_channel_13 : decode cX7_channel 13 = .ok (.invokestatic 143, 3) := by decide +kernel
theorem dX7_channel_16 : decode cX7_channel 16 = .ok (.istore 4, 2) := by decide +kernel
theorem dX7_channel_18 : decode cX7_channel 18 = .ok (.iload_n 2, 1) := by decide +kernel
theorem dX7_channel_19 : decode cX7_channel 19 = .ok (.iconst 0, 1) := by decide +kernel
theorem dX7_channel_20 : decode cX7_channel 20 = .ok (.sipush 10000, 3) := by decide +kernel
theorem dX7_channel_23 : decode cX7_channel 23 = .ok (.invokestatic 64, 3) := by decide +kernel
theorem dX7_channel_26 : decode cX7_channel 26 = .ok (.ifCond .eq 23, 3) := by decide +kernel
theorem dX7_channel_29 : decode cX7_channel 29 = .ok (.iload_n 3, 1) := by decide +kernel
theorem dX7_channel_30 : decode cX7_channel 30 = .ok (.iconst 2, 1) := by decide +kernel
theorem dX7_channel_31 : decode cX7_channel 31 = .ok (.bipush 20, 2) := by decide +kernel
theorem dX7_channel_33 : decode cX7_channel 33 = .ok (.invokestatic 64, 3) := by decide +kernel
theorem dX7_channel_36 : decode cX7_channel 36 = .ok (.ifCond .eq 13, 3) := by decide +kernel
theorem dX7_channel_39 : decode cX7_channel 39 = .ok (.iload 4, 2) := by decide +kernel
theorem dX7_channel_41 : decode cX7_channel 41 = .ok (.iconst 2, 1) := by decide +kernel
theorem dX7_channel_42 : decode cX7_channel 42 = .ok (.iconst 4, 1) := by decide +kernel
theorem dX7_channel_43 : decode cX7_channel 43 = .ok (.invokestatic 64, 3) := by decide +kernel
theorem dX7_channel_46 : decode cX7_channel 46 = .ok (.ifCond .ne 6, 3) := by decide +kernel
theorem dX7_channel_49 : decode cX7_channel 49 = .ok (.bipush (-3), 2) := by decide +kernel
theorem dX7_channel_51 : decode cX7_channel 51 = .ok (.ireturn, 1) := by decide +kernel
theorem dX7_channel_52 : decode cX7_channel 52 = .ok (.iconst 0, 1) := by decide +kernel
theorem dX7_channel_53 : decode cX7_channel 53 = .ok (.istore 5, 2) := by decide +kernel
theorem dX7_channel_55 : decode cX7_channel 55 = .ok (.iconst 0, 1) := by decide +kernel
theorem dX7_channel_56 : decode cX7_channel 56 = .ok (.istore 6, 2) := by decide +kernel
theorem dX7_channel_58 : decode cX7_channel 58 = .ok (.iload 6, 2) := by decide +kernel
theorem dX7_channel_60 : decode cX7_channel 60 = .ok (.bipush 6, 2) := by decide +kernel
theorem dX7_channel_62 : decode cX7_channel 62 = .ok (.if_icmp .ge 41, 3) := by decide +kernel
theorem dX7_channel_65 : decode cX7_channel 65 = .ok (.iload 5, 2) := by decide +kernel
theorem dX7_channel_67 : decode cX7_channel 67 = .ok (.ifCond .ne 23, 3) := by decide +kernel
theorem dX7_channel_70 : decode cX7_channel 70 = .ok (.iload_n 1, 1) := by decide +kernel
theorem dX7_channel_71 : decode cX7_channel 71 = .ok (.iload 6, 2) := by decide +kernel
theorem dX7_channel_73 : decode cX7_channel 73 = .ok (.invokestatic 79, 3) := by decide +kernel
theorem dX7_channel_76 : decode cX7_channel 76 = .ok (.ifCond .eq 18, 3) := by decide +kernel
theorem dX7_channel_79 : decode cX7_channel 79 = .ok (.aload_n 0, 1) := by decide +kernel
theorem dX7_channel_80 : decode cX7_channel 80 = .ok (.getfield 7, 3) := by decide +kernel
theorem dX7_channel_83 : decode cX7_channel 83 = .ok (.iload 6, 2) := by decide +kernel
theorem dX7_channel_85 : decode cX7_channel 85 = .ok (.iaload, 1) := by decide +kernel
theorem dX7_channel_86 : decode cX7_channel 86 = .ok (.iload_n 2, 1) := by decide +kernel
theorem dX7_channel_87 : decode cX7_channel 87 = .ok (.if_icmp .ge 7, 3) := by decide +kernel
theorem dX7_channel_90 : decode cX7_channel 90 = .ok (.iconst 1, 1) := by decide +kernel
theorem dX7_channel_91 : decode cX7_channel 91 = .ok (.goto 4, 3) := by decide +kernel
theorem dX7_channel_94 : decode cX7_channel 94 = .ok (.iconst 0, 1) := by decide +kernel
theorem dX7_channel_95 : decode cX7_channel 95 = .ok (.istore 5, 2) := by decide +kernel
theorem dX7_channel_97 : decode cX7_channel 97 = .ok (.iinc 6 1, 3) := by decide +kernel
theorem dX7_channel_100 : decode cX7_channel 100 = .ok (.goto (-42), 3) := by decide +kernel
theorem dX7_channel_103 : decode cX7_channel 103 = .ok (.aload_n 0, 1) := by decide +kernel
theorem dX7_channel_104 : decode cX7_channel 104 = .ok (.getfield 68, 3) := by decide +kernel
theorem dX7_channel_107 : decode cX7_channel 107 = .ok (.bipush 8, 2) := by decide +kernel
theorem dX7_channel_109 : decode cX7_channel 109 = .ok (.if_icmp .eq 17, 3) := by decide +kernel
theorem dX7_channel_112 : decode cX7_channel 112 = .ok (.aload_n 0, 1) := by decide +kernel
theorem dX7_channel_113 : decode cX7_channel 113 = .ok (.getfield 72, 3) := by decide +kernel
theorem dX7_channel_116 : decode cX7_channel 116 = .ok (.bipush 64, 2) := by decide +kernel
theorem dX7_channel_118 : decode cX7_channel 118 = .ok (.if_icmp .eq 8, 3) := by decide +kernel
theorem dX7_channel_121 : decode cX7_channel 121 = .ok (.iload 5, 2) := by decide +kernel
theorem dX7_channel_123 : decode cX7_channel 123 = .ok (.ifCond .eq 6, 3) := by decide +kernel
theorem dX7_channel_126 : decode cX7_channel 126 = .ok (.bipush (-4), 2) := by decide +kernel
theorem dX7_channel_128 : decode cX7_channel 128 = .ok (.ireturn, 1) := by decide +kernel
theorem dX7_channel_129 : decode cX7_channel 129 = .ok (.aload_n 0, 1) := by decide +kernel
theorem dX7_channel_130 : decode cX7_channel 130 = .ok (.getfield 68, 3) := by decide +kernel
theorem dX7_channel_133 : decode cX7_channel 133 = .ok (.istore 6, 2) := by decide +kernel
theorem dX7_channel_135 : decode cX7_channel 135 = .ok (.aload_n 0, 1) := by decide +kernel
theorem dX7_channel_136 : decode cX7_channel 136 = .ok (.dup, 1) := by decide +kernel
theorem dX7_channel_137 : decode cX7_channel 137 = .ok (.getfield 68, 3) := by decide +kernel
theorem dX7_channel_140 : decode cX7_channel 140 = .ok (.iconst 1, 1) := by decide +kernel
theorem dX7_channel_141 : decode cX7_channel 141 = .ok (.iadd, 1) := by decide +kernel
theorem dX7_channel_142 : decode cX7_channel 142 = .ok (.putfield 68, 3) := by decide +kernel
theorem dX7_channel_145 : decode cX7_channel 145 = .ok (.aload_n 0, 1) := by decide +kernel
theorem dX7_channel_146 : decode cX7_channel 146 = .ok (.getfield 16, 3) := by decide +kernel
theorem dX7_channel_149 : decode cX7_channel 149 = .ok (.iload 6, 2) := by decide +kernel
theorem dX7_channel_151 : decode cX7_channel 151 = .ok (.iload_n 1, 1) := by decide +kernel
theorem dX7_channel_152 : decode cX7_channel 152 = .ok (.iastore, 1) := by decide +kernel
theorem dX7_channel_153 : decode cX7_channel 153 = .ok (.aload_n 0, 1) := by decide +kernel
theorem dX7_channel_154 : decode cX7_channel 154 = .ok (.getfield 19, 3) := by decide +kernel
theorem dX7_channel_157 : decode cX7_channel 157 = .ok (.iload 6, 2) := by decide +kernel
theorem dX7_channel_159 : decode cX7_channel 159 = .ok (.iload_n 3, 1) := by decide +kernel
theorem dX7_channel_160 : decode cX7_channel 160 = .ok (.iastore, 1) := by decide +kernel
theorem dX7_channel_161 : decode cX7_channel 161 = .ok (.aload_n 0, 1) := by decide +kernel
theorem dX7_channel_162 : decode cX7_channel 162 = .ok (.getfield 22, 3) := by decide +kernel
theorem dX7_channel_165 : decode cX7_channel 165 = .ok (.iload 6, 2) := by decide +kernel
theorem dX7_channel_167 : decode cX7_channel 167 = .ok (.iload 4, 2) := by decide +kernel
theorem dX7_channel_169 : decode cX7_channel 169 = .ok (.iload_n 2, 1) := by decide +kernel
theorem dX7_channel_170 : decode cX7_channel 170 = .ok (.imul, 1) := by decide +kernel
theorem dX7_channel_171 : decode cX7_channel 171 = .ok (.iastore, 1) := by decide +kernel
theorem dX7_channel_172 : decode cX7_channel 172 = .ok (.aload_n 0, 1) := by decide +kernel
theorem dX7_channel_173 : decode cX7_channel 173 = .ok (.getfield 25, 3) := by decide +kernel
theorem dX7_channel_176 : decode cX7_channel 176 = .ok (.iload 6, 2) := by decide +kernel
theorem dX7_channel_178 : decode cX7_channel 178 = .ok (.iconst 1, 1) := by decide +kernel
theorem dX7_channel_179 : decode cX7_channel 179 = .ok (.iastore, 1) := by decide +kernel
theorem dX7_channel_180 : decode cX7_channel 180 = .ok (.aload_n 0, 1) := by decide +kernel
theorem dX7_channel_181 : decode cX7_channel 181 = .ok (.getfield 28, 3) := by decide +kernel
theorem dX7_channel_184 : decode cX7_channel 184 = .ok (.iload 6, 2) := by decide +kernel
theorem dX7_channel_186 : decode cX7_channel 186 = .ok (.iconst (-1), 1) := by decide +kernel
theorem dX7_channel_187 : decode cX7_channel 187 = .ok (.iastore, 1) := by decide +kernel
theorem dX7_channel_188 : decode cX7_channel 188 = .ok (.aload_n 0, 1) := by decide +kernel
theorem dX7_channel_189 : decode cX7_channel 189 = .ok (.iload 6, 2) := by decide +kernel
theorem dX7_channel_191 : decode cX7_channel 191 = .ok (.invokevirtual 146, 3) := by decide +kernel
theorem dX7_channel_194 : decode cX7_channel 194 = .ok (.istore 7, 2) := by decide +kernel
theorem dX7_channel_196 : decode cX7_channel 196 = .ok (.iconst 0, 1) := by decide +kernel
theorem dX7_channel_197 : decode cX7_channel 197 = .ok (.istore 8, 2) := by decide +kernel
theorem dX7_channel_199 : decode cX7_channel 199 = .ok (.iload 8, 2) := by decide +kernel
theorem dX7_channel_201 : decode cX7_channel 201 = .ok (.bipush 6, 2) := by decide +kernel
theorem dX7_channel_203 : decode cX7_channel 203 = .ok (.if_icmp .ge 45, 3) := by decide +kernel
theorem dX7_channel_206 : decode cX7_channel 206 = .ok (.iload_n 1, 1) := by decide +kernel
theorem dX7_channel_207 : decode cX7_channel 207 = .ok (.iload 8, 2) := by decide +kernel
theorem dX7_channel_209 : decode cX7_channel 209 = .ok (.invokestatic 79, 3) := by decide +kernel
theorem dX7_channel_212 : decode cX7_channel 212 = .ok (.ifCond .eq 30, 3) := by decide +kernel
theorem dX7_channel_215 : decode cX7_channel 215 = .ok (.aload_n 0, 1) := by decide +kernel
theorem dX7_channel_216 : decode cX7_channel 216 = .ok (.getfield 7, 3) := by decide +kernel
theorem dX7_channel_219 : decode cX7_channel 219 = .ok (.iload 8, 2) := by decide +kernel
theorem dX7_channel_221 : decode cX7_channel 221 = .ok (.dup2, 1) := by decide +kernel
theorem dX7_channel_222 : decode cX7_channel 222 = .ok (.iaload, 1) := by decide +kernel
theorem dX7_channel_223 : decode cX7_channel 223 = .ok (.iload_n 2, 1) := by decide +kernel
theorem dX7_channel_224 : decode cX7_channel 224 = .ok (.isub, 1) := by decide +kernel
theorem dX7_channel_225 : decode cX7_channel 225 = .ok (.iastore, 1) := by decide +kernel
theorem dX7_channel_226 : decode cX7_channel 226 = .ok (.aload_n 0, 1) := by decide +kernel
theorem dX7_channel_227 : decode cX7_channel 227 = .ok (.getfield 52, 3) := by decide +kernel
theorem dX7_channel_230 : decode cX7_channel 230 = .ok (.bipush 35, 2) := by decide +kernel
theorem dX7_channel_232 : decode cX7_channel 232 = .ok (.iload 7, 2) := by decide +kernel
theorem dX7_channel_234 : decode cX7_channel 234 = .ok (.imul, 1) := by decide +kernel
theorem dX7_channel_235 : decode cX7_channel 235 = .ok (.iconst 4, 1) := by decide +kernel
theorem dX7_channel_236 : decode cX7_channel 236 = .ok (.iadd, 1) := by decide +kernel
theorem dX7_channel_237 : decode cX7_channel 237 = .ok (.iload 8, 2) := by decide +kernel
theorem dX7_channel_239 : decode cX7_channel 239 = .ok (.iadd, 1) := by decide +kernel
theorem dX7_channel_240 : decode cX7_channel 240 = .ok (.iload_n 2, 1) := by decide +kernel
theorem dX7_channel_241 : decode cX7_channel 241 = .ok (.iastore, 1) := by decide +kernel
theorem dX7_channel_242 : decode cX7_channel 242 = .ok (.iinc 8 1, 3) := by decide +kernel
theorem dX7_channel_245 : decode cX7_channel 245 = .ok (.goto (-46), 3) := by decide +kernel
theorem dX7_channel_248 : decode cX7_channel 248 = .ok (.aload_n 0, 1) := by decide +kernel
theorem dX7_channel_249 : decode cX7_channel 249 = .ok (.getfield 52, 3) := by decide +kernel
theorem dX7_channel_252 : decode cX7_channel 252 = .ok (.bipush 35, 2) := by decide +kernel
theorem dX7_channel_254 : decode cX7_channel 254 = .ok (.iload 7, 2) := by decide +kernel
theorem dX7_channel_256 : decode cX7_channel 256 = .ok (.imul, 1) := by decide +kernel
theorem dX7_channel_257 : decode cX7_channel 257 = .ok (.iconst 2, 1) := by decide +kernel
theorem dX7_channel_258 : decode cX7_channel 258 = .ok (.iadd, 1) := by decide +kernel
theorem dX7_channel_259 : decode cX7_channel 259 = .ok (.iload_n 1, 1) := by decide +kernel
theorem dX7_channel_260 : decode cX7_channel 260 = .ok (.iastore, 1) := by decide +kernel
theorem dX7_channel_261 : decode cX7_channel 261 = .ok (.iload 6, 2) := by decide +kernel
theorem dX7_channel_263 : decode cX7_channel 263 = .ok (.ireturn, 1) := by decide +kernel
theorem dX7_blank_0 : decode cX7_blank 0 = .ok (.iconst 0, 1) := by decide +kernel
theorem dX7_blank_1 : decode cX7_blank 1 = .ok (.istore_n 2, 1) := by decide +kernel
theorem dX7_blank_2 : decode cX7_blank 2 = .ok (.iconst 0, 1) := by decide +kernel
theorem dX7_blank_3 : decode cX7_blank 3 = .ok (.istore_n 3, 1) := by decide +kernel
theorem dX7_blank_4 : decode cX7_blank 4 = .ok (.iload_n 3, 1) := by decide +kernel
theorem dX7_blank_5 : decode cX7_blank 5 = .ok (.aload_n 0, 1) := by decide +kernel
theorem dX7_blank_6 : decode cX7_blank 6 = .ok (.getfield 72, 3) := by decide +kernel
theorem dX7_blank_9 : decode cX7_blank 9 = .ok (.if_icmp .ge 26, 3) := by decide +kernel
theorem dX7_blank_12 : decode cX7_blank 12 = .ok (.iload_n 2, 1) := by decide +kernel
theorem dX7_blank_13 : decode cX7_blank 13 = .ok (.aload_n 0, 1) := by decide +kernel
theorem dX7_blank_14 : decode cX7_blank 14 = .ok (.iload_n 3, 1) := by decide +kernel
theorem dX7_blank_15 : decode cX7_blank 15 = .ok (.invokevirtual 86, 3) := by decide +kernel
theorem dX7_blank_18 : decode cX7_blank 18 = .ok (.iload_n 1, 1) := by decide +kernel
theorem dX7_blank_19 : decode cX7_blank 19 = .ok (.if_icmp .ne 7, 3) := by decide +kernel
theorem dX7_blank_22 : decode cX7_blank 22 = .ok (.iconst 1, 1) := by decide +kernel
theorem dX7_blank_23 : decode cX7_blank 23 = .ok (.goto 4, 3) := by decide +kernel
theorem dX7_blank_26 : decode cX7_blank 26 = .ok (.iconst 0, 1) := by decide +kernel
theorem dX7_blank_27 : decode cX7_blank 27 = .ok (.iadd, 1) := by decide +kernel
theorem dX7_blank_28 : decode cX7_blank 28 = .ok (.istore_n 2, 1) := by decide +kernel
theorem dX7_blank_29 : decode cX7_blank 29 = .ok (.iinc 3 1, 3) := by decide +kernel
theorem dX7_blank_32 : decode cX7_blank 32 = .ok (.goto (-28), 3) := by decide +kernel
theorem dX7_blank_35 : decode cX7_blank 35 = .ok (.bipush 35, 2) := by decide +kernel
theorem dX7_blank_37 : decode cX7_blank 37 = .ok (.aload_n 0, 1) := by decide +kernel
theorem dX7_blank_38 : decode cX7_blank 38 = .ok (.getfield 72, 3) := by decide +kernel
theorem dX7_blank_41 : decode cX7_blank 41 = .ok (.imul, 1) := by decide +kernel
theorem dX7_blank_42 : decode cX7_blank 42 = .ok (.istore_n 3, 1) := by decide +kernel
theorem dX7_blank_43 : decode cX7_blank 43 = .ok (.iconst 0, 1) := by decide +kernel
theorem dX7_blank_44 : decode cX7_blank 44 = .ok (.istore 4, 2) := by decide +kernel
theorem dX7_blank_46 : decode cX7_blank 46 = .ok (.iload 4, 2) := by decide +kernel
theorem dX7_blank_48 : decode cX7_blank 48 = .ok (.bipush 35, 2) := by decide +kernel
theorem dX7_blank_50 : decode cX7_blank 50 = .ok (.if_icmp .ge 19, 3) := by decide +kernel
theorem dX7_blank_53 : decode cX7_blank 53 = .ok (.aload_n 0, 1) := by decide +kernel
theorem dX7_blank_54 : decode cX7_blank 54 = .ok (.getfield 52, 3) := by decide +kernel
theorem dX7_blank_57 : decode cX7_blank 57 = .ok (.iload_n 3, 1) := by decide +kernel
theorem dX7_blank_58 : decode cX7_blank 58 = .ok (.iload 4, 2) := by decide +kernel
theorem dX7_blank_60 : decode cX7_blank 60 = .ok (.iadd, 1) := by decide +kernel
theorem dX7_blank_61 : decode cX7_blank 61 = .ok (.iconst 0, 1) := by decide +kernel
theorem dX7_blank_62 : decode cX7_blank 62 = .ok (.iastore, 1) := by decide +kernel
theorem dX7_blank_63 : decode cX7_blank 63 = .ok (.iinc 4 1, 3) := by decide +kernel
theorem dX7_blank_66 : decode cX7_blank 66 = .ok (.goto (-20), 3) := by decide +kernel
theorem dX7_blank_69 : decode cX7_blank 69 = .ok (.aload_n 0, 1) := by decide +kernel
theorem dX7_blank_70 : decode cX7_blank 70 = .ok (.getfield 52, 3) := by decide +kernel
theorem dX7_blank_73 : decode cX7_blank 73 = .ok (.iload_n 3, 1) := by decide +kernel
theorem dX7_blank_74 : decode cX7_blank 74 = .ok (.iconst 0, 1) := by decide +kernel
theorem dX7_blank_75 : decode cX7_blank 75 = .ok (.iadd, 1) := by decide +kernel
theorem dX7_blank_76 : decode cX7_blank 76 = .ok (.iload_n 1, 1) := by decide +kernel
theorem dX7_blank_77 : decode cX7_blank 77 = .ok (.iastore, 1) := by decide +kernel
theorem dX7_blank_78 : decode cX7_blank 78 = .ok (.aload_n 0, 1) := by decide +kernel
theorem dX7_blank_79 : decode cX7_blank 79 = .ok (.getfield 52, 3) := by decide +kernel
theorem dX7_blank_82 : decode cX7_blank 82 = .ok (.iload_n 3, 1) := by decide +kernel
theorem dX7_blank_83 : decode cX7_blank 83 = .ok (.iconst 1, 1) := by decide +kernel
theorem dX7_blank_84 : decode cX7_blank 84 = .ok (.iadd, 1) := by decide +kernel
theorem dX7_blank_85 : decode cX7_blank 85 = .ok (.iload_n 2, 1) := by decide +kernel
theorem dX7_blank_86 : decode cX7_blank 86 = .ok (.iastore, 1) := by decide +kernel
theorem dX7_blank_87 : decode cX7_blank 87 = .ok (.aload_n 0, 1) := by decide +kernel
theorem dX7_blank_88 : decode cX7_blank 88 = .ok (.getfield 52, 3) := by decide +kernel
theorem dX7_blank_91 : decode cX7_blank 91 = .ok (.iload_n 3, 1) := by decide +kernel
theorem dX7_blank_92 : decode cX7_blank 92 = .ok (.bipush 33, 2) := by decide +kernel
theorem dX7_blank_94 : decode cX7_blank 94 = .ok (.iadd, 1) := by decide +kernel
theorem dX7_blank_95 : decode cX7_blank 95 = .ok (.iconst (-1), 1) := by decide +kernel
theorem dX7_blank_96 : decode cX7_blank 96 = .ok (.iastore, 1) := by decide +kernel
theorem dX7_blank_97 : decode cX7_blank 97 = .ok (.aload_n 0, 1) := by decide +kernel
theorem dX7_blank_98 : decode cX7_blank 98 = .ok (.getfield 52, 3) := by decide +kernel
theorem dX7_blank_101 : decode cX7_blank 101 = .ok (.iload_n 3, 1) := by decide +kernel
theorem dX7_blank_102 : decode cX7_blank 102 = .ok (.bipush 34, 2) := by decide +kernel
theorem dX7_blank_104 : decode cX7_blank 104 = .ok (.iadd, 1) := by decide +kernel
theorem dX7_blank_105 : decode cX7_blank 105 = .ok (.iconst (-1), 1) := by decide +kernel
theorem dX7_blank_106 : decode cX7_blank 106 = .ok (.iastore, 1) := by decide +kernel
theorem dX7_blank_107 : decode cX7_blank 107 = .ok (.aload_n 0, 1) := by decide +kernel
theorem dX7_blank_108 : decode cX7_blank 108 = .ok (.dup, 1) := by decide +kernel
theorem dX7_blank_109 : decode cX7_blank 109 = .ok (.getfield 72, 3) := by decide +kernel
theorem dX7_blank_112 : decode cX7_blank 112 = .ok (.iconst 1, 1) := by decide +kernel
theorem dX7_blank_113 : decode cX7_blank 113 = .ok (.iadd, 1) := by decide +kernel
theorem dX7_blank_114 : decode cX7_blank 114 = .ok (.putfield 72, 3) := by decide +kernel
theorem dX7_blank_117 : decode cX7_blank 117 = .ok (.aload_n 0, 1) := by decide +kernel
theorem dX7_blank_118 : decode cX7_blank 118 = .ok (.getfield 72, 3) := by decide +kernel
theorem dX7_blank_121 : decode cX7_blank 121 = .ok (.iconst 1, 1) := by decide +kernel
theorem dX7_blank_122 : decode cX7_blank 122 = .ok (.isub, 1) := by decide +kernel
theorem dX7_blank_123 : decode cX7_blank 123 = .ok (.ireturn, 1) := by decide +kernel
theorem dX7_copied_0 : decode cX7_copied 0 = .ok (.bipush 35, 2) := by decide +kernel
theorem dX7_copied_2 : decode cX7_copied 2 = .ok (.aload_n 0, 1) := by decide +kernel
theorem dX7_copied_3 : decode cX7_copied 3 = .ok (.iload_n 1, 1) := by decide +kernel
theorem dX7_copied_4 : decode cX7_copied 4 = .ok (.invokevirtual 117, 3) := by decide +kernel
theorem dX7_copied_7 : decode cX7_copied 7 = .ok (.imul, 1) := by decide +kernel
theorem dX7_copied_8 : decode cX7_copied 8 = .ok (.istore_n 2, 1) := by decide +kernel
theorem dX7_copied_9 : decode cX7_copied 9 = .ok (.aload_n 0, 1) := by decide +kernel
theorem dX7_copied_10 : decode cX7_copied 10 = .ok (.iload_n 1, 1) := by decide +kernel
theorem dX7_copied_11 : decode cX7_copied 11 = .ok (.invokevirtual 146, 3) := by decide +kernel
theorem dX7_copied_14 : decode cX7_copied 14 = .ok (.istore_n 3, 1) := by decide +kernel
theorem dX7_copied_15 : decode cX7_copied 15 = .ok (.bipush 35, 2) := by decide +kernel
theorem dX7_copied_17 : decode cX7_copied 17 = .ok (.iload_n 3, 1) := by decide +kernel
theorem dX7_copied_18 : decode cX7_copied 18 = .ok (.imul, 1) := by decide +kernel
theorem dX7_copied_19 : decode cX7_copied 19 = .ok (.istore 4, 2) := by decide +kernel
theorem dX7_copied_21 : decode cX7_copied 21 = .ok (.iconst 4, 1) := by decide +kernel
theorem dX7_copied_22 : decode cX7_copied 22 = .ok (.istore 5, 2) := by decide +kernel
theorem dX7_copied_24 : decode cX7_copied 24 = .ok (.iload 5, 2) := by decide +kernel
theorem dX7_copied_26 : decode cX7_copied 26 = .ok (.bipush 35, 2) := by decide +kernel
theorem dX7_copied_28 : decode cX7_copied 28 = .ok (.if_icmp .ge 44, 3) := by decide +kernel
theorem dX7_copied_31 : decode cX7_copied 31 = .ok (.aload_n 0, 1) := by decide +kernel
theorem dX7_copied_32 : decode cX7_copied 32 = .ok (.getfield 52, 3) := by decide +kernel
theorem dX7_copied_35 : decode cX7_copied 35 = .ok (.iload 4, 2) := by decide +kernel
theorem dX7_copied_37 : decode cX7_copied 37 = .ok (.iload 5, 2) := by decide +kernel
theorem dX7_copied_39 : decode cX7_copied 39 = .ok (.iadd, 1) := by decide +kernel
theorem dX7_copied_40 : decode cX7_copied 40 = .ok (.iload 5, 2) := by decide +kernel
theorem dX7_copied_42 : decode cX7_copied 42 = .ok (.bipush 10, 2) := by decide +kernel
theorem dX7_copied_44 : decode cX7_copied 44 = .ok (.bipush 15, 2) := by decide +kernel
theorem dX7_copied_46 : decode cX7_copied 46 = .ok (.invokestatic 64, 3) := by decide +kernel
theorem dX7_copied_49 : decode cX7_copied 49 = .ok (.ifCond .eq 7, 3) := by decide +kernel
theorem dX7_copied_52 : decode cX7_copied 52 = .ok (.iconst 0, 1) := by decide +kernel
theorem dX7_copied_53 : decode cX7_copied 53 = .ok (.goto 12, 3) := by decide +kernel
theorem dX7_copied_56 : decode cX7_copied 56 = .ok (.aload_n 0, 1) := by decide +kernel
theorem dX7_copied_57 : decode cX7_copied 57 = .ok (.getfield 52, 3) := by decide +kernel
theorem dX7_copied_60 : decode cX7_copied 60 = .ok (.iload_n 2, 1) := by decide +kernel
theorem dX7_copied_61 : decode cX7_copied 61 = .ok (.iload 5, 2) := by decide +kernel
theorem dX7_copied_63 : decode cX7_copied 63 = .ok (.iadd, 1) := by decide +kernel
theorem dX7_copied_64 : decode cX7_copied 64 = .ok (.iaload, 1) := by decide +kernel
theorem dX7_copied_65 : decode cX7_copied 65 = .ok (.iastore, 1) := by decide +kernel
theorem dX7_copied_66 : decode cX7_copied 66 = .ok (.iinc 5 1, 3) := by decide +kernel
theorem dX7_copied_69 : decode cX7_copied 69 = .ok (.goto (-45), 3) := by decide +kernel
theorem dX7_copied_72 : decode cX7_copied 72 = .ok (.iload_n 3, 1) := by decide +kernel
theorem dX7_copied_73 : decode cX7_copied 73 = .ok (.ireturn, 1) := by decide +kernel
theorem dX7_state_0 : decode cX7_state 0 = .ok (.aload_n 0, 1) := by decide +kernel
theorem dX7_state_1 : decode cX7_state 1 = .ok (.iload_n 1, 1) := by decide +kernel
theorem dX7_state_2 : decode cX7_state 2 = .ok (.invokevirtual 149, 3) := by decide +kernel
theorem dX7_state_5 : decode cX7_state 5 = .ok (.ifCond .ne 5, 3) := by decide +kernel
theorem dX7_state_8 : decode cX7_state 8 = .ok (.iconst (-1), 1) := by decide +kernel
theorem dX7_state_9 : decode cX7_state 9 = .ok (.ireturn, 1) := by decide +kernel
theorem dX7_state_10 : decode cX7_state 10 = .ok (.aload_n 0, 1) := by decide +kernel
theorem dX7_state_11 : decode cX7_state 11 = .ok (.getfield 25, 3) := by decide +kernel
theorem dX7_state_14 : decode cX7_state 14 = .ok (.iload_n 1, 1) := by decide +kernel
theorem dX7_state_15 : decode cX7_state 15 = .ok (.iaload, 1) := by decide +kernel
theorem dX7_state_16 : decode cX7_state 16 = .ok (.iconst 3, 1) := by decide +kernel
theorem dX7_state_17 : decode cX7_state 17 = .ok (.if_icmp .ne 6, 3) := by decide +kernel
theorem dX7_state_20 : decode cX7_state 20 = .ok (.bipush (-2), 2) := by decide +kernel
theorem dX7_state_22 : decode cX7_state 22 = .ok (.ireturn, 1) := by decide +kernel
theorem dX7_state_23 : decode cX7_state 23 = .ok (.aload_n 0, 1) := by decide +kernel
theorem dX7_state_24 : decode cX7_state 24 = .ok (.getfield 72, 3) := by decide +kernel
theorem dX7_state_27 : decode cX7_state 27 = .ok (.bipush 64, 2) := by decide +kernel
theorem dX7_state_29 : decode cX7_state 29 = .ok (.if_icmp .ne 8, 3) := by decide +kernel
theorem dX7_state_32 : decode cX7_state 32 = .ok (.bipush (-4), 2) := by decide +kernel
theorem dX7_state_34 : decode cX7_state 34 = .ok (.goto 8, 3) := by decide +kernel
theorem dX7_state_37 : decode cX7_state 37 = .ok (.aload_n 0, 1) := by decide +kernel
theorem dX7_state_38 : decode cX7_state 38 = .ok (.iload_n 1, 1) := by decide +kernel
theorem dX7_state_39 : decode cX7_state 39 = .ok (.invokevirtual 152, 3) := by decide +kernel
theorem dX7_state_42 : decode cX7_state 42 = .ok (.ireturn, 1) := by decide +kernel
theorem dX7_change_0 : decode cX7_change 0 = .ok (.aload_n 0, 1) := by decide +kernel
theorem dX7_change_1 : decode cX7_change 1 = .ok (.iload_n 1, 1) := by decide +kernel
theorem dX7_change_2 : decode cX7_change 2 = .ok (.iload_n 2, 1) := by decide +kernel
theorem dX7_change_3 : decode cX7_change 3 = .ok (.invokevirtual 155, 3) := by decide +kernel
theorem dX7_change_6 : decode cX7_change 6 = .ok (.ifCond .eq 12, 3) := by decide +kernel
theorem dX7_change_9 : decode cX7_change 9 = .ok (.aload_n 0, 1) := by decide +kernel
theorem dX7_change_10 : decode cX7_change 10 = .ok (.iload_n 1, 1) := by decide +kernel
theorem dX7_change_11 : decode cX7_change 11 = .ok (.iload_n 3, 1) := by decide +kernel
theorem dX7_change_12 : decode cX7_change 12 = .ok (.invokevirtual 155, 3) := by decide +kernel
theorem dX7_change_15 : decode cX7_change 15 = .ok (.ifCond .ne 5, 3) := by decide +kernel
theorem dX7_change_18 : decode cX7_change 18 = .ok (.iconst (-1), 1) := by decide +kernel
theorem dX7_change_19 : decode cX7_change 19 = .ok (.ireturn, 1) := by decide +kernel
theorem dX7_change_20 : decode cX7_change 20 = .ok (.aload_n 0, 1) := by decide +kernel
theorem dX7_change_21 : decode cX7_change 21 = .ok (.iload_n 1, 1) := by decide +kernel
theorem dX7_change_22 : decode cX7_change 22 = .ok (.invokevirtual 158, 3) := by decide +kernel
theorem dX7_change_25 : decode cX7_change 25 = .ok (.ifCond .eq 6, 3) := by decide +kernel
theorem dX7_change_28 : decode cX7_change 28 = .ok (.bipush (-2), 2) := by decide +kernel
theorem dX7_change_30 : decode cX7_change 30 = .ok (.ireturn, 1) := by decide +kernel
theorem dX7_change_31 : decode cX7_change 31 = .ok (.iload 4, 2) := by decide +kernel
theorem dX7_change_33 : decode cX7_change 33 = .ok (.iconst 1, 1) := by decide +kernel
theorem dX7_change_34 : decode cX7_change 34 = .ok (.ldc 161, 2) := by decide +kernel
theorem dX7_change_36 : decode cX7_change 36 = .ok (.invokestatic 64, 3) := by decide +kernel
theorem dX7_change_39 : decode cX7_change 39 = .ok (.ifCond .ne 6, 3) := by decide +kernel
theorem dX7_change_42 : decode cX7_change 42 = .ok (.bipush (-3), 2) := by decide +kernel
theorem dX7_change_44 : decode cX7_change 44 = .ok (.ireturn, 1) := by decide +kernel
theorem dX7_change_45 : decode cX7_change 45 = .ok (.iload_n 2, 1) := by decide +kernel
theorem dX7_change_46 : decode cX7_change 46 = .ok (.iload_n 3, 1) := by decide +kernel
theorem dX7_change_47 : decode cX7_change 47 = .ok (.if_icmp .eq 14, 3) := by decide +kernel
theorem dX7_change_50 : decode cX7_change 50 = .ok (.aload_n 0, 1) := by decide +kernel
theorem dX7_change_51 : decode cX7_change 51 = .ok (.iload_n 1, 1) := by decide +kernel
theorem dX7_change_52 : decode cX7_change 52 = .ok (.iload_n 2, 1) := by decide +kernel
theorem dX7_change_53 : decode cX7_change 53 = .ok (.invokevirtual 162, 3) := by decide +kernel
theorem dX7_change_56 : decode cX7_change 56 = .ok (.iload 4, 2) := by decide +kernel
theorem dX7_change_58 : decode cX7_change 58 = .ok (.if_icmp .ge 6, 3) := by decide +kernel
theorem dX7_change_61 : decode cX7_change 61 = .ok (.bipush (-4), 2) := by decide +kernel
theorem dX7_change_63 : decode cX7_change 63 = .ok (.ireturn, 1) := by decide +kernel
theorem dX7_change_64 : decode cX7_change 64 = .ok (.aload_n 0, 1) := by decide +kernel
theorem dX7_change_65 : decode cX7_change 65 = .ok (.getfield 52, 3) := by decide +kernel
theorem dX7_change_68 : decode cX7_change 68 = .ok (.bipush 35, 2) := by decide +kernel
theorem dX7_change_70 : decode cX7_change 70 = .ok (.iload_n 1, 1) := by decide +kernel
theorem dX7_change_71 : decode cX7_change 71 = .ok (.imul, 1) := by decide +kernel
theorem dX7_change_72 : decode cX7_change 72 = .ok (.iconst 4, 1) := by decide +kernel
theorem dX7_change_73 : decode cX7_change 73 = .ok (.iadd, 1) := by decide +kernel
theorem dX7_change_74 : decode cX7_change 74 = .ok (.iload_n 2, 1) := by decide +kernel
theorem dX7_change_75 : decode cX7_change 75 = .ok (.iadd, 1) := by decide +kernel
theorem dX7_change_76 : decode cX7_change 76 = .ok (.dup2, 1) := by decide +kernel
theorem dX7_change_77 : decode cX7_change 77 = .ok (.iaload, 1) := by decide +kernel
theorem dX7_change_78 : decode cX7_change 78 = .ok (.iload 4, 2) := by decide +kernel
theorem dX7_change_80 : decode cX7_change 80 = .ok (.isub, 1) := by decide +kernel
theorem dX7_change_81 : decode cX7_change 81 = .ok (.iastore, 1) := by decide +kernel
theorem dX7_change_82 : decode cX7_change 82 = .ok (.aload_n 0, 1) := by decide +kernel
theorem dX7_change_83 : decode cX7_change 83 = .ok (.getfield 52, 3) := by decide +kernel
theorem dX7_change_86 : decode cX7_change 86 = .ok (.bipush 35, 2) := by decide +kernel
theorem dX7_change_88 : decode cX7_change 88 = .ok (.iload_n 1, 1) := by decide +kernel
theorem dX7_change_89 : decode cX7_change 89 = .ok (.imul, 1) := by decide +kernel
theorem dX7_change_90 : decode cX7_change 90 = .ok (.iconst 4, 1) := by decide +kernel
theorem dX7_change_91 : decode cX7_change 91 = .ok (.iadd, 1) := by decide +kernel
theorem dX7_change_92 : decode cX7_change 92 = .ok (.iload_n 3, 1) := by decide +kernel
theorem dX7_change_93 : decode cX7_change 93 = .ok (.iadd, 1) := by decide +kernel
theorem dX7_change_94 : decode cX7_change 94 = .ok (.dup2, 1) := by decide +kernel
theorem dX7_change_95 : decode cX7_change 95 = .ok (.iaload, 1) := by decide +kernel
theorem dX7_change_96 : decode cX7_change 96 = .ok (.iload 4, 2) := by decide +kernel
theorem dX7_change_98 : decode cX7_change 98 = .ok (.iadd, 1) := by decide +kernel
theorem dX7_change_99 : decode cX7_change 99 = .ok (.iastore, 1) := by decide +kernel
theorem dX7_change_100 : decode cX7_change 100 = .ok (.aload_n 0, 1) := by decide +kernel
theorem dX7_change_101 : decode cX7_change 101 = .ok (.getfield 52, 3) := by decide +kernel
theorem dX7_change_104 : decode cX7_change 104 = .ok (.bipush 35, 2) := by decide +kernel
theorem dX7_change_106 : decode cX7_change 106 = .ok (.iload_n 1, 1) := by decide +kernel
theorem dX7_change_107 : decode cX7_change 107 = .ok (.imul, 1) := by decide +kernel
theorem dX7_change_108 : decode cX7_change 108 = .ok (.iconst 4, 1) := by decide +kernel
theorem dX7_change_109 : decode cX7_change 109 = .ok (.iadd, 1) := by decide +kernel
theorem dX7_change_110 : decode cX7_change 110 = .ok (.iload_n 2, 1) := by decide +kernel
theorem dX7_change_111 : decode cX7_change 111 = .ok (.iadd, 1) := by decide +kernel
theorem dX7_change_112 : decode cX7_change 112 = .ok (.iaload, 1) := by decide +kernel
theorem dX7_change_113 : decode cX7_change 113 = .ok (.ireturn, 1) := by decide +kernel
theorem dX7_lock_0 : decode cX7_lock 0 = .ok (.aload_n 0, 1) := by decide +kernel
theorem dX7_lock_1 : decode cX7_lock 1 = .ok (.iload_n 1, 1) := by decide +kernel
theorem dX7_lock_2 : decode cX7_lock 2 = .ok (.iload_n 2, 1) := by decide +kernel
theorem dX7_lock_3 : decode cX7_lock 3 = .ok (.invokevirtual 155, 3) := by decide +kernel
theorem dX7_lock_6 : decode cX7_lock 6 = .ok (.ifCond .eq 27, 3) := by decide +kernel
theorem dX7_lock_9 : decode cX7_lock 9 = .ok (.aload_n 0, 1) := by decide +kernel
theorem dX7_lock_10 : decode cX7_lock 10 = .ok (.iload_n 1, 1) := by decide +kernel
theorem dX7_lock_11 : decode cX7_lock 11 = .ok (.iload_n 3, 1) := by decide +kernel
theorem dX7_lock_12 : decode cX7_lock 12 = .ok (.invokevirtual 155, 3) := by decide +kernel
theorem dX7_lock_15 : decode cX7_lock 15 = .ok (.ifCond .eq 18, 3) := by decide +kernel
theorem dX7_lock_18 : decode cX7_lock 18 = .ok (.iload 5, 2) := by decide +kernel
theorem dX7_lock_20 : decode cX7_lock 20 = .ok (.iconst 0, 1) := by decide +kernel
theorem dX7_lock_21 : decode cX7_lock 21 = .ok (.aload_n 0, 1) := by decide +kernel
theorem dX7_lock_22 : decode cX7_lock 22 = .ok (.getfield 165, 3) := by decide +kernel
theorem dX7_lock_25 : decode cX7_lock 25 = .ok (.iconst 1, 1) := by decide +kernel
theorem dX7_lock_26 : decode cX7_lock 26 = .ok (.isub, 1) := by decide +kernel
theorem dX7_lock_27 : decode cX7_lock 27 = .ok (.invokestatic 64, 3) := by decide +kernel
theorem dX7_lock_30 : decode cX7_lock 30 = .ok (.ifCond .ne 5, 3) := by decide +kernel
theorem dX7_lock_33 : decode cX7_lock 33 = .ok (.iconst (-1), 1) := by decide +kernel
theorem dX7_lock_34 : decode cX7_lock 34 = .ok (.ireturn, 1) := by decide +kernel
theorem dX7_lock_35 : decode cX7_lock 35 = .ok (.aload_n 0, 1) := by decide +kernel
theorem dX7_lock_36 : decode cX7_lock 36 = .ok (.iload_n 1, 1) := by decide +kernel
theorem dX7_lock_37 : decode cX7_lock 37 = .ok (.invokevirtual 158, 3) := by decide +kernel
theorem dX7_lock_40 : decode cX7_lock 40 = .ok (.ifCond .eq 6, 3) := by decide +kernel
theorem dX7_lock_43 : decode cX7_lock 43 = .ok (.bipush (-2), 2) := by decide +kernel
theorem dX7_lock_45 : decode cX7_lock 45 = .ok (.ireturn, 1) := by decide +kernel
theorem dX7_lock_46 : decode cX7_lock 46 = .ok (.iload 4, 2) := by decide +kernel
theorem dX7_lock_48 : decode cX7_lock 48 = .ok (.iconst 1, 1) := by decide +kernel
theorem dX7_lock_49 : decode cX7_lock 49 = .ok (.ldc 161, 2) := by decide +kernel
theorem dX7_lock_51 : decode cX7_lock 51 = .ok (.invokestatic 64, 3) := by decide +kernel
theorem dX7_lock_54 : decode cX7_lock 54 = .ok (.ifCond .eq 14, 3) := by decide +kernel
theorem dX7_lock_57 : decode cX7_lock 57 = .ok (.iload 6, 2) := by decide +kernel
theorem dX7_lock_59 : decode cX7_lock 59 = .ok (.iconst 1, 1) := by decide +kernel
theorem dX7_lock_60 : decode cX7_lock 60 = .ok (.ldc 168, 2) := by decide +kernel
theorem dX7_lock_62 : decode cX7_lock 62 = .ok (.invokestatic 64, 3) := by decide +kernel
theorem dX7_lock_65 : decode cX7_lock 65 = .ok (.ifCond .ne 6, 3) := by decide +kernel
theorem dX7_lock_68 : decode cX7_lock 68 = .ok (.bipush (-3), 2) := by decide +kernel
theorem dX7_lock_70 : decode cX7_lock 70 = .ok (.ireturn, 1) := by decide +kernel
theorem dX7_lock_71 : decode cX7_lock 71 = .ok (.iload_n 2, 1) := by decide +kernel
theorem dX7_lock_72 : decode cX7_lock 72 = .ok (.iload_n 3, 1) := by decide +kernel
theorem dX7_lock_73 : decode cX7_lock 73 = .ok (.if_icmp .eq 23, 3) := by decide +kernel
theorem dX7_lock_76 : decode cX7_lock 76 = .ok (.aload_n 0, 1) := by decide +kernel
theorem dX7_lock_77 : decode cX7_lock 77 = .ok (.iload_n 1, 1) := by decide +kernel
theorem dX7_lock_78 : decode cX7_lock 78 = .ok (.iload_n 2, 1) := by decide +kernel
theorem dX7_lock_79 : decode cX7_lock 79 = .ok (.invokevirtual 162, 3) := by decide +kernel
theorem dX7_lock_82 : decode cX7_lock 82 = .ok (.iload 4, 2) := by decide +kernel
theorem dX7_lock_84 : decode cX7_lock 84 = .ok (.if_icmp .lt 12, 3) := by decide +kernel
theorem dX7_lock_87 : decode cX7_lock 87 = .ok (.aload_n 0, 1) := by decide +kernel
theorem dX7_lock_88 : decode cX7_lock 88 = .ok (.iload_n 1, 1) := by decide +kernel
theorem dX7_lock_89 : decode cX7_lock 89 = .ok (.invokevirtual 169, 3) := by decide +kernel
theorem dX7_lock_92 : decode cX7_lock 92 = .ok (.iconst (-1), 1) := by decide +kernel
theorem dX7_lock_93 : decode cX7_lock 93 = .ok (.if_icmp .ne 6, 3) := by decide +kernel
theorem dX7_lock_96 : decode cX7_lock 96 = .ok (.bipush (-4), 2) := by decide +kernel
theorem dX7_lock_98 : decode cX7_lock 98 = .ok (.ireturn, 1) := by decide +kernel
theorem dX7_lock_99 : decode cX7_lock 99 = .ok (.aload_n 0, 1) := by decide +kernel
theorem dX7_lock_100 : decode cX7_lock 100 = .ok (.iload_n 1, 1) := by decide +kernel
theorem dX7_lock_101 : decode cX7_lock 101 = .ok (.iload_n 2, 1) := by decide +kernel
theorem dX7_lock_102 : decode cX7_lock 102 = .ok (.iload_n 3, 1) := by decide +kernel
theorem dX7_lock_103 : decode cX7_lock 103 = .ok (.iload 4, 2) := by decide +kernel
theorem dX7_lock_105 : decode cX7_lock 105 = .ok (.iload 5, 2) := by decide +kernel
theorem dX7_lock_107 : decode cX7_lock 107 = .ok (.iload 6, 2) := by decide +kernel
theorem dX7_lock_109 : decode cX7_lock 109 = .ok (.invokevirtual 172, 3) := by decide +kernel
theorem dX7_lock_112 : decode cX7_lock 112 = .ok (.ireturn, 1) := by decide +kernel
theorem dX7_locks_0 : decode cX7_locks 0 = .ok (.aload_n 0, 1) := by decide +kernel
theorem dX7_locks_1 : decode cX7_locks 1 = .ok (.iload_n 1, 1) := by decide +kernel
theorem dX7_locks_2 : decode cX7_locks 2 = .ok (.invokevirtual 169, 3) := by decide +kernel
theorem dX7_locks_5 : decode cX7_locks 5 = .ok (.istore 7, 2) := by decide +kernel
theorem dX7_locks_7 : decode cX7_locks 7 = .ok (.iload_n 1, 1) := by decide +kernel
theorem dX7_locks_8 : decode cX7_locks 8 = .ok (.iload 7, 2) := by decide +kernel
theorem dX7_locks_10 : decode cX7_locks 10 = .ok (.invokestatic 93, 3) := by decide +kernel
theorem dX7_locks_13 : decode cX7_locks 13 = .ok (.istore 8, 2) := by decide +kernel
theorem dX7_locks_15 : decode cX7_locks 15 = .ok (.aload_n 0, 1) := by decide +kernel
theorem dX7_locks_16 : decode cX7_locks 16 = .ok (.getfield 52, 3) := by decide +kernel
theorem dX7_locks_19 : decode cX7_locks 19 = .ok (.bipush 35, 2) := by decide +kernel
theorem dX7_locks_21 : decode cX7_locks 21 = .ok (.iload_n 1, 1) := by decide +kernel
theorem dX7_locks_22 : decode cX7_locks 22 = .ok (.imul, 1) := by decide +kernel
theorem dX7_locks_23 : decode cX7_locks 23 = .ok (.iconst 4, 1) := by decide +kernel
theorem dX7_locks_24 : decode cX7_locks 24 = .ok (.iadd, 1) := by decide +kernel
theorem dX7_locks_25 : decode cX7_locks 25 = .ok (.iload_n 2, 1) := by decide +kernel
theorem dX7_locks_26 : decode cX7_locks 26 = .ok (.iadd, 1) := by decide +kernel
theorem dX7_locks_27 : decode cX7_locks 27 = .ok (.dup2, 1) := by decide +kernel
theorem dX7_locks_28 : decode cX7_locks 28 = .ok (.iaload, 1) := by decide +kernel
theorem dX7_locks_29 : decode cX7_locks 29 = .ok (.iload 4, 2) := by decide +kernel
theorem dX7_locks_31 : decode cX7_locks 31 = .ok (.isub, 1) := by decide +kernel
theorem dX7_locks_32 : decode cX7_locks 32 = .ok (.iastore, 1) := by decide +kernel
theorem dX7_locks_33 : decode cX7_locks 33 = .ok (.aload_n 0, 1) := by decide +kernel
theorem dX7_locks_34 : decode cX7_locks 34 = .ok (.getfield 52, 3) := by decide +kernel
theorem dX7_locks_37 : decode cX7_locks 37 = .ok (.iload 8, 2) := by decide +kernel
theorem dX7_locks_39 : decode cX7_locks 39 = .ok (.iconst 0, 1) := by decide +kernel
theorem dX7_locks_40 : decode cX7_locks 40 = .ok (.iadd, 1) := by decide +kernel
theorem dX7_locks_41 : decode cX7_locks 41 = .ok (.iload 4, 2) := by decide +kernel
theorem dX7_locks_43 : decode cX7_locks 43 = .ok (.iastore, 1) := by decide +kernel
theorem dX7_locks_44 : decode cX7_locks 44 = .ok (.aload_n 0, 1) := by decide +kernel
theorem dX7_locks_45 : decode cX7_locks 45 = .ok (.getfield 52, 3) := by decide +kernel
theorem dX7_locks_48 : decode cX7_locks 48 = .ok (.iload 8, 2) := by decide +kernel
theorem dX7_locks_50 : decode cX7_locks 50 = .ok (.iconst 1, 1) := by decide +kernel
theorem dX7_locks_51 : decode cX7_locks 51 = .ok (.iadd, 1) := by decide +kernel
theorem dX7_locks_52 : decode cX7_locks 52 = .ok (.iload_n 2, 1) := by decide +kernel
theorem dX7_locks_53 : decode cX7_locks 53 = .ok (.iastore, 1) := by decide +kernel
theorem dX7_locks_54 : decode cX7_locks 54 = .ok (.aload_n 0, 1) := by decide +kernel
theorem dX7_locks_55 : decode cX7_locks 55 = .ok (.getfield 52, 3) := by decide +kernel
theorem dX7_locks_58 : decode cX7_locks 58 = .ok (.iload 8, 2) := by decide +kernel
theorem dX7_locks_60 : decode cX7_locks 60 = .ok (.iconst 2, 1) := by decide +kernel
theorem dX7_locks_61 : decode cX7_locks 61 = .ok (.iadd, 1) := by decide +kernel
theorem dX7_locks_62 : decode cX7_locks 62 = .ok (.iload_n 3, 1) := by decide +kernel
theorem dX7_locks_63 : decode cX7_locks 63 = .ok (.iastore, 1) := by decide +kernel
theorem dX7_locks_64 : decode cX7_locks 64 = .ok (.aload_n 0, 1) := by decide +kernel
theorem dX7_locks_65 : decode cX7_locks 65 = .ok (.getfield 52, 3) := by decide +kernel
theorem dX7_locks_68 : decode cX7_locks 68 = .ok (.iload 8, 2) := by decide +kernel
theorem dX7_locks_70 : decode cX7_locks 70 = .ok (.iconst 3, 1) := by decide +kernel
theorem dX7_locks_71 : decode cX7_locks 71 = .ok (.iadd, 1) := by decide +kernel
theorem dX7_locks_72 : decode cX7_locks 72 = .ok (.iload 5, 2) := by decide +kernel
theorem dX7_locks_74 : decode cX7_locks 74 = .ok (.iastore, 1) := by decide +kernel
theorem dX7_locks_75 : decode cX7_locks 75 = .ok (.aload_n 0, 1) := by decide +kernel
theorem dX7_locks_76 : decode cX7_locks 76 = .ok (.getfield 52, 3) := by decide +kernel
theorem dX7_locks_79 : decode cX7_locks 79 = .ok (.iload 8, 2) := by decide +kernel
theorem dX7_locks_81 : decode cX7_locks 81 = .ok (.iconst 4, 1) := by decide +kernel
theorem dX7_locks_82 : decode cX7_locks 82 = .ok (.iadd, 1) := by decide +kernel
theorem dX7_locks_83 : decode cX7_locks 83 = .ok (.iload 6, 2) := by decide +kernel
theorem dX7_locks_85 : decode cX7_locks 85 = .ok (.iastore, 1) := by decide +kernel
theorem dX7_locks_86 : decode cX7_locks 86 = .ok (.iload 7, 2) := by decide +kernel
theorem dX7_locks_88 : decode cX7_locks 88 = .ok (.ireturn, 1) := by decide +kernel
theorem dX7_isLock_0 : decode cX7_isLock 0 = .ok (.aload_n 0, 1) := by decide +kernel
theorem dX7_isLock_1 : decode cX7_isLock 1 = .ok (.iload_n 1, 1) := by decide +kernel
theorem dX7_isLock_2 : decode cX7_isLock 2 = .ok (.invokevirtual 83, 3) := by decide +kernel
theorem dX7_isLock_5 : decode cX7_isLock 5 = .ok (.ifCond .eq 31, 3) := by decide +kernel
theorem dX7_isLock_8 : decode cX7_isLock 8 = .ok (.iload_n 2, 1) := by decide +kernel
theorem dX7_isLock_9 : decode cX7_isLock 9 = .ok (.iconst 0, 1) := by decide +kernel
theorem dX7_isLock_10 : decode cX7_isLock 10 = .ok (.iconst 2, 1) := by decide +kernel
theorem dX7_isLock_11 : decode cX7_isLock 11 = .ok (.invokestatic 64, 3) := by decide +kernel
theorem dX7_isLock_14 : decode cX7_isLock 14 = .ok (.ifCond .eq 22, 3) := by decide +kernel
theorem dX7_isLock_17 : decode cX7_isLock 17 = .ok (.aload_n 0, 1) := by decide +kernel
theorem dX7_isLock_18 : decode cX7_isLock 18 = .ok (.getfield 52, 3) := by decide +kernel
theorem dX7_isLock_21 : decode cX7_isLock 21 = .ok (.iload_n 1, 1) := by decide +kernel
theorem dX7_isLock_22 : decode cX7_isLock 22 = .ok (.iload_n 2, 1) := by decide +kernel
theorem dX7_isLock_23 : decode cX7_isLock 23 = .ok (.invokestatic 93, 3) := by decide +kernel
theorem dX7_isLock_26 : decode cX7_isLock 26 = .ok (.iconst 0, 1) := by decide +kernel
theorem dX7_isLock_27 : decode cX7_isLock 27 = .ok (.iadd, 1) := by decide +kernel
theorem dX7_isLock_28 : decode cX7_isLock 28 = .ok (.iaload, 1) := by decide +kernel
theorem dX7_isLock_29 : decode cX7_isLock 29 = .ok (.ifCond .le 7, 3) := by decide +kernel
theorem dX7_isLock_32 : decode cX7_isLock 32 = .ok (.iconst 1, 1) := by decide +kernel
theorem dX7_isLock_33 : decode cX7_isLock 33 = .ok (.goto 4, 3) := by decide +kernel
theorem dX7_isLock_36 : decode cX7_isLock 36 = .ok (.iconst 0, 1) := by decide +kernel
theorem dX7_isLock_37 : decode cX7_isLock 37 = .ok (.ireturn, 1) := by decide +kernel
theorem dX7_unlock_0 : decode cX7_unlock 0 = .ok (.aload_n 0, 1) := by decide +kernel
theorem dX7_unlock_1 : decode cX7_unlock 1 = .ok (.iload_n 1, 1) := by decide +kernel
theorem dX7_unlock_2 : decode cX7_unlock 2 = .ok (.iload_n 2, 1) := by decide +kernel
theorem dX7_unlock_3 : decode cX7_unlock 3 = .ok (.invokevirtual 176, 3) := by decide +kernel
theorem dX7_unlock_6 : decode cX7_unlock 6 = .ok (.ifCond .ne 5, 3) := by decide +kernel
theorem dX7_unlock_9 : decode cX7_unlock 9 = .ok (.iconst (-1), 1) := by decide +kernel
theorem dX7_unlock_10 : decode cX7_unlock 10 = .ok (.ireturn, 1) := by decide +kernel
theorem dX7_unlock_11 : decode cX7_unlock 11 = .ok (.aload_n 0, 1) := by decide +kernel
theorem dX7_unlock_12 : decode cX7_unlock 12 = .ok (.iload_n 1, 1) := by decide +kernel
theorem dX7_unlock_13 : decode cX7_unlock 13 = .ok (.invokevirtual 158, 3) := by decide +kernel
theorem dX7_unlock_16 : decode cX7_unlock 16 = .ok (.ifCond .eq 6, 3) := by decide +kernel
theorem dX7_unlock_19 : decode cX7_unlock 19 = .ok (.bipush (-2), 2) := by decide +kernel
theorem dX7_unlock_21 : decode cX7_unlock 21 = .ok (.ireturn, 1) := by decide +kernel
theorem dX7_unlock_22 : decode cX7_unlock 22 = .ok (.iload_n 1, 1) := by decide +kernel
theorem dX7_unlock_23 : decode cX7_unlock 23 = .ok (.iload_n 2, 1) := by decide +kernel
theorem dX7_unlock_24 : decode cX7_unlock 24 = .ok (.invokestatic 93, 3) := by decide +kernel
theorem dX7_unlock_27 : decode cX7_unlock 27 = .ok (.istore 4, 2) := by decide +kernel
theorem dX7_unlock_29 : decode cX7_unlock 29 = .ok (.aload_n 0, 1) := by decide +kernel
theorem dX7_unlock_30 : decode cX7_unlock 30 = .ok (.getfield 52, 3) := by decide +kernel
theorem dX7_unlock_33 : decode cX7_unlock 33 = .ok (.iload 4, 2) := by decide +kernel
theorem dX7_unlock_35 : decode cX7_unlock 35 = .ok (.iconst 0, 1) := by decide +kernel
theorem dX7_unlock_36 : decode cX7_unlock 36 = .ok (.iadd, 1) := by decide +kernel
theorem dX7_unlock_37 : decode cX7_unlock 37 = .ok (.iaload, 1) := by decide +kernel
theorem dX7_unlock_38 : decode cX7_unlock 38 = .ok (.istore 5, 2) := by decide +kernel
theorem dX7_unlock_40 : decode cX7_unlock 40 = .ok (.iload_n 3, 1) := by decide +kernel
theorem dX7_unlock_41 : decode cX7_unlock 41 = .ok (.ifCond .eq 15, 3) := by decide +kernel
theorem dX7_unlock_44 : decode cX7_unlock 44 = .ok (.aload_n 0, 1) := by decide +kernel
theorem dX7_unlock_45 : decode cX7_unlock 45 = .ok (.getfield 52, 3) := by decide +kernel
theorem dX7_unlock_48 : decode cX7_unlock 48 = .ok (.iload 4, 2) := by decide +kernel
theorem dX7_unlock_50 : decode cX7_unlock 50 = .ok (.iconst 2, 1) := by decide +kernel
theorem dX7_unlock_51 : decode cX7_unlock 51 = .ok (.iadd, 1) := by decide +kernel
theorem dX7_unlock_52 : decode cX7_unlock 52 = .ok (.iaload, 1) := by decide +kernel
theorem dX7_unlock_53 : decode cX7_unlock 53 = .ok (.goto 12, 3) := by decide +kernel
theorem dX7_unlock_56 : decode cX7_unlock 56 = .ok (.aload_n 0, 1) := by decide +kernel
theorem dX7_unlock_57 : decode cX7_unlock 57 = .ok (.getfield 52, 3) := by decide +kernel
theorem dX7_unlock_60 : decode cX7_unlock 60 = .ok (.iload 4, 2) := by decide +kernel
theorem dX7_unlock_62 : decode cX7_unlock 62 = .ok (.iconst 1, 1) := by decide +kernel
theorem dX7_unlock_63 : decode cX7_unlock 63 = .ok (.iadd, 1) := by decide +kernel
theorem dX7_unlock_64 : decode cX7_unlock 64 = .ok (.iaload, 1) := by decide +kernel
theorem dX7_unlock_65 : decode cX7_unlock 65 = .ok (.istore 6, 2) := by decide +kernel
theorem dX7_unlock_67 : decode cX7_unlock 67 = .ok (.aload_n 0, 1) := by decide +kernel
theorem dX7_unlock_68 : decode cX7_unlock 68 = .ok (.getfield 52, 3) := by decide +kernel
theorem dX7_unlock_71 : decode cX7_unlock 71 = .ok (.bipush 35, 2) := by decide +kernel
theorem dX7_unlock_73 : decode cX7_unlock 73 = .ok (.iload_n 1, 1) := by decide +kernel
theorem dX7_unlock_74 : decode cX7_unlock 74 = .ok (.imul, 1) := by decide +kernel
theorem dX7_unlock_75 : decode cX7_unlock 75 = .ok (.iconst 4, 1) := by decide +kernel
theorem dX7_unlock_76 : decode cX7_unlock 76 = .ok (.iadd, 1) := by decide +kernel
theorem dX7_unlock_77 : decode cX7_unlock 77 = .ok (.iload 6, 2) := by decide +kernel
theorem dX7_unlock_79 : decode cX7_unlock 79 = .ok (.iadd, 1) := by decide +kernel
theorem dX7_unlock_80 : decode cX7_unlock 80 = .ok (.dup2, 1) := by decide +kernel
theorem dX7_unlock_81 : decode cX7_unlock 81 = .ok (.iaload, 1) := by decide +kernel
theorem dX7_unlock_82 : decode cX7_unlock 82 = .ok (.iload 5, 2) := by decide +kernel
theorem dX7_unlock_84 : decode cX7_unlock 84 = .ok (.iadd, 1) := by decide +kernel
theorem dX7_unlock_85 : decode cX7_unlock 85 = .ok (.iastore, 1) := by decide +kernel
theorem dX7_unlock_86 : decode cX7_unlock 86 = .ok (.iconst 0, 1) := by decide +kernel
theorem dX7_unlock_87 : decode cX7_unlock 87 = .ok (.istore 7, 2) := by decide +kernel
theorem dX7_unlock_89 : decode cX7_unlock 89 = .ok (.iload 7, 2) := by decide +kernel
theorem dX7_unlock_91 : decode cX7_unlock 91 = .ok (.iconst 5, 1) := by decide +kernel
theorem dX7_unlock_92 : decode cX7_unlock 92 = .ok (.if_icmp .ge 20, 3) := by decide +kernel
theorem dX7_unlock_95 : decode cX7_unlock 95 = .ok (.aload_n 0, 1) := by decide +kernel
theorem dX7_unlock_96 : decode cX7_unlock 96 = .ok (.getfield 52, 3) := by decide +kernel
theorem dX7_unlock_99 : decode cX7_unlock 99 = .ok (.iload 4, 2) := by decide +kernel
theorem dX7_unlock_101 : decode cX7_unlock 101 = .ok (.iload 7, 2) := by decide +kernel
theorem dX7_unlock_103 : decode cX7_unlock 103 = .ok (.iadd, 1) := by decide +kernel
theorem dX7_unlock_104 : decode cX7_unlock 104 = .ok (.iconst 0, 1) := by decide +kernel
theorem dX7_unlock_105 : decode cX7_unlock 105 = .ok (.iastore, 1) := by decide +kernel
theorem dX7_unlock_106 : decode cX7_unlock 106 = .ok (.iinc 7 1, 3) := by decide +kernel
theorem dX7_unlock_109 : decode cX7_unlock 109 = .ok (.goto (-20), 3) := by decide +kernel
theorem dX7_unlock_112 : decode cX7_unlock 112 = .ok (.iload 5, 2) := by decide +kernel
theorem dX7_unlock_114 : decode cX7_unlock 114 = .ok (.ireturn, 1) := by decide +kernel
theorem dX7_game_0 : decode cX7_game 0 = .ok (.aload_n 0, 1) := by decide +kernel
theorem dX7_game_1 : decode cX7_game 1 = .ok (.iload_n 1, 1) := by decide +kernel
theorem dX7_game_2 : decode cX7_game 2 = .ok (.iload_n 2, 1) := by decide +kernel
theorem dX7_game_3 : decode cX7_game 3 = .ok (.invokevirtual 155, 3) := by decide +kernel
theorem dX7_game_6 : decode cX7_game 6 = .ok (.ifCond .eq 12, 3) := by decide +kernel
theorem dX7_game_9 : decode cX7_game 9 = .ok (.aload_n 0, 1) := by decide +kernel
theorem dX7_game_10 : decode cX7_game 10 = .ok (.iload_n 1, 1) := by decide +kernel
theorem dX7_game_11 : decode cX7_game 11 = .ok (.iload_n 3, 1) := by decide +kernel
theorem dX7_game_12 : decode cX7_game 12 = .ok (.invokevirtual 155, 3) := by decide +kernel
theorem dX7_game_15 : decode cX7_game 15 = .ok (.ifCond .ne 5, 3) := by decide +kernel
theorem dX7_game_18 : decode cX7_game 18 = .ok (.iconst (-1), 1) := by decide +kernel
theorem dX7_game_19 : decode cX7_game 19 = .ok (.ireturn, 1) := by decide +kernel
theorem dX7_game_20 : decode cX7_game 20 = .ok (.aload_n 0, 1) := by decide +kernel
theorem dX7_game_21 : decode cX7_game 21 = .ok (.iload_n 1, 1) := by decide +kernel
theorem dX7_game_22 : decode cX7_game 22 = .ok (.invokevirtual 158, 3) := by decide +kernel
theorem dX7_game_25 : decode cX7_game 25 = .ok (.ifCond .eq 6, 3) := by decide +kernel
theorem dX7_game_28 : decode cX7_game 28 = .ok (.bipush (-2), 2) := by decide +kernel
theorem dX7_game_30 : decode cX7_game 30 = .ok (.ireturn, 1) := by decide +kernel
theorem dX7_game_31 : decode cX7_game 31 = .ok (.iload 4, 2) := by decide +kernel
theorem dX7_game_33 : decode cX7_game 33 = .ok (.iconst 1, 1) := by decide +kernel
theorem dX7_game_34 : decode cX7_game 34 = .ok (.sipush 10000, 3) := by decide +kernel
theorem dX7_game_37 : decode cX7_game 37 = .ok (.invokestatic 64, 3) := by decide +kernel
theorem dX7_game_40 : decode cX7_game 40 = .ok (.ifCond .eq 14, 3) := by decide +kernel
theorem dX7_game_43 : decode cX7_game 43 = .ok (.iload 5, 2) := by decide +kernel
theorem dX7_game_45 : decode cX7_game 45 = .ok (.iconst 1, 1) := by decide +kernel
theorem dX7_game_46 : decode cX7_game 46 = .ok (.bipush 20, 2) := by decide +kernel
theorem dX7_game_48 : decode cX7_game 48 = .ok (.invokestatic 64, 3) := by decide +kernel
theorem dX7_game_51 : decode cX7_game 51 = .ok (.ifCond .ne 6, 3) := by decide +kernel
theorem dX7_game_54 : decode cX7_game 54 = .ok (.bipush (-3), 2) := by decide +kernel
theorem dX7_game_56 : decode cX7_game 56 = .ok (.ireturn, 1) := by decide +kernel
theorem dX7_game_57 : decode cX7_game 57 = .ok (.bipush 35, 2) := by decide +kernel
theorem dX7_game_59 : decode cX7_game 59 = .ok (.iload_n 1, 1) := by decide +kernel
theorem dX7_game_60 : decode cX7_game 60 = .ok (.imul, 1) := by decide +kernel
theorem dX7_game_61 : decode cX7_game 61 = .ok (.istore 6, 2) := by decide +kernel
theorem dX7_game_63 : decode cX7_game 63 = .ok (.iload_n 2, 1) := by decide +kernel
theorem dX7_game_64 : decode cX7_game 64 = .ok (.iload_n 3, 1) := by decide +kernel
theorem dX7_game_65 : decode cX7_game 65 = .ok (.if_icmp .eq 38, 3) := by decide +kernel
theorem dX7_game_68 : decode cX7_game 68 = .ok (.aload_n 0, 1) := by decide +kernel
theorem dX7_game_69 : decode cX7_game 69 = .ok (.getfield 52, 3) := by decide +kernel
theorem dX7_game_72 : decode cX7_game 72 = .ok (.iload 6, 2) := by decide +kernel
theorem dX7_game_74 : decode cX7_game 74 = .ok (.bipush 31, 2) := by decide +kernel
theorem dX7_game_76 : decode cX7_game 76 = .ok (.iadd, 1) := by decide +kernel
theorem dX7_game_77 : decode cX7_game 77 = .ok (.iaload, 1) := by decide +kernel
theorem dX7_game_78 : decode cX7_game 78 = .ok (.ifCond .gt 25, 3) := by decide +kernel
theorem dX7_game_81 : decode cX7_game 81 = .ok (.aload_n 0, 1) := by decide +kernel
theorem dX7_game_82 : decode cX7_game 82 = .ok (.iload_n 1, 1) := by decide +kernel
theorem dX7_game_83 : decode cX7_game 83 = .ok (.iload_n 2, 1) := by decide +kernel
theorem dX7_game_84 : decode cX7_game 84 = .ok (.invokevirtual 162, 3) := by decide +kernel
theorem dX7_game_87 : decode cX7_game 87 = .ok (.iload 4, 2) := by decide +kernel
theorem dX7_game_89 : decode cX7_game 89 = .ok (.if_icmp .lt 14, 3) := by decide +kernel
theorem dX7_game_92 : decode cX7_game 92 = .ok (.aload_n 0, 1) := by decide +kernel
theorem dX7_game_93 : decode cX7_game 93 = .ok (.iload_n 1, 1) := by decide +kernel
theorem dX7_game_94 : decode cX7_game 94 = .ok (.iload_n 3, 1) := by decide +kernel
theorem dX7_game_95 : decode cX7_game 95 = .ok (.invokevirtual 162, 3) := by decide +kernel
theorem dX7_game_98 : decode cX7_game 98 = .ok (.iload 4, 2) := by decide +kernel
theorem dX7_game_100 : decode cX7_game 100 = .ok (.if_icmp .ge 6, 3) := by decide +kernel
theorem dX7_game_103 : decode cX7_game 103 = .ok (.bipush (-4), 2) := by decide +kernel
theorem dX7_game_105 : decode cX7_game 105 = .ok (.ireturn, 1) := by decide +kernel
theorem dX7_game_106 : decode cX7_game 106 = .ok (.aload_n 0, 1) := by decide +kernel
theorem dX7_game_107 : decode cX7_game 107 = .ok (.getfield 52, 3) := by decide +kernel
theorem dX7_game_110 : decode cX7_game 110 = .ok (.iload 6, 2) := by decide +kernel
theorem dX7_game_112 : decode cX7_game 112 = .ok (.iconst 4, 1) := by decide +kernel
theorem dX7_game_113 : decode cX7_game 113 = .ok (.iadd, 1) := by decide +kernel
theorem dX7_game_114 : decode cX7_game 114 = .ok (.iload_n 2, 1) := by decide +kernel
theorem dX7_game_115 : decode cX7_game 115 = .ok (.iadd, 1) := by decide +kernel
theorem dX7_game_116 : decode cX7_game 116 = .ok (.dup2, 1) := by decide +kernel
theorem dX7_game_117 : decode cX7_game 117 = .ok (.iaload, 1) := by decide +kernel
theorem dX7_game_118 : decode cX7_game 118 = .ok (.iload 4, 2) := by decide +kernel
theorem dX7_game_120 : decode cX7_game 120 = .ok (.isub, 1) := by decide +kernel
theorem dX7_game_121 : decode cX7_game 121 = .ok (.iastore, 1) := by decide +kernel
theorem dX7_game_122 : decode cX7_game 122 = .ok (.aload_n 0, 1) := by decide +kernel
theorem dX7_game_123 : decode cX7_game 123 = .ok (.getfield 52, 3) := by decide +kernel
theorem dX7_game_126 : decode cX7_game 126 = .ok (.iload 6, 2) := by decide +kernel
theorem dX7_game_128 : decode cX7_game 128 = .ok (.iconst 4, 1) := by decide +kernel
theorem dX7_game_129 : decode cX7_game 129 = .ok (.iadd, 1) := by decide +kernel
theorem dX7_game_130 : decode cX7_game 130 = .ok (.iload_n 3, 1) := by decide +kernel
theorem dX7_game_131 : decode cX7_game 131 = .ok (.iadd, 1) := by decide +kernel
theorem dX7_game_132 : decode cX7_game 132 = .ok (.dup2, 1) := by decide +kernel
theorem dX7_game_133 : decode cX7_game 133 = .ok (.iaload, 1) := by decide +kernel
theorem dX7_game_134 : decode cX7_game 134 = .ok (.iload 4, 2) := by decide +kernel
theorem dX7_game_136 : decode cX7_game 136 = .ok (.isub, 1) := by decide +kernel
theorem dX7_game_137 : decode cX7_game 137 = .ok (.iastore, 1) := by decide +kernel
theorem dX7_game_138 : decode cX7_game 138 = .ok (.aload_n 0, 1) := by decide +kernel
theorem dX7_game_139 : decode cX7_game 139 = .ok (.getfield 52, 3) := by decide +kernel
theorem dX7_game_142 : decode cX7_game 142 = .ok (.iload 6, 2) := by decide +kernel
theorem dX7_game_144 : decode cX7_game 144 = .ok (.bipush 31, 2) := by decide +kernel
theorem dX7_game_146 : decode cX7_game 146 = .ok (.iadd, 1) := by decide +kernel
theorem dX7_game_147 : decode cX7_game 147 = .ok (.iconst 2, 1) := by decide +kernel
theorem dX7_game_148 : decode cX7_game 148 = .ok (.iload 4, 2) := by decide +kernel
theorem dX7_game_150 : decode cX7_game 150 = .ok (.imul, 1) := by decide +kernel
theorem dX7_game_151 : decode cX7_game 151 = .ok (.iastore, 1) := by decide +kernel
theorem dX7_game_152 : decode cX7_game 152 = .ok (.aload_n 0, 1) := by decide +kernel
theorem dX7_game_153 : decode cX7_game 153 = .ok (.getfield 52, 3) := by decide +kernel
theorem dX7_game_156 : decode cX7_game 156 = .ok (.iload 6, 2) := by decide +kernel
theorem dX7_game_158 : decode cX7_game 158 = .ok (.bipush 32, 2) := by decide +kernel
theorem dX7_game_160 : decode cX7_game 160 = .ok (.iadd, 1) := by decide +kernel
theorem dX7_game_161 : decode cX7_game 161 = .ok (.iload 5, 2) := by decide +kernel
theorem dX7_game_163 : decode cX7_game 163 = .ok (.iastore, 1) := by decide +kernel
theorem dX7_game_164 : decode cX7_game 164 = .ok (.aload_n 0, 1) := by decide +kernel
theorem dX7_game_165 : decode cX7_game 165 = .ok (.getfield 52, 3) := by decide +kernel
theorem dX7_game_168 : decode cX7_game 168 = .ok (.iload 6, 2) := by decide +kernel
theorem dX7_game_170 : decode cX7_game 170 = .ok (.bipush 33, 2) := by decide +kernel
theorem dX7_game_172 : decode cX7_game 172 = .ok (.iadd, 1) := by decide +kernel
theorem dX7_game_173 : decode cX7_game 173 = .ok (.iload_n 2, 1) := by decide +kernel
theorem dX7_game_174 : decode cX7_game 174 = .ok (.iastore, 1) := by decide +kernel
theorem dX7_game_175 : decode cX7_game 175 = .ok (.aload_n 0, 1) := by decide +kernel
theorem dX7_game_176 : decode cX7_game 176 = .ok (.getfield 52, 3) := by decide +kernel
theorem dX7_game_179 : decode cX7_game 179 = .ok (.iload 6, 2) := by decide +kernel
theorem dX7_game_181 : decode cX7_game 181 = .ok (.bipush 34, 2) := by decide +kernel
theorem dX7_game_183 : decode cX7_game 183 = .ok (.iadd, 1) := by decide +kernel
theorem dX7_game_184 : decode cX7_game 184 = .ok (.iload_n 3, 1) := by decide +kernel
theorem dX7_game_185 : decode cX7_game 185 = .ok (.iastore, 1) := by decide +kernel
theorem dX7_game_186 : decode cX7_game 186 = .ok (.iconst 2, 1) := by decide +kernel
theorem dX7_game_187 : decode cX7_game 187 = .ok (.iload 4, 2) := by decide +kernel
theorem dX7_game_189 : decode cX7_game 189 = .ok (.imul, 1) := by decide +kernel
theorem dX7_game_190 : decode cX7_game 190 = .ok (.ireturn, 1) := by decide +kernel
theorem dX7_move_0 : decode cX7_move 0 = .ok (.aload_n 0, 1) := by decide +kernel
theorem dX7_move_1 : decode cX7_move 1 = .ok (.iload_n 1, 1) := by decide +kernel
theorem dX7_move_2 : decode cX7_move 2 = .ok (.invokevirtual 83, 3) := by decide +kernel
theorem dX7_move_5 : decode cX7_move 5 = .ok (.ifCond .ne 5, 3) := by decide +kernel
theorem dX7_move_8 : decode cX7_move 8 = .ok (.iconst (-1), 1) := by decide +kernel
theorem dX7_move_9 : decode cX7_move 9 = .ok (.ireturn, 1) := by decide +kernel
theorem dX7_move_10 : decode cX7_move 10 = .ok (.aload_n 0, 1) := by decide +kernel
theorem dX7_move_11 : decode cX7_move 11 = .ok (.iload_n 1, 1) := by decide +kernel
theorem dX7_move_12 : decode cX7_move 12 = .ok (.invokevirtual 158, 3) := by decide +kernel
theorem dX7_move_15 : decode cX7_move 15 = .ok (.ifCond .eq 6, 3) := by decide +kernel
theorem dX7_move_18 : decode cX7_move 18 = .ok (.bipush (-2), 2) := by decide +kernel
theorem dX7_move_20 : decode cX7_move 20 = .ok (.ireturn, 1) := by decide +kernel
theorem dX7_move_21 : decode cX7_move 21 = .ok (.iload_n 2, 1) := by decide +kernel
theorem dX7_move_22 : decode cX7_move 22 = .ok (.iconst 1, 1) := by decide +kernel
theorem dX7_move_23 : decode cX7_move 23 = .ok (.iconst 3, 1) := by decide +kernel
theorem dX7_move_24 : decode cX7_move 24 = .ok (.invokestatic 64, 3) := by decide +kernel
theorem dX7_move_27 : decode cX7_move 27 = .ok (.ifCond .ne 6, 3) := by decide +kernel
theorem dX7_move_30 : decode cX7_move 30 = .ok (.bipush (-3), 2) := by decide +kernel
theorem dX7_move_32 : decode cX7_move 32 = .ok (.ireturn, 1) := by decide +kernel
theorem dX7_move_33 : decode cX7_move 33 = .ok (.bipush 35, 2) := by decide +kernel
theorem dX7_move_35 : decode cX7_move 35 = .ok (.iload_n 1, 1) := by decide +kernel
theorem dX7_move_36 : decode cX7_move 36 = .ok (.imul, 1) := by decide +kernel
theorem dX7_move_37 : decode cX7_move 37 = .ok (.istore_n 3, 1) := by decide +kernel
theorem dX7_move_38 : decode cX7_move 38 = .ok (.aload_n 0, 1) := by decide +kernel
theorem dX7_move_39 : decode cX7_move 39 = .ok (.getfield 52, 3) := by decide +kernel
theorem dX7_move_42 : decode cX7_move 42 = .ok (.iload_n 3, 1) := by decide +kernel
theorem dX7_move_43 : decode cX7_move 43 = .ok (.bipush 31, 2) := by decide +kernel
theorem dX7_move_45 : decode cX7_move 45 = .ok (.iadd, 1) := by decide +kernel
theorem dX7_move_46 : decode cX7_move 46 = .ok (.iaload, 1) := by decide +kernel
theorem dX7_move_47 : decode cX7_move 47 = .ok (.ifCond .eq 16, 3) := by decide +kernel
theorem dX7_move_50 : decode cX7_move 50 = .ok (.aload_n 0, 1) := by decide +kernel
theorem dX7_move_51 : decode cX7_move 51 = .ok (.getfield 52, 3) := by decide +kernel
theorem dX7_move_54 : decode cX7_move 54 = .ok (.iload_n 3, 1) := by decide +kernel
theorem dX7_move_55 : decode cX7_move 55 = .ok (.bipush 32, 2) := by decide +kernel
theorem dX7_move_57 : decode cX7_move 57 = .ok (.iadd, 1) := by decide +kernel
theorem dX7_move_58 : decode cX7_move 58 = .ok (.iaload, 1) := by decide +kernel
theorem dX7_move_59 : decode cX7_move 59 = .ok (.iload_n 2, 1) := by decide +kernel
theorem dX7_move_60 : decode cX7_move 60 = .ok (.if_icmp .ge 6, 3) := by decide +kernel
theorem dX7_move_63 : decode cX7_move 63 = .ok (.bipush (-4), 2) := by decide +kernel
theorem dX7_move_65 : decode cX7_move 65 = .ok (.ireturn, 1) := by decide +kernel
theorem dX7_move_66 : decode cX7_move 66 = .ok (.aload_n 0, 1) := by decide +kernel
theorem dX7_move_67 : decode cX7_move 67 = .ok (.getfield 52, 3) := by decide +kernel
theorem dX7_move_70 : decode cX7_move 70 = .ok (.iload_n 3, 1) := by decide +kernel
theorem dX7_move_71 : decode cX7_move 71 = .ok (.bipush 33, 2) := by decide +kernel
theorem dX7_move_73 : decode cX7_move 73 = .ok (.iadd, 1) := by decide +kernel
theorem dX7_move_74 : decode cX7_move 74 = .ok (.iaload, 1) := by decide +kernel
theorem dX7_move_75 : decode cX7_move 75 = .ok (.istore 4, 2) := by decide +kernel
theorem dX7_move_77 : decode cX7_move 77 = .ok (.aload_n 0, 1) := by decide +kernel
theorem dX7_move_78 : decode cX7_move 78 = .ok (.getfield 52, 3) := by decide +kernel
theorem dX7_move_81 : decode cX7_move 81 = .ok (.iload_n 3, 1) := by decide +kernel
theorem dX7_move_82 : decode cX7_move 82 = .ok (.bipush 32, 2) := by decide +kernel
theorem dX7_move_84 : decode cX7_move 84 = .ok (.iadd, 1) := by decide +kernel
theorem dX7_move_85 : decode cX7_move 85 = .ok (.dup2, 1) := by decide +kernel
theorem dX7_move_86 : decode cX7_move 86 = .ok (.iaload, 1) := by decide +kernel
theorem dX7_move_87 : decode cX7_move 87 = .ok (.iload_n 2, 1) := by decide +kernel
theorem dX7_move_88 : decode cX7_move 88 = .ok (.isub, 1) := by decide +kernel
theorem dX7_move_89 : decode cX7_move 89 = .ok (.iastore, 1) := by decide +kernel
theorem dX7_move_90 : decode cX7_move 90 = .ok (.aload_n 0, 1) := by decide +kernel
theorem dX7_move_91 : decode cX7_move 91 = .ok (.getfield 52, 3) := by decide +kernel
theorem dX7_move_94 : decode cX7_move 94 = .ok (.iload_n 3, 1) := by decide +kernel
theorem dX7_move_95 : decode cX7_move 95 = .ok (.bipush 33, 2) := by decide +kernel
theorem dX7_move_97 : decode cX7_move 97 = .ok (.iadd, 1) := by decide +kernel
theorem dX7_move_98 : decode cX7_move 98 = .ok (.aload_n 0, 1) := by decide +kernel
theorem dX7_move_99 : decode cX7_move 99 = .ok (.getfield 52, 3) := by decide +kernel
theorem dX7_move_102 : decode cX7_move 102 = .ok (.iload_n 3, 1) := by decide +kernel
theorem dX7_move_103 : decode cX7_move 103 = .ok (.bipush 34, 2) := by decide +kernel
theorem dX7_move_105 : decode cX7_move 105 = .ok (.iadd, 1) := by decide +kernel
theorem dX7_move_106 : decode cX7_move 106 = .ok (.iaload, 1) := by decide +kernel
theorem dX7_move_107 : decode cX7_move 107 = .ok (.iastore, 1) := by decide +kernel
theorem dX7_move_108 : decode cX7_move 108 = .ok (.aload_n 0, 1) := by decide +kernel
theorem dX7_move_109 : decode cX7_move 109 = .ok (.getfield 52, 3) := by decide +kernel
theorem dX7_move_112 : decode cX7_move 112 = .ok (.iload_n 3, 1) := by decide +kernel
theorem dX7_move_113 : decode cX7_move 113 = .ok (.bipush 34, 2) := by decide +kernel
theorem dX7_move_115 : decode cX7_move 115 = .ok (.iadd, 1) := by decide +kernel
theorem dX7_move_116 : decode cX7_move 116 = .ok (.iload 4, 2) := by decide +kernel
theorem dX7_move_118 : decode cX7_move 118 = .ok (.iastore, 1) := by decide +kernel
theorem dX7_move_119 : decode cX7_move 119 = .ok (.aload_n 0, 1) := by decide +kernel
theorem dX7_move_120 : decode cX7_move 120 = .ok (.getfield 52, 3) := by decide +kernel
theorem dX7_move_123 : decode cX7_move 123 = .ok (.iload_n 3, 1) := by decide +kernel
theorem dX7_move_124 : decode cX7_move 124 = .ok (.bipush 32, 2) := by decide +kernel
theorem dX7_move_126 : decode cX7_move 126 = .ok (.iadd, 1) := by decide +kernel
theorem dX7_move_127 : decode cX7_move 127 = .ok (.iaload, 1) := by decide +kernel
theorem dX7_move_128 : decode cX7_move 128 = .ok (.ifCond .ne 56, 3) := by decide +kernel
theorem dX7_move_131 : decode cX7_move 131 = .ok (.aload_n 0, 1) := by decide +kernel
theorem dX7_move_132 : decode cX7_move 132 = .ok (.getfield 52, 3) := by decide +kernel
theorem dX7_move_135 : decode cX7_move 135 = .ok (.iload_n 3, 1) := by decide +kernel
theorem dX7_move_136 : decode cX7_move 136 = .ok (.iconst 4, 1) := by decide +kernel
theorem dX7_move_137 : decode cX7_move 137 = .ok (.iadd, 1) := by decide +kernel
theorem dX7_move_138 : decode cX7_move 138 = .ok (.iload 4, 2) := by decide +kernel
theorem dX7_move_140 : decode cX7_move 140 = .ok (.iadd, 1) := by decide +kernel
theorem dX7_move_141 : decode cX7_move 141 = .ok (.dup2, 1) := by decide +kernel
theorem dX7_move_142 : decode cX7_move 142 = .ok (.iaload, 1) := by decide +kernel
theorem dX7_move_143 : decode cX7_move 143 = .ok (.aload_n 0, 1) := by decide +kernel
theorem dX7_move_144 : decode cX7_move 144 = .ok (.getfield 52, 3) := by decide +kernel
theorem dX7_move_147 : decode cX7_move 147 = .ok (.iload_n 3, 1) := by decide +kernel
theorem dX7_move_148 : decode cX7_move 148 = .ok (.bipush 31, 2) := by decide +kernel
theorem dX7_move_150 : decode cX7_move 150 = .ok (.iadd, 1) := by decide +kernel
theorem dX7_move_151 : decode cX7_move 151 = .ok (.iaload, 1) := by decide +kernel
theorem dX7_move_152 : decode cX7_move 152 = .ok (.iadd, 1) := by decide +kernel
theorem dX7_move_153 : decode cX7_move 153 = .ok (.iastore, 1) := by decide +kernel
theorem dX7_move_154 : decode cX7_move 154 = .ok (.aload_n 0, 1) := by decide +kernel
theorem dX7_move_155 : decode cX7_move 155 = .ok (.getfield 52, 3) := by decide +kernel
theorem dX7_move_158 : decode cX7_move 158 = .ok (.iload_n 3, 1) := by decide +kernel
theorem dX7_move_159 : decode cX7_move 159 = .ok (.bipush 31, 2) := by decide +kernel
theorem dX7_move_161 : decode cX7_move 161 = .ok (.iadd, 1) := by decide +kernel
theorem dX7_move_162 : decode cX7_move 162 = .ok (.iconst 0, 1) := by decide +kernel
theorem dX7_move_163 : decode cX7_move 163 = .ok (.iastore, 1) := by decide +kernel
theorem dX7_move_164 : decode cX7_move 164 = .ok (.aload_n 0, 1) := by decide +kernel
theorem dX7_move_165 : decode cX7_move 165 = .ok (.getfield 52, 3) := by decide +kernel
theorem dX7_move_168 : decode cX7_move 168 = .ok (.iload_n 3, 1) := by decide +kernel
theorem dX7_move_169 : decode cX7_move 169 = .ok (.bipush 33, 2) := by decide +kernel
theorem dX7_move_171 : decode cX7_move 171 = .ok (.iadd, 1) := by decide +kernel
theorem dX7_move_172 : decode cX7_move 172 = .ok (.iconst (-1), 1) := by decide +kernel
theorem dX7_move_173 : decode cX7_move 173 = .ok (.iastore, 1) := by decide +kernel
theorem dX7_move_174 : decode cX7_move 174 = .ok (.aload_n 0, 1) := by decide +kernel
theorem dX7_move_175 : decode cX7_move 175 = .ok (.getfield 52, 3) := by decide +kernel
theorem dX7_move_178 : decode cX7_move 178 = .ok (.iload_n 3, 1) := by decide +kernel
theorem dX7_move_179 : decode cX7_move 179 = .ok (.bipush 34, 2) := by decide +kernel
theorem dX7_move_181 : decode cX7_move 181 = .ok (.iadd, 1) := by decide +kernel
theorem dX7_move_182 : decode cX7_move 182 = .ok (.iconst (-1), 1) := by decide +kernel
theorem dX7_move_183 : decode cX7_move 183 = .ok (.iastore, 1) := by decide +kernel
theorem dX7_move_184 : decode cX7_move 184 = .ok (.aload_n 0, 1) := by decide +kernel
theorem dX7_move_185 : decode cX7_move 185 = .ok (.getfield 52, 3) := by decide +kernel
theorem dX7_move_188 : decode cX7_move 188 = .ok (.iload_n 3, 1) := by decide +kernel
theorem dX7_move_189 : decode cX7_move 189 = .ok (.bipush 32, 2) := by decide +kernel
theorem dX7_move_191 : decode cX7_move 191 = .ok (.iadd, 1) := by decide +kernel
theorem dX7_move_192 : decode cX7_move 192 = .ok (.iaload, 1) := by decide +kernel
theorem dX7_move_193 : decode cX7_move 193 = .ok (.ireturn, 1) := by decide +kernel
theorem dX7_out_0 : decode cX7_out 0 = .ok (.aload_n 0, 1) := by decide +kernel
theorem dX7_out_1 : decode cX7_out 1 = .ok (.iload_n 1, 1) := by decide +kernel
theorem dX7_out_2 : decode cX7_out 2 = .ok (.iload_n 2, 1) := by decide +kernel
theorem dX7_out_3 : decode cX7_out 3 = .ok (.invokevirtual 155, 3) := by decide +kernel
theorem dX7_out_6 : decode cX7_out 6 = .ok (.ifCond .ne 5, 3) := by decide +kernel
theorem dX7_out_9 : decode cX7_out 9 = .ok (.iconst (-1), 1) := by decide +kernel
theorem dX7_out_10 : decode cX7_out 10 = .ok (.ireturn, 1) := by decide +kernel
theorem dX7_out_11 : decode cX7_out 11 = .ok (.aload_n 0, 1) := by decide +kernel
theorem dX7_out_12 : decode cX7_out 12 = .ok (.iload_n 1, 1) := by decide +kernel
theorem dX7_out_13 : decode cX7_out 13 = .ok (.invokevirtual 158, 3) := by decide +kernel
theorem dX7_out_16 : decode cX7_out 16 = .ok (.ifCond .eq 6, 3) := by decide +kernel
theorem dX7_out_19 : decode cX7_out 19 = .ok (.bipush (-2), 2) := by decide +kernel
theorem dX7_out_21 : decode cX7_out 21 = .ok (.ireturn, 1) := by decide +kernel
theorem dX7_out_22 : decode cX7_out 22 = .ok (.iload_n 3, 1) := by decide +kernel
theorem dX7_out_23 : decode cX7_out 23 = .ok (.iconst 0, 1) := by decide +kernel
theorem dX7_out_24 : decode cX7_out 24 = .ok (.ldc 161, 2) := by decide +kernel
theorem dX7_out_26 : decode cX7_out 26 = .ok (.invokestatic 64, 3) := by decide +kernel
theorem dX7_out_29 : decode cX7_out 29 = .ok (.ifCond .ne 6, 3) := by decide +kernel
theorem dX7_out_32 : decode cX7_out 32 = .ok (.bipush (-3), 2) := by decide +kernel
theorem dX7_out_34 : decode cX7_out 34 = .ok (.ireturn, 1) := by decide +kernel
theorem dX7_out_35 : decode cX7_out 35 = .ok (.aload_n 0, 1) := by decide +kernel
theorem dX7_out_36 : decode cX7_out 36 = .ok (.getfield 52, 3) := by decide +kernel
theorem dX7_out_39 : decode cX7_out 39 = .ok (.bipush 35, 2) := by decide +kernel
theorem dX7_out_41 : decode cX7_out 41 = .ok (.iload_n 1, 1) := by decide +kernel
theorem dX7_out_42 : decode cX7_out 42 = .ok (.imul, 1) := by decide +kernel
theorem dX7_out_43 : decode cX7_out 43 = .ok (.iconst 4, 1) := by decide +kernel
theorem dX7_out_44 : decode cX7_out 44 = .ok (.iadd, 1) := by decide +kernel
theorem dX7_out_45 : decode cX7_out 45 = .ok (.iload_n 2, 1) := by decide +kernel
theorem dX7_out_46 : decode cX7_out 46 = .ok (.iadd, 1) := by decide +kernel
theorem dX7_out_47 : decode cX7_out 47 = .ok (.iaload, 1) := by decide +kernel
theorem dX7_out_48 : decode cX7_out 48 = .ok (.iload_n 3, 1) := by decide +kernel
theorem dX7_out_49 : decode cX7_out 49 = .ok (.if_icmp .ge 6, 3) := by decide +kernel
theorem dX7_out_52 : decode cX7_out 52 = .ok (.bipush (-4), 2) := by decide +kernel
theorem dX7_out_54 : decode cX7_out 54 = .ok (.ireturn, 1) := by decide +kernel
theorem dX7_out_55 : decode cX7_out 55 = .ok (.aload_n 0, 1) := by decide +kernel
theorem dX7_out_56 : decode cX7_out 56 = .ok (.getfield 52, 3) := by decide +kernel
theorem dX7_out_59 : decode cX7_out 59 = .ok (.bipush 35, 2) := by decide +kernel
theorem dX7_out_61 : decode cX7_out 61 = .ok (.iload_n 1, 1) := by decide +kernel
theorem dX7_out_62 : decode cX7_out 62 = .ok (.imul, 1) := by decide +kernel
theorem dX7_out_63 : decode cX7_out 63 = .ok (.bipush 10, 2) := by decide +kernel
theorem dX7_out_65 : decode cX7_out 65 = .ok (.iadd, 1) := by decide +kernel
theorem dX7_out_66 : decode cX7_out 66 = .ok (.iload_n 2, 1) := by decide +kernel
theorem dX7_out_67 : decode cX7_out 67 = .ok (.iadd, 1) := by decide +kernel
theorem dX7_out_68 : decode cX7_out 68 = .ok (.iaload, 1) := by decide +kernel
theorem dX7_out_69 : decode cX7_out 69 = .ok (.istore 4, 2) := by decide +kernel
theorem dX7_out_71 : decode cX7_out 71 = .ok (.aload_n 0, 1) := by decide +kernel
theorem dX7_out_72 : decode cX7_out 72 = .ok (.getfield 52, 3) := by decide +kernel
theorem dX7_out_75 : decode cX7_out 75 = .ok (.bipush 35, 2) := by decide +kernel
theorem dX7_out_77 : decode cX7_out 77 = .ok (.iload_n 1, 1) := by decide +kernel
theorem dX7_out_78 : decode cX7_out 78 = .ok (.imul, 1) := by decide +kernel
theorem dX7_out_79 : decode cX7_out 79 = .ok (.bipush 10, 2) := by decide +kernel
theorem dX7_out_81 : decode cX7_out 81 = .ok (.iadd, 1) := by decide +kernel
theorem dX7_out_82 : decode cX7_out 82 = .ok (.iload_n 2, 1) := by decide +kernel
theorem dX7_out_83 : decode cX7_out 83 = .ok (.iadd, 1) := by decide +kernel
theorem dX7_out_84 : decode cX7_out 84 = .ok (.iload_n 3, 1) := by decide +kernel
theorem dX7_out_85 : decode cX7_out 85 = .ok (.iastore, 1) := by decide +kernel
theorem dX7_out_86 : decode cX7_out 86 = .ok (.iload 4, 2) := by decide +kernel
theorem dX7_out_88 : decode cX7_out 88 = .ok (.ireturn, 1) := by decide +kernel
theorem dX7_sign_0 : decode cX7_sign 0 = .ok (.aload_n 0, 1) := by decide +kernel
theorem dX7_sign_1 : decode cX7_sign 1 = .ok (.iload_n 1, 1) := by decide +kernel
theorem dX7_sign_2 : decode cX7_sign 2 = .ok (.iload_n 2, 1) := by decide +kernel
theorem dX7_sign_3 : decode cX7_sign 3 = .ok (.invokevirtual 155, 3) := by decide +kernel
theorem dX7_sign_6 : decode cX7_sign 6 = .ok (.ifCond .ne 5, 3) := by decide +kernel
theorem dX7_sign_9 : decode cX7_sign 9 = .ok (.iconst (-1), 1) := by decide +kernel
theorem dX7_sign_10 : decode cX7_sign 10 = .ok (.ireturn, 1) := by decide +kernel
theorem dX7_sign_11 : decode cX7_sign 11 = .ok (.aload_n 0, 1) := by decide +kernel
theorem dX7_sign_12 : decode cX7_sign 12 = .ok (.getfield 25, 3) := by decide +kernel
theorem dX7_sign_15 : decode cX7_sign 15 = .ok (.aload_n 0, 1) := by decide +kernel
theorem dX7_sign_16 : decode cX7_sign 16 = .ok (.iload_n 1, 1) := by decide +kernel
theorem dX7_sign_17 : decode cX7_sign 17 = .ok (.invokevirtual 86, 3) := by decide +kernel
theorem dX7_sign_20 : decode cX7_sign 20 = .ok (.iaload, 1) := by decide +kernel
theorem dX7_sign_21 : decode cX7_sign 21 = .ok (.iconst 3, 1) := by decide +kernel
theorem dX7_sign_22 : decode cX7_sign 22 = .ok (.if_icmp .ne 6, 3) := by decide +kernel
theorem dX7_sign_25 : decode cX7_sign 25 = .ok (.bipush (-2), 2) := by decide +kernel
theorem dX7_sign_27 : decode cX7_sign 27 = .ok (.ireturn, 1) := by decide +kernel
theorem dX7_sign_28 : decode cX7_sign 28 = .ok (.bipush 35, 2) := by decide +kernel
theorem dX7_sign_30 : decode cX7_sign 30 = .ok (.iload_n 1, 1) := by decide +kernel
theorem dX7_sign_31 : decode cX7_sign 31 = .ok (.imul, 1) := by decide +kernel
theorem dX7_sign_32 : decode cX7_sign 32 = .ok (.iconst 2, 1) := by decide +kernel
theorem dX7_sign_33 : decode cX7_sign 33 = .ok (.iadd, 1) := by decide +kernel
theorem dX7_sign_34 : decode cX7_sign 34 = .ok (.istore_n 3, 1) := by decide +kernel
theorem dX7_sign_35 : decode cX7_sign 35 = .ok (.aload_n 0, 1) := by decide +kernel
theorem dX7_sign_36 : decode cX7_sign 36 = .ok (.getfield 52, 3) := by decide +kernel
theorem dX7_sign_39 : decode cX7_sign 39 = .ok (.iload_n 3, 1) := by decide +kernel
theorem dX7_sign_40 : decode cX7_sign 40 = .ok (.iaload, 1) := by decide +kernel
theorem dX7_sign_41 : decode cX7_sign 41 = .ok (.iload_n 2, 1) := by decide +kernel
theorem dX7_sign_42 : decode cX7_sign 42 = .ok (.invokestatic 79, 3) := by decide +kernel
theorem dX7_sign_45 : decode cX7_sign 45 = .ok (.ifCond .eq 6, 3) := by decide +kernel
theorem dX7_sign_48 : decode cX7_sign 48 = .ok (.bipush (-4), 2) := by decide +kernel
theorem dX7_sign_50 : decode cX7_sign 50 = .ok (.ireturn, 1) := by decide +kernel
theorem dX7_sign_51 : decode cX7_sign 51 = .ok (.aload_n 0, 1) := by decide +kernel
theorem dX7_sign_52 : decode cX7_sign 52 = .ok (.getfield 52, 3) := by decide +kernel
theorem dX7_sign_55 : decode cX7_sign 55 = .ok (.iload_n 3, 1) := by decide +kernel
theorem dX7_sign_56 : decode cX7_sign 56 = .ok (.dup2, 1) := by decide +kernel
theorem dX7_sign_57 : decode cX7_sign 57 = .ok (.iaload, 1) := by decide +kernel
theorem dX7_sign_58 : decode cX7_sign 58 = .ok (.iconst 1, 1) := by decide +kernel
theorem dX7_sign_59 : decode cX7_sign 59 = .ok (.iload_n 2, 1) := by decide +kernel
theorem dX7_sign_60 : decode cX7_sign 60 = .ok (.ishl, 1) := by decide +kernel
theorem dX7_sign_61 : decode cX7_sign 61 = .ok (.iadd, 1) := by decide +kernel
theorem dX7_sign_62 : decode cX7_sign 62 = .ok (.iastore, 1) := by decide +kernel
theorem dX7_sign_63 : decode cX7_sign 63 = .ok (.aload_n 0, 1) := by decide +kernel
theorem dX7_sign_64 : decode cX7_sign 64 = .ok (.getfield 52, 3) := by decide +kernel
theorem dX7_sign_67 : decode cX7_sign 67 = .ok (.iload_n 3, 1) := by decide +kernel
theorem dX7_sign_68 : decode cX7_sign 68 = .ok (.iaload, 1) := by decide +kernel
theorem dX7_sign_69 : decode cX7_sign 69 = .ok (.invokestatic 143, 3) := by decide +kernel
theorem dX7_sign_72 : decode cX7_sign 72 = .ok (.ireturn, 1) := by decide +kernel
theorem dX7_show_0 : decode cX7_show 0 = .ok (.aload_n 0, 1) := by decide +kernel
theorem dX7_show_1 : decode cX7_show 1 = .ok (.iload_n 1, 1) := by decide +kernel
theorem dX7_show_2 : decode cX7_show 2 = .ok (.iload_n 2, 1) := by decide +kernel
theorem dX7_show_3 : decode cX7_show 3 = .ok (.invokevirtual 155, 3) := by decide +kernel
theorem dX7_show_6 : decode cX7_show 6 = .ok (.ifCond .ne 5, 3) := by decide +kernel
theorem dX7_show_9 : decode cX7_show 9 = .ok (.iconst (-1), 1) := by decide +kernel
theorem dX7_show_10 : decode cX7_show 10 = .ok (.ireturn, 1) := by decide +kernel
theorem dX7_show_11 : decode cX7_show 11 = .ok (.aload_n 0, 1) := by decide +kernel
theorem dX7_show_12 : decode cX7_show 12 = .ok (.iload_n 1, 1) := by decide +kernel
theorem dX7_show_13 : decode cX7_show 13 = .ok (.invokevirtual 86, 3) := by decide +kernel
theorem dX7_show_16 : decode cX7_show 16 = .ok (.istore_n 3, 1) := by decide +kernel
theorem dX7_show_17 : decode cX7_show 17 = .ok (.aload_n 0, 1) := by decide +kernel
theorem dX7_show_18 : decode cX7_show 18 = .ok (.getfield 25, 3) := by decide +kernel
theorem dX7_show_21 : decode cX7_show 21 = .ok (.iload_n 3, 1) := by decide +kernel
theorem dX7_show_22 : decode cX7_show 22 = .ok (.iaload, 1) := by decide +kernel
theorem dX7_show_23 : decode cX7_show 23 = .ok (.iconst 3, 1) := by decide +kernel
theorem dX7_show_24 : decode cX7_show 24 = .ok (.if_icmp .ne 6, 3) := by decide +kernel
theorem dX7_show_27 : decode cX7_show 27 = .ok (.bipush (-2), 2) := by decide +kernel
theorem dX7_show_29 : decode cX7_show 29 = .ok (.ireturn, 1) := by decide +kernel
theorem dX7_show_30 : decode cX7_show 30 = .ok (.aload_n 0, 1) := by decide +kernel
theorem dX7_show_31 : decode cX7_show 31 = .ok (.iload_n 1, 1) := by decide +kernel
theorem dX7_show_32 : decode cX7_show 32 = .ok (.invokevirtual 100, 3) := by decide +kernel
theorem dX7_show_35 : decode cX7_show 35 = .ok (.ifCond .eq 43, 3) := by decide +kernel
theorem dX7_show_38 : decode cX7_show 38 = .ok (.aload_n 0, 1) := by decide +kernel
theorem dX7_show_39 : decode cX7_show 39 = .ok (.getfield 25, 3) := by decide +kernel
theorem dX7_show_42 : decode cX7_show 42 = .ok (.iload_n 3, 1) := by decide +kernel
theorem dX7_show_43 : decode cX7_show 43 = .ok (.iaload, 1) := by decide +kernel
theorem dX7_show_44 : decode cX7_show 44 = .ok (.iconst 2, 1) := by decide +kernel
theorem dX7_show_45 : decode cX7_show 45 = .ok (.if_icmp .ne 36, 3) := by decide +kernel
theorem dX7_show_48 : decode cX7_show 48 = .ok (.aload_n 0, 1) := by decide +kernel
theorem dX7_show_49 : decode cX7_show 49 = .ok (.getfield 52, 3) := by decide +kernel
theorem dX7_show_52 : decode cX7_show 52 = .ok (.bipush 35, 2) := by decide +kernel
theorem dX7_show_54 : decode cX7_show 54 = .ok (.aload_n 0, 1) := by decide +kernel
theorem dX7_show_55 : decode cX7_show 55 = .ok (.getfield 28, 3) := by decide +kernel
theorem dX7_show_58 : decode cX7_show 58 = .ok (.iload_n 3, 1) := by decide +kernel
theorem dX7_show_59 : decode cX7_show 59 = .ok (.iaload, 1) := by decide +kernel
theorem dX7_show_60 : decode cX7_show 60 = .ok (.imul, 1) := by decide +kernel
theorem dX7_show_61 : decode cX7_show 61 = .ok (.iconst 1, 1) := by decide +kernel
theorem dX7_show_62 : decode cX7_show 62 = .ok (.iadd, 1) := by decide +kernel
theorem dX7_show_63 : decode cX7_show 63 = .ok (.iaload, 1) := by decide +kernel
theorem dX7_show_64 : decode cX7_show 64 = .ok (.aload_n 0, 1) := by decide +kernel
theorem dX7_show_65 : decode cX7_show 65 = .ok (.getfield 52, 3) := by decide +kernel
theorem dX7_show_68 : decode cX7_show 68 = .ok (.bipush 35, 2) := by decide +kernel
theorem dX7_show_70 : decode cX7_show 70 = .ok (.iload_n 1, 1) := by decide +kernel
theorem dX7_show_71 : decode cX7_show 71 = .ok (.imul, 1) := by decide +kernel
theorem dX7_show_72 : decode cX7_show 72 = .ok (.iconst 1, 1) := by decide +kernel
theorem dX7_show_73 : decode cX7_show 73 = .ok (.iadd, 1) := by decide +kernel
theorem dX7_show_74 : decode cX7_show 74 = .ok (.iaload, 1) := by decide +kernel
theorem dX7_show_75 : decode cX7_show 75 = .ok (.if_icmp .lt 6, 3) := by decide +kernel
theorem dX7_show_78 : decode cX7_show 78 = .ok (.bipush (-4), 2) := by decide +kernel
theorem dX7_show_80 : decode cX7_show 80 = .ok (.ireturn, 1) := by decide +kernel
theorem dX7_show_81 : decode cX7_show 81 = .ok (.aload_n 0, 1) := by decide +kernel
theorem dX7_show_82 : decode cX7_show 82 = .ok (.iload_n 1, 1) := by decide +kernel
theorem dX7_show_83 : decode cX7_show 83 = .ok (.invokevirtual 120, 3) := by decide +kernel
theorem dX7_show_86 : decode cX7_show 86 = .ok (.aload_n 0, 1) := by decide +kernel
theorem dX7_show_87 : decode cX7_show 87 = .ok (.getfield 31, 3) := by decide +kernel
theorem dX7_show_90 : decode cX7_show 90 = .ok (.iload_n 3, 1) := by decide +kernel
theorem dX7_show_91 : decode cX7_show 91 = .ok (.iaload, 1) := by decide +kernel
theorem dX7_show_92 : decode cX7_show 92 = .ok (.ireturn, 1) := by decide +kernel
theorem dX7_agree_0 : decode cX7_agree 0 = .ok (.aload_n 0, 1) := by decide +kernel
theorem dX7_agree_1 : decode cX7_agree 1 = .ok (.iload_n 1, 1) := by decide +kernel
theorem dX7_agree_2 : decode cX7_agree 2 = .ok (.iload_n 2, 1) := by decide +kernel
theorem dX7_agree_3 : decode cX7_agree 3 = .ok (.invokevirtual 155, 3) := by decide +kernel
theorem dX7_agree_6 : decode cX7_agree 6 = .ok (.ifCond .ne 5, 3) := by decide +kernel
theorem dX7_agree_9 : decode cX7_agree 9 = .ok (.iconst (-1), 1) := by decide +kernel
theorem dX7_agree_10 : decode cX7_agree 10 = .ok (.ireturn, 1) := by decide +kernel
theorem dX7_agree_11 : decode cX7_agree 11 = .ok (.aload_n 0, 1) := by decide +kernel
theorem dX7_agree_12 : decode cX7_agree 12 = .ok (.iload_n 1, 1) := by decide +kernel
theorem dX7_agree_13 : decode cX7_agree 13 = .ok (.invokevirtual 86, 3) := by decide +kernel
theorem dX7_agree_16 : decode cX7_agree 16 = .ok (.istore_n 3, 1) := by decide +kernel
theorem dX7_agree_17 : decode cX7_agree 17 = .ok (.aload_n 0, 1) := by decide +kernel
theorem dX7_agree_18 : decode cX7_agree 18 = .ok (.getfield 25, 3) := by decide +kernel
theorem dX7_agree_21 : decode cX7_agree 21 = .ok (.iload_n 3, 1) := by decide +kernel
theorem dX7_agree_22 : decode cX7_agree 22 = .ok (.iaload, 1) := by decide +kernel
theorem dX7_agree_23 : decode cX7_agree 23 = .ok (.iconst 1, 1) := by decide +kernel
theorem dX7_agree_24 : decode cX7_agree 24 = .ok (.if_icmp .eq 6, 3) := by decide +kernel
theorem dX7_agree_27 : decode cX7_agree 27 = .ok (.bipush (-2), 2) := by decide +kernel
theorem dX7_agree_29 : decode cX7_agree 29 = .ok (.ireturn, 1) := by decide +kernel
theorem dX7_agree_30 : decode cX7_agree 30 = .ok (.bipush 35, 2) := by decide +kernel
theorem dX7_agree_32 : decode cX7_agree 32 = .ok (.iload_n 1, 1) := by decide +kernel
theorem dX7_agree_33 : decode cX7_agree 33 = .ok (.imul, 1) := by decide +kernel
theorem dX7_agree_34 : decode cX7_agree 34 = .ok (.istore 4, 2) := by decide +kernel
theorem dX7_agree_36 : decode cX7_agree 36 = .ok (.aload_n 0, 1) := by decide +kernel
theorem dX7_agree_37 : decode cX7_agree 37 = .ok (.iload_n 3, 1) := by decide +kernel
theorem dX7_agree_38 : decode cX7_agree 38 = .ok (.invokevirtual 117, 3) := by decide +kernel
theorem dX7_agree_41 : decode cX7_agree 41 = .ok (.iload_n 1, 1) := by decide +kernel
theorem dX7_agree_42 : decode cX7_agree 42 = .ok (.if_icmp .ne 19, 3) := by decide +kernel
theorem dX7_agree_45 : decode cX7_agree 45 = .ok (.aload_n 0, 1) := by decide +kernel
theorem dX7_agree_46 : decode cX7_agree 46 = .ok (.getfield 52, 3) := by decide +kernel
theorem dX7_agree_49 : decode cX7_agree 49 = .ok (.iload 4, 2) := by decide +kernel
theorem dX7_agree_51 : decode cX7_agree 51 = .ok (.iconst 3, 1) := by decide +kernel
theorem dX7_agree_52 : decode cX7_agree 52 = .ok (.iadd, 1) := by decide +kernel
theorem dX7_agree_53 : decode cX7_agree 53 = .ok (.iaload, 1) := by decide +kernel
theorem dX7_agree_54 : decode cX7_agree 54 = .ok (.iload_n 2, 1) := by decide +kernel
theorem dX7_agree_55 : decode cX7_agree 55 = .ok (.invokestatic 79, 3) := by decide +kernel
theorem dX7_agree_58 : decode cX7_agree 58 = .ok (.ifCond .eq 6, 3) := by decide +kernel
theorem dX7_agree_61 : decode cX7_agree 61 = .ok (.bipush (-4), 2) := by decide +kernel
theorem dX7_agree_63 : decode cX7_agree 63 = .ok (.ireturn, 1) := by decide +kernel
theorem dX7_agree_64 : decode cX7_agree 64 = .ok (.aload_n 0, 1) := by decide +kernel
theorem dX7_agree_65 : decode cX7_agree 65 = .ok (.getfield 52, 3) := by decide +kernel
theorem dX7_agree_68 : decode cX7_agree 68 = .ok (.iload 4, 2) := by decide +kernel
theorem dX7_agree_70 : decode cX7_agree 70 = .ok (.iconst 3, 1) := by decide +kernel
theorem dX7_agree_71 : decode cX7_agree 71 = .ok (.iadd, 1) := by decide +kernel
theorem dX7_agree_72 : decode cX7_agree 72 = .ok (.dup2, 1) := by decide +kernel
theorem dX7_agree_73 : decode cX7_agree 73 = .ok (.iaload, 1) := by decide +kernel
theorem dX7_agree_74 : decode cX7_agree 74 = .ok (.iconst 1, 1) := by decide +kernel
theorem dX7_agree_75 : decode cX7_agree 75 = .ok (.iload_n 2, 1) := by decide +kernel
theorem dX7_agree_76 : decode cX7_agree 76 = .ok (.ishl, 1) := by decide +kernel
theorem dX7_agree_77 : decode cX7_agree 77 = .ok (.iadd, 1) := by decide +kernel
theorem dX7_agree_78 : decode cX7_agree 78 = .ok (.iastore, 1) := by decide +kernel
theorem dX7_agree_79 : decode cX7_agree 79 = .ok (.aload_n 0, 1) := by decide +kernel
theorem dX7_agree_80 : decode cX7_agree 80 = .ok (.getfield 52, 3) := by decide +kernel
theorem dX7_agree_83 : decode cX7_agree 83 = .ok (.iload 4, 2) := by decide +kernel
theorem dX7_agree_85 : decode cX7_agree 85 = .ok (.iconst 3, 1) := by decide +kernel
theorem dX7_agree_86 : decode cX7_agree 86 = .ok (.iadd, 1) := by decide +kernel
theorem dX7_agree_87 : decode cX7_agree 87 = .ok (.iaload, 1) := by decide +kernel
theorem dX7_agree_88 : decode cX7_agree 88 = .ok (.invokestatic 143, 3) := by decide +kernel
theorem dX7_agree_91 : decode cX7_agree 91 = .ok (.istore 5, 2) := by decide +kernel
theorem dX7_agree_93 : decode cX7_agree 93 = .ok (.aload_n 0, 1) := by decide +kernel
theorem dX7_agree_94 : decode cX7_agree 94 = .ok (.getfield 52, 3) := by decide +kernel
theorem dX7_agree_97 : decode cX7_agree 97 = .ok (.iload 4, 2) := by decide +kernel
theorem dX7_agree_99 : decode cX7_agree 99 = .ok (.iconst 3, 1) := by decide +kernel
theorem dX7_agree_100 : decode cX7_agree 100 = .ok (.iadd, 1) := by decide +kernel
theorem dX7_agree_101 : decode cX7_agree 101 = .ok (.iaload, 1) := by decide +kernel
theorem dX7_agree_102 : decode cX7_agree 102 = .ok (.aload_n 0, 1) := by decide +kernel
theorem dX7_agree_103 : decode cX7_agree 103 = .ok (.getfield 16, 3) := by decide +kernel
theorem dX7_agree_106 : decode cX7_agree 106 = .ok (.iload_n 3, 1) := by decide +kernel
theorem dX7_agree_107 : decode cX7_agree 107 = .ok (.iaload, 1) := by decide +kernel
theorem dX7_agree_108 : decode cX7_agree 108 = .ok (.if_icmp .ne 9, 3) := by decide +kernel
theorem dX7_agree_111 : decode cX7_agree 111 = .ok (.aload_n 0, 1) := by decide +kernel
theorem dX7_agree_112 : decode cX7_agree 112 = .ok (.iload_n 3, 1) := by decide +kernel
theorem dX7_agree_113 : decode cX7_agree 113 = .ok (.iload_n 1, 1) := by decide +kernel
theorem dX7_agree_114 : decode cX7_agree 114 = .ok (.invokevirtual 179, 3) := by decide +kernel
theorem dX7_agree_117 : decode cX7_agree 117 = .ok (.iload 5, 2) := by decide +kernel
theorem dX7_agree_119 : decode cX7_agree 119 = .ok (.ireturn, 1) := by decide +kernel
theorem dX7_takesOut_0 : decode cX7_takesOut 0 = .ok (.iconst 0, 1) := by decide +kernel
theorem dX7_takesOut_1 : decode cX7_takesOut 1 = .ok (.istore_n 3, 1) := by decide +kernel
theorem dX7_takesOut_2 : decode cX7_takesOut 2 = .ok (.iconst 0, 1) := by decide +kernel
theorem dX7_takesOut_3 : decode cX7_takesOut 3 = .ok (.istore 4, 2) := by decide +kernel
theorem dX7_takesOut_5 : decode cX7_takesOut 5 = .ok (.iload 4, 2) := by decide +kernel
theorem dX7_takesOut_7 : decode cX7_takesOut 7 = .ok (.bipush 6, 2) := by decide +kernel
theorem dX7_takesOut_9 : decode cX7_takesOut 9 = .ok (.if_icmp .ge 27, 3) := by decide +kernel
theorem dX7_takesOut_12 : decode cX7_takesOut 12 = .ok (.iload_n 3, 1) := by decide +kernel
theorem dX7_takesOut_13 : decode cX7_takesOut 13 = .ok (.aload_n 0, 1) := by decide +kernel
theorem dX7_takesOut_14 : decode cX7_takesOut 14 = .ok (.getfield 52, 3) := by decide +kernel
theorem dX7_takesOut_17 : decode cX7_takesOut 17 = .ok (.bipush 35, 2) := by decide +kernel
theorem dX7_takesOut_19 : decode cX7_takesOut 19 = .ok (.iload_n 2, 1) := by decide +kernel
theorem dX7_takesOut_20 : decode cX7_takesOut 20 = .ok (.imul, 1) := by decide +kernel
theorem dX7_takesOut_21 : decode cX7_takesOut 21 = .ok (.bipush 10, 2) := by decide +kernel
theorem dX7_takesOut_23 : decode cX7_takesOut 23 = .ok (.iadd, 1) := by decide +kernel
theorem dX7_takesOut_24 : decode cX7_takesOut 24 = .ok (.iload 4, 2) := by decide +kernel
theorem dX7_takesOut_26 : decode cX7_takesOut 26 = .ok (.iadd, 1) := by decide +kernel
theorem dX7_takesOut_27 : decode cX7_takesOut 27 = .ok (.iaload, 1) := by decide +kernel
theorem dX7_takesOut_28 : decode cX7_takesOut 28 = .ok (.iadd, 1) := by decide +kernel
theorem dX7_takesOut_29 : decode cX7_takesOut 29 = .ok (.istore_n 3, 1) := by decide +kernel
theorem dX7_takesOut_30 : decode cX7_takesOut 30 = .ok (.iinc 4 1, 3) := by decide +kernel
theorem dX7_takesOut_33 : decode cX7_takesOut 33 = .ok (.goto (-28), 3) := by decide +kernel
theorem dX7_takesOut_36 : decode cX7_takesOut 36 = .ok (.iload_n 3, 1) := by decide +kernel
theorem dX7_takesOut_37 : decode cX7_takesOut 37 = .ok (.ifCond .ne 10, 3) := by decide +kernel
theorem dX7_takesOut_40 : decode cX7_takesOut 40 = .ok (.aload_n 0, 1) := by decide +kernel
theorem dX7_takesOut_41 : decode cX7_takesOut 41 = .ok (.iload_n 1, 1) := by decide +kernel
theorem dX7_takesOut_42 : decode cX7_takesOut 42 = .ok (.iload_n 2, 1) := by decide +kernel
theorem dX7_takesOut_43 : decode cX7_takesOut 43 = .ok (.invokevirtual 114, 3) := by decide +kernel
theorem dX7_takesOut_46 : decode cX7_takesOut 46 = .ok (.return_, 1) := by decide +kernel
theorem dX7_takesOut_47 : decode cX7_takesOut 47 = .ok (.iconst 0, 1) := by decide +kernel
theorem dX7_takesOut_48 : decode cX7_takesOut 48 = .ok (.istore 4, 2) := by decide +kernel
theorem dX7_takesOut_50 : decode cX7_takesOut 50 = .ok (.iload 4, 2) := by decide +kernel
theorem dX7_takesOut_52 : decode cX7_takesOut 52 = .ok (.bipush 6, 2) := by decide +kernel
theorem dX7_takesOut_54 : decode cX7_takesOut 54 = .ok (.if_icmp .ge 73, 3) := by decide +kernel
theorem dX7_takesOut_57 : decode cX7_takesOut 57 = .ok (.aload_n 0, 1) := by decide +kernel
theorem dX7_takesOut_58 : decode cX7_takesOut 58 = .ok (.getfield 52, 3) := by decide +kernel
theorem dX7_takesOut_61 : decode cX7_takesOut 61 = .ok (.bipush 35, 2) := by decide +kernel
theorem dX7_takesOut_63 : decode cX7_takesOut 63 = .ok (.iload_n 2, 1) := by decide +kernel
theorem dX7_takesOut_64 : decode cX7_takesOut 64 = .ok (.imul, 1) := by decide +kernel
theorem dX7_takesOut_65 : decode cX7_takesOut 65 = .ok (.bipush 10, 2) := by decide +kernel
theorem dX7_takesOut_67 : decode cX7_takesOut 67 = .ok (.iadd, 1) := by decide +kernel
theorem dX7_takesOut_68 : decode cX7_takesOut 68 = .ok (.iload 4, 2) := by decide +kernel
theorem dX7_takesOut_70 : decode cX7_takesOut 70 = .ok (.iadd, 1) := by decide +kernel
theorem dX7_takesOut_71 : decode cX7_takesOut 71 = .ok (.iaload, 1) := by decide +kernel
theorem dX7_takesOut_72 : decode cX7_takesOut 72 = .ok (.istore 5, 2) := by decide +kernel
theorem dX7_takesOut_74 : decode cX7_takesOut 74 = .ok (.aload_n 0, 1) := by decide +kernel
theorem dX7_takesOut_75 : decode cX7_takesOut 75 = .ok (.getfield 7, 3) := by decide +kernel
theorem dX7_takesOut_78 : decode cX7_takesOut 78 = .ok (.iload 4, 2) := by decide +kernel
theorem dX7_takesOut_80 : decode cX7_takesOut 80 = .ok (.dup2, 1) := by decide +kernel
theorem dX7_takesOut_81 : decode cX7_takesOut 81 = .ok (.iaload, 1) := by decide +kernel
theorem dX7_takesOut_82 : decode cX7_takesOut 82 = .ok (.iload 5, 2) := by decide +kernel
theorem dX7_takesOut_84 : decode cX7_takesOut 84 = .ok (.iadd, 1) := by decide +kernel
theorem dX7_takesOut_85 : decode cX7_takesOut 85 = .ok (.iastore, 1) := by decide +kernel
theorem dX7_takesOut_86 : decode cX7_takesOut 86 = .ok (.aload_n 0, 1) := by decide +kernel
theorem dX7_takesOut_87 : decode cX7_takesOut 87 = .ok (.getfield 52, 3) := by decide +kernel
theorem dX7_takesOut_90 : decode cX7_takesOut 90 = .ok (.bipush 35, 2) := by decide +kernel
theorem dX7_takesOut_92 : decode cX7_takesOut 92 = .ok (.iload_n 2, 1) := by decide +kernel
theorem dX7_takesOut_93 : decode cX7_takesOut 93 = .ok (.imul, 1) := by decide +kernel
theorem dX7_takesOut_94 : decode cX7_takesOut 94 = .ok (.iconst 4, 1) := by decide +kernel
theorem dX7_takesOut_95 : decode cX7_takesOut 95 = .ok (.iadd, 1) := by decide +kernel
theorem dX7_takesOut_96 : decode cX7_takesOut 96 = .ok (.iload 4, 2) := by decide +kernel
theorem dX7_takesOut_98 : decode cX7_takesOut 98 = .ok (.iadd, 1) := by decide +kernel
theorem dX7_takesOut_99 : decode cX7_takesOut 99 = .ok (.dup2, 1) := by decide +kernel
theorem dX7_takesOut_100 : decode cX7_takesOut 100 = .ok (.iaload, 1) := by decide +kernel
theorem dX7_takesOut_101 : decode cX7_takesOut 101 = .ok (.iload 5, 2) := by decide +kernel
theorem dX7_takesOut_103 : decode cX7_takesOut 103 = .ok (.isub, 1) := by decide +kernel
theorem dX7_takesOut_104 : decode cX7_takesOut 104 = .ok (.iastore, 1) := by decide +kernel
theorem dX7_takesOut_105 : decode cX7_takesOut 105 = .ok (.aload_n 0, 1) := by decide +kernel
theorem dX7_takesOut_106 : decode cX7_takesOut 106 = .ok (.getfield 52, 3) := by decide +kernel
theorem dX7_takesOut_109 : decode cX7_takesOut 109 = .ok (.bipush 35, 2) := by decide +kernel
theorem dX7_takesOut_111 : decode cX7_takesOut 111 = .ok (.iload_n 2, 1) := by decide +kernel
theorem dX7_takesOut_112 : decode cX7_takesOut 112 = .ok (.imul, 1) := by decide +kernel
theorem dX7_takesOut_113 : decode cX7_takesOut 113 = .ok (.bipush 10, 2) := by decide +kernel
theorem dX7_takesOut_115 : decode cX7_takesOut 115 = .ok (.iadd, 1) := by decide +kernel
theorem dX7_takesOut_116 : decode cX7_takesOut 116 = .ok (.iload 4, 2) := by decide +kernel
theorem dX7_takesOut_118 : decode cX7_takesOut 118 = .ok (.iadd, 1) := by decide +kernel
theorem dX7_takesOut_119 : decode cX7_takesOut 119 = .ok (.iconst 0, 1) := by decide +kernel
theorem dX7_takesOut_120 : decode cX7_takesOut 120 = .ok (.iastore, 1) := by decide +kernel
theorem dX7_takesOut_121 : decode cX7_takesOut 121 = .ok (.iinc 4 1, 3) := by decide +kernel
theorem dX7_takesOut_124 : decode cX7_takesOut 124 = .ok (.goto (-74), 3) := by decide +kernel
theorem dX7_takesOut_127 : decode cX7_takesOut 127 = .ok (.aload_n 0, 1) := by decide +kernel
theorem dX7_takesOut_128 : decode cX7_takesOut 128 = .ok (.getfield 22, 3) := by decide +kernel
theorem dX7_takesOut_131 : decode cX7_takesOut 131 = .ok (.iload_n 1, 1) := by decide +kernel
theorem dX7_takesOut_132 : decode cX7_takesOut 132 = .ok (.dup2, 1) := by decide +kernel
theorem dX7_takesOut_133 : decode cX7_takesOut 133 = .ok (.iaload, 1) := by decide +kernel
theorem dX7_takesOut_134 : decode cX7_takesOut 134 = .ok (.iload_n 3, 1) := by decide +kernel
theorem dX7_takesOut_135 : decode cX7_takesOut 135 = .ok (.isub, 1) := by decide +kernel
theorem dX7_takesOut_136 : decode cX7_takesOut 136 = .ok (.iastore, 1) := by decide +kernel
theorem dX7_takesOut_137 : decode cX7_takesOut 137 = .ok (.aload_n 0, 1) := by decide +kernel
theorem dX7_takesOut_138 : decode cX7_takesOut 138 = .ok (.getfield 52, 3) := by decide +kernel
theorem dX7_takesOut_141 : decode cX7_takesOut 141 = .ok (.bipush 35, 2) := by decide +kernel
theorem dX7_takesOut_143 : decode cX7_takesOut 143 = .ok (.iload_n 2, 1) := by decide +kernel
theorem dX7_takesOut_144 : decode cX7_takesOut 144 = .ok (.imul, 1) := by decide +kernel
theorem dX7_takesOut_145 : decode cX7_takesOut 145 = .ok (.iconst 3, 1) := by decide +kernel
theorem dX7_takesOut_146 : decode cX7_takesOut 146 = .ok (.iadd, 1) := by decide +kernel
theorem dX7_takesOut_147 : decode cX7_takesOut 147 = .ok (.iconst 0, 1) := by decide +kernel
theorem dX7_takesOut_148 : decode cX7_takesOut 148 = .ok (.iastore, 1) := by decide +kernel
theorem dX7_takesOut_149 : decode cX7_takesOut 149 = .ok (.return_, 1) := by decide +kernel
theorem dX7_secret_0 : decode cX7_secret 0 = .ok (.iload_n 1, 1) := by decide +kernel
theorem dX7_secret_1 : decode cX7_secret 1 = .ok (.invokestatic 75, 3) := by decide +kernel
theorem dX7_secret_4 : decode cX7_secret 4 = .ok (.ifCond .ne 5, 3) := by decide +kernel
theorem dX7_secret_7 : decode cX7_secret 7 = .ok (.iconst (-1), 1) := by decide +kernel
theorem dX7_secret_8 : decode cX7_secret 8 = .ok (.ireturn, 1) := by decide +kernel
theorem dX7_secret_9 : decode cX7_secret 9 = .ok (.aload_n 0, 1) := by decide +kernel
theorem dX7_secret_10 : decode cX7_secret 10 = .ok (.getfield 165, 3) := by decide +kernel
theorem dX7_secret_13 : decode cX7_secret 13 = .ok (.bipush 16, 2) := by decide +kernel
theorem dX7_secret_15 : decode cX7_secret 15 = .ok (.if_icmp .ne 6, 3) := by decide +kernel
theorem dX7_secret_18 : decode cX7_secret 18 = .ok (.bipush (-4), 2) := by decide +kernel
theorem dX7_secret_20 : decode cX7_secret 20 = .ok (.ireturn, 1) := by decide +kernel
theorem dX7_secret_21 : decode cX7_secret 21 = .ok (.aload_n 0, 1) := by decide +kernel
theorem dX7_secret_22 : decode cX7_secret 22 = .ok (.getfield 13, 3) := by decide +kernel
theorem dX7_secret_25 : decode cX7_secret 25 = .ok (.aload_n 0, 1) := by decide +kernel
theorem dX7_secret_26 : decode cX7_secret 26 = .ok (.getfield 165, 3) := by decide +kernel
theorem dX7_secret_29 : decode cX7_secret 29 = .ok (.iconst 1, 1) := by decide +kernel
theorem dX7_secret_30 : decode cX7_secret 30 = .ok (.iload_n 1, 1) := by decide +kernel
theorem dX7_secret_31 : decode cX7_secret 31 = .ok (.ishl, 1) := by decide +kernel
theorem dX7_secret_32 : decode cX7_secret 32 = .ok (.iastore, 1) := by decide +kernel
theorem dX7_secret_33 : decode cX7_secret 33 = .ok (.aload_n 0, 1) := by decide +kernel
theorem dX7_secret_34 : decode cX7_secret 34 = .ok (.dup, 1) := by decide +kernel
theorem dX7_secret_35 : decode cX7_secret 35 = .ok (.getfield 165, 3) := by decide +kernel
theorem dX7_secret_38 : decode cX7_secret 38 = .ok (.iconst 1, 1) := by decide +kernel
theorem dX7_secret_39 : decode cX7_secret 39 = .ok (.iadd, 1) := by decide +kernel
theorem dX7_secret_40 : decode cX7_secret 40 = .ok (.putfield 165, 3) := by decide +kernel
theorem dX7_secret_43 : decode cX7_secret 43 = .ok (.aload_n 0, 1) := by decide +kernel
theorem dX7_secret_44 : decode cX7_secret 44 = .ok (.getfield 165, 3) := by decide +kernel
theorem dX7_secret_47 : decode cX7_secret 47 = .ok (.iconst 1, 1) := by decide +kernel
theorem dX7_secret_48 : decode cX7_secret 48 = .ok (.isub, 1) := by decide +kernel
theorem dX7_secret_49 : decode cX7_secret 49 = .ok (.ireturn, 1) := by decide +kernel
theorem dX7_tell_0 : decode cX7_tell 0 = .ok (.iload_n 1, 1) := by decide +kernel
theorem dX7_tell_1 : decode cX7_tell 1 = .ok (.iconst 0, 1) := by decide +kernel
theorem dX7_tell_2 : decode cX7_tell 2 = .ok (.aload_n 0, 1) := by decide +kernel
theorem dX7_tell_3 : decode cX7_tell 3 = .ok (.getfield 165, 3) := by decide +kernel
theorem dX7_tell_6 : decode cX7_tell 6 = .ok (.iconst 1, 1) := by decide +kernel
theorem dX7_tell_7 : decode cX7_tell 7 = .ok (.isub, 1) := by decide +kernel
theorem dX7_tell_8 : decode cX7_tell 8 = .ok (.invokestatic 64, 3) := by decide +kernel
theorem dX7_tell_11 : decode cX7_tell 11 = .ok (.ifCond .eq 17, 3) := by decide +kernel
theorem dX7_tell_14 : decode cX7_tell 14 = .ok (.iload_n 2, 1) := by decide +kernel
theorem dX7_tell_15 : decode cX7_tell 15 = .ok (.invokestatic 75, 3) := by decide +kernel
theorem dX7_tell_18 : decode cX7_tell 18 = .ok (.ifCond .eq 10, 3) := by decide +kernel
theorem dX7_tell_21 : decode cX7_tell 21 = .ok (.iload_n 3, 1) := by decide +kernel
theorem dX7_tell_22 : decode cX7_tell 22 = .ok (.invokestatic 75, 3) := by decide +kernel
theorem dX7_tell_25 : decode cX7_tell 25 = .ok (.ifCond .ne 5, 3) := by decide +kernel
theorem dX7_tell_28 : decode cX7_tell 28 = .ok (.iconst (-1), 1) := by decide +kernel
theorem dX7_tell_29 : decode cX7_tell 29 = .ok (.ireturn, 1) := by decide +kernel
theorem dX7_tell_30 : decode cX7_tell 30 = .ok (.aload_n 0, 1) := by decide +kernel
theorem dX7_tell_31 : decode cX7_tell 31 = .ok (.getfield 13, 3) := by decide +kernel
theorem dX7_tell_34 : decode cX7_tell 34 = .ok (.iload_n 1, 1) := by decide +kernel
theorem dX7_tell_35 : decode cX7_tell 35 = .ok (.iaload, 1) := by decide +kernel
theorem dX7_tell_36 : decode cX7_tell 36 = .ok (.iload_n 2, 1) := by decide +kernel
theorem dX7_tell_37 : decode cX7_tell 37 = .ok (.invokestatic 79, 3) := by decide +kernel
theorem dX7_tell_40 : decode cX7_tell 40 = .ok (.ifCond .ne 6, 3) := by decide +kernel
theorem dX7_tell_43 : decode cX7_tell 43 = .ok (.bipush (-4), 2) := by decide +kernel
theorem dX7_tell_45 : decode cX7_tell 45 = .ok (.ireturn, 1) := by decide +kernel
theorem dX7_tell_46 : decode cX7_tell 46 = .ok (.aload_n 0, 1) := by decide +kernel
theorem dX7_tell_47 : decode cX7_tell 47 = .ok (.getfield 13, 3) := by decide +kernel
theorem dX7_tell_50 : decode cX7_tell 50 = .ok (.iload_n 1, 1) := by decide +kernel
theorem dX7_tell_51 : decode cX7_tell 51 = .ok (.iaload, 1) := by decide +kernel
theorem dX7_tell_52 : decode cX7_tell 52 = .ok (.istore 4, 2) := by decide +kernel
theorem dX7_tell_54 : decode cX7_tell 54 = .ok (.aload_n 0, 1) := by decide +kernel
theorem dX7_tell_55 : decode cX7_tell 55 = .ok (.getfield 13, 3) := by decide +kernel
theorem dX7_tell_58 : decode cX7_tell 58 = .ok (.iload_n 1, 1) := by decide +kernel
theorem dX7_tell_59 : decode cX7_tell 59 = .ok (.iload 4, 2) := by decide +kernel
theorem dX7_tell_61 : decode cX7_tell 61 = .ok (.iconst 1, 1) := by decide +kernel
theorem dX7_tell_62 : decode cX7_tell 62 = .ok (.iload_n 3, 1) := by decide +kernel
theorem dX7_tell_63 : decode cX7_tell 63 = .ok (.ishl, 1) := by decide +kernel
theorem dX7_tell_64 : decode cX7_tell 64 = .ok (.ior, 1) := by decide +kernel
theorem dX7_tell_65 : decode cX7_tell 65 = .ok (.iastore, 1) := by decide +kernel
theorem dX7_tell_66 : decode cX7_tell 66 = .ok (.aload_n 0, 1) := by decide +kernel
theorem dX7_tell_67 : decode cX7_tell 67 = .ok (.getfield 13, 3) := by decide +kernel
theorem dX7_tell_70 : decode cX7_tell 70 = .ok (.iload_n 1, 1) := by decide +kernel
theorem dX7_tell_71 : decode cX7_tell 71 = .ok (.iaload, 1) := by decide +kernel
theorem dX7_tell_72 : decode cX7_tell 72 = .ok (.iload 4, 2) := by decide +kernel
theorem dX7_tell_74 : decode cX7_tell 74 = .ok (.if_icmp .ne 7, 3) := by decide +kernel
theorem dX7_tell_77 : decode cX7_tell 77 = .ok (.iconst 0, 1) := by decide +kernel
theorem dX7_tell_78 : decode cX7_tell 78 = .ok (.goto 4, 3) := by decide +kernel
theorem dX7_tell_81 : decode cX7_tell 81 = .ok (.iconst 1, 1) := by decide +kernel
theorem dX7_tell_82 : decode cX7_tell 82 = .ok (.ireturn, 1) := by decide +kernel
theorem dX7_claim_0 : decode cX7_claim 0 = .ok (.aload_n 0, 1) := by decide +kernel
theorem dX7_claim_1 : decode cX7_claim 1 = .ok (.iload_n 1, 1) := by decide +kernel
theorem dX7_claim_2 : decode cX7_claim 2 = .ok (.invokevirtual 149, 3) := by decide +kernel
theorem dX7_claim_5 : decode cX7_claim 5 = .ok (.ifCond .eq 19, 3) := by decide +kernel
theorem dX7_claim_8 : decode cX7_claim 8 = .ok (.iload_n 2, 1) := by decide +kernel
theorem dX7_claim_9 : decode cX7_claim 9 = .ok (.iconst 0, 1) := by decide +kernel
theorem dX7_claim_10 : decode cX7_claim 10 = .ok (.iconst 2, 1) := by decide +kernel
theorem dX7_claim_11 : decode cX7_claim 11 = .ok (.invokestatic 64, 3) := by decide +kernel
theorem dX7_claim_14 : decode cX7_claim 14 = .ok (.ifCond .eq 10, 3) := by decide +kernel
theorem dX7_claim_17 : decode cX7_claim 17 = .ok (.iload_n 3, 1) := by decide +kernel
theorem dX7_claim_18 : decode cX7_claim 18 = .ok (.invokestatic 75, 3) := by decide +kernel
theorem dX7_claim_21 : decode cX7_claim 21 = .ok (.ifCond .ne 5, 3) := by decide +kernel
theorem dX7_claim_24 : decode cX7_claim 24 = .ok (.iconst (-1), 1) := by decide +kernel
theorem dX7_claim_25 : decode cX7_claim 25 = .ok (.ireturn, 1) := by decide +kernel
theorem dX7_claim_26 : decode cX7_claim 26 = .ok (.aload_n 0, 1) := by decide +kernel
theorem dX7_claim_27 : decode cX7_claim 27 = .ok (.getfield 25, 3) := by decide +kernel
theorem dX7_claim_30 : decode cX7_claim 30 = .ok (.iload_n 1, 1) := by decide +kernel
theorem dX7_claim_31 : decode cX7_claim 31 = .ok (.iaload, 1) := by decide +kernel
theorem dX7_claim_32 : decode cX7_claim 32 = .ok (.iconst 3, 1) := by decide +kernel
theorem dX7_claim_33 : decode cX7_claim 33 = .ok (.if_icmp .eq 6, 3) := by decide +kernel
theorem dX7_claim_36 : decode cX7_claim 36 = .ok (.bipush (-2), 2) := by decide +kernel
theorem dX7_claim_38 : decode cX7_claim 38 = .ok (.ireturn, 1) := by decide +kernel
theorem dX7_claim_39 : decode cX7_claim 39 = .ok (.aload_n 0, 1) := by decide +kernel
theorem dX7_claim_40 : decode cX7_claim 40 = .ok (.iload_n 1, 1) := by decide +kernel
theorem dX7_claim_41 : decode cX7_claim 41 = .ok (.iload_n 2, 1) := by decide +kernel
theorem dX7_claim_42 : decode cX7_claim 42 = .ok (.iload_n 3, 1) := by decide +kernel
theorem dX7_claim_43 : decode cX7_claim 43 = .ok (.invokevirtual 124, 3) := by decide +kernel
theorem dX7_claim_46 : decode cX7_claim 46 = .ok (.ifCond .eq 13, 3) := by decide +kernel
theorem dX7_claim_49 : decode cX7_claim 49 = .ok (.aload_n 0, 1) := by decide +kernel
theorem dX7_claim_50 : decode cX7_claim 50 = .ok (.iload_n 1, 1) := by decide +kernel
theorem dX7_claim_51 : decode cX7_claim 51 = .ok (.iload_n 2, 1) := by decide +kernel
theorem dX7_claim_52 : decode cX7_claim 52 = .ok (.iload_n 3, 1) := by decide +kernel
theorem dX7_claim_53 : decode cX7_claim 53 = .ok (.invokevirtual 127, 3) := by decide +kernel
theorem dX7_claim_56 : decode cX7_claim 56 = .ok (.goto 5, 3) := by decide +kernel
theorem dX7_claim_59 : decode cX7_claim 59 = .ok (.bipush (-4), 2) := by decide +kernel
theorem dX7_claim_61 : decode cX7_claim 61 = .ok (.ireturn, 1) := by decide +kernel
theorem dX7_step_0 : decode cX7_step 0 = .ok (.aload_n 0, 1) := by decide +kernel
theorem dX7_step_1 : decode cX7_step 1 = .ok (.iload_n 1, 1) := by decide +kernel
theorem dX7_step_2 : decode cX7_step 2 = .ok (.invokevirtual 149, 3) := by decide +kernel
theorem dX7_step_5 : decode cX7_step 5 = .ok (.ifCond .eq 10, 3) := by decide +kernel
theorem dX7_step_8 : decode cX7_step 8 = .ok (.iload_n 2, 1) := by decide +kernel
theorem dX7_step_9 : decode cX7_step 9 = .ok (.invokestatic 75, 3) := by decide +kernel
theorem dX7_step_12 : decode cX7_step 12 = .ok (.ifCond .ne 5, 3) := by decide +kernel
theorem dX7_step_15 : decode cX7_step 15 = .ok (.iconst (-1), 1) := by decide +kernel
theorem dX7_step_16 : decode cX7_step 16 = .ok (.ireturn, 1) := by decide +kernel
theorem dX7_step_17 : decode cX7_step 17 = .ok (.aload_n 0, 1) := by decide +kernel
theorem dX7_step_18 : decode cX7_step 18 = .ok (.getfield 37, 3) := by decide +kernel
theorem dX7_step_21 : decode cX7_step 21 = .ok (.iload_n 1, 1) := by decide +kernel
theorem dX7_step_22 : decode cX7_step 22 = .ok (.iaload, 1) := by decide +kernel
theorem dX7_step_23 : decode cX7_step 23 = .ok (.ifCond .ne 6, 3) := by decide +kernel
theorem dX7_step_26 : decode cX7_step 26 = .ok (.bipush (-2), 2) := by decide +kernel
theorem dX7_step_28 : decode cX7_step 28 = .ok (.ireturn, 1) := by decide +kernel
theorem dX7_step_29 : decode cX7_step 29 = .ok (.iload_n 3, 1) := by decide +kernel
theorem dX7_step_30 : decode cX7_step 30 = .ok (.iconst 1, 1) := by decide +kernel
theorem dX7_step_31 : decode cX7_step 31 = .ok (.iconst 3, 1) := by decide +kernel
theorem dX7_step_32 : decode cX7_step 32 = .ok (.invokestatic 64, 3) := by decide +kernel
theorem dX7_step_35 : decode cX7_step 35 = .ok (.ifCond .ne 6, 3) := by decide +kernel
theorem dX7_step_38 : decode cX7_step 38 = .ok (.bipush (-3), 2) := by decide +kernel
theorem dX7_step_40 : decode cX7_step 40 = .ok (.ireturn, 1) := by decide +kernel
theorem dX7_step_41 : decode cX7_step 41 = .ok (.aload_n 0, 1) := by decide +kernel
theorem dX7_step_42 : decode cX7_step 42 = .ok (.getfield 43, 3) := by decide +kernel
theorem dX7_step_45 : decode cX7_step 45 = .ok (.iload_n 1, 1) := by decide +kernel
theorem dX7_step_46 : decode cX7_step 46 = .ok (.iaload, 1) := by decide +kernel
theorem dX7_step_47 : decode cX7_step 47 = .ok (.iload_n 2, 1) := by decide +kernel
theorem dX7_step_48 : decode cX7_step 48 = .ok (.if_icmp .ne 13, 3) := by decide +kernel
theorem dX7_step_51 : decode cX7_step 51 = .ok (.aload_n 0, 1) := by decide +kernel
theorem dX7_step_52 : decode cX7_step 52 = .ok (.getfield 40, 3) := by decide +kernel
theorem dX7_step_55 : decode cX7_step 55 = .ok (.iload_n 1, 1) := by decide +kernel
theorem dX7_step_56 : decode cX7_step 56 = .ok (.iaload, 1) := by decide +kernel
theorem dX7_step_57 : decode cX7_step 57 = .ok (.iload_n 3, 1) := by decide +kernel
theorem dX7_step_58 : decode cX7_step 58 = .ok (.if_icmp .ge 8, 3) := by decide +kernel
theorem dX7_step_61 : decode cX7_step 61 = .ok (.bipush (-4), 2) := by decide +kernel
theorem dX7_step_63 : decode cX7_step 63 = .ok (.goto 9, 3) := by decide +kernel
theorem dX7_step_66 : decode cX7_step 66 = .ok (.aload_n 0, 1) := by decide +kernel
theorem dX7_step_67 : decode cX7_step 67 = .ok (.iload_n 1, 1) := by decide +kernel
theorem dX7_step_68 : decode cX7_step 68 = .ok (.iload_n 3, 1) := by decide +kernel
theorem dX7_step_69 : decode cX7_step 69 = .ok (.invokevirtual 131, 3) := by decide +kernel
theorem dX7_step_72 : decode cX7_step 72 = .ok (.ireturn, 1) := by decide +kernel
theorem dX7_watch_0 : decode cX7_watch 0 = .ok (.iload_n 1, 1) := by decide +kernel
theorem dX7_watch_1 : decode cX7_watch 1 = .ok (.invokestatic 75, 3) := by decide +kernel
theorem dX7_watch_4 : decode cX7_watch 4 = .ok (.ifCond .ne 5, 3) := by decide +kernel
theorem dX7_watch_7 : decode cX7_watch 7 = .ok (.iconst (-1), 1) := by decide +kernel
theorem dX7_watch_8 : decode cX7_watch 8 = .ok (.ireturn, 1) := by decide +kernel
theorem dX7_watch_9 : decode cX7_watch 9 = .ok (.aload_n 0, 1) := by decide +kernel
theorem dX7_watch_10 : decode cX7_watch 10 = .ok (.getfield 137, 3) := by decide +kernel
theorem dX7_watch_13 : decode cX7_watch 13 = .ok (.iload_n 1, 1) := by decide +kernel
theorem dX7_watch_14 : decode cX7_watch 14 = .ok (.ishr, 1) := by decide +kernel
theorem dX7_watch_15 : decode cX7_watch 15 = .ok (.iconst 1, 1) := by decide +kernel
theorem dX7_watch_16 : decode cX7_watch 16 = .ok (.iand, 1) := by decide +kernel
theorem dX7_watch_17 : decode cX7_watch 17 = .ok (.istore_n 3, 1) := by decide +kernel
theorem dX7_watch_18 : decode cX7_watch 18 = .ok (.iload_n 2, 1) := by decide +kernel
theorem dX7_watch_19 : decode cX7_watch 19 = .ok (.iload_n 3, 1) := by decide +kernel
theorem dX7_watch_20 : decode cX7_watch 20 = .ok (.iconst 1, 1) := by decide +kernel
theorem dX7_watch_21 : decode cX7_watch 21 = .ok (.if_icmp .ne 7, 3) := by decide +kernel
theorem dX7_watch_24 : decode cX7_watch 24 = .ok (.iconst 1, 1) := by decide +kernel
theorem dX7_watch_25 : decode cX7_watch 25 = .ok (.goto 4, 3) := by decide +kernel
theorem dX7_watch_28 : decode cX7_watch 28 = .ok (.iconst 0, 1) := by decide +kernel
theorem dX7_watch_29 : decode cX7_watch 29 = .ok (.if_icmp .eq 26, 3) := by decide +kernel
theorem dX7_watch_32 : decode cX7_watch 32 = .ok (.aload_n 0, 1) := by decide +kernel
theorem dX7_watch_33 : decode cX7_watch 33 = .ok (.dup, 1) := by decide +kernel
theorem dX7_watch_34 : decode cX7_watch 34 = .ok (.getfield 137, 3) := by decide +kernel
theorem dX7_watch_37 : decode cX7_watch 37 = .ok (.iload_n 2, 1) := by decide +kernel
theorem dX7_watch_38 : decode cX7_watch 38 = .ok (.ifCond .eq 9, 3) := by decide +kernel
theorem dX7_watch_41 : decode cX7_watch 41 = .ok (.iconst 1, 1) := by decide +kernel
theorem dX7_watch_42 : decode cX7_watch 42 = .ok (.iload_n 1, 1) := by decide +kernel
theorem dX7_watch_43 : decode cX7_watch 43 = .ok (.ishl, 1) := by decide +kernel
theorem dX7_watch_44 : decode cX7_watch 44 = .ok (.goto 7, 3) := by decide +kernel
theorem dX7_watch_47 : decode cX7_watch 47 = .ok (.iconst 1, 1) := by decide +kernel
theorem dX7_watch_48 : decode cX7_watch 48 = .ok (.iload_n 1, 1) := by decide +kernel
theorem dX7_watch_49 : decode cX7_watch 49 = .ok (.ishl, 1) := by decide +kernel
theorem dX7_watch_50 : decode cX7_watch 50 = .ok (.ineg, 1) := by decide +kernel
theorem dX7_watch_51 : decode cX7_watch 51 = .ok (.iadd, 1) := by decide +kernel
theorem dX7_watch_52 : decode cX7_watch 52 = .ok (.putfield 137, 3) := by decide +kernel
theorem dX7_watch_55 : decode cX7_watch 55 = .ok (.iload_n 3, 1) := by decide +kernel
theorem dX7_watch_56 : decode cX7_watch 56 = .ok (.ireturn, 1) := by decide +kernel
theorem dX7_height_0 : decode cX7_height 0 = .ok (.iload_n 1, 1) := by decide +kernel
theorem dX7_height_1 : decode cX7_height 1 = .ok (.iconst 1, 1) := by decide +kernel
theorem dX7_height_2 : decode cX7_height 2 = .ok (.bipush 100, 2) := by decide +kernel
theorem dX7_height_4 : decode cX7_height 4 = .ok (.invokestatic 64, 3) := by decide +kernel
theorem dX7_height_7 : decode cX7_height 7 = .ok (.ifCond .ne 6, 3) := by decide +kernel
theorem dX7_height_10 : decode cX7_height 10 = .ok (.bipush (-3), 2) := by decide +kernel
theorem dX7_height_12 : decode cX7_height 12 = .ok (.ireturn, 1) := by decide +kernel
theorem dX7_height_13 : decode cX7_height 13 = .ok (.iconst 0, 1) := by decide +kernel
theorem dX7_height_14 : decode cX7_height 14 = .ok (.istore_n 2, 1) := by decide +kernel
theorem dX7_height_15 : decode cX7_height 15 = .ok (.iload_n 2, 1) := by decide +kernel
theorem dX7_height_16 : decode cX7_height 16 = .ok (.iload_n 1, 1) := by decide +kernel
theorem dX7_height_17 : decode cX7_height 17 = .ok (.if_icmp .ge 13, 3) := by decide +kernel
theorem dX7_height_20 : decode cX7_height 20 = .ok (.aload_n 0, 1) := by decide +kernel
theorem dX7_height_21 : decode cX7_height 21 = .ok (.invokevirtual 182, 3) := by decide +kernel
theorem dX7_height_24 : decode cX7_height 24 = .ok (.iinc 2 1, 3) := by decide +kernel
theorem dX7_height_27 : decode cX7_height 27 = .ok (.goto (-12), 3) := by decide +kernel
theorem dX7_height_30 : decode cX7_height 30 = .ok (.aload_n 0, 1) := by decide +kernel
theorem dX7_height_31 : decode cX7_height 31 = .ok (.getfield 103, 3) := by decide +kernel
theorem dX7_height_34 : decode cX7_height 34 = .ok (.ireturn, 1) := by decide +kernel
theorem dX7_hop_0 : decode cX7_hop 0 = .ok (.aload_n 0, 1) := by decide +kernel
theorem dX7_hop_1 : decode cX7_hop 1 = .ok (.iload_n 1, 1) := by decide +kernel
theorem dX7_hop_2 : decode cX7_hop 2 = .ok (.invokevirtual 149, 3) := by decide +kernel
theorem dX7_hop_5 : decode cX7_hop 5 = .ok (.ifCond .eq 21, 3) := by decide +kernel
theorem dX7_hop_8 : decode cX7_hop 8 = .ok (.aload_n 0, 1) := by decide +kernel
theorem dX7_hop_9 : decode cX7_hop 9 = .ok (.iload_n 1, 1) := by decide +kernel
theorem dX7_hop_10 : decode cX7_hop 10 = .ok (.iload_n 2, 1) := by decide +kernel
theorem dX7_hop_11 : decode cX7_hop 11 = .ok (.invokevirtual 90, 3) := by decide +kernel
theorem dX7_hop_14 : decode cX7_hop 14 = .ok (.ifCond .eq 12, 3) := by decide +kernel
theorem dX7_hop_17 : decode cX7_hop 17 = .ok (.aload_n 0, 1) := by decide +kernel
theorem dX7_hop_18 : decode cX7_hop 18 = .ok (.iload_n 1, 1) := by decide +kernel
theorem dX7_hop_19 : decode cX7_hop 19 = .ok (.iload_n 3, 1) := by decide +kernel
theorem dX7_hop_20 : decode cX7_hop 20 = .ok (.invokevirtual 90, 3) := by decide +kernel
theorem dX7_hop_23 : decode cX7_hop 23 = .ok (.ifCond .ne 5, 3) := by decide +kernel
theorem dX7_hop_26 : decode cX7_hop 26 = .ok (.iconst (-1), 1) := by decide +kernel
theorem dX7_hop_27 : decode cX7_hop 27 = .ok (.ireturn, 1) := by decide +kernel
theorem dX7_hop_28 : decode cX7_hop 28 = .ok (.aload_n 0, 1) := by decide +kernel
theorem dX7_hop_29 : decode cX7_hop 29 = .ok (.getfield 25, 3) := by decide +kernel
theorem dX7_hop_32 : decode cX7_hop 32 = .ok (.iload_n 1, 1) := by decide +kernel
theorem dX7_hop_33 : decode cX7_hop 33 = .ok (.iaload, 1) := by decide +kernel
theorem dX7_hop_34 : decode cX7_hop 34 = .ok (.iconst 1, 1) := by decide +kernel
theorem dX7_hop_35 : decode cX7_hop 35 = .ok (.if_icmp .eq 6, 3) := by decide +kernel
theorem dX7_hop_38 : decode cX7_hop 38 = .ok (.bipush (-2), 2) := by decide +kernel
theorem dX7_hop_40 : decode cX7_hop 40 = .ok (.ireturn, 1) := by decide +kernel
theorem dX7_hop_41 : decode cX7_hop 41 = .ok (.iconst 0, 1) := by decide +kernel
theorem dX7_hop_42 : decode cX7_hop 42 = .ok (.istore 4, 2) := by decide +kernel
theorem dX7_hop_44 : decode cX7_hop 44 = .ok (.iconst 0, 1) := by decide +kernel
theorem dX7_hop_45 : decode cX7_hop 45 = .ok (.istore 5, 2) := by decide +kernel
theorem dX7_hop_47 : decode cX7_hop 47 = .ok (.iload 5, 2) := by decide +kernel
theorem dX7_hop_49 : decode cX7_hop 49 = .ok (.aload_n 0, 1) := by decide +kernel
theorem dX7_hop_50 : decode cX7_hop 50 = .ok (.getfield 185, 3) := by decide +kernel
theorem dX7_hop_53 : decode cX7_hop 53 = .ok (.if_icmp .ge 32, 3) := by decide +kernel
theorem dX7_hop_56 : decode cX7_hop 56 = .ok (.iload 4, 2) := by decide +kernel
theorem dX7_hop_58 : decode cX7_hop 58 = .ok (.ifCond .ne 14, 3) := by decide +kernel
theorem dX7_hop_61 : decode cX7_hop 61 = .ok (.aload_n 0, 1) := by decide +kernel
theorem dX7_hop_62 : decode cX7_hop 62 = .ok (.getfield 55, 3) := by decide +kernel
theorem dX7_hop_65 : decode cX7_hop 65 = .ok (.iload 5, 2) := by decide +kernel
theorem dX7_hop_67 : decode cX7_hop 67 = .ok (.iaload, 1) := by decide +kernel
theorem dX7_hop_68 : decode cX7_hop 68 = .ok (.iload_n 1, 1) := by decide +kernel
theorem dX7_hop_69 : decode cX7_hop 69 = .ok (.if_icmp .ne 7, 3) := by decide +kernel
theorem dX7_hop_72 : decode cX7_hop 72 = .ok (.iconst 1, 1) := by decide +kernel
theorem dX7_hop_73 : decode cX7_hop 73 = .ok (.goto 4, 3) := by decide +kernel
theorem dX7_hop_76 : decode cX7_hop 76 = .ok (.iconst 0, 1) := by decide +kernel
theorem dX7_hop_77 : decode cX7_hop 77 = .ok (.istore 4, 2) := by decide +kernel
theorem dX7_hop_79 : decode cX7_hop 79 = .ok (.iinc 5 1, 3) := by decide +kernel
theorem dX7_hop_82 : decode cX7_hop 82 = .ok (.goto (-35), 3) := by decide +kernel
theorem dX7_hop_85 : decode cX7_hop 85 = .ok (.aload_n 0, 1) := by decide +kernel
theorem dX7_hop_86 : decode cX7_hop 86 = .ok (.getfield 185, 3) := by decide +kernel
theorem dX7_hop_89 : decode cX7_hop 89 = .ok (.iconst 4, 1) := by decide +kernel
theorem dX7_hop_90 : decode cX7_hop 90 = .ok (.if_icmp .eq 35, 3) := by decide +kernel
theorem dX7_hop_93 : decode cX7_hop 93 = .ok (.iload_n 2, 1) := by decide +kernel
theorem dX7_hop_94 : decode cX7_hop 94 = .ok (.iload_n 3, 1) := by decide +kernel
theorem dX7_hop_95 : decode cX7_hop 95 = .ok (.if_icmp .eq 30, 3) := by decide +kernel
theorem dX7_hop_98 : decode cX7_hop 98 = .ok (.iload 4, 2) := by decide +kernel
theorem dX7_hop_100 : decode cX7_hop 100 = .ok (.ifCond .ne 25, 3) := by decide +kernel
theorem dX7_hop_103 : decode cX7_hop 103 = .ok (.aload_n 0, 1) := by decide +kernel
theorem dX7_hop_104 : decode cX7_hop 104 = .ok (.getfield 185, 3) := by decide +kernel
theorem dX7_hop_107 : decode cX7_hop 107 = .ok (.ifCond .le 21, 3) := by decide +kernel
theorem dX7_hop_110 : decode cX7_hop 110 = .ok (.aload_n 0, 1) := by decide +kernel
theorem dX7_hop_111 : decode cX7_hop 111 = .ok (.getfield 61, 3) := by decide +kernel
theorem dX7_hop_114 : decode cX7_hop 114 = .ok (.aload_n 0, 1) := by decide +kernel
theorem dX7_hop_115 : decode cX7_hop 115 = .ok (.getfield 185, 3) := by decide +kernel
theorem dX7_hop_118 : decode cX7_hop 118 = .ok (.iconst 1, 1) := by decide +kernel
theorem dX7_hop_119 : decode cX7_hop 119 = .ok (.isub, 1) := by decide +kernel
theorem dX7_hop_120 : decode cX7_hop 120 = .ok (.iaload, 1) := by decide +kernel
theorem dX7_hop_121 : decode cX7_hop 121 = .ok (.iload_n 2, 1) := by decide +kernel
theorem dX7_hop_122 : decode cX7_hop 122 = .ok (.if_icmp .eq 6, 3) := by decide +kernel
theorem dX7_hop_125 : decode cX7_hop 125 = .ok (.bipush (-4), 2) := by decide +kernel
theorem dX7_hop_127 : decode cX7_hop 127 = .ok (.ireturn, 1) := by decide +kernel
theorem dX7_hop_128 : decode cX7_hop 128 = .ok (.aload_n 0, 1) := by decide +kernel
theorem dX7_hop_129 : decode cX7_hop 129 = .ok (.getfield 55, 3) := by decide +kernel
theorem dX7_hop_132 : decode cX7_hop 132 = .ok (.aload_n 0, 1) := by decide +kernel
theorem dX7_hop_133 : decode cX7_hop 133 = .ok (.getfield 185, 3) := by decide +kernel
theorem dX7_hop_136 : decode cX7_hop 136 = .ok (.iload_n 1, 1) := by decide +kernel
theorem dX7_hop_137 : decode cX7_hop 137 = .ok (.iastore, 1) := by decide +kernel
theorem dX7_hop_138 : decode cX7_hop 138 = .ok (.aload_n 0, 1) := by decide +kernel
theorem dX7_hop_139 : decode cX7_hop 139 = .ok (.getfield 58, 3) := by decide +kernel
theorem dX7_hop_142 : decode cX7_hop 142 = .ok (.aload_n 0, 1) := by decide +kernel
theorem dX7_hop_143 : decode cX7_hop 143 = .ok (.getfield 185, 3) := by decide +kernel
theorem dX7_hop_146 : decode cX7_hop 146 = .ok (.iload_n 2, 1) := by decide +kernel
theorem dX7_hop_147 : decode cX7_hop 147 = .ok (.iastore, 1) := by decide +kernel
theorem dX7_hop_148 : decode cX7_hop 148 = .ok (.aload_n 0, 1) := by decide +kernel
theorem dX7_hop_149 : decode cX7_hop 149 = .ok (.getfield 61, 3) := by decide +kernel
theorem dX7_hop_152 : decode cX7_hop 152 = .ok (.aload_n 0, 1) := by decide +kernel
theorem dX7_hop_153 : decode cX7_hop 153 = .ok (.getfield 185, 3) := by decide +kernel
theorem dX7_hop_156 : decode cX7_hop 156 = .ok (.iload_n 3, 1) := by decide +kernel
theorem dX7_hop_157 : decode cX7_hop 157 = .ok (.iastore, 1) := by decide +kernel
theorem dX7_hop_158 : decode cX7_hop 158 = .ok (.aload_n 0, 1) := by decide +kernel
theorem dX7_hop_159 : decode cX7_hop 159 = .ok (.dup, 1) := by decide +kernel
theorem dX7_hop_160 : decode cX7_hop 160 = .ok (.getfield 185, 3) := by decide +kernel
theorem dX7_hop_163 : decode cX7_hop 163 = .ok (.iconst 1, 1) := by decide +kernel
theorem dX7_hop_164 : decode cX7_hop 164 = .ok (.iadd, 1) := by decide +kernel
theorem dX7_hop_165 : decode cX7_hop 165 = .ok (.putfield 185, 3) := by decide +kernel
theorem dX7_hop_168 : decode cX7_hop 168 = .ok (.aload_n 0, 1) := by decide +kernel
theorem dX7_hop_169 : decode cX7_hop 169 = .ok (.getfield 185, 3) := by decide +kernel
theorem dX7_hop_172 : decode cX7_hop 172 = .ok (.ireturn, 1) := by decide +kernel
theorem dX7_pay_0 : decode cX7_pay 0 = .ok (.aload_n 0, 1) := by decide +kernel
theorem dX7_pay_1 : decode cX7_pay 1 = .ok (.getfield 185, 3) := by decide +kernel
theorem dX7_pay_4 : decode cX7_pay 4 = .ok (.istore_n 3, 1) := by decide +kernel
theorem dX7_pay_5 : decode cX7_pay 5 = .ok (.aload_n 0, 1) := by decide +kernel
theorem dX7_pay_6 : decode cX7_pay 6 = .ok (.iconst 0, 1) := by decide +kernel
theorem dX7_pay_7 : decode cX7_pay 7 = .ok (.putfield 185, 3) := by decide +kernel
theorem dX7_pay_10 : decode cX7_pay 10 = .ok (.iload_n 1, 1) := by decide +kernel
theorem dX7_pay_11 : decode cX7_pay 11 = .ok (.iconst 1, 1) := by decide +kernel
theorem dX7_pay_12 : decode cX7_pay 12 = .ok (.ldc 161, 2) := by decide +kernel
theorem dX7_pay_14 : decode cX7_pay 14 = .ok (.invokestatic 64, 3) := by decide +kernel
theorem dX7_pay_17 : decode cX7_pay 17 = .ok (.ifCond .eq 13, 3) := by decide +kernel
theorem dX7_pay_20 : decode cX7_pay 20 = .ok (.iload_n 2, 1) := by decide +kernel
theorem dX7_pay_21 : decode cX7_pay 21 = .ok (.iconst 1, 1) := by decide +kernel
theorem dX7_pay_22 : decode cX7_pay 22 = .ok (.ldc 168, 2) := by decide +kernel
theorem dX7_pay_24 : decode cX7_pay 24 = .ok (.invokestatic 64, 3) := by decide +kernel
theorem dX7_pay_27 : decode cX7_pay 27 = .ok (.ifCond .ne 6, 3) := by decide +kernel
theorem dX7_pay_30 : decode cX7_pay 30 = .ok (.bipush (-3), 2) := by decide +kernel
theorem dX7_pay_32 : decode cX7_pay 32 = .ok (.ireturn, 1) := by decide +kernel
theorem dX7_pay_33 : decode cX7_pay 33 = .ok (.iload_n 3, 1) := by decide +kernel
theorem dX7_pay_34 : decode cX7_pay 34 = .ok (.ifCond .eq 23, 3) := by decide +kernel
theorem dX7_pay_37 : decode cX7_pay 37 = .ok (.aload_n 0, 1) := by decide +kernel
theorem dX7_pay_38 : decode cX7_pay 38 = .ok (.getfield 165, 3) := by decide +kernel
theorem dX7_pay_41 : decode cX7_pay 41 = .ok (.bipush 16, 2) := by decide +kernel
theorem dX7_pay_43 : decode cX7_pay 43 = .ok (.if_icmp .eq 14, 3) := by decide +kernel
theorem dX7_pay_46 : decode cX7_pay 46 = .ok (.aload_n 0, 1) := by decide +kernel
theorem dX7_pay_47 : decode cX7_pay 47 = .ok (.getfield 72, 3) := by decide +kernel
theorem dX7_pay_50 : decode cX7_pay 50 = .ok (.iload_n 3, 1) := by decide +kernel
theorem dX7_pay_51 : decode cX7_pay 51 = .ok (.iadd, 1) := by decide +kernel
theorem dX7_pay_52 : decode cX7_pay 52 = .ok (.bipush 64, 2) := by decide +kernel
theorem dX7_pay_54 : decode cX7_pay 54 = .ok (.if_icmp .le 7, 3) := by decide +kernel
theorem dX7_pay_57 : decode cX7_pay 57 = .ok (.iconst 1, 1) := by decide +kernel
theorem dX7_pay_58 : decode cX7_pay 58 = .ok (.goto 4, 3) := by decide +kernel
theorem dX7_pay_61 : decode cX7_pay 61 = .ok (.iconst 0, 1) := by decide +kernel
theorem dX7_pay_62 : decode cX7_pay 62 = .ok (.istore 4, 2) := by decide +kernel
theorem dX7_pay_64 : decode cX7_pay 64 = .ok (.iconst 0, 1) := by decide +kernel
theorem dX7_pay_65 : decode cX7_pay 65 = .ok (.istore 5, 2) := by decide +kernel
theorem dX7_pay_67 : decode cX7_pay 67 = .ok (.iload 5, 2) := by decide +kernel
theorem dX7_pay_69 : decode cX7_pay 69 = .ok (.iload_n 3, 1) := by decide +kernel
theorem dX7_pay_70 : decode cX7_pay 70 = .ok (.if_icmp .ge 83, 3) := by decide +kernel
theorem dX7_pay_73 : decode cX7_pay 73 = .ok (.iload 4, 2) := by decide +kernel
theorem dX7_pay_75 : decode cX7_pay 75 = .ok (.ifCond .ne 78, 3) := by decide +kernel
theorem dX7_pay_78 : decode cX7_pay 78 = .ok (.aload_n 0, 1) := by decide +kernel
theorem dX7_pay_79 : decode cX7_pay 79 = .ok (.getfield 55, 3) := by decide +kernel
theorem dX7_pay_82 : decode cX7_pay 82 = .ok (.iload 5, 2) := by decide +kernel
theorem dX7_pay_84 : decode cX7_pay 84 = .ok (.iaload, 1) := by decide +kernel
theorem dX7_pay_85 : decode cX7_pay 85 = .ok (.istore 6, 2) := by decide +kernel
theorem dX7_pay_87 : decode cX7_pay 87 = .ok (.aload_n 0, 1) := by decide +kernel
theorem dX7_pay_88 : decode cX7_pay 88 = .ok (.iload 6, 2) := by decide +kernel
theorem dX7_pay_90 : decode cX7_pay 90 = .ok (.invokevirtual 117, 3) := by decide +kernel
theorem dX7_pay_93 : decode cX7_pay 93 = .ok (.istore 7, 2) := by decide +kernel
theorem dX7_pay_95 : decode cX7_pay 95 = .ok (.aload_n 0, 1) := by decide +kernel
theorem dX7_pay_96 : decode cX7_pay 96 = .ok (.getfield 25, 3) := by decide +kernel
theorem dX7_pay_99 : decode cX7_pay 99 = .ok (.iload 6, 2) := by decide +kernel
theorem dX7_pay_101 : decode cX7_pay 101 = .ok (.iaload, 1) := by decide +kernel
theorem dX7_pay_102 : decode cX7_pay 102 = .ok (.iconst 1, 1) := by decide +kernel
theorem dX7_pay_103 : decode cX7_pay 103 = .ok (.if_icmp .ne 37, 3) := by decide +kernel
theorem dX7_pay_106 : decode cX7_pay 106 = .ok (.aload_n 0, 1) := by decide +kernel
theorem dX7_pay_107 : decode cX7_pay 107 = .ok (.getfield 52, 3) := by decide +kernel
theorem dX7_pay_110 : decode cX7_pay 110 = .ok (.bipush 35, 2) := by decide +kernel
theorem dX7_pay_112 : decode cX7_pay 112 = .ok (.iload 7, 2) := by decide +kernel
theorem dX7_pay_114 : decode cX7_pay 114 = .ok (.imul, 1) := by decide +kernel
theorem dX7_pay_115 : decode cX7_pay 115 = .ok (.iconst 4, 1) := by decide +kernel
theorem dX7_pay_116 : decode cX7_pay 116 = .ok (.iadd, 1) := by decide +kernel
theorem dX7_pay_117 : decode cX7_pay 117 = .ok (.aload_n 0, 1) := by decide +kernel
theorem dX7_pay_118 : decode cX7_pay 118 = .ok (.getfield 58, 3) := by decide +kernel
theorem dX7_pay_121 : decode cX7_pay 121 = .ok (.iload 5, 2) := by decide +kernel
theorem dX7_pay_123 : decode cX7_pay 123 = .ok (.iaload, 1) := by decide +kernel
theorem dX7_pay_124 : decode cX7_pay 124 = .ok (.iadd, 1) := by decide +kernel
theorem dX7_pay_125 : decode cX7_pay 125 = .ok (.iaload, 1) := by decide +kernel
theorem dX7_pay_126 : decode cX7_pay 126 = .ok (.iload_n 1, 1) := by decide +kernel
theorem dX7_pay_127 : decode cX7_pay 127 = .ok (.if_icmp .lt 13, 3) := by decide +kernel
theorem dX7_pay_130 : decode cX7_pay 130 = .ok (.aload_n 0, 1) := by decide +kernel
theorem dX7_pay_131 : decode cX7_pay 131 = .ok (.iload 7, 2) := by decide +kernel
theorem dX7_pay_133 : decode cX7_pay 133 = .ok (.invokevirtual 169, 3) := by decide +kernel
theorem dX7_pay_136 : decode cX7_pay 136 = .ok (.iconst (-1), 1) := by decide +kernel
theorem dX7_pay_137 : decode cX7_pay 137 = .ok (.if_icmp .ne 7, 3) := by decide +kernel
theorem dX7_pay_140 : decode cX7_pay 140 = .ok (.iconst 1, 1) := by decide +kernel
theorem dX7_pay_141 : decode cX7_pay 141 = .ok (.goto 4, 3) := by decide +kernel
theorem dX7_pay_144 : decode cX7_pay 144 = .ok (.iconst 0, 1) := by decide +kernel
theorem dX7_pay_145 : decode cX7_pay 145 = .ok (.istore 4, 2) := by decide +kernel
theorem dX7_pay_147 : decode cX7_pay 147 = .ok (.iinc 5 1, 3) := by decide +kernel
theorem dX7_pay_150 : decode cX7_pay 150 = .ok (.goto (-83), 3) := by decide +kernel
theorem dX7_pay_153 : decode cX7_pay 153 = .ok (.iload 4, 2) := by decide +kernel
theorem dX7_pay_155 : decode cX7_pay 155 = .ok (.ifCond .eq 6, 3) := by decide +kernel
theorem dX7_pay_158 : decode cX7_pay 158 = .ok (.bipush (-4), 2) := by decide +kernel
theorem dX7_pay_160 : decode cX7_pay 160 = .ok (.ireturn, 1) := by decide +kernel
theorem dX7_pay_161 : decode cX7_pay 161 = .ok (.aload_n 0, 1) := by decide +kernel
theorem dX7_pay_162 : decode cX7_pay 162 = .ok (.aload_n 0, 1) := by decide +kernel
theorem dX7_pay_163 : decode cX7_pay 163 = .ok (.getfield 61, 3) := by decide +kernel
theorem dX7_pay_166 : decode cX7_pay 166 = .ok (.iload_n 3, 1) := by decide +kernel
theorem dX7_pay_167 : decode cX7_pay 167 = .ok (.iconst 1, 1) := by decide +kernel
theorem dX7_pay_168 : decode cX7_pay 168 = .ok (.isub, 1) := by decide +kernel
theorem dX7_pay_169 : decode cX7_pay 169 = .ok (.iaload, 1) := by decide +kernel
theorem dX7_pay_170 : decode cX7_pay 170 = .ok (.invokevirtual 188, 3) := by decide +kernel
theorem dX7_pay_173 : decode cX7_pay 173 = .ok (.istore 5, 2) := by decide +kernel
theorem dX7_pay_175 : decode cX7_pay 175 = .ok (.iload_n 2, 1) := by decide +kernel
theorem dX7_pay_176 : decode cX7_pay 176 = .ok (.istore 6, 2) := by decide +kernel
theorem dX7_pay_178 : decode cX7_pay 178 = .ok (.iconst 0, 1) := by decide +kernel
theorem dX7_pay_179 : decode cX7_pay 179 = .ok (.istore 7, 2) := by decide +kernel
theorem dX7_pay_181 : decode cX7_pay 181 = .ok (.iload 7, 2) := by decide +kernel
theorem dX7_pay_183 : decode cX7_pay 183 = .ok (.iload_n 3, 1) := by decide +kernel
theorem dX7_pay_184 : decode cX7_pay 184 = .ok (.iconst 1, 1) := by decide +kernel
theorem dX7_pay_185 : decode cX7_pay 185 = .ok (.isub, 1) := by decide +kernel
theorem dX7_pay_186 : decode cX7_pay 186 = .ok (.if_icmp .ge 28, 3) := by decide +kernel
theorem dX7_pay_189 : decode cX7_pay 189 = .ok (.iload 6, 2) := by decide +kernel
theorem dX7_pay_191 : decode cX7_pay 191 = .ok (.aload_n 0, 1) := by decide +kernel
theorem dX7_pay_192 : decode cX7_pay 192 = .ok (.getfield 19, 3) := by decide +kernel
theorem dX7_pay_195 : decode cX7_pay 195 = .ok (.aload_n 0, 1) := by decide +kernel
theorem dX7_pay_196 : decode cX7_pay 196 = .ok (.getfield 55, 3) := by decide +kernel
theorem dX7_pay_199 : decode cX7_pay 199 = .ok (.iload 7, 2) := by decide +kernel
theorem dX7_pay_201 : decode cX7_pay 201 = .ok (.iaload, 1) := by decide +kernel
theorem dX7_pay_202 : decode cX7_pay 202 = .ok (.iaload, 1) := by decide +kernel
theorem dX7_pay_203 : decode cX7_pay 203 = .ok (.iconst 1, 1) := by decide +kernel
theorem dX7_pay_204 : decode cX7_pay 204 = .ok (.iadd, 1) := by decide +kernel
theorem dX7_pay_205 : decode cX7_pay 205 = .ok (.iadd, 1) := by decide +kernel
theorem dX7_pay_206 : decode cX7_pay 206 = .ok (.istore 6, 2) := by decide +kernel
theorem dX7_pay_208 : decode cX7_pay 208 = .ok (.iinc 7 1, 3) := by decide +kernel
theorem dX7_pay_211 : decode cX7_pay 211 = .ok (.goto (-30), 3) := by decide +kernel
theorem dX7_pay_214 : decode cX7_pay 214 = .ok (.iconst 0, 1) := by decide +kernel
theorem dX7_pay_215 : decode cX7_pay 215 = .ok (.istore 7, 2) := by decide +kernel
theorem dX7_pay_217 : decode cX7_pay 217 = .ok (.iload 7, 2) := by decide +kernel
theorem dX7_pay_219 : decode cX7_pay 219 = .ok (.iload_n 3, 1) := by decide +kernel
theorem dX7_pay_220 : decode cX7_pay 220 = .ok (.if_icmp .ge 86, 3) := by decide +kernel
theorem dX7_pay_223 : decode cX7_pay 223 = .ok (.aload_n 0, 1) := by decide +kernel
theorem dX7_pay_224 : decode cX7_pay 224 = .ok (.getfield 55, 3) := by decide +kernel
theorem dX7_pay_227 : decode cX7_pay 227 = .ok (.iload 7, 2) := by decide +kernel
theorem dX7_pay_229 : decode cX7_pay 229 = .ok (.iaload, 1) := by decide +kernel
theorem dX7_pay_230 : decode cX7_pay 230 = .ok (.istore 8, 2) := by decide +kernel
theorem dX7_pay_232 : decode cX7_pay 232 = .ok (.aload_n 0, 1) := by decide +kernel
theorem dX7_pay_233 : decode cX7_pay 233 = .ok (.iload 8, 2) := by decide +kernel
theorem dX7_pay_235 : decode cX7_pay 235 = .ok (.invokevirtual 152, 3) := by decide +kernel
theorem dX7_pay_238 : decode cX7_pay 238 = .ok (.istore 9, 2) := by decide +kernel
theorem dX7_pay_240 : decode cX7_pay 240 = .ok (.aload_n 0, 1) := by decide +kernel
theorem dX7_pay_241 : decode cX7_pay 241 = .ok (.iload 9, 2) := by decide +kernel
theorem dX7_pay_243 : decode cX7_pay 243 = .ok (.aload_n 0, 1) := by decide +kernel
theorem dX7_pay_244 : decode cX7_pay 244 = .ok (.getfield 58, 3) := by decide +kernel
theorem dX7_pay_247 : decode cX7_pay 247 = .ok (.iload 7, 2) := by decide +kernel
theorem dX7_pay_249 : decode cX7_pay 249 = .ok (.iaload, 1) := by decide +kernel
theorem dX7_pay_250 : decode cX7_pay 250 = .ok (.aload_n 0, 1) := by decide +kernel
theorem dX7_pay_251 : decode cX7_pay 251 = .ok (.getfield 61, 3) := by decide +kernel
theorem dX7_pay_254 : decode cX7_pay 254 = .ok (.iload 7, 2) := by decide +kernel
theorem dX7_pay_256 : decode cX7_pay 256 = .ok (.iaload, 1) := by decide +kernel
theorem dX7_pay_257 : decode cX7_pay 257 = .ok (.iload_n 1, 1) := by decide +kernel
theorem dX7_pay_258 : decode cX7_pay 258 = .ok (.iload 5, 2) := by decide +kernel
theorem dX7_pay_260 : decode cX7_pay 260 = .ok (.iload 6, 2) := by decide +kernel
theorem dX7_pay_262 : decode cX7_pay 262 = .ok (.invokevirtual 172, 3) := by decide +kernel
theorem dX7_pay_265 : decode cX7_pay 265 = .ok (.istore 10, 2) := by decide +kernel
theorem dX7_pay_267 : decode cX7_pay 267 = .ok (.aload_n 0, 1) := by decide +kernel
theorem dX7_pay_268 : decode cX7_pay 268 = .ok (.getfield 52, 3) := by decide +kernel
theorem dX7_pay_271 : decode cX7_pay 271 = .ok (.bipush 35, 2) := by decide +kernel
theorem dX7_pay_273 : decode cX7_pay 273 = .ok (.iload 9, 2) := by decide +kernel
theorem dX7_pay_275 : decode cX7_pay 275 = .ok (.imul, 1) := by decide +kernel
theorem dX7_pay_276 : decode cX7_pay 276 = .ok (.iconst 2, 1) := by decide +kernel
theorem dX7_pay_277 : decode cX7_pay 277 = .ok (.iadd, 1) := by decide +kernel
theorem dX7_pay_278 : decode cX7_pay 278 = .ok (.aload_n 0, 1) := by decide +kernel
theorem dX7_pay_279 : decode cX7_pay 279 = .ok (.getfield 16, 3) := by decide +kernel
theorem dX7_pay_282 : decode cX7_pay 282 = .ok (.iload 8, 2) := by decide +kernel
theorem dX7_pay_284 : decode cX7_pay 284 = .ok (.iaload, 1) := by decide +kernel
theorem dX7_pay_285 : decode cX7_pay 285 = .ok (.iastore, 1) := by decide +kernel
theorem dX7_pay_286 : decode cX7_pay 286 = .ok (.iload 6, 2) := by decide +kernel
theorem dX7_pay_288 : decode cX7_pay 288 = .ok (.aload_n 0, 1) := by decide +kernel
theorem dX7_pay_289 : decode cX7_pay 289 = .ok (.getfield 19, 3) := by decide +kernel
theorem dX7_pay_292 : decode cX7_pay 292 = .ok (.iload 8, 2) := by decide +kernel
theorem dX7_pay_294 : decode cX7_pay 294 = .ok (.iaload, 1) := by decide +kernel
theorem dX7_pay_295 : decode cX7_pay 295 = .ok (.iconst 1, 1) := by decide +kernel
theorem dX7_pay_296 : decode cX7_pay 296 = .ok (.iadd, 1) := by decide +kernel
theorem dX7_pay_297 : decode cX7_pay 297 = .ok (.isub, 1) := by decide +kernel
theorem dX7_pay_298 : decode cX7_pay 298 = .ok (.istore 6, 2) := by decide +kernel
theorem dX7_pay_300 : decode cX7_pay 300 = .ok (.iinc 7 1, 3) := by decide +kernel
theorem dX7_pay_303 : decode cX7_pay 303 = .ok (.goto (-86), 3) := by decide +kernel
theorem dX7_pay_306 : decode cX7_pay 306 = .ok (.iload 5, 2) := by decide +kernel
theorem dX7_pay_308 : decode cX7_pay 308 = .ok (.ireturn, 1) := by decide +kernel
theorem dX7_account_0 : decode cX7_account 0 = .ok (.iload_n 1, 1) := by decide +kernel
theorem dX7_account_1 : decode cX7_account 1 = .ok (.invokestatic 75, 3) := by decide +kernel
theorem dX7_account_4 : decode cX7_account 4 = .ok (.ifCond .eq 12, 3) := by decide +kernel
theorem dX7_account_7 : decode cX7_account 7 = .ok (.aload_n 0, 1) := by decide +kernel
theorem dX7_account_8 : decode cX7_account 8 = .ok (.getfield 7, 3) := by decide +kernel
theorem dX7_account_11 : decode cX7_account 11 = .ok (.iload_n 1, 1) := by decide +kernel
theorem dX7_account_12 : decode cX7_account 12 = .ok (.iaload, 1) := by decide +kernel
theorem dX7_account_13 : decode cX7_account 13 = .ok (.goto 4, 3) := by decide +kernel
theorem dX7_account_16 : decode cX7_account 16 = .ok (.iconst (-1), 1) := by decide +kernel
theorem dX7_account_17 : decode cX7_account 17 = .ok (.ireturn, 1) := by decide +kernel
theorem dX7_told_0 : decode cX7_told 0 = .ok (.aload_n 0, 1) := by decide +kernel
theorem dX7_told_1 : decode cX7_told 1 = .ok (.iload_n 1, 1) := by decide +kernel
theorem dX7_told_2 : decode cX7_told 2 = .ok (.invokevirtual 149, 3) := by decide +kernel
theorem dX7_told_5 : decode cX7_told 5 = .ok (.ifCond .ne 5, 3) := by decide +kernel
theorem dX7_told_8 : decode cX7_told 8 = .ok (.iconst (-1), 1) := by decide +kernel
theorem dX7_told_9 : decode cX7_told 9 = .ok (.ireturn, 1) := by decide +kernel
theorem dX7_told_10 : decode cX7_told 10 = .ok (.aload_n 0, 1) := by decide +kernel
theorem dX7_told_11 : decode cX7_told 11 = .ok (.getfield 37, 3) := by decide +kernel
theorem dX7_told_14 : decode cX7_told 14 = .ok (.iload_n 1, 1) := by decide +kernel
theorem dX7_told_15 : decode cX7_told 15 = .ok (.iaload, 1) := by decide +kernel
theorem dX7_told_16 : decode cX7_told 16 = .ok (.ifCond .le 7, 3) := by decide +kernel
theorem dX7_told_19 : decode cX7_told 19 = .ok (.iconst 1, 1) := by decide +kernel
theorem dX7_told_20 : decode cX7_told 20 = .ok (.goto 4, 3) := by decide +kernel
theorem dX7_told_23 : decode cX7_told 23 = .ok (.iconst 0, 1) := by decide +kernel
theorem dX7_told_24 : decode cX7_told 24 = .ok (.istore_n 3, 1) := by decide +kernel
theorem dX7_told_25 : decode cX7_told 25 = .ok (.iload_n 2, 1) := by decide +kernel
theorem dX7_told_26 : decode cX7_told 26 = .ok (.tableswitch 197 0 11 #[62, 69, 76, 83, 90, 110, 117, 138, 145, 160, 175, 190], 62) := by decide +kernel
theorem dX7_told_88 : decode cX7_told 88 = .ok (.aload_n 0, 1) := by decide +kernel
theorem dX7_told_89 : decode cX7_told 89 = .ok (.getfield 25, 3) := by decide +kernel
theorem dX7_told_92 : decode cX7_told 92 = .ok (.iload_n 1, 1) := by decide +kernel
theorem dX7_told_93 : decode cX7_told 93 = .ok (.iaload, 1) := by decide +kernel
theorem dX7_told_94 : decode cX7_told 94 = .ok (.ireturn, 1) := by decide +kernel
theorem dX7_told_95 : decode cX7_told 95 = .ok (.aload_n 0, 1) := by decide +kernel
theorem dX7_told_96 : decode cX7_told 96 = .ok (.getfield 22, 3) := by decide +kernel
theorem dX7_told_99 : decode cX7_told 99 = .ok (.iload_n 1, 1) := by decide +kernel
theorem dX7_told_100 : decode cX7_told 100 = .ok (.iaload, 1) := by decide +kernel
theorem dX7_told_101 : decode cX7_told 101 = .ok (.ireturn, 1) := by decide +kernel
theorem dX7_told_102 : decode cX7_told 102 = .ok (.aload_n 0, 1) := by decide +kernel
theorem dX7_told_103 : decode cX7_told 103 = .ok (.getfield 19, 3) := by decide +kernel
theorem dX7_told_106 : decode cX7_told 106 = .ok (.iload_n 1, 1) := by decide +kernel
theorem dX7_told_107 : decode cX7_told 107 = .ok (.iaload, 1) := by decide +kernel
theorem dX7_told_108 : decode cX7_told 108 = .ok (.ireturn, 1) := by decide +kernel
theorem dX7_told_109 : decode cX7_told 109 = .ok (.aload_n 0, 1) := by decide +kernel
theorem dX7_told_110 : decode cX7_told 110 = .ok (.getfield 16, 3) := by decide +kernel
theorem dX7_told_113 : decode cX7_told 113 = .ok (.iload_n 1, 1) := by decide +kernel
theorem dX7_told_114 : decode cX7_told 114 = .ok (.iaload, 1) := by decide +kernel
theorem dX7_told_115 : decode cX7_told 115 = .ok (.ireturn, 1) := by decide +kernel
theorem dX7_told_116 : decode cX7_told 116 = .ok (.aload_n 0, 1) := by decide +kernel
theorem dX7_told_117 : decode cX7_told 117 = .ok (.getfield 25, 3) := by decide +kernel
theorem dX7_told_120 : decode cX7_told 120 = .ok (.iload_n 1, 1) := by decide +kernel
theorem dX7_told_121 : decode cX7_told 121 = .ok (.iaload, 1) := by decide +kernel
theorem dX7_told_122 : decode cX7_told 122 = .ok (.iconst 3, 1) := by decide +kernel
theorem dX7_told_123 : decode cX7_told 123 = .ok (.if_icmp .ne 7, 3) := by decide +kernel
theorem dX7_told_126 : decode cX7_told 126 = .ok (.iconst (-1), 1) := by decide +kernel
theorem dX7_told_127 : decode cX7_told 127 = .ok (.goto 8, 3) := by decide +kernel
theorem dX7_told_130 : decode cX7_told 130 = .ok (.aload_n 0, 1) := by decide +kernel
theorem dX7_told_131 : decode cX7_told 131 = .ok (.iload_n 1, 1) := by decide +kernel
theorem dX7_told_132 : decode cX7_told 132 = .ok (.invokevirtual 117, 3) := by decide +kernel
theorem dX7_told_135 : decode cX7_told 135 = .ok (.ireturn, 1) := by decide +kernel
theorem dX7_told_136 : decode cX7_told 136 = .ok (.aload_n 0, 1) := by decide +kernel
theorem dX7_told_137 : decode cX7_told 137 = .ok (.getfield 28, 3) := by decide +kernel
theorem dX7_told_140 : decode cX7_told 140 = .ok (.iload_n 1, 1) := by decide +kernel
theorem dX7_told_141 : decode cX7_told 141 = .ok (.iaload, 1) := by decide +kernel
theorem dX7_told_142 : decode cX7_told 142 = .ok (.ireturn, 1) := by decide +kernel
theorem dX7_told_143 : decode cX7_told 143 = .ok (.aload_n 0, 1) := by decide +kernel
theorem dX7_told_144 : decode cX7_told 144 = .ok (.getfield 25, 3) := by decide +kernel
theorem dX7_told_147 : decode cX7_told 147 = .ok (.iload_n 1, 1) := by decide +kernel
theorem dX7_told_148 : decode cX7_told 148 = .ok (.iaload, 1) := by decide +kernel
theorem dX7_told_149 : decode cX7_told 149 = .ok (.iconst 2, 1) := by decide +kernel
theorem dX7_told_150 : decode cX7_told 150 = .ok (.if_icmp .ne 12, 3) := by decide +kernel
theorem dX7_told_153 : decode cX7_told 153 = .ok (.aload_n 0, 1) := by decide +kernel
theorem dX7_told_154 : decode cX7_told 154 = .ok (.getfield 31, 3) := by decide +kernel
theorem dX7_told_157 : decode cX7_told 157 = .ok (.iload_n 1, 1) := by decide +kernel
theorem dX7_told_158 : decode cX7_told 158 = .ok (.iaload, 1) := by decide +kernel
theorem dX7_told_159 : decode cX7_told 159 = .ok (.goto 4, 3) := by decide +kernel
theorem dX7_told_162 : decode cX7_told 162 = .ok (.iconst 0, 1) := by decide +kernel
theorem dX7_told_163 : decode cX7_told 163 = .ok (.ireturn, 1) := by decide +kernel
theorem dX7_told_164 : decode cX7_told 164 = .ok (.aload_n 0, 1) := by decide +kernel
theorem dX7_told_165 : decode cX7_told 165 = .ok (.getfield 34, 3) := by decide +kernel
theorem dX7_told_168 : decode cX7_told 168 = .ok (.iload_n 1, 1) := by decide +kernel
theorem dX7_told_169 : decode cX7_told 169 = .ok (.iaload, 1) := by decide +kernel
theorem dX7_told_170 : decode cX7_told 170 = .ok (.ireturn, 1) := by decide +kernel
theorem dX7_told_171 : decode cX7_told 171 = .ok (.iload_n 3, 1) := by decide +kernel
theorem dX7_told_172 : decode cX7_told 172 = .ok (.ifCond .eq 12, 3) := by decide +kernel
theorem dX7_told_175 : decode cX7_told 175 = .ok (.aload_n 0, 1) := by decide +kernel
theorem dX7_told_176 : decode cX7_told 176 = .ok (.getfield 43, 3) := by decide +kernel
theorem dX7_told_179 : decode cX7_told 179 = .ok (.iload_n 1, 1) := by decide +kernel
theorem dX7_told_180 : decode cX7_told 180 = .ok (.iaload, 1) := by decide +kernel
theorem dX7_told_181 : decode cX7_told 181 = .ok (.goto 4, 3) := by decide +kernel
theorem dX7_told_184 : decode cX7_told 184 = .ok (.iconst (-1), 1) := by decide +kernel
theorem dX7_told_185 : decode cX7_told 185 = .ok (.ireturn, 1) := by decide +kernel
theorem dX7_told_186 : decode cX7_told 186 = .ok (.iload_n 3, 1) := by decide +kernel
theorem dX7_told_187 : decode cX7_told 187 = .ok (.ifCond .eq 12, 3) := by decide +kernel
theorem dX7_told_190 : decode cX7_told 190 = .ok (.aload_n 0, 1) := by decide +kernel
theorem dX7_told_191 : decode cX7_told 191 = .ok (.getfield 40, 3) := by decide +kernel
theorem dX7_told_194 : decode cX7_told 194 = .ok (.iload_n 1, 1) := by decide +kernel
theorem dX7_told_195 : decode cX7_told 195 = .ok (.iaload, 1) := by decide +kernel
theorem dX7_told_196 : decode cX7_told 196 = .ok (.goto 4, 3) := by decide +kernel
theorem dX7_told_199 : decode cX7_told 199 = .ok (.iconst 0, 1) := by decide +kernel
theorem dX7_told_200 : decode cX7_told 200 = .ok (.ireturn, 1) := by decide +kernel
theorem dX7_told_201 : decode cX7_told 201 = .ok (.iload_n 3, 1) := by decide +kernel
theorem dX7_told_202 : decode cX7_told 202 = .ok (.ifCond .eq 12, 3) := by decide +kernel
theorem dX7_told_205 : decode cX7_told 205 = .ok (.aload_n 0, 1) := by decide +kernel
theorem dX7_told_206 : decode cX7_told 206 = .ok (.getfield 49, 3) := by decide +kernel
theorem dX7_told_209 : decode cX7_told 209 = .ok (.iload_n 1, 1) := by decide +kernel
theorem dX7_told_210 : decode cX7_told 210 = .ok (.iaload, 1) := by decide +kernel
theorem dX7_told_211 : decode cX7_told 211 = .ok (.goto 4, 3) := by decide +kernel
theorem dX7_told_214 : decode cX7_told 214 = .ok (.iconst 0, 1) := by decide +kernel
theorem dX7_told_215 : decode cX7_told 215 = .ok (.ireturn, 1) := by decide +kernel
theorem dX7_told_216 : decode cX7_told 216 = .ok (.aload_n 0, 1) := by decide +kernel
theorem dX7_told_217 : decode cX7_told 217 = .ok (.getfield 37, 3) := by decide +kernel
theorem dX7_told_220 : decode cX7_told 220 = .ok (.iload_n 1, 1) := by decide +kernel
theorem dX7_told_221 : decode cX7_told 221 = .ok (.iaload, 1) := by decide +kernel
theorem dX7_told_222 : decode cX7_told 222 = .ok (.ireturn, 1) := by decide +kernel
theorem dX7_told_223 : decode cX7_told 223 = .ok (.iconst (-1), 1) := by decide +kernel
theorem dX7_told_224 : decode cX7_told 224 = .ok (.ireturn, 1) := by decide +kernel
theorem dX7_of_0 : decode cX7_of 0 = .ok (.aload_n 0, 1) := by decide +kernel
theorem dX7_of_1 : decode cX7_of 1 = .ok (.iload_n 1, 1) := by decide +kernel
theorem dX7_of_2 : decode cX7_of 2 = .ok (.invokevirtual 83, 3) := by decide +kernel
theorem dX7_of_5 : decode cX7_of 5 = .ok (.ifCond .ne 5, 3) := by decide +kernel
theorem dX7_of_8 : decode cX7_of 8 = .ok (.iconst (-1), 1) := by decide +kernel
theorem dX7_of_9 : decode cX7_of 9 = .ok (.ireturn, 1) := by decide +kernel
theorem dX7_of_10 : decode cX7_of 10 = .ok (.bipush 35, 2) := by decide +kernel
theorem dX7_of_12 : decode cX7_of 12 = .ok (.iload_n 1, 1) := by decide +kernel
theorem dX7_of_13 : decode cX7_of 13 = .ok (.imul, 1) := by decide +kernel
theorem dX7_of_14 : decode cX7_of 14 = .ok (.istore_n 3, 1) := by decide +kernel
theorem dX7_of_15 : decode cX7_of 15 = .ok (.iload_n 2, 1) := by decide +kernel
theorem dX7_of_16 : decode cX7_of 16 = .ok (.tableswitch 152 0 9 #[56, 65, 74, 83, 92, 106, 112, 122, 132, 142], 56) := by decide +kernel
theorem dX7_of_72 : decode cX7_of 72 = .ok (.aload_n 0, 1) := by decide +kernel
theorem dX7_of_73 : decode cX7_of 73 = .ok (.getfield 52, 3) := by decide +kernel
theorem dX7_of_76 : decode cX7_of 76 = .ok (.iload_n 3, 1) := by decide +kernel
theorem dX7_of_77 : decode cX7_of 77 = .ok (.iconst 0, 1) := by decide +kernel
theorem dX7_of_78 : decode cX7_of 78 = .ok (.iadd, 1) := by decide +kernel
theorem dX7_of_79 : decode cX7_of 79 = .ok (.iaload, 1) := by decide +kernel
theorem dX7_of_80 : decode cX7_of 80 = .ok (.ireturn, 1) := by decide +kernel
theorem dX7_of_81 : decode cX7_of 81 = .ok (.aload_n 0, 1) := by decide +kernel
theorem dX7_of_82 : decode cX7_of 82 = .ok (.getfield 52, 3) := by decide +kernel
theorem dX7_of_85 : decode cX7_of 85 = .ok (.iload_n 3, 1) := by decide +kernel
theorem dX7_of_86 : decode cX7_of 86 = .ok (.iconst 1, 1) := by decide +kernel
theorem dX7_of_87 : decode cX7_of 87 = .ok (.iadd, 1) := by decide +kernel
theorem dX7_of_88 : decode cX7_of 88 = .ok (.iaload, 1) := by decide +kernel
theorem dX7_of_89 : decode cX7_of 89 = .ok (.ireturn, 1) := by decide +kernel
theorem dX7_of_90 : decode cX7_of 90 = .ok (.aload_n 0, 1) := by decide +kernel
theorem dX7_of_91 : decode cX7_of 91 = .ok (.getfield 52, 3) := by decide +kernel
theorem dX7_of_94 : decode cX7_of 94 = .ok (.iload_n 3, 1) := by decide +kernel
theorem dX7_of_95 : decode cX7_of 95 = .ok (.iconst 2, 1) := by decide +kernel
theorem dX7_of_96 : decode cX7_of 96 = .ok (.iadd, 1) := by decide +kernel
theorem dX7_of_97 : decode cX7_of 97 = .ok (.iaload, 1) := by decide +kernel
theorem dX7_of_98 : decode cX7_of 98 = .ok (.ireturn, 1) := by decide +kernel
theorem dX7_of_99 : decode cX7_of 99 = .ok (.aload_n 0, 1) := by decide +kernel
theorem dX7_of_100 : decode cX7_of 100 = .ok (.getfield 52, 3) := by decide +kernel
theorem dX7_of_103 : decode cX7_of 103 = .ok (.iload_n 3, 1) := by decide +kernel
theorem dX7_of_104 : decode cX7_of 104 = .ok (.iconst 3, 1) := by decide +kernel
theorem dX7_of_105 : decode cX7_of 105 = .ok (.iadd, 1) := by decide +kernel
theorem dX7_of_106 : decode cX7_of 106 = .ok (.iaload, 1) := by decide +kernel
theorem dX7_of_107 : decode cX7_of 107 = .ok (.ireturn, 1) := by decide +kernel
theorem dX7_of_108 : decode cX7_of 108 = .ok (.aload_n 0, 1) := by decide +kernel
theorem dX7_of_109 : decode cX7_of 109 = .ok (.iload_n 1, 1) := by decide +kernel
theorem dX7_of_110 : decode cX7_of 110 = .ok (.invokevirtual 100, 3) := by decide +kernel
theorem dX7_of_113 : decode cX7_of 113 = .ok (.ifCond .eq 7, 3) := by decide +kernel
theorem dX7_of_116 : decode cX7_of 116 = .ok (.iconst 1, 1) := by decide +kernel
theorem dX7_of_117 : decode cX7_of 117 = .ok (.goto 4, 3) := by decide +kernel
theorem dX7_of_120 : decode cX7_of 120 = .ok (.iconst 0, 1) := by decide +kernel
theorem dX7_of_121 : decode cX7_of 121 = .ok (.ireturn, 1) := by decide +kernel
theorem dX7_of_122 : decode cX7_of 122 = .ok (.aload_n 0, 1) := by decide +kernel
theorem dX7_of_123 : decode cX7_of 123 = .ok (.iload_n 1, 1) := by decide +kernel
theorem dX7_of_124 : decode cX7_of 124 = .ok (.invokevirtual 97, 3) := by decide +kernel
theorem dX7_of_127 : decode cX7_of 127 = .ok (.ireturn, 1) := by decide +kernel
theorem dX7_of_128 : decode cX7_of 128 = .ok (.aload_n 0, 1) := by decide +kernel
theorem dX7_of_129 : decode cX7_of 129 = .ok (.getfield 52, 3) := by decide +kernel
theorem dX7_of_132 : decode cX7_of 132 = .ok (.iload_n 3, 1) := by decide +kernel
theorem dX7_of_133 : decode cX7_of 133 = .ok (.bipush 33, 2) := by decide +kernel
theorem dX7_of_135 : decode cX7_of 135 = .ok (.iadd, 1) := by decide +kernel
theorem dX7_of_136 : decode cX7_of 136 = .ok (.iaload, 1) := by decide +kernel
theorem dX7_of_137 : decode cX7_of 137 = .ok (.ireturn, 1) := by decide +kernel
theorem dX7_of_138 : decode cX7_of 138 = .ok (.aload_n 0, 1) := by decide +kernel
theorem dX7_of_139 : decode cX7_of 139 = .ok (.getfield 52, 3) := by decide +kernel
theorem dX7_of_142 : decode cX7_of 142 = .ok (.iload_n 3, 1) := by decide +kernel
theorem dX7_of_143 : decode cX7_of 143 = .ok (.bipush 34, 2) := by decide +kernel
theorem dX7_of_145 : decode cX7_of 145 = .ok (.iadd, 1) := by decide +kernel
theorem dX7_of_146 : decode cX7_of 146 = .ok (.iaload, 1) := by decide +kernel
theorem dX7_of_147 : decode cX7_of 147 = .ok (.ireturn, 1) := by decide +kernel
theorem dX7_of_148 : decode cX7_of 148 = .ok (.aload_n 0, 1) := by decide +kernel
theorem dX7_of_149 : decode cX7_of 149 = .ok (.getfield 52, 3) := by decide +kernel
theorem dX7_of_152 : decode cX7_of 152 = .ok (.iload_n 3, 1) := by decide +kernel
theorem dX7_of_153 : decode cX7_of 153 = .ok (.bipush 31, 2) := by decide +kernel
theorem dX7_of_155 : decode cX7_of 155 = .ok (.iadd, 1) := by decide +kernel
theorem dX7_of_156 : decode cX7_of 156 = .ok (.iaload, 1) := by decide +kernel
theorem dX7_of_157 : decode cX7_of 157 = .ok (.ireturn, 1) := by decide +kernel
theorem dX7_of_158 : decode cX7_of 158 = .ok (.aload_n 0, 1) := by decide +kernel
theorem dX7_of_159 : decode cX7_of 159 = .ok (.getfield 52, 3) := by decide +kernel
theorem dX7_of_162 : decode cX7_of 162 = .ok (.iload_n 3, 1) := by decide +kernel
theorem dX7_of_163 : decode cX7_of 163 = .ok (.bipush 32, 2) := by decide +kernel
theorem dX7_of_165 : decode cX7_of 165 = .ok (.iadd, 1) := by decide +kernel
theorem dX7_of_166 : decode cX7_of 166 = .ok (.iaload, 1) := by decide +kernel
theorem dX7_of_167 : decode cX7_of 167 = .ok (.ireturn, 1) := by decide +kernel
theorem dX7_of_168 : decode cX7_of 168 = .ok (.iconst (-1), 1) := by decide +kernel
theorem dX7_of_169 : decode cX7_of 169 = .ok (.ireturn, 1) := by decide +kernel
theorem dX7_share_0 : decode cX7_share 0 = .ok (.aload_n 0, 1) := by decide +kernel
theorem dX7_share_1 : decode cX7_share 1 = .ok (.iload_n 1, 1) := by decide +kernel
theorem dX7_share_2 : decode cX7_share 2 = .ok (.iload_n 2, 1) := by decide +kernel
theorem dX7_share_3 : decode cX7_share 3 = .ok (.invokevirtual 155, 3) := by decide +kernel
theorem dX7_share_6 : decode cX7_share 6 = .ok (.ifCond .eq 12, 3) := by decide +kernel
theorem dX7_share_9 : decode cX7_share 9 = .ok (.iload_n 3, 1) := by decide +kernel
theorem dX7_share_10 : decode cX7_share 10 = .ok (.iconst 0, 1) := by decide +kernel
theorem dX7_share_11 : decode cX7_share 11 = .ok (.iconst 1, 1) := by decide +kernel
theorem dX7_share_12 : decode cX7_share 12 = .ok (.invokestatic 64, 3) := by decide +kernel
theorem dX7_share_15 : decode cX7_share 15 = .ok (.ifCond .ne 5, 3) := by decide +kernel
theorem dX7_share_18 : decode cX7_share 18 = .ok (.iconst (-1), 1) := by decide +kernel
theorem dX7_share_19 : decode cX7_share 19 = .ok (.ireturn, 1) := by decide +kernel
theorem dX7_share_20 : decode cX7_share 20 = .ok (.aload_n 0, 1) := by decide +kernel
theorem dX7_share_21 : decode cX7_share 21 = .ok (.getfield 52, 3) := by decide +kernel
theorem dX7_share_24 : decode cX7_share 24 = .ok (.bipush 35, 2) := by decide +kernel
theorem dX7_share_26 : decode cX7_share 26 = .ok (.iload_n 1, 1) := by decide +kernel
theorem dX7_share_27 : decode cX7_share 27 = .ok (.imul, 1) := by decide +kernel
theorem dX7_share_28 : decode cX7_share 28 = .ok (.iload_n 3, 1) := by decide +kernel
theorem dX7_share_29 : decode cX7_share 29 = .ok (.ifCond .ne 7, 3) := by decide +kernel
theorem dX7_share_32 : decode cX7_share 32 = .ok (.iconst 4, 1) := by decide +kernel
theorem dX7_share_33 : decode cX7_share 33 = .ok (.goto 5, 3) := by decide +kernel
theorem dX7_share_36 : decode cX7_share 36 = .ok (.bipush 10, 2) := by decide +kernel
theorem dX7_share_38 : decode cX7_share 38 = .ok (.iadd, 1) := by decide +kernel
theorem dX7_share_39 : decode cX7_share 39 = .ok (.iload_n 2, 1) := by decide +kernel
theorem dX7_share_40 : decode cX7_share 40 = .ok (.iadd, 1) := by decide +kernel
theorem dX7_share_41 : decode cX7_share 41 = .ok (.iaload, 1) := by decide +kernel
theorem dX7_share_42 : decode cX7_share 42 = .ok (.ireturn, 1) := by decide +kernel
theorem dX7_locked_0 : decode cX7_locked 0 = .ok (.aload_n 0, 1) := by decide +kernel
theorem dX7_locked_1 : decode cX7_locked 1 = .ok (.iload_n 1, 1) := by decide +kernel
theorem dX7_locked_2 : decode cX7_locked 2 = .ok (.iload_n 2, 1) := by decide +kernel
theorem dX7_locked_3 : decode cX7_locked 3 = .ok (.invokevirtual 176, 3) := by decide +kernel
theorem dX7_locked_6 : decode cX7_locked 6 = .ok (.ifCond .eq 12, 3) := by decide +kernel
theorem dX7_locked_9 : decode cX7_locked 9 = .ok (.iload_n 3, 1) := by decide +kernel
theorem dX7_locked_10 : decode cX7_locked 10 = .ok (.iconst 0, 1) := by decide +kernel
theorem dX7_locked_11 : decode cX7_locked 11 = .ok (.iconst 4, 1) := by decide +kernel
theorem dX7_locked_12 : decode cX7_locked 12 = .ok (.invokestatic 64, 3) := by decide +kernel
theorem dX7_locked_15 : decode cX7_locked 15 = .ok (.ifCond .ne 5, 3) := by decide +kernel
theorem dX7_locked_18 : decode cX7_locked 18 = .ok (.iconst (-1), 1) := by decide +kernel
theorem dX7_locked_19 : decode cX7_locked 19 = .ok (.ireturn, 1) := by decide +kernel
theorem dX7_locked_20 : decode cX7_locked 20 = .ok (.iload_n 1, 1) := by decide +kernel
theorem dX7_locked_21 : decode cX7_locked 21 = .ok (.iload_n 2, 1) := by decide +kernel
theorem dX7_locked_22 : decode cX7_locked 22 = .ok (.invokestatic 93, 3) := by decide +kernel
theorem dX7_locked_25 : decode cX7_locked 25 = .ok (.istore 4, 2) := by decide +kernel
theorem dX7_locked_27 : decode cX7_locked 27 = .ok (.iload_n 3, 1) := by decide +kernel
theorem dX7_locked_28 : decode cX7_locked 28 = .ok (.ifCond .ne 15, 3) := by decide +kernel
theorem dX7_locked_31 : decode cX7_locked 31 = .ok (.aload_n 0, 1) := by decide +kernel
theorem dX7_locked_32 : decode cX7_locked 32 = .ok (.getfield 52, 3) := by decide +kernel
theorem dX7_locked_35 : decode cX7_locked 35 = .ok (.iload 4, 2) := by decide +kernel
theorem dX7_locked_37 : decode cX7_locked 37 = .ok (.iconst 1, 1) := by decide +kernel
theorem dX7_locked_38 : decode cX7_locked 38 = .ok (.iadd, 1) := by decide +kernel
theorem dX7_locked_39 : decode cX7_locked 39 = .ok (.iaload, 1) := by decide +kernel
theorem dX7_locked_40 : decode cX7_locked 40 = .ok (.goto 46, 3) := by decide +kernel
theorem dX7_locked_43 : decode cX7_locked 43 = .ok (.iload_n 3, 1) := by decide +kernel
theorem dX7_locked_44 : decode cX7_locked 44 = .ok (.iconst 1, 1) := by decide +kernel
theorem dX7_locked_45 : decode cX7_locked 45 = .ok (.if_icmp .ne 15, 3) := by decide +kernel
theorem dX7_locked_48 : decode cX7_locked 48 = .ok (.aload_n 0, 1) := by decide +kernel
theorem dX7_locked_49 : decode cX7_locked 49 = .ok (.getfield 52, 3) := by decide +kernel
theorem dX7_locked_52 : decode cX7_locked 52 = .ok (.iload 4, 2) := by decide +kernel
theorem dX7_locked_54 : decode cX7_locked 54 = .ok (.iconst 2, 1) := by decide +kernel
theorem dX7_locked_55 : decode cX7_locked 55 = .ok (.iadd, 1) := by decide +kernel
theorem dX7_locked_56 : decode cX7_locked 56 = .ok (.iaload, 1) := by decide +kernel
theorem dX7_locked_57 : decode cX7_locked 57 = .ok (.goto 29, 3) := by decide +kernel
theorem dX7_locked_60 : decode cX7_locked 60 = .ok (.iload_n 3, 1) := by decide +kernel
theorem dX7_locked_61 : decode cX7_locked 61 = .ok (.iconst 2, 1) := by decide +kernel
theorem dX7_locked_62 : decode cX7_locked 62 = .ok (.if_icmp .ne 15, 3) := by decide +kernel
theorem dX7_locked_65 : decode cX7_locked 65 = .ok (.aload_n 0, 1) := by decide +kernel
theorem dX7_locked_66 : decode cX7_locked 66 = .ok (.getfield 52, 3) := by decide +kernel
theorem dX7_locked_69 : decode cX7_locked 69 = .ok (.iload 4, 2) := by decide +kernel
theorem dX7_locked_71 : decode cX7_locked 71 = .ok (.iconst 0, 1) := by decide +kernel
theorem dX7_locked_72 : decode cX7_locked 72 = .ok (.iadd, 1) := by decide +kernel
theorem dX7_locked_73 : decode cX7_locked 73 = .ok (.iaload, 1) := by decide +kernel
theorem dX7_locked_74 : decode cX7_locked 74 = .ok (.goto 12, 3) := by decide +kernel
theorem dX7_locked_77 : decode cX7_locked 77 = .ok (.aload_n 0, 1) := by decide +kernel
theorem dX7_locked_78 : decode cX7_locked 78 = .ok (.getfield 52, 3) := by decide +kernel
theorem dX7_locked_81 : decode cX7_locked 81 = .ok (.iload 4, 2) := by decide +kernel
theorem dX7_locked_83 : decode cX7_locked 83 = .ok (.iload_n 3, 1) := by decide +kernel
theorem dX7_locked_84 : decode cX7_locked 84 = .ok (.iadd, 1) := by decide +kernel
theorem dX7_locked_85 : decode cX7_locked 85 = .ok (.iaload, 1) := by decide +kernel
theorem dX7_locked_86 : decode cX7_locked 86 = .ok (.ireturn, 1) := by decide +kernel
theorem dX7_knows_0 : decode cX7_knows 0 = .ok (.iload_n 1, 1) := by decide +kernel
theorem dX7_knows_1 : decode cX7_knows 1 = .ok (.iconst 0, 1) := by decide +kernel
theorem dX7_knows_2 : decode cX7_knows 2 = .ok (.aload_n 0, 1) := by decide +kernel
theorem dX7_knows_3 : decode cX7_knows 3 = .ok (.getfield 165, 3) := by decide +kernel
theorem dX7_knows_6 : decode cX7_knows 6 = .ok (.iconst 1, 1) := by decide +kernel
theorem dX7_knows_7 : decode cX7_knows 7 = .ok (.isub, 1) := by decide +kernel
theorem dX7_knows_8 : decode cX7_knows 8 = .ok (.invokestatic 64, 3) := by decide +kernel
theorem dX7_knows_11 : decode cX7_knows 11 = .ok (.ifCond .eq 12, 3) := by decide +kernel
theorem dX7_knows_14 : decode cX7_knows 14 = .ok (.aload_n 0, 1) := by decide +kernel
theorem dX7_knows_15 : decode cX7_knows 15 = .ok (.getfield 13, 3) := by decide +kernel
theorem dX7_knows_18 : decode cX7_knows 18 = .ok (.iload_n 1, 1) := by decide +kernel
theorem dX7_knows_19 : decode cX7_knows 19 = .ok (.iaload, 1) := by decide +kernel
theorem dX7_knows_20 : decode cX7_knows 20 = .ok (.goto 4, 3) := by decide +kernel
theorem dX7_knows_23 : decode cX7_knows 23 = .ok (.iconst (-1), 1) := by decide +kernel
theorem dX7_knows_24 : decode cX7_knows 24 = .ok (.ireturn, 1) := by decide +kernel
theorem dX7_count_0 : decode cX7_count 0 = .ok (.iload_n 1, 1) := by decide +kernel
theorem dX7_count_1 : decode cX7_count 1 = .ok (.tableswitch 78 0 6 #[43, 48, 53, 58, 63, 68, 73], 43) := by decide +kernel
theorem dX7_count_44 : decode cX7_count 44 = .ok (.aload_n 0, 1) := by decide +kernel
theorem dX7_count_45 : decode cX7_count 45 = .ok (.getfield 68, 3) := by decide +kernel
theorem dX7_count_48 : decode cX7_count 48 = .ok (.ireturn, 1) := by decide +kernel
theorem dX7_count_49 : decode cX7_count 49 = .ok (.aload_n 0, 1) := by decide +kernel
theorem dX7_count_50 : decode cX7_count 50 = .ok (.getfield 72, 3) := by decide +kernel
theorem dX7_count_53 : decode cX7_count 53 = .ok (.ireturn, 1) := by decide +kernel
theorem dX7_count_54 : decode cX7_count 54 = .ok (.aload_n 0, 1) := by decide +kernel
theorem dX7_count_55 : decode cX7_count 55 = .ok (.getfield 165, 3) := by decide +kernel
theorem dX7_count_58 : decode cX7_count 58 = .ok (.ireturn, 1) := by decide +kernel
theorem dX7_count_59 : decode cX7_count 59 = .ok (.aload_n 0, 1) := by decide +kernel
theorem dX7_count_60 : decode cX7_count 60 = .ok (.getfield 103, 3) := by decide +kernel
theorem dX7_count_63 : decode cX7_count 63 = .ok (.ireturn, 1) := by decide +kernel
theorem dX7_count_64 : decode cX7_count 64 = .ok (.aload_n 0, 1) := by decide +kernel
theorem dX7_count_65 : decode cX7_count 65 = .ok (.getfield 185, 3) := by decide +kernel
theorem dX7_count_68 : decode cX7_count 68 = .ok (.ireturn, 1) := by decide +kernel
theorem dX7_count_69 : decode cX7_count 69 = .ok (.aload_n 0, 1) := by decide +kernel
theorem dX7_count_70 : decode cX7_count 70 = .ok (.getfield 137, 3) := by decide +kernel
theorem dX7_count_73 : decode cX7_count 73 = .ok (.ireturn, 1) := by decide +kernel
theorem dX7_count_74 : decode cX7_count 74 = .ok (.aload_n 0, 1) := by decide +kernel
theorem dX7_count_75 : decode cX7_count 75 = .ok (.invokevirtual 191, 3) := by decide +kernel
theorem dX7_count_78 : decode cX7_count 78 = .ok (.ireturn, 1) := by decide +kernel
theorem dX7_count_79 : decode cX7_count 79 = .ok (.iconst (-1), 1) := by decide +kernel
theorem dX7_count_80 : decode cX7_count 80 = .ok (.ireturn, 1) := by decide +kernel
theorem dX7_all_0 : decode cX7_all 0 = .ok (.iconst 0, 1) := by decide +kernel
theorem dX7_all_1 : decode cX7_all 1 = .ok (.istore_n 1, 1) := by decide +kernel
theorem dX7_all_2 : decode cX7_all 2 = .ok (.iconst 0, 1) := by decide +kernel
theorem dX7_all_3 : decode cX7_all 3 = .ok (.istore_n 2, 1) := by decide +kernel
theorem dX7_all_4 : decode cX7_all 4 = .ok (.iload_n 2, 1) := by decide +kernel
theorem dX7_all_5 : decode cX7_all 5 = .ok (.bipush 6, 2) := by decide +kernel
theorem dX7_all_7 : decode cX7_all 7 = .ok (.if_icmp .ge 18, 3) := by decide +kernel
theorem dX7_all_10 : decode cX7_all 10 = .ok (.iload_n 1, 1) := by decide +kernel
theorem dX7_all_11 : decode cX7_all 11 = .ok (.aload_n 0, 1) := by decide +kernel
theorem dX7_all_12 : decode cX7_all 12 = .ok (.getfield 7, 3) := by decide +kernel
theorem dX7_all_15 : decode cX7_all 15 = .ok (.iload_n 2, 1) := by decide +kernel
theorem dX7_all_16 : decode cX7_all 16 = .ok (.iaload, 1) := by decide +kernel
theorem dX7_all_17 : decode cX7_all 17 = .ok (.iadd, 1) := by decide +kernel
theorem dX7_all_18 : decode cX7_all 18 = .ok (.istore_n 1, 1) := by decide +kernel
theorem dX7_all_19 : decode cX7_all 19 = .ok (.iinc 2 1, 3) := by decide +kernel
theorem dX7_all_22 : decode cX7_all 22 = .ok (.goto (-18), 3) := by decide +kernel
theorem dX7_all_25 : decode cX7_all 25 = .ok (.iconst 0, 1) := by decide +kernel
theorem dX7_all_26 : decode cX7_all 26 = .ok (.istore_n 2, 1) := by decide +kernel
theorem dX7_all_27 : decode cX7_all 27 = .ok (.iload_n 2, 1) := by decide +kernel
theorem dX7_all_28 : decode cX7_all 28 = .ok (.aload_n 0, 1) := by decide +kernel
theorem dX7_all_29 : decode cX7_all 29 = .ok (.getfield 68, 3) := by decide +kernel
theorem dX7_all_32 : decode cX7_all 32 = .ok (.if_icmp .ge 18, 3) := by decide +kernel
theorem dX7_all_35 : decode cX7_all 35 = .ok (.iload_n 1, 1) := by decide +kernel
theorem dX7_all_36 : decode cX7_all 36 = .ok (.aload_n 0, 1) := by decide +kernel
theorem dX7_all_37 : decode cX7_all 37 = .ok (.getfield 22, 3) := by decide +kernel
theorem dX7_all_40 : decode cX7_all 40 = .ok (.iload_n 2, 1) := by decide +kernel
theorem dX7_all_41 : decode cX7_all 41 = .ok (.iaload, 1) := by decide +kernel
theorem dX7_all_42 : decode cX7_all 42 = .ok (.iadd, 1) := by decide +kernel
theorem dX7_all_43 : decode cX7_all 43 = .ok (.istore_n 1, 1) := by decide +kernel
theorem dX7_all_44 : decode cX7_all 44 = .ok (.iinc 2 1, 3) := by decide +kernel
theorem dX7_all_47 : decode cX7_all 47 = .ok (.goto (-20), 3) := by decide +kernel
theorem dX7_all_50 : decode cX7_all 50 = .ok (.iload_n 1, 1) := by decide +kernel
theorem dX7_all_51 : decode cX7_all 51 = .ok (.ireturn, 1) := by decide +kernel
end
section
theorem dL_law_0 : decode cL_law 0 = .ok (.new 7, 3) := by decide +kernel
theorem dL_law_3 : decode cL_law 3 = .ok (.dup, 1) := by decide +kernel
theorem dL_law_4 : decode cL_law 4 = .ok (.invokespecial 9, 3) := by decide +kernel
theorem dL_law_7 : decode cL_law 7 = .ok (.astore_n 1, 1) := by decide +kernel
theorem dL_law_8 : decode cL_law 8 = .ok (.new 10, 3) := by decide +kernel
theorem dL_law_11 : decode cL_law 11 = .ok (.dup, 1) := by decide +kernel
theorem dL_law_12 : decode cL_law 12 = .ok (.invokespecial 12, 3) := by decide +kernel
theorem dL_law_15 : decode cL_law 15 = .ok (.astore_n 2, 1) := by decide +kernel
theorem dL_law_16 : decode cL_law 16 = .ok (.iconst 0, 1) := by decide +kernel
theorem dL_law_17 : decode cL_law 17 = .ok (.istore_n 3, 1) := by decide +kernel
theorem dL_law_18 : decode cL_law 18 = .ok (.iload_n 3, 1) := by decide +kernel
theorem dL_law_19 : decode cL_law 19 = .ok (.aload_n 0, 1) := by decide +kernel
theorem dL_law_20 : decode cL_law 20 = .ok (.arraylength, 1) := by decide +kernel
theorem dL_law_21 : decode cL_law 21 = .ok (.bipush 7, 2) := by decide +kernel
theorem dL_law_23 : decode cL_law 23 = .ok (.isub, 1) := by decide +kernel
theorem dL_law_24 : decode cL_law 24 = .ok (.if_icmp .gt 1146, 3) := by decide +kernel
theorem dL_law_27 : decode cL_law 27 = .ok (.aload_n 0, 1) := by decide +kernel
theorem dL_law_28 : decode cL_law 28 = .ok (.iload_n 3, 1) := by decide +kernel
theorem dL_law_29 : decode cL_law 29 = .ok (.iaload, 1) := by decide +kernel
theorem dL_law_30 : decode cL_law 30 = .ok (.bipush 31, 2) := by decide +kernel
theorem dL_law_32 : decode cL_law 32 = .ok (.iand, 1) := by decide +kernel
theorem dL_law_33 : decode cL_law 33 = .ok (.tableswitch 1131 0 25 #[119, 162, 185, 238, 313, 372, 435, 468, 511, 544, 577, 610, 633, 676, 719, 762, 811, 834, 877, 910, 933, 966, 999, 1042, 1085, 1108], 119) := by decide +kernel
theorem dL_law_152 : decode cL_law 152 = .ok (.aload_n 1, 1) := by decide +kernel
theorem dL_law_153 : decode cL_law 153 = .ok (.aload_n 0, 1) := by decide +kernel
theorem dL_law_154 : decode cL_law 154 = .ok (.iload_n 3, 1) := by decide +kernel
theorem dL_law_155 : decode cL_law 155 = .ok (.iconst 1, 1) := by decide +kernel
theorem dL_law_156 : decode cL_law 156 = .ok (.iadd, 1) := by decide +kernel
theorem dL_law_157 : decode cL_law 157 = .ok (.iaload, 1) := by decide +kernel
theorem dL_law_158 : decode cL_law 158 = .ok (.aload_n 0, 1) := by decide +kernel
theorem dL_law_159 : decode cL_law 159 = .ok (.iload_n 3, 1) := by decide +kernel
theorem dL_law_160 : decode cL_law 160 = .ok (.iconst 2, 1) := by decide +kernel
theorem dL_law_161 : decode cL_law 161 = .ok (.iadd, 1) := by decide +kernel
theorem dL_law_162 : decode cL_law 162 = .ok (.iaload, 1) := by decide +kernel
theorem dL_law_163 : decode cL_law 163 = .ok (.aload_n 0, 1) := by decide +kernel
theorem dL_law_164 : decode cL_law 164 = .ok (.iload_n 3, 1) := by decide +kernel
theorem dL_law_165 : decode cL_law 165 = .ok (.iconst 3, 1) := by decide +kernel
theorem dL_law_166 : decode cL_law 166 = .ok (.iadd, 1) := by decide +kernel
theorem dL_law_167 : decode cL_law 167 = .ok (.iaload, 1) := by decide +kernel
theorem dL_law_168 : decode cL_law 168 = .ok (.invokevirtual 13, 3) := by decide +kernel
theorem dL_law_171 : decode cL_law 171 = .ok (.aload_n 2, 1) := by decide +kernel
theorem dL_law_172 : decode cL_law 172 = .ok (.aload_n 0, 1) := by decide +kernel
theorem dL_law_173 : decode cL_law 173 = .ok (.iload_n 3, 1) := by decide +kernel
theorem dL_law_174 : decode cL_law 174 = .ok (.iconst 1, 1) := by decide +kernel
theorem dL_law_175 : decode cL_law 175 = .ok (.iadd, 1) := by decide +kernel
theorem dL_law_176 : decode cL_law 176 = .ok (.iaload, 1) := by decide +kernel
theorem dL_law_177 : decode cL_law 177 = .ok (.aload_n 0, 1) := by decide +kernel
theorem dL_law_178 : decode cL_law 178 = .ok (.iload_n 3, 1) := by decide +kernel
theorem dL_law_179 : decode cL_law 179 = .ok (.iconst 2, 1) := by decide +kernel
theorem dL_law_180 : decode cL_law 180 = .ok (.iadd, 1) := by decide +kernel
theorem dL_law_181 : decode cL_law 181 = .ok (.iaload, 1) := by decide +kernel
theorem dL_law_182 : decode cL_law 182 = .ok (.aload_n 0, 1) := by decide +kernel
theorem dL_law_183 : decode cL_law 183 = .ok (.iload_n 3, 1) := by decide +kernel
theorem dL_law_184 : decode cL_law 184 = .ok (.iconst 3, 1) := by decide +kernel
theorem dL_law_185 : decode cL_law 185 = .ok (.iadd, 1) := by decide +kernel
theorem dL_law_186 : decode cL_law 186 = .ok (.iaload, 1) := by decide +kernel
theorem dL_law_187 : decode cL_law 187 = .ok (.invokevirtual 17, 3) := by decide +kernel
theorem dL_law_190 : decode cL_law 190 = .ok (.if_icmp .eq 974, 3) := by decide +kernel
theorem dL_law_193 : decode cL_law 193 = .ok (.iconst 0, 1) := by decide +kernel
theorem dL_law_194 : decode cL_law 194 = .ok (.ireturn, 1) := by decide +kernel
theorem dL_law_195 : decode cL_law 195 = .ok (.aload_n 1, 1) := by decide +kernel
theorem dL_law_196 : decode cL_law 196 = .ok (.aload_n 0, 1) := by decide +kernel
theorem dL_law_197 : decode cL_law 197 = .ok (.iload_n 3, 1) := by decide +kernel
theorem dL_law_198 : decode cL_law 198 = .ok (.iconst 1, 1) := by decide +kernel
theorem dL_law_199 : decode cL_law 199 = .ok (.iadd, 1) := by decide +kernel
theorem dL_law_200 : decode cL_law 200 = .ok (.iaload, 1) := by decide +kernel
theorem dL_law_201 : decode cL_law 201 = .ok (.invokevirtual 18, 3) := by decide +kernel
theorem dL_law_204 : decode cL_law 204 = .ok (.aload_n 2, 1) := by decide +kernel
theorem dL_law_205 : decode cL_law 205 = .ok (.aload_n 0, 1) := by decide +kernel
theorem dL_law_206 : decode cL_law 206 = .ok (.iload_n 3, 1) := by decide +kernel
theorem dL_law_207 : decode cL_law 207 = .ok (.iconst 1, 1) := by decide +kernel
theorem dL_law_208 : decode cL_law 208 = .ok (.iadd, 1) := by decide +kernel
theorem dL_law_209 : decode cL_law 209 = .ok (.iaload, 1) := by decide +kernel
theorem dL_law_210 : decode cL_law 210 = .ok (.invokevirtual 22, 3) := by decide +kernel
theorem dL_law_213 : decode cL_law 213 = .ok (.if_icmp .eq 951, 3) := by decide +kernel
theorem dL_law_216 : decode cL_law 216 = .ok (.iconst 0, 1) := by decide +kernel
theorem dL_law_217 : decode cL_law 217 = .ok (.ireturn, 1) := by decide +kernel
theorem dL_law_218 : decode cL_law 218 = .ok (.aload_n 1, 1) := by decide +kernel
theorem dL_law_219 : decode cL_law 219 = .ok (.aload_n 0, 1) := by decide +kernel
theorem dL_law_220 : decode cL_law 220 = .ok (.iload_n 3, 1) := by decide +kernel
theorem dL_law_221 : decode cL_law 221 = .ok (.iconst 1, 1) := by decide +kernel
theorem dL_law_222 : decode cL_law 222 = .ok (.iadd, 1) := by decide +kernel
theorem dL_law_223 : decode cL_law 223 = .ok (.iaload, 1) := by decide +kernel
theorem dL_law_224 : decode cL_law 224 = .ok (.aload_n 0, 1) := by decide +kernel
theorem dL_law_225 : decode cL_law 225 = .ok (.iload_n 3, 1) := by decide +kernel
theorem dL_law_226 : decode cL_law 226 = .ok (.iconst 2, 1) := by decide +kernel
theorem dL_law_227 : decode cL_law 227 = .ok (.iadd, 1) := by decide +kernel
theorem dL_law_228 : decode cL_law 228 = .ok (.iaload, 1) := by decide +kernel
theorem dL_law_229 : decode cL_law 229 = .ok (.aload_n 0, 1) := by decide +kernel
theorem dL_law_230 : decode cL_law 230 = .ok (.iload_n 3, 1) := by decide +kernel
theorem dL_law_231 : decode cL_law 231 = .ok (.iconst 3, 1) := by decide +kernel
theorem dL_law_232 : decode cL_law 232 = .ok (.iadd, 1) := by decide +kernel
theorem dL_law_233 : decode cL_law 233 = .ok (.iaload, 1) := by decide +kernel
theorem dL_law_234 : decode cL_law 234 = .ok (.aload_n 0, 1) := by decide +kernel
theorem dL_law_235 : decode cL_law 235 = .ok (.iload_n 3, 1) := by decide +kernel
theorem dL_law_236 : decode cL_law 236 = .ok (.iconst 4, 1) := by decide +kernel
theorem dL_law_237 : decode cL_law 237 = .ok (.iadd, 1) := by decide +kernel
theorem dL_law_238 : decode cL_law 238 = .ok (.iaload, 1) := by decide +kernel
theorem dL_law_239 : decode cL_law 239 = .ok (.invokevirtual 23, 3) := by decide +kernel
theorem dL_law_242 : decode cL_law 242 = .ok (.aload_n 2, 1) := by decide +kernel
theorem dL_law_243 : decode cL_law 243 = .ok (.aload_n 0, 1) := by decide +kernel
theorem dL_law_244 : decode cL_law 244 = .ok (.iload_n 3, 1) := by decide +kernel
theorem dL_law_245 : decode cL_law 245 = .ok (.iconst 1, 1) := by decide +kernel
theorem dL_law_246 : decode cL_law 246 = .ok (.iadd, 1) := by decide +kernel
theorem dL_law_247 : decode cL_law 247 = .ok (.iaload, 1) := by decide +kernel
theorem dL_law_248 : decode cL_law 248 = .ok (.aload_n 0, 1) := by decide +kernel
theorem dL_law_249 : decode cL_law 249 = .ok (.iload_n 3, 1) := by decide +kernel
theorem dL_law_250 : decode cL_law 250 = .ok (.iconst 2, 1) := by decide +kernel
theorem dL_law_251 : decode cL_law 251 = .ok (.iadd, 1) := by decide +kernel
theorem dL_law_252 : decode cL_law 252 = .ok (.iaload, 1) := by decide +kernel
theorem dL_law_253 : decode cL_law 253 = .ok (.aload_n 0, 1) := by decide +kernel
theorem dL_law_254 : decode cL_law 254 = .ok (.iload_n 3, 1) := by decide +kernel
theorem dL_law_255 : decode cL_law 255 = .ok (.iconst 3, 1) := by decide +kernel
theorem dL_law_256 : decode cL_law 256 = .ok (.iadd, 1) := by decide +kernel
theorem dL_law_257 : decode cL_law 257 = .ok (.iaload, 1) := by decide +kernel
theorem dL_law_258 : decode cL_law 258 = .ok (.aload_n 0, 1) := by decide +kernel
theorem dL_law_259 : decode cL_law 259 = .ok (.iload_n 3, 1) := by decide +kernel
theorem dL_law_260 : decode cL_law 260 = .ok (.iconst 4, 1) := by decide +kernel
theorem dL_law_261 : decode cL_law 261 = .ok (.iadd, 1) := by decide +kernel
theorem dL_law_262 : decode cL_law 262 = .ok (.iaload, 1) := by decide +kernel
theorem dL_law_263 : decode cL_law 263 = .ok (.invokevirtual 27, 3) := by decide +kernel
theorem dL_law_266 : decode cL_law 266 = .ok (.if_icmp .eq 898, 3) := by decide +kernel
theorem dL_law_269 : decode cL_law 269 = .ok (.iconst 0, 1) := by decide +kernel
theorem dL_law_270 : decode cL_law 270 = .ok (.ireturn, 1) := by decide +kernel
theorem dL_law_271 : decode cL_law 271 = .ok (.aload_n 1, 1) := by decide +kernel
theorem dL_law_272 : decode cL_law 272 = .ok (.aload_n 0, 1) := by decide +kernel
theorem dL_law_273 : decode cL_law 273 = .ok (.iload_n 3, 1) := by decide +kernel
theorem dL_law_274 : decode cL_law 274 = .ok (.iconst 1, 1) := by decide +kernel
theorem dL_law_275 : decode cL_law 275 = .ok (.iadd, 1) := by decide +kernel
theorem dL_law_276 : decode cL_law 276 = .ok (.iaload, 1) := by decide +kernel
theorem dL_law_277 : decode cL_law 277 = .ok (.aload_n 0, 1) := by decide +kernel
theorem dL_law_278 : decode cL_law 278 = .ok (.iload_n 3, 1) := by decide +kernel
theorem dL_law_279 : decode cL_law 279 = .ok (.iconst 2, 1) := by decide +kernel
theorem dL_law_280 : decode cL_law 280 = .ok (.iadd, 1) := by decide +kernel
theorem dL_law_281 : decode cL_law 281 = .ok (.iaload, 1) := by decide +kernel
theorem dL_law_282 : decode cL_law 282 = .ok (.aload_n 0, 1) := by decide +kernel
theorem dL_law_283 : decode cL_law 283 = .ok (.iload_n 3, 1) := by decide +kernel
theorem dL_law_284 : decode cL_law 284 = .ok (.iconst 3, 1) := by decide +kernel
theorem dL_law_285 : decode cL_law 285 = .ok (.iadd, 1) := by decide +kernel
theorem dL_law_286 : decode cL_law 286 = .ok (.iaload, 1) := by decide +kernel
theorem dL_law_287 : decode cL_law 287 = .ok (.aload_n 0, 1) := by decide +kernel
theorem dL_law_288 : decode cL_law 288 = .ok (.iload_n 3, 1) := by decide +kernel
theorem dL_law_289 : decode cL_law 289 = .ok (.iconst 4, 1) := by decide +kernel
theorem dL_law_290 : decode cL_law 290 = .ok (.iadd, 1) := by decide +kernel
theorem dL_law_291 : decode cL_law 291 = .ok (.iaload, 1) := by decide +kernel
theorem dL_law_292 : decode cL_law 292 = .ok (.aload_n 0, 1) := by decide +kernel
theorem dL_law_293 : decode cL_law 293 = .ok (.iload_n 3, 1) := by decide +kernel
theorem dL_law_294 : decode cL_law 294 = .ok (.iconst 5, 1) := by decide +kernel
theorem dL_law_295 : decode cL_law 295 = .ok (.iadd, 1) := by decide +kernel
theorem dL_law_296 : decode cL_law 296 = .ok (.iaload, 1) := by decide +kernel
theorem dL_law_297 : decode cL_law 297 = .ok (.aload_n 0, 1) := by decide +kernel
theorem dL_law_298 : decode cL_law 298 = .ok (.iload_n 3, 1) := by decide +kernel
theorem dL_law_299 : decode cL_law 299 = .ok (.bipush 6, 2) := by decide +kernel
theorem dL_law_301 : decode cL_law 301 = .ok (.iadd, 1) := by decide +kernel
theorem dL_law_302 : decode cL_law 302 = .ok (.iaload, 1) := by decide +kernel
theorem dL_law_303 : decode cL_law 303 = .ok (.invokevirtual 28, 3) := by decide +kernel
theorem dL_law_306 : decode cL_law 306 = .ok (.aload_n 2, 1) := by decide +kernel
theorem dL_law_307 : decode cL_law 307 = .ok (.aload_n 0, 1) := by decide +kernel
theorem dL_law_308 : decode cL_law 308 = .ok (.iload_n 3, 1) := by decide +kernel
theorem dL_law_309 : decode cL_law 309 = .ok (.iconst 1, 1) := by decide +kernel
theorem dL_law_310 : decode cL_law 310 = .ok (.iadd, 1) := by decide +kernel
theorem dL_law_311 : decode cL_law 311 = .ok (.iaload, 1) := by decide +kernel
theorem dL_law_312 : decode cL_law 312 = .ok (.aload_n 0, 1) := by decide +kernel
theorem dL_law_313 : decode cL_law 313 = .ok (.iload_n 3, 1) := by decide +kernel
theorem dL_law_314 : decode cL_law 314 = .ok (.iconst 2, 1) := by decide +kernel
theorem dL_law_315 : decode cL_law 315 = .ok (.iadd, 1) := by decide +kernel
theorem dL_law_316 : decode cL_law 316 = .ok (.iaload, 1) := by decide +kernel
theorem dL_law_317 : decode cL_law 317 = .ok (.aload_n 0, 1) := by decide +kernel
theorem dL_law_318 : decode cL_law 318 = .ok (.iload_n 3, 1) := by decide +kernel
theorem dL_law_319 : decode cL_law 319 = .ok (.iconst 3, 1) := by decide +kernel
theorem dL_law_320 : decode cL_law 320 = .ok (.iadd, 1) := by decide +kernel
theorem dL_law_321 : decode cL_law 321 = .ok (.iaload, 1) := by decide +kernel
theorem dL_law_322 : decode cL_law 322 = .ok (.aload_n 0, 1) := by decide +kernel
theorem dL_law_323 : decode cL_law 323 = .ok (.iload_n 3, 1) := by decide +kernel
theorem dL_law_324 : decode cL_law 324 = .ok (.iconst 4, 1) := by decide +kernel
theorem dL_law_325 : decode cL_law 325 = .ok (.iadd, 1) := by decide +kernel
theorem dL_law_326 : decode cL_law 326 = .ok (.iaload, 1) := by decide +kernel
theorem dL_law_327 : decode cL_law 327 = .ok (.aload_n 0, 1) := by decide +kernel
theorem dL_law_328 : decode cL_law 328 = .ok (.iload_n 3, 1) := by decide +kernel
theorem dL_law_329 : decode cL_law 329 = .ok (.iconst 5, 1) := by decide +kernel
theorem dL_law_330 : decode cL_law 330 = .ok (.iadd, 1) := by decide +kernel
theorem dL_law_331 : decode cL_law 331 = .ok (.iaload, 1) := by decide +kernel
theorem dL_law_332 : decode cL_law 332 = .ok (.aload_n 0, 1) := by decide +kernel
theorem dL_law_333 : decode cL_law 333 = .ok (.iload_n 3, 1) := by decide +kernel
theorem dL_law_334 : decode cL_law 334 = .ok (.bipush 6, 2) := by decide +kernel
theorem dL_law_336 : decode cL_law 336 = .ok (.iadd, 1) := by decide +kernel
theorem dL_law_337 : decode cL_law 337 = .ok (.iaload, 1) := by decide +kernel
theorem dL_law_338 : decode cL_law 338 = .ok (.invokevirtual 32, 3) := by decide +kernel
theorem dL_law_341 : decode cL_law 341 = .ok (.if_icmp .eq 823, 3) := by decide +kernel
theorem dL_law_344 : decode cL_law 344 = .ok (.iconst 0, 1) := by decide +kernel
theorem dL_law_345 : decode cL_law 345 = .ok (.ireturn, 1) := by decide +kernel
theorem dL_law_346 : decode cL_law 346 = .ok (.aload_n 1, 1) := by decide +kernel
theorem dL_law_347 : decode cL_law 347 = .ok (.aload_n 0, 1) := by decide +kernel
theorem dL_law_348 : decode cL_law 348 = .ok (.iload_n 3, 1) := by decide +kernel
theorem dL_law_349 : decode cL_law 349 = .ok (.iconst 1, 1) := by decide +kernel
theorem dL_law_350 : decode cL_law 350 = .ok (.iadd, 1) := by decide +kernel
theorem dL_law_351 : decode cL_law 351 = .ok (.iaload, 1) := by decide +kernel
theorem dL_law_352 : decode cL_law 352 = .ok (.aload_n 0, 1) := by decide +kernel
theorem dL_law_353 : decode cL_law 353 = .ok (.iload_n 3, 1) := by decide +kernel
theorem dL_law_354 : decode cL_law 354 = .ok (.iconst 2, 1) := by decide +kernel
theorem dL_law_355 : decode cL_law 355 = .ok (.iadd, 1) := by decide +kernel
theorem dL_law_356 : decode cL_law 356 = .ok (.iaload, 1) := by decide +kernel
theorem dL_law_357 : decode cL_law 357 = .ok (.aload_n 0, 1) := by decide +kernel
theorem dL_law_358 : decode cL_law 358 = .ok (.iload_n 3, 1) := by decide +kernel
theorem dL_law_359 : decode cL_law 359 = .ok (.iconst 3, 1) := by decide +kernel
theorem dL_law_360 : decode cL_law 360 = .ok (.iadd, 1) := by decide +kernel
theorem dL_law_361 : decode cL_law 361 = .ok (.iaload, 1) := by decide +kernel
theorem dL_law_362 : decode cL_law 362 = .ok (.ifCond .eq 7, 3) := by decide +kernel
theorem dL_law_365 : decode cL_law 365 = .ok (.iconst 1, 1) := by decide +kernel
theorem dL_law_366 : decode cL_law 366 = .ok (.goto 4, 3) := by decide +kernel
theorem dL_law_369 : decode cL_law 369 = .ok (.iconst 0, 1) := by decide +kernel
theorem dL_law_370 : decode cL_law 370 = .ok (.invokevirtual 33, 3) := by decide +kernel
theorem dL_law_373 : decode cL_law 373 = .ok (.aload_n 2, 1) := by decide +kernel
theorem dL_law_374 : decode cL_law 374 = .ok (.aload_n 0, 1) := by decide +kernel
theorem dL_law_375 : decode cL_law 375 = .ok (.iload_n 3, 1) := by decide +kernel
theorem dL_law_376 : decode cL_law 376 = .ok (.iconst 1, 1) := by decide +kernel
theorem dL_law_377 : decode cL_law 377 = .ok (.iadd, 1) := by decide +kernel
theorem dL_law_378 : decode cL_law 378 = .ok (.iaload, 1) := by decide +kernel
theorem dL_law_379 : decode cL_law 379 = .ok (.aload_n 0, 1) := by decide +kernel
theorem dL_law_380 : decode cL_law 380 = .ok (.iload_n 3, 1) := by decide +kernel
theorem dL_law_381 : decode cL_law 381 = .ok (.iconst 2, 1) := by decide +kernel
theorem dL_law_382 : decode cL_law 382 = .ok (.iadd, 1) := by decide +kernel
theorem dL_law_383 : decode cL_law 383 = .ok (.iaload, 1) := by decide +kernel
theorem dL_law_384 : decode cL_law 384 = .ok (.aload_n 0, 1) := by decide +kernel
theorem dL_law_385 : decode cL_law 385 = .ok (.iload_n 3, 1) := by decide +kernel
theorem dL_law_386 : decode cL_law 386 = .ok (.iconst 3, 1) := by decide +kernel
theorem dL_law_387 : decode cL_law 387 = .ok (.iadd, 1) := by decide +kernel
theorem dL_law_388 : decode cL_law 388 = .ok (.iaload, 1) := by decide +kernel
theorem dL_law_389 : decode cL_law 389 = .ok (.ifCond .eq 7, 3) := by decide +kernel
theorem dL_law_392 : decode cL_law 392 = .ok (.iconst 1, 1) := by decide +kernel
theorem dL_law_393 : decode cL_law 393 = .ok (.goto 4, 3) := by decide +kernel
theorem dL_law_396 : decode cL_law 396 = .ok (.iconst 0, 1) := by decide +kernel
theorem dL_law_397 : decode cL_law 397 = .ok (.invokevirtual 37, 3) := by decide +kernel
theorem dL_law_400 : decode cL_law 400 = .ok (.if_icmp .eq 764, 3) := by decide +kernel
theorem dL_law_403 : decode cL_law 403 = .ok (.iconst 0, 1) := by decide +kernel
theorem dL_law_404 : decode cL_law 404 = .ok (.ireturn, 1) := by decide +kernel
theorem dL_law_405 : decode cL_law 405 = .ok (.aload_n 1, 1) := by decide +kernel
theorem dL_law_406 : decode cL_law 406 = .ok (.aload_n 0, 1) := by decide +kernel
theorem dL_law_407 : decode cL_law 407 = .ok (.iload_n 3, 1) := by decide +kernel
theorem dL_law_408 : decode cL_law 408 = .ok (.iconst 1, 1) := by decide +kernel
theorem dL_law_409 : decode cL_law 409 = .ok (.iadd, 1) := by decide +kernel
theorem dL_law_410 : decode cL_law 410 = .ok (.iaload, 1) := by decide +kernel
theorem dL_law_411 : decode cL_law 411 = .ok (.aload_n 0, 1) := by decide +kernel
theorem dL_law_412 : decode cL_law 412 = .ok (.iload_n 3, 1) := by decide +kernel
theorem dL_law_413 : decode cL_law 413 = .ok (.iconst 2, 1) := by decide +kernel
theorem dL_law_414 : decode cL_law 414 = .ok (.iadd, 1) := by decide +kernel
theorem dL_law_415 : decode cL_law 415 = .ok (.iaload, 1) := by decide +kernel
theorem dL_law_416 : decode cL_law 416 = .ok (.aload_n 0, 1) := by decide +kernel
theorem dL_law_417 : decode cL_law 417 = .ok (.iload_n 3, 1) := by decide +kernel
theorem dL_law_418 : decode cL_law 418 = .ok (.iconst 3, 1) := by decide +kernel
theorem dL_law_419 : decode cL_law 419 = .ok (.iadd, 1) := by decide +kernel
theorem dL_law_420 : decode cL_law 420 = .ok (.iaload, 1) := by decide +kernel
theorem dL_law_421 : decode cL_law 421 = .ok (.aload_n 0, 1) := by decide +kernel
theorem dL_law_422 : decode cL_law 422 = .ok (.iload_n 3, 1) := by decide +kernel
theorem dL_law_423 : decode cL_law 423 = .ok (.iconst 4, 1) := by decide +kernel
theorem dL_law_424 : decode cL_law 424 = .ok (.iadd, 1) := by decide +kernel
theorem dL_law_425 : decode cL_law 425 = .ok (.iaload, 1) := by decide +kernel
theorem dL_law_426 : decode cL_law 426 = .ok (.aload_n 0, 1) := by decide +kernel
theorem dL_law_427 : decode cL_law 427 = .ok (.iload_n 3, 1) := by decide +kernel
theorem dL_law_428 : decode cL_law 428 = .ok (.iconst 5, 1) := by decide +kernel
theorem dL_law_429 : decode cL_law 429 = .ok (.iadd, 1) := by decide +kernel
theorem dL_law_430 : decode cL_law 430 = .ok (.iaload, 1) := by decide +kernel
theorem dL_law_431 : decode cL_law 431 = .ok (.invokevirtual 38, 3) := by decide +kernel
theorem dL_law_434 : decode cL_law 434 = .ok (.aload_n 2, 1) := by decide +kernel
theorem dL_law_435 : decode cL_law 435 = .ok (.aload_n 0, 1) := by decide +kernel
theorem dL_law_436 : decode cL_law 436 = .ok (.iload_n 3, 1) := by decide +kernel
theorem dL_law_437 : decode cL_law 437 = .ok (.iconst 1, 1) := by decide +kernel
theorem dL_law_438 : decode cL_law 438 = .ok (.iadd, 1) := by decide +kernel
theorem dL_law_439 : decode cL_law 439 = .ok (.iaload, 1) := by decide +kernel
theorem dL_law_440 : decode cL_law 440 = .ok (.aload_n 0, 1) := by decide +kernel
theorem dL_law_441 : decode cL_law 441 = .ok (.iload_n 3, 1) := by decide +kernel
theorem dL_law_442 : decode cL_law 442 = .ok (.iconst 2, 1) := by decide +kernel
theorem dL_law_443 : decode cL_law 443 = .ok (.iadd, 1) := by decide +kernel
theorem dL_law_444 : decode cL_law 444 = .ok (.iaload, 1) := by decide +kernel
theorem dL_law_445 : decode cL_law 445 = .ok (.aload_n 0, 1) := by decide +kernel
theorem dL_law_446 : decode cL_law 446 = .ok (.iload_n 3, 1) := by decide +kernel
theorem dL_law_447 : decode cL_law 447 = .ok (.iconst 3, 1) := by decide +kernel
theorem dL_law_448 : decode cL_law 448 = .ok (.iadd, 1) := by decide +kernel
theorem dL_law_449 : decode cL_law 449 = .ok (.iaload, 1) := by decide +kernel
theorem dL_law_450 : decode cL_law 450 = .ok (.aload_n 0, 1) := by decide +kernel
theorem dL_law_451 : decode cL_law 451 = .ok (.iload_n 3, 1) := by decide +kernel
theorem dL_law_452 : decode cL_law 452 = .ok (.iconst 4, 1) := by decide +kernel
theorem dL_law_453 : decode cL_law 453 = .ok (.iadd, 1) := by decide +kernel
theorem dL_law_454 : decode cL_law 454 = .ok (.iaload, 1) := by decide +kernel
theorem dL_law_455 : decode cL_law 455 = .ok (.aload_n 0, 1) := by decide +kernel
theorem dL_law_456 : decode cL_law 456 = .ok (.iload_n 3, 1) := by decide +kernel
theorem dL_law_457 : decode cL_law 457 = .ok (.iconst 5, 1) := by decide +kernel
theorem dL_law_458 : decode cL_law 458 = .ok (.iadd, 1) := by decide +kernel
theorem dL_law_459 : decode cL_law 459 = .ok (.iaload, 1) := by decide +kernel
theorem dL_law_460 : decode cL_law 460 = .ok (.invokevirtual 42, 3) := by decide +kernel
theorem dL_law_463 : decode cL_law 463 = .ok (.if_icmp .eq 701, 3) := by decide +kernel
theorem dL_law_466 : decode cL_law 466 = .ok (.iconst 0, 1) := by decide +kernel
theorem dL_law_467 : decode cL_law 467 = .ok (.ireturn, 1) := by decide +kernel
theorem dL_law_468 : decode cL_law 468 = .ok (.aload_n 1, 1) := by decide +kernel
theorem dL_law_469 : decode cL_law 469 = .ok (.aload_n 0, 1) := by decide +kernel
theorem dL_law_470 : decode cL_law 470 = .ok (.iload_n 3, 1) := by decide +kernel
theorem dL_law_471 : decode cL_law 471 = .ok (.iconst 1, 1) := by decide +kernel
theorem dL_law_472 : decode cL_law 472 = .ok (.iadd, 1) := by decide +kernel
theorem dL_law_473 : decode cL_law 473 = .ok (.iaload, 1) := by decide +kernel
theorem dL_law_474 : decode cL_law 474 = .ok (.aload_n 0, 1) := by decide +kernel
theorem dL_law_475 : decode cL_law 475 = .ok (.iload_n 3, 1) := by decide +kernel
theorem dL_law_476 : decode cL_law 476 = .ok (.iconst 2, 1) := by decide +kernel
theorem dL_law_477 : decode cL_law 477 = .ok (.iadd, 1) := by decide +kernel
theorem dL_law_478 : decode cL_law 478 = .ok (.iaload, 1) := by decide +kernel
theorem dL_law_479 : decode cL_law 479 = .ok (.invokevirtual 43, 3) := by decide +kernel
theorem dL_law_482 : decode cL_law 482 = .ok (.aload_n 2, 1) := by decide +kernel
theorem dL_law_483 : decode cL_law 483 = .ok (.aload_n 0, 1) := by decide +kernel
theorem dL_law_484 : decode cL_law 484 = .ok (.iload_n 3, 1) := by decide +kernel
theorem dL_law_485 : decode cL_law 485 = .ok (.iconst 1, 1) := by decide +kernel
theorem dL_law_486 : decode cL_law 486 = .ok (.iadd, 1) := by decide +kernel
theorem dL_law_487 : decode cL_law 487 = .ok (.iaload, 1) := by decide +kernel
theorem dL_law_488 : decode cL_law 488 = .ok (.aload_n 0, 1) := by decide +kernel
theorem dL_law_489 : decode cL_law 489 = .ok (.iload_n 3, 1) := by decide +kernel
theorem dL_law_490 : decode cL_law 490 = .ok (.iconst 2, 1) := by decide +kernel
theorem dL_law_491 : decode cL_law 491 = .ok (.iadd, 1) := by decide +kernel
theorem dL_law_492 : decode cL_law 492 = .ok (.iaload, 1) := by decide +kernel
theorem dL_law_493 : decode cL_law 493 = .ok (.invokevirtual 47, 3) := by decide +kernel
theorem dL_law_496 : decode cL_law 496 = .ok (.if_icmp .eq 668, 3) := by decide +kernel
theorem dL_law_499 : decode cL_law 499 = .ok (.iconst 0, 1) := by decide +kernel
theorem dL_law_500 : decode cL_law 500 = .ok (.ireturn, 1) := by decide +kernel
theorem dL_law_501 : decode cL_law 501 = .ok (.aload_n 1, 1) := by decide +kernel
theorem dL_law_502 : decode cL_law 502 = .ok (.aload_n 0, 1) := by decide +kernel
theorem dL_law_503 : decode cL_law 503 = .ok (.iload_n 3, 1) := by decide +kernel
theorem dL_law_504 : decode cL_law 504 = .ok (.iconst 1, 1) := by decide +kernel
theorem dL_law_505 : decode cL_law 505 = .ok (.iadd, 1) := by decide +kernel
theorem dL_law_506 : decode cL_law 506 = .ok (.iaload, 1) := by decide +kernel
theorem dL_law_507 : decode cL_law 507 = .ok (.aload_n 0, 1) := by decide +kernel
theorem dL_law_508 : decode cL_law 508 = .ok (.iload_n 3, 1) := by decide +kernel
theorem dL_law_509 : decode cL_law 509 = .ok (.iconst 2, 1) := by decide +kernel
theorem dL_law_510 : decode cL_law 510 = .ok (.iadd, 1) := by decide +kernel
theorem dL_law_511 : decode cL_law 511 = .ok (.iaload, 1) := by decide +kernel
theorem dL_law_512 : decode cL_law 512 = .ok (.aload_n 0, 1) := by decide +kernel
theorem dL_law_513 : decode cL_law 513 = .ok (.iload_n 3, 1) := by decide +kernel
theorem dL_law_514 : decode cL_law 514 = .ok (.iconst 3, 1) := by decide +kernel
theorem dL_law_515 : decode cL_law 515 = .ok (.iadd, 1) := by decide +kernel
theorem dL_law_516 : decode cL_law 516 = .ok (.iaload, 1) := by decide +kernel
theorem dL_law_517 : decode cL_law 517 = .ok (.invokevirtual 48, 3) := by decide +kernel
theorem dL_law_520 : decode cL_law 520 = .ok (.aload_n 2, 1) := by decide +kernel
theorem dL_law_521 : decode cL_law 521 = .ok (.aload_n 0, 1) := by decide +kernel
theorem dL_law_522 : decode cL_law 522 = .ok (.iload_n 3, 1) := by decide +kernel
theorem dL_law_523 : decode cL_law 523 = .ok (.iconst 1, 1) := by decide +kernel
theorem dL_law_524 : decode cL_law 524 = .ok (.iadd, 1) := by decide +kernel
theorem dL_law_525 : decode cL_law 525 = .ok (.iaload, 1) := by decide +kernel
theorem dL_law_526 : decode cL_law 526 = .ok (.aload_n 0, 1) := by decide +kernel
theorem dL_law_527 : decode cL_law 527 = .ok (.iload_n 3, 1) := by decide +kernel
theorem dL_law_528 : decode cL_law 528 = .ok (.iconst 2, 1) := by decide +kernel
theorem dL_law_529 : decode cL_law 529 = .ok (.iadd, 1) := by decide +kernel
theorem dL_law_530 : decode cL_law 530 = .ok (.iaload, 1) := by decide +kernel
theorem dL_law_531 : decode cL_law 531 = .ok (.aload_n 0, 1) := by decide +kernel
theorem dL_law_532 : decode cL_law 532 = .ok (.iload_n 3, 1) := by decide +kernel
theorem dL_law_533 : decode cL_law 533 = .ok (.iconst 3, 1) := by decide +kernel
theorem dL_law_534 : decode cL_law 534 = .ok (.iadd, 1) := by decide +kernel
theorem dL_law_535 : decode cL_law 535 = .ok (.iaload, 1) := by decide +kernel
theorem dL_law_536 : decode cL_law 536 = .ok (.invokevirtual 51, 3) := by decide +kernel
theorem dL_law_539 : decode cL_law 539 = .ok (.if_icmp .eq 625, 3) := by decide +kernel
theorem dL_law_542 : decode cL_law 542 = .ok (.iconst 0, 1) := by decide +kernel
theorem dL_law_543 : decode cL_law 543 = .ok (.ireturn, 1) := by decide +kernel
theorem dL_law_544 : decode cL_law 544 = .ok (.aload_n 1, 1) := by decide +kernel
theorem dL_law_545 : decode cL_law 545 = .ok (.aload_n 0, 1) := by decide +kernel
theorem dL_law_546 : decode cL_law 546 = .ok (.iload_n 3, 1) := by decide +kernel
theorem dL_law_547 : decode cL_law 547 = .ok (.iconst 1, 1) := by decide +kernel
theorem dL_law_548 : decode cL_law 548 = .ok (.iadd, 1) := by decide +kernel
theorem dL_law_549 : decode cL_law 549 = .ok (.iaload, 1) := by decide +kernel
theorem dL_law_550 : decode cL_law 550 = .ok (.aload_n 0, 1) := by decide +kernel
theorem dL_law_551 : decode cL_law 551 = .ok (.iload_n 3, 1) := by decide +kernel
theorem dL_law_552 : decode cL_law 552 = .ok (.iconst 2, 1) := by decide +kernel
theorem dL_law_553 : decode cL_law 553 = .ok (.iadd, 1) := by decide +kernel
theorem dL_law_554 : decode cL_law 554 = .ok (.iaload, 1) := by decide +kernel
theorem dL_law_555 : decode cL_law 555 = .ok (.invokevirtual 52, 3) := by decide +kernel
theorem dL_law_558 : decode cL_law 558 = .ok (.aload_n 2, 1) := by decide +kernel
theorem dL_law_559 : decode cL_law 559 = .ok (.aload_n 0, 1) := by decide +kernel
theorem dL_law_560 : decode cL_law 560 = .ok (.iload_n 3, 1) := by decide +kernel
theorem dL_law_561 : decode cL_law 561 = .ok (.iconst 1, 1) := by decide +kernel
theorem dL_law_562 : decode cL_law 562 = .ok (.iadd, 1) := by decide +kernel
theorem dL_law_563 : decode cL_law 563 = .ok (.iaload, 1) := by decide +kernel
theorem dL_law_564 : decode cL_law 564 = .ok (.aload_n 0, 1) := by decide +kernel
theorem dL_law_565 : decode cL_law 565 = .ok (.iload_n 3, 1) := by decide +kernel
theorem dL_law_566 : decode cL_law 566 = .ok (.iconst 2, 1) := by decide +kernel
theorem dL_law_567 : decode cL_law 567 = .ok (.iadd, 1) := by decide +kernel
theorem dL_law_568 : decode cL_law 568 = .ok (.iaload, 1) := by decide +kernel
theorem dL_law_569 : decode cL_law 569 = .ok (.invokevirtual 55, 3) := by decide +kernel
theorem dL_law_572 : decode cL_law 572 = .ok (.if_icmp .eq 592, 3) := by decide +kernel
theorem dL_law_575 : decode cL_law 575 = .ok (.iconst 0, 1) := by decide +kernel
theorem dL_law_576 : decode cL_law 576 = .ok (.ireturn, 1) := by decide +kernel
theorem dL_law_577 : decode cL_law 577 = .ok (.aload_n 1, 1) := by decide +kernel
theorem dL_law_578 : decode cL_law 578 = .ok (.aload_n 0, 1) := by decide +kernel
theorem dL_law_579 : decode cL_law 579 = .ok (.iload_n 3, 1) := by decide +kernel
theorem dL_law_580 : decode cL_law 580 = .ok (.iconst 1, 1) := by decide +kernel
theorem dL_law_581 : decode cL_law 581 = .ok (.iadd, 1) := by decide +kernel
theorem dL_law_582 : decode cL_law 582 = .ok (.iaload, 1) := by decide +kernel
theorem dL_law_583 : decode cL_law 583 = .ok (.aload_n 0, 1) := by decide +kernel
theorem dL_law_584 : decode cL_law 584 = .ok (.iload_n 3, 1) := by decide +kernel
theorem dL_law_585 : decode cL_law 585 = .ok (.iconst 2, 1) := by decide +kernel
theorem dL_law_586 : decode cL_law 586 = .ok (.iadd, 1) := by decide +kernel
theorem dL_law_587 : decode cL_law 587 = .ok (.iaload, 1) := by decide +kernel
theorem dL_law_588 : decode cL_law 588 = .ok (.invokevirtual 56, 3) := by decide +kernel
theorem dL_law_591 : decode cL_law 591 = .ok (.aload_n 2, 1) := by decide +kernel
theorem dL_law_592 : decode cL_law 592 = .ok (.aload_n 0, 1) := by decide +kernel
theorem dL_law_593 : decode cL_law 593 = .ok (.iload_n 3, 1) := by decide +kernel
theorem dL_law_594 : decode cL_law 594 = .ok (.iconst 1, 1) := by decide +kernel
theorem dL_law_595 : decode cL_law 595 = .ok (.iadd, 1) := by decide +kernel
theorem dL_law_596 : decode cL_law 596 = .ok (.iaload, 1) := by decide +kernel
theorem dL_law_597 : decode cL_law 597 = .ok (.aload_n 0, 1) := by decide +kernel
theorem dL_law_598 : decode cL_law 598 = .ok (.iload_n 3, 1) := by decide +kernel
theorem dL_law_599 : decode cL_law 599 = .ok (.iconst 2, 1) := by decide +kernel
theorem dL_law_600 : decode cL_law 600 = .ok (.iadd, 1) := by decide +kernel
theorem dL_law_601 : decode cL_law 601 = .ok (.iaload, 1) := by decide +kernel
theorem dL_law_602 : decode cL_law 602 = .ok (.invokevirtual 59, 3) := by decide +kernel
theorem dL_law_605 : decode cL_law 605 = .ok (.if_icmp .eq 559, 3) := by decide +kernel
theorem dL_law_608 : decode cL_law 608 = .ok (.iconst 0, 1) := by decide +kernel
theorem dL_law_609 : decode cL_law 609 = .ok (.ireturn, 1) := by decide +kernel
theorem dL_law_610 : decode cL_law 610 = .ok (.aload_n 1, 1) := by decide +kernel
theorem dL_law_611 : decode cL_law 611 = .ok (.aload_n 0, 1) := by decide +kernel
theorem dL_law_612 : decode cL_law 612 = .ok (.iload_n 3, 1) := by decide +kernel
theorem dL_law_613 : decode cL_law 613 = .ok (.iconst 1, 1) := by decide +kernel
theorem dL_law_614 : decode cL_law 614 = .ok (.iadd, 1) := by decide +kernel
theorem dL_law_615 : decode cL_law 615 = .ok (.iaload, 1) := by decide +kernel
theorem dL_law_616 : decode cL_law 616 = .ok (.aload_n 0, 1) := by decide +kernel
theorem dL_law_617 : decode cL_law 617 = .ok (.iload_n 3, 1) := by decide +kernel
theorem dL_law_618 : decode cL_law 618 = .ok (.iconst 2, 1) := by decide +kernel
theorem dL_law_619 : decode cL_law 619 = .ok (.iadd, 1) := by decide +kernel
theorem dL_law_620 : decode cL_law 620 = .ok (.iaload, 1) := by decide +kernel
theorem dL_law_621 : decode cL_law 621 = .ok (.invokevirtual 60, 3) := by decide +kernel
theorem dL_law_624 : decode cL_law 624 = .ok (.aload_n 2, 1) := by decide +kernel
theorem dL_law_625 : decode cL_law 625 = .ok (.aload_n 0, 1) := by decide +kernel
theorem dL_law_626 : decode cL_law 626 = .ok (.iload_n 3, 1) := by decide +kernel
theorem dL_law_627 : decode cL_law 627 = .ok (.iconst 1, 1) := by decide +kernel
theorem dL_law_628 : decode cL_law 628 = .ok (.iadd, 1) := by decide +kernel
theorem dL_law_629 : decode cL_law 629 = .ok (.iaload, 1) := by decide +kernel
theorem dL_law_630 : decode cL_law 630 = .ok (.aload_n 0, 1) := by decide +kernel
theorem dL_law_631 : decode cL_law 631 = .ok (.iload_n 3, 1) := by decide +kernel
theorem dL_law_632 : decode cL_law 632 = .ok (.iconst 2, 1) := by decide +kernel
theorem dL_law_633 : decode cL_law 633 = .ok (.iadd, 1) := by decide +kernel
theorem dL_law_634 : decode cL_law 634 = .ok (.iaload, 1) := by decide +kernel
theorem dL_law_635 : decode cL_law 635 = .ok (.invokevirtual 63, 3) := by decide +kernel
theorem dL_law_638 : decode cL_law 638 = .ok (.if_icmp .eq 526, 3) := by decide +kernel
theorem dL_law_641 : decode cL_law 641 = .ok (.iconst 0, 1) := by decide +kernel
theorem dL_law_642 : decode cL_law 642 = .ok (.ireturn, 1) := by decide +kernel
theorem dL_law_643 : decode cL_law 643 = .ok (.aload_n 1, 1) := by decide +kernel
theorem dL_law_644 : decode cL_law 644 = .ok (.aload_n 0, 1) := by decide +kernel
theorem dL_law_645 : decode cL_law 645 = .ok (.iload_n 3, 1) := by decide +kernel
theorem dL_law_646 : decode cL_law 646 = .ok (.iconst 1, 1) := by decide +kernel
theorem dL_law_647 : decode cL_law 647 = .ok (.iadd, 1) := by decide +kernel
theorem dL_law_648 : decode cL_law 648 = .ok (.iaload, 1) := by decide +kernel
theorem dL_law_649 : decode cL_law 649 = .ok (.invokevirtual 64, 3) := by decide +kernel
theorem dL_law_652 : decode cL_law 652 = .ok (.aload_n 2, 1) := by decide +kernel
theorem dL_law_653 : decode cL_law 653 = .ok (.aload_n 0, 1) := by decide +kernel
theorem dL_law_654 : decode cL_law 654 = .ok (.iload_n 3, 1) := by decide +kernel
theorem dL_law_655 : decode cL_law 655 = .ok (.iconst 1, 1) := by decide +kernel
theorem dL_law_656 : decode cL_law 656 = .ok (.iadd, 1) := by decide +kernel
theorem dL_law_657 : decode cL_law 657 = .ok (.iaload, 1) := by decide +kernel
theorem dL_law_658 : decode cL_law 658 = .ok (.invokevirtual 67, 3) := by decide +kernel
theorem dL_law_661 : decode cL_law 661 = .ok (.if_icmp .eq 503, 3) := by decide +kernel
theorem dL_law_664 : decode cL_law 664 = .ok (.iconst 0, 1) := by decide +kernel
theorem dL_law_665 : decode cL_law 665 = .ok (.ireturn, 1) := by decide +kernel
theorem dL_law_666 : decode cL_law 666 = .ok (.aload_n 1, 1) := by decide +kernel
theorem dL_law_667 : decode cL_law 667 = .ok (.aload_n 0, 1) := by decide +kernel
theorem dL_law_668 : decode cL_law 668 = .ok (.iload_n 3, 1) := by decide +kernel
theorem dL_law_669 : decode cL_law 669 = .ok (.iconst 1, 1) := by decide +kernel
theorem dL_law_670 : decode cL_law 670 = .ok (.iadd, 1) := by decide +kernel
theorem dL_law_671 : decode cL_law 671 = .ok (.iaload, 1) := by decide +kernel
theorem dL_law_672 : decode cL_law 672 = .ok (.aload_n 0, 1) := by decide +kernel
theorem dL_law_673 : decode cL_law 673 = .ok (.iload_n 3, 1) := by decide +kernel
theorem dL_law_674 : decode cL_law 674 = .ok (.iconst 2, 1) := by decide +kernel
theorem dL_law_675 : decode cL_law 675 = .ok (.iadd, 1) := by decide +kernel
theorem dL_law_676 : decode cL_law 676 = .ok (.iaload, 1) := by decide +kernel
theorem dL_law_677 : decode cL_law 677 = .ok (.aload_n 0, 1) := by decide +kernel
theorem dL_law_678 : decode cL_law 678 = .ok (.iload_n 3, 1) := by decide +kernel
theorem dL_law_679 : decode cL_law 679 = .ok (.iconst 3, 1) := by decide +kernel
theorem dL_law_680 : decode cL_law 680 = .ok (.iadd, 1) := by decide +kernel
theorem dL_law_681 : decode cL_law 681 = .ok (.iaload, 1) := by decide +kernel
theorem dL_law_682 : decode cL_law 682 = .ok (.invokevirtual 68, 3) := by decide +kernel
theorem dL_law_685 : decode cL_law 685 = .ok (.aload_n 2, 1) := by decide +kernel
theorem dL_law_686 : decode cL_law 686 = .ok (.aload_n 0, 1) := by decide +kernel
theorem dL_law_687 : decode cL_law 687 = .ok (.iload_n 3, 1) := by decide +kernel
theorem dL_law_688 : decode cL_law 688 = .ok (.iconst 1, 1) := by decide +kernel
theorem dL_law_689 : decode cL_law 689 = .ok (.iadd, 1) := by decide +kernel
theorem dL_law_690 : decode cL_law 690 = .ok (.iaload, 1) := by decide +kernel
theorem dL_law_691 : decode cL_law 691 = .ok (.aload_n 0, 1) := by decide +kernel
theorem dL_law_692 : decode cL_law 692 = .ok (.iload_n 3, 1) := by decide +kernel
theorem dL_law_693 : decode cL_law 693 = .ok (.iconst 2, 1) := by decide +kernel
theorem dL_law_694 : decode cL_law 694 = .ok (.iadd, 1) := by decide +kernel
theorem dL_law_695 : decode cL_law 695 = .ok (.iaload, 1) := by decide +kernel
theorem dL_law_696 : decode cL_law 696 = .ok (.aload_n 0, 1) := by decide +kernel
theorem dL_law_697 : decode cL_law 697 = .ok (.iload_n 3, 1) := by decide +kernel
theorem dL_law_698 : decode cL_law 698 = .ok (.iconst 3, 1) := by decide +kernel
theorem dL_law_699 : decode cL_law 699 = .ok (.iadd, 1) := by decide +kernel
theorem dL_law_700 : decode cL_law 700 = .ok (.iaload, 1) := by decide +kernel
theorem dL_law_701 : decode cL_law 701 = .ok (.invokevirtual 71, 3) := by decide +kernel
theorem dL_law_704 : decode cL_law 704 = .ok (.if_icmp .eq 460, 3) := by decide +kernel
theorem dL_law_707 : decode cL_law 707 = .ok (.iconst 0, 1) := by decide +kernel
theorem dL_law_708 : decode cL_law 708 = .ok (.ireturn, 1) := by decide +kernel
theorem dL_law_709 : decode cL_law 709 = .ok (.aload_n 1, 1) := by decide +kernel
theorem dL_law_710 : decode cL_law 710 = .ok (.aload_n 0, 1) := by decide +kernel
theorem dL_law_711 : decode cL_law 711 = .ok (.iload_n 3, 1) := by decide +kernel
theorem dL_law_712 : decode cL_law 712 = .ok (.iconst 1, 1) := by decide +kernel
theorem dL_law_713 : decode cL_law 713 = .ok (.iadd, 1) := by decide +kernel
theorem dL_law_714 : decode cL_law 714 = .ok (.iaload, 1) := by decide +kernel
theorem dL_law_715 : decode cL_law 715 = .ok (.aload_n 0, 1) := by decide +kernel
theorem dL_law_716 : decode cL_law 716 = .ok (.iload_n 3, 1) := by decide +kernel
theorem dL_law_717 : decode cL_law 717 = .ok (.iconst 2, 1) := by decide +kernel
theorem dL_law_718 : decode cL_law 718 = .ok (.iadd, 1) := by decide +kernel
theorem dL_law_719 : decode cL_law 719 = .ok (.iaload, 1) := by decide +kernel
theorem dL_law_720 : decode cL_law 720 = .ok (.aload_n 0, 1) := by decide +kernel
theorem dL_law_721 : decode cL_law 721 = .ok (.iload_n 3, 1) := by decide +kernel
theorem dL_law_722 : decode cL_law 722 = .ok (.iconst 3, 1) := by decide +kernel
theorem dL_law_723 : decode cL_law 723 = .ok (.iadd, 1) := by decide +kernel
theorem dL_law_724 : decode cL_law 724 = .ok (.iaload, 1) := by decide +kernel
theorem dL_law_725 : decode cL_law 725 = .ok (.invokevirtual 72, 3) := by decide +kernel
theorem dL_law_728 : decode cL_law 728 = .ok (.aload_n 2, 1) := by decide +kernel
theorem dL_law_729 : decode cL_law 729 = .ok (.aload_n 0, 1) := by decide +kernel
theorem dL_law_730 : decode cL_law 730 = .ok (.iload_n 3, 1) := by decide +kernel
theorem dL_law_731 : decode cL_law 731 = .ok (.iconst 1, 1) := by decide +kernel
theorem dL_law_732 : decode cL_law 732 = .ok (.iadd, 1) := by decide +kernel
theorem dL_law_733 : decode cL_law 733 = .ok (.iaload, 1) := by decide +kernel
theorem dL_law_734 : decode cL_law 734 = .ok (.aload_n 0, 1) := by decide +kernel
theorem dL_law_735 : decode cL_law 735 = .ok (.iload_n 3, 1) := by decide +kernel
theorem dL_law_736 : decode cL_law 736 = .ok (.iconst 2, 1) := by decide +kernel
theorem dL_law_737 : decode cL_law 737 = .ok (.iadd, 1) := by decide +kernel
theorem dL_law_738 : decode cL_law 738 = .ok (.iaload, 1) := by decide +kernel
theorem dL_law_739 : decode cL_law 739 = .ok (.aload_n 0, 1) := by decide +kernel
theorem dL_law_740 : decode cL_law 740 = .ok (.iload_n 3, 1) := by decide +kernel
theorem dL_law_741 : decode cL_law 741 = .ok (.iconst 3, 1) := by decide +kernel
theorem dL_law_742 : decode cL_law 742 = .ok (.iadd, 1) := by decide +kernel
theorem dL_law_743 : decode cL_law 743 = .ok (.iaload, 1) := by decide +kernel
theorem dL_law_744 : decode cL_law 744 = .ok (.invokevirtual 75, 3) := by decide +kernel
theorem dL_law_747 : decode cL_law 747 = .ok (.if_icmp .eq 417, 3) := by decide +kernel
theorem dL_law_750 : decode cL_law 750 = .ok (.iconst 0, 1) := by decide +kernel
theorem dL_law_751 : decode cL_law 751 = .ok (.ireturn, 1) := by decide +kernel
theorem dL_law_752 : decode cL_law 752 = .ok (.aload_n 1, 1) := by decide +kernel
theorem dL_law_753 : decode cL_law 753 = .ok (.aload_n 0, 1) := by decide +kernel
theorem dL_law_754 : decode cL_law 754 = .ok (.iload_n 3, 1) := by decide +kernel
theorem dL_law_755 : decode cL_law 755 = .ok (.iconst 1, 1) := by decide +kernel
theorem dL_law_756 : decode cL_law 756 = .ok (.iadd, 1) := by decide +kernel
theorem dL_law_757 : decode cL_law 757 = .ok (.iaload, 1) := by decide +kernel
theorem dL_law_758 : decode cL_law 758 = .ok (.aload_n 0, 1) := by decide +kernel
theorem dL_law_759 : decode cL_law 759 = .ok (.iload_n 3, 1) := by decide +kernel
theorem dL_law_760 : decode cL_law 760 = .ok (.iconst 2, 1) := by decide +kernel
theorem dL_law_761 : decode cL_law 761 = .ok (.iadd, 1) := by decide +kernel
theorem dL_law_762 : decode cL_law 762 = .ok (.iaload, 1) := by decide +kernel
theorem dL_law_763 : decode cL_law 763 = .ok (.aload_n 0, 1) := by decide +kernel
theorem dL_law_764 : decode cL_law 764 = .ok (.iload_n 3, 1) := by decide +kernel
theorem dL_law_765 : decode cL_law 765 = .ok (.iconst 3, 1) := by decide +kernel
theorem dL_law_766 : decode cL_law 766 = .ok (.iadd, 1) := by decide +kernel
theorem dL_law_767 : decode cL_law 767 = .ok (.iaload, 1) := by decide +kernel
theorem dL_law_768 : decode cL_law 768 = .ok (.invokevirtual 76, 3) := by decide +kernel
theorem dL_law_771 : decode cL_law 771 = .ok (.aload_n 2, 1) := by decide +kernel
theorem dL_law_772 : decode cL_law 772 = .ok (.aload_n 0, 1) := by decide +kernel
theorem dL_law_773 : decode cL_law 773 = .ok (.iload_n 3, 1) := by decide +kernel
theorem dL_law_774 : decode cL_law 774 = .ok (.iconst 1, 1) := by decide +kernel
theorem dL_law_775 : decode cL_law 775 = .ok (.iadd, 1) := by decide +kernel
theorem dL_law_776 : decode cL_law 776 = .ok (.iaload, 1) := by decide +kernel
theorem dL_law_777 : decode cL_law 777 = .ok (.aload_n 0, 1) := by decide +kernel
theorem dL_law_778 : decode cL_law 778 = .ok (.iload_n 3, 1) := by decide +kernel
theorem dL_law_779 : decode cL_law 779 = .ok (.iconst 2, 1) := by decide +kernel
theorem dL_law_780 : decode cL_law 780 = .ok (.iadd, 1) := by decide +kernel
theorem dL_law_781 : decode cL_law 781 = .ok (.iaload, 1) := by decide +kernel
theorem dL_law_782 : decode cL_law 782 = .ok (.aload_n 0, 1) := by decide +kernel
theorem dL_law_783 : decode cL_law 783 = .ok (.iload_n 3, 1) := by decide +kernel
theorem dL_law_784 : decode cL_law 784 = .ok (.iconst 3, 1) := by decide +kernel
theorem dL_law_785 : decode cL_law 785 = .ok (.iadd, 1) := by decide +kernel
theorem dL_law_786 : decode cL_law 786 = .ok (.iaload, 1) := by decide +kernel
theorem dL_law_787 : decode cL_law 787 = .ok (.invokevirtual 79, 3) := by decide +kernel
theorem dL_law_790 : decode cL_law 790 = .ok (.if_icmp .eq 374, 3) := by decide +kernel
theorem dL_law_793 : decode cL_law 793 = .ok (.iconst 0, 1) := by decide +kernel
theorem dL_law_794 : decode cL_law 794 = .ok (.ireturn, 1) := by decide +kernel
theorem dL_law_795 : decode cL_law 795 = .ok (.aload_n 1, 1) := by decide +kernel
theorem dL_law_796 : decode cL_law 796 = .ok (.aload_n 0, 1) := by decide +kernel
theorem dL_law_797 : decode cL_law 797 = .ok (.iload_n 3, 1) := by decide +kernel
theorem dL_law_798 : decode cL_law 798 = .ok (.iconst 1, 1) := by decide +kernel
theorem dL_law_799 : decode cL_law 799 = .ok (.iadd, 1) := by decide +kernel
theorem dL_law_800 : decode cL_law 800 = .ok (.iaload, 1) := by decide +kernel
theorem dL_law_801 : decode cL_law 801 = .ok (.aload_n 0, 1) := by decide +kernel
theorem dL_law_802 : decode cL_law 802 = .ok (.iload_n 3, 1) := by decide +kernel
theorem dL_law_803 : decode cL_law 803 = .ok (.iconst 2, 1) := by decide +kernel
theorem dL_law_804 : decode cL_law 804 = .ok (.iadd, 1) := by decide +kernel
theorem dL_law_805 : decode cL_law 805 = .ok (.iaload, 1) := by decide +kernel
theorem dL_law_806 : decode cL_law 806 = .ok (.ifCond .eq 7, 3) := by decide +kernel
theorem dL_law_809 : decode cL_law 809 = .ok (.iconst 1, 1) := by decide +kernel
theorem dL_law_810 : decode cL_law 810 = .ok (.goto 4, 3) := by decide +kernel
theorem dL_law_813 : decode cL_law 813 = .ok (.iconst 0, 1) := by decide +kernel
theorem dL_law_814 : decode cL_law 814 = .ok (.invokevirtual 80, 3) := by decide +kernel
theorem dL_law_817 : decode cL_law 817 = .ok (.aload_n 2, 1) := by decide +kernel
theorem dL_law_818 : decode cL_law 818 = .ok (.aload_n 0, 1) := by decide +kernel
theorem dL_law_819 : decode cL_law 819 = .ok (.iload_n 3, 1) := by decide +kernel
theorem dL_law_820 : decode cL_law 820 = .ok (.iconst 1, 1) := by decide +kernel
theorem dL_law_821 : decode cL_law 821 = .ok (.iadd, 1) := by decide +kernel
theorem dL_law_822 : decode cL_law 822 = .ok (.iaload, 1) := by decide +kernel
theorem dL_law_823 : decode cL_law 823 = .ok (.aload_n 0, 1) := by decide +kernel
theorem dL_law_824 : decode cL_law 824 = .ok (.iload_n 3, 1) := by decide +kernel
theorem dL_law_825 : decode cL_law 825 = .ok (.iconst 2, 1) := by decide +kernel
theorem dL_law_826 : decode cL_law 826 = .ok (.iadd, 1) := by decide +kernel
theorem dL_law_827 : decode cL_law 827 = .ok (.iaload, 1) := by decide +kernel
theorem dL_law_828 : decode cL_law 828 = .ok (.ifCond .eq 7, 3) := by decide +kernel
theorem dL_law_831 : decode cL_law 831 = .ok (.iconst 1, 1) := by decide +kernel
theorem dL_law_832 : decode cL_law 832 = .ok (.goto 4, 3) := by decide +kernel
theorem dL_law_835 : decode cL_law 835 = .ok (.iconst 0, 1) := by decide +kernel
theorem dL_law_836 : decode cL_law 836 = .ok (.invokevirtual 84, 3) := by decide +kernel
theorem dL_law_839 : decode cL_law 839 = .ok (.if_icmp .eq 325, 3) := by decide +kernel
theorem dL_law_842 : decode cL_law 842 = .ok (.iconst 0, 1) := by decide +kernel
theorem dL_law_843 : decode cL_law 843 = .ok (.ireturn, 1) := by decide +kernel
theorem dL_law_844 : decode cL_law 844 = .ok (.aload_n 1, 1) := by decide +kernel
theorem dL_law_845 : decode cL_law 845 = .ok (.aload_n 0, 1) := by decide +kernel
theorem dL_law_846 : decode cL_law 846 = .ok (.iload_n 3, 1) := by decide +kernel
theorem dL_law_847 : decode cL_law 847 = .ok (.iconst 1, 1) := by decide +kernel
theorem dL_law_848 : decode cL_law 848 = .ok (.iadd, 1) := by decide +kernel
theorem dL_law_849 : decode cL_law 849 = .ok (.iaload, 1) := by decide +kernel
theorem dL_law_850 : decode cL_law 850 = .ok (.invokevirtual 85, 3) := by decide +kernel
theorem dL_law_853 : decode cL_law 853 = .ok (.aload_n 2, 1) := by decide +kernel
theorem dL_law_854 : decode cL_law 854 = .ok (.aload_n 0, 1) := by decide +kernel
theorem dL_law_855 : decode cL_law 855 = .ok (.iload_n 3, 1) := by decide +kernel
theorem dL_law_856 : decode cL_law 856 = .ok (.iconst 1, 1) := by decide +kernel
theorem dL_law_857 : decode cL_law 857 = .ok (.iadd, 1) := by decide +kernel
theorem dL_law_858 : decode cL_law 858 = .ok (.iaload, 1) := by decide +kernel
theorem dL_law_859 : decode cL_law 859 = .ok (.invokevirtual 88, 3) := by decide +kernel
theorem dL_law_862 : decode cL_law 862 = .ok (.if_icmp .eq 302, 3) := by decide +kernel
theorem dL_law_865 : decode cL_law 865 = .ok (.iconst 0, 1) := by decide +kernel
theorem dL_law_866 : decode cL_law 866 = .ok (.ireturn, 1) := by decide +kernel
theorem dL_law_867 : decode cL_law 867 = .ok (.aload_n 1, 1) := by decide +kernel
theorem dL_law_868 : decode cL_law 868 = .ok (.aload_n 0, 1) := by decide +kernel
theorem dL_law_869 : decode cL_law 869 = .ok (.iload_n 3, 1) := by decide +kernel
theorem dL_law_870 : decode cL_law 870 = .ok (.iconst 1, 1) := by decide +kernel
theorem dL_law_871 : decode cL_law 871 = .ok (.iadd, 1) := by decide +kernel
theorem dL_law_872 : decode cL_law 872 = .ok (.iaload, 1) := by decide +kernel
theorem dL_law_873 : decode cL_law 873 = .ok (.aload_n 0, 1) := by decide +kernel
theorem dL_law_874 : decode cL_law 874 = .ok (.iload_n 3, 1) := by decide +kernel
theorem dL_law_875 : decode cL_law 875 = .ok (.iconst 2, 1) := by decide +kernel
theorem dL_law_876 : decode cL_law 876 = .ok (.iadd, 1) := by decide +kernel
theorem dL_law_877 : decode cL_law 877 = .ok (.iaload, 1) := by decide +kernel
theorem dL_law_878 : decode cL_law 878 = .ok (.aload_n 0, 1) := by decide +kernel
theorem dL_law_879 : decode cL_law 879 = .ok (.iload_n 3, 1) := by decide +kernel
theorem dL_law_880 : decode cL_law 880 = .ok (.iconst 3, 1) := by decide +kernel
theorem dL_law_881 : decode cL_law 881 = .ok (.iadd, 1) := by decide +kernel
theorem dL_law_882 : decode cL_law 882 = .ok (.iaload, 1) := by decide +kernel
theorem dL_law_883 : decode cL_law 883 = .ok (.invokevirtual 89, 3) := by decide +kernel
theorem dL_law_886 : decode cL_law 886 = .ok (.aload_n 2, 1) := by decide +kernel
theorem dL_law_887 : decode cL_law 887 = .ok (.aload_n 0, 1) := by decide +kernel
theorem dL_law_888 : decode cL_law 888 = .ok (.iload_n 3, 1) := by decide +kernel
theorem dL_law_889 : decode cL_law 889 = .ok (.iconst 1, 1) := by decide +kernel
theorem dL_law_890 : decode cL_law 890 = .ok (.iadd, 1) := by decide +kernel
theorem dL_law_891 : decode cL_law 891 = .ok (.iaload, 1) := by decide +kernel
theorem dL_law_892 : decode cL_law 892 = .ok (.aload_n 0, 1) := by decide +kernel
theorem dL_law_893 : decode cL_law 893 = .ok (.iload_n 3, 1) := by decide +kernel
theorem dL_law_894 : decode cL_law 894 = .ok (.iconst 2, 1) := by decide +kernel
theorem dL_law_895 : decode cL_law 895 = .ok (.iadd, 1) := by decide +kernel
theorem dL_law_896 : decode cL_law 896 = .ok (.iaload, 1) := by decide +kernel
theorem dL_law_897 : decode cL_law 897 = .ok (.aload_n 0, 1) := by decide +kernel
theorem dL_law_898 : decode cL_law 898 = .ok (.iload_n 3, 1) := by decide +kernel
theorem dL_law_899 : decode cL_law 899 = .ok (.iconst 3, 1) := by decide +kernel
theorem dL_law_900 : decode cL_law 900 = .ok (.iadd, 1) := by decide +kernel
theorem dL_law_901 : decode cL_law 901 = .ok (.iaload, 1) := by decide +kernel
theorem dL_law_902 : decode cL_law 902 = .ok (.invokevirtual 92, 3) := by decide +kernel
theorem dL_law_905 : decode cL_law 905 = .ok (.if_icmp .eq 259, 3) := by decide +kernel
theorem dL_law_908 : decode cL_law 908 = .ok (.iconst 0, 1) := by decide +kernel
theorem dL_law_909 : decode cL_law 909 = .ok (.ireturn, 1) := by decide +kernel
theorem dL_law_910 : decode cL_law 910 = .ok (.aload_n 1, 1) := by decide +kernel
theorem dL_law_911 : decode cL_law 911 = .ok (.aload_n 0, 1) := by decide +kernel
theorem dL_law_912 : decode cL_law 912 = .ok (.iload_n 3, 1) := by decide +kernel
theorem dL_law_913 : decode cL_law 913 = .ok (.iconst 1, 1) := by decide +kernel
theorem dL_law_914 : decode cL_law 914 = .ok (.iadd, 1) := by decide +kernel
theorem dL_law_915 : decode cL_law 915 = .ok (.iaload, 1) := by decide +kernel
theorem dL_law_916 : decode cL_law 916 = .ok (.aload_n 0, 1) := by decide +kernel
theorem dL_law_917 : decode cL_law 917 = .ok (.iload_n 3, 1) := by decide +kernel
theorem dL_law_918 : decode cL_law 918 = .ok (.iconst 2, 1) := by decide +kernel
theorem dL_law_919 : decode cL_law 919 = .ok (.iadd, 1) := by decide +kernel
theorem dL_law_920 : decode cL_law 920 = .ok (.iaload, 1) := by decide +kernel
theorem dL_law_921 : decode cL_law 921 = .ok (.invokevirtual 93, 3) := by decide +kernel
theorem dL_law_924 : decode cL_law 924 = .ok (.aload_n 2, 1) := by decide +kernel
theorem dL_law_925 : decode cL_law 925 = .ok (.aload_n 0, 1) := by decide +kernel
theorem dL_law_926 : decode cL_law 926 = .ok (.iload_n 3, 1) := by decide +kernel
theorem dL_law_927 : decode cL_law 927 = .ok (.iconst 1, 1) := by decide +kernel
theorem dL_law_928 : decode cL_law 928 = .ok (.iadd, 1) := by decide +kernel
theorem dL_law_929 : decode cL_law 929 = .ok (.iaload, 1) := by decide +kernel
theorem dL_law_930 : decode cL_law 930 = .ok (.aload_n 0, 1) := by decide +kernel
theorem dL_law_931 : decode cL_law 931 = .ok (.iload_n 3, 1) := by decide +kernel
theorem dL_law_932 : decode cL_law 932 = .ok (.iconst 2, 1) := by decide +kernel
theorem dL_law_933 : decode cL_law 933 = .ok (.iadd, 1) := by decide +kernel
theorem dL_law_934 : decode cL_law 934 = .ok (.iaload, 1) := by decide +kernel
theorem dL_law_935 : decode cL_law 935 = .ok (.invokevirtual 96, 3) := by decide +kernel
theorem dL_law_938 : decode cL_law 938 = .ok (.if_icmp .eq 226, 3) := by decide +kernel
theorem dL_law_941 : decode cL_law 941 = .ok (.iconst 0, 1) := by decide +kernel
theorem dL_law_942 : decode cL_law 942 = .ok (.ireturn, 1) := by decide +kernel
theorem dL_law_943 : decode cL_law 943 = .ok (.aload_n 1, 1) := by decide +kernel
theorem dL_law_944 : decode cL_law 944 = .ok (.aload_n 0, 1) := by decide +kernel
theorem dL_law_945 : decode cL_law 945 = .ok (.iload_n 3, 1) := by decide +kernel
theorem dL_law_946 : decode cL_law 946 = .ok (.iconst 1, 1) := by decide +kernel
theorem dL_law_947 : decode cL_law 947 = .ok (.iadd, 1) := by decide +kernel
theorem dL_law_948 : decode cL_law 948 = .ok (.iaload, 1) := by decide +kernel
theorem dL_law_949 : decode cL_law 949 = .ok (.invokevirtual 97, 3) := by decide +kernel
theorem dL_law_952 : decode cL_law 952 = .ok (.aload_n 2, 1) := by decide +kernel
theorem dL_law_953 : decode cL_law 953 = .ok (.aload_n 0, 1) := by decide +kernel
theorem dL_law_954 : decode cL_law 954 = .ok (.iload_n 3, 1) := by decide +kernel
theorem dL_law_955 : decode cL_law 955 = .ok (.iconst 1, 1) := by decide +kernel
theorem dL_law_956 : decode cL_law 956 = .ok (.iadd, 1) := by decide +kernel
theorem dL_law_957 : decode cL_law 957 = .ok (.iaload, 1) := by decide +kernel
theorem dL_law_958 : decode cL_law 958 = .ok (.invokevirtual 100, 3) := by decide +kernel
theorem dL_law_961 : decode cL_law 961 = .ok (.if_icmp .eq 203, 3) := by decide +kernel
theorem dL_law_964 : decode cL_law 964 = .ok (.iconst 0, 1) := by decide +kernel
theorem dL_law_965 : decode cL_law 965 = .ok (.ireturn, 1) := by decide +kernel
theorem dL_law_966 : decode cL_law 966 = .ok (.aload_n 1, 1) := by decide +kernel
theorem dL_law_967 : decode cL_law 967 = .ok (.aload_n 0, 1) := by decide +kernel
theorem dL_law_968 : decode cL_law 968 = .ok (.iload_n 3, 1) := by decide +kernel
theorem dL_law_969 : decode cL_law 969 = .ok (.iconst 1, 1) := by decide +kernel
theorem dL_law_970 : decode cL_law 970 = .ok (.iadd, 1) := by decide +kernel
theorem dL_law_971 : decode cL_law 971 = .ok (.iaload, 1) := by decide +kernel
theorem dL_law_972 : decode cL_law 972 = .ok (.aload_n 0, 1) := by decide +kernel
theorem dL_law_973 : decode cL_law 973 = .ok (.iload_n 3, 1) := by decide +kernel
theorem dL_law_974 : decode cL_law 974 = .ok (.iconst 2, 1) := by decide +kernel
theorem dL_law_975 : decode cL_law 975 = .ok (.iadd, 1) := by decide +kernel
theorem dL_law_976 : decode cL_law 976 = .ok (.iaload, 1) := by decide +kernel
theorem dL_law_977 : decode cL_law 977 = .ok (.invokevirtual 101, 3) := by decide +kernel
theorem dL_law_980 : decode cL_law 980 = .ok (.aload_n 2, 1) := by decide +kernel
theorem dL_law_981 : decode cL_law 981 = .ok (.aload_n 0, 1) := by decide +kernel
theorem dL_law_982 : decode cL_law 982 = .ok (.iload_n 3, 1) := by decide +kernel
theorem dL_law_983 : decode cL_law 983 = .ok (.iconst 1, 1) := by decide +kernel
theorem dL_law_984 : decode cL_law 984 = .ok (.iadd, 1) := by decide +kernel
theorem dL_law_985 : decode cL_law 985 = .ok (.iaload, 1) := by decide +kernel
theorem dL_law_986 : decode cL_law 986 = .ok (.aload_n 0, 1) := by decide +kernel
theorem dL_law_987 : decode cL_law 987 = .ok (.iload_n 3, 1) := by decide +kernel
theorem dL_law_988 : decode cL_law 988 = .ok (.iconst 2, 1) := by decide +kernel
theorem dL_law_989 : decode cL_law 989 = .ok (.iadd, 1) := by decide +kernel
theorem dL_law_990 : decode cL_law 990 = .ok (.iaload, 1) := by decide +kernel
theorem dL_law_991 : decode cL_law 991 = .ok (.invokevirtual 104, 3) := by decide +kernel
theorem dL_law_994 : decode cL_law 994 = .ok (.if_icmp .eq 170, 3) := by decide +kernel
theorem dL_law_997 : decode cL_law 997 = .ok (.iconst 0, 1) := by decide +kernel
theorem dL_law_998 : decode cL_law 998 = .ok (.ireturn, 1) := by decide +kernel
theorem dL_law_999 : decode cL_law 999 = .ok (.aload_n 1, 1) := by decide +kernel
theorem dL_law_1000 : decode cL_law 1000 = .ok (.aload_n 0, 1) := by decide +kernel
theorem dL_law_1001 : decode cL_law 1001 = .ok (.iload_n 3, 1) := by decide +kernel
theorem dL_law_1002 : decode cL_law 1002 = .ok (.iconst 1, 1) := by decide +kernel
theorem dL_law_1003 : decode cL_law 1003 = .ok (.iadd, 1) := by decide +kernel
theorem dL_law_1004 : decode cL_law 1004 = .ok (.iaload, 1) := by decide +kernel
theorem dL_law_1005 : decode cL_law 1005 = .ok (.aload_n 0, 1) := by decide +kernel
theorem dL_law_1006 : decode cL_law 1006 = .ok (.iload_n 3, 1) := by decide +kernel
theorem dL_law_1007 : decode cL_law 1007 = .ok (.iconst 2, 1) := by decide +kernel
theorem dL_law_1008 : decode cL_law 1008 = .ok (.iadd, 1) := by decide +kernel
theorem dL_law_1009 : decode cL_law 1009 = .ok (.iaload, 1) := by decide +kernel
theorem dL_law_1010 : decode cL_law 1010 = .ok (.invokevirtual 105, 3) := by decide +kernel
theorem dL_law_1013 : decode cL_law 1013 = .ok (.aload_n 2, 1) := by decide +kernel
theorem dL_law_1014 : decode cL_law 1014 = .ok (.aload_n 0, 1) := by decide +kernel
theorem dL_law_1015 : decode cL_law 1015 = .ok (.iload_n 3, 1) := by decide +kernel
theorem dL_law_1016 : decode cL_law 1016 = .ok (.iconst 1, 1) := by decide +kernel
theorem dL_law_1017 : decode cL_law 1017 = .ok (.iadd, 1) := by decide +kernel
theorem dL_law_1018 : decode cL_law 1018 = .ok (.iaload, 1) := by decide +kernel
theorem dL_law_1019 : decode cL_law 1019 = .ok (.aload_n 0, 1) := by decide +kernel
theorem dL_law_1020 : decode cL_law 1020 = .ok (.iload_n 3, 1) := by decide +kernel
theorem dL_law_1021 : decode cL_law 1021 = .ok (.iconst 2, 1) := by decide +kernel
theorem dL_law_1022 : decode cL_law 1022 = .ok (.iadd, 1) := by decide +kernel
theorem dL_law_1023 : decode cL_law 1023 = .ok (.iaload, 1) := by decide +kernel
theorem dL_law_1024 : decode cL_law 1024 = .ok (.invokevirtual 108, 3) := by decide +kernel
theorem dL_law_1027 : decode cL_law 1027 = .ok (.if_icmp .eq 137, 3) := by decide +kernel
theorem dL_law_1030 : decode cL_law 1030 = .ok (.iconst 0, 1) := by decide +kernel
theorem dL_law_1031 : decode cL_law 1031 = .ok (.ireturn, 1) := by decide +kernel
theorem dL_law_1032 : decode cL_law 1032 = .ok (.aload_n 1, 1) := by decide +kernel
theorem dL_law_1033 : decode cL_law 1033 = .ok (.aload_n 0, 1) := by decide +kernel
theorem dL_law_1034 : decode cL_law 1034 = .ok (.iload_n 3, 1) := by decide +kernel
theorem dL_law_1035 : decode cL_law 1035 = .ok (.iconst 1, 1) := by decide +kernel
theorem dL_law_1036 : decode cL_law 1036 = .ok (.iadd, 1) := by decide +kernel
theorem dL_law_1037 : decode cL_law 1037 = .ok (.iaload, 1) := by decide +kernel
theorem dL_law_1038 : decode cL_law 1038 = .ok (.aload_n 0, 1) := by decide +kernel
theorem dL_law_1039 : decode cL_law 1039 = .ok (.iload_n 3, 1) := by decide +kernel
theorem dL_law_1040 : decode cL_law 1040 = .ok (.iconst 2, 1) := by decide +kernel
theorem dL_law_1041 : decode cL_law 1041 = .ok (.iadd, 1) := by decide +kernel
theorem dL_law_1042 : decode cL_law 1042 = .ok (.iaload, 1) := by decide +kernel
theorem dL_law_1043 : decode cL_law 1043 = .ok (.aload_n 0, 1) := by decide +kernel
theorem dL_law_1044 : decode cL_law 1044 = .ok (.iload_n 3, 1) := by decide +kernel
theorem dL_law_1045 : decode cL_law 1045 = .ok (.iconst 3, 1) := by decide +kernel
theorem dL_law_1046 : decode cL_law 1046 = .ok (.iadd, 1) := by decide +kernel
theorem dL_law_1047 : decode cL_law 1047 = .ok (.iaload, 1) := by decide +kernel
theorem dL_law_1048 : decode cL_law 1048 = .ok (.invokevirtual 109, 3) := by decide +kernel
theorem dL_law_1051 : decode cL_law 1051 = .ok (.aload_n 2, 1) := by decide +kernel
theorem dL_law_1052 : decode cL_law 1052 = .ok (.aload_n 0, 1) := by decide +kernel
theorem dL_law_1053 : decode cL_law 1053 = .ok (.iload_n 3, 1) := by decide +kernel
theorem dL_law_1054 : decode cL_law 1054 = .ok (.iconst 1, 1) := by decide +kernel
theorem dL_law_1055 : decode cL_law 1055 = .ok (.iadd, 1) := by decide +kernel
theorem dL_law_1056 : decode cL_law 1056 = .ok (.iaload, 1) := by decide +kernel
theorem dL_law_1057 : decode cL_law 1057 = .ok (.aload_n 0, 1) := by decide +kernel
theorem dL_law_1058 : decode cL_law 1058 = .ok (.iload_n 3, 1) := by decide +kernel
theorem dL_law_1059 : decode cL_law 1059 = .ok (.iconst 2, 1) := by decide +kernel
theorem dL_law_1060 : decode cL_law 1060 = .ok (.iadd, 1) := by decide +kernel
theorem dL_law_1061 : decode cL_law 1061 = .ok (.iaload, 1) := by decide +kernel
theorem dL_law_1062 : decode cL_law 1062 = .ok (.aload_n 0, 1) := by decide +kernel
theorem dL_law_1063 : decode cL_law 1063 = .ok (.iload_n 3, 1) := by decide +kernel
theorem dL_law_1064 : decode cL_law 1064 = .ok (.iconst 3, 1) := by decide +kernel
theorem dL_law_1065 : decode cL_law 1065 = .ok (.iadd, 1) := by decide +kernel
theorem dL_law_1066 : decode cL_law 1066 = .ok (.iaload, 1) := by decide +kernel
theorem dL_law_1067 : decode cL_law 1067 = .ok (.invokevirtual 112, 3) := by decide +kernel
theorem dL_law_1070 : decode cL_law 1070 = .ok (.if_icmp .eq 94, 3) := by decide +kernel
theorem dL_law_1073 : decode cL_law 1073 = .ok (.iconst 0, 1) := by decide +kernel
theorem dL_law_1074 : decode cL_law 1074 = .ok (.ireturn, 1) := by decide +kernel
theorem dL_law_1075 : decode cL_law 1075 = .ok (.aload_n 1, 1) := by decide +kernel
theorem dL_law_1076 : decode cL_law 1076 = .ok (.aload_n 0, 1) := by decide +kernel
theorem dL_law_1077 : decode cL_law 1077 = .ok (.iload_n 3, 1) := by decide +kernel
theorem dL_law_1078 : decode cL_law 1078 = .ok (.iconst 1, 1) := by decide +kernel
theorem dL_law_1079 : decode cL_law 1079 = .ok (.iadd, 1) := by decide +kernel
theorem dL_law_1080 : decode cL_law 1080 = .ok (.iaload, 1) := by decide +kernel
theorem dL_law_1081 : decode cL_law 1081 = .ok (.aload_n 0, 1) := by decide +kernel
theorem dL_law_1082 : decode cL_law 1082 = .ok (.iload_n 3, 1) := by decide +kernel
theorem dL_law_1083 : decode cL_law 1083 = .ok (.iconst 2, 1) := by decide +kernel
theorem dL_law_1084 : decode cL_law 1084 = .ok (.iadd, 1) := by decide +kernel
theorem dL_law_1085 : decode cL_law 1085 = .ok (.iaload, 1) := by decide +kernel
theorem dL_law_1086 : decode cL_law 1086 = .ok (.aload_n 0, 1) := by decide +kernel
theorem dL_law_1087 : decode cL_law 1087 = .ok (.iload_n 3, 1) := by decide +kernel
theorem dL_law_1088 : decode cL_law 1088 = .ok (.iconst 3, 1) := by decide +kernel
theorem dL_law_1089 : decode cL_law 1089 = .ok (.iadd, 1) := by decide +kernel
theorem dL_law_1090 : decode cL_law 1090 = .ok (.iaload, 1) := by decide +kernel
theorem dL_law_1091 : decode cL_law 1091 = .ok (.invokevirtual 113, 3) := by decide +kernel
theorem dL_law_1094 : decode cL_law 1094 = .ok (.aload_n 2, 1) := by decide +kernel
theorem dL_law_1095 : decode cL_law 1095 = .ok (.aload_n 0, 1) := by decide +kernel
theorem dL_law_1096 : decode cL_law 1096 = .ok (.iload_n 3, 1) := by decide +kernel
theorem dL_law_1097 : decode cL_law 1097 = .ok (.iconst 1, 1) := by decide +kernel
theorem dL_law_1098 : decode cL_law 1098 = .ok (.iadd, 1) := by decide +kernel
theorem dL_law_1099 : decode cL_law 1099 = .ok (.iaload, 1) := by decide +kernel
theorem dL_law_1100 : decode cL_law 1100 = .ok (.aload_n 0, 1) := by decide +kernel
theorem dL_law_1101 : decode cL_law 1101 = .ok (.iload_n 3, 1) := by decide +kernel
theorem dL_law_1102 : decode cL_law 1102 = .ok (.iconst 2, 1) := by decide +kernel
theorem dL_law_1103 : decode cL_law 1103 = .ok (.iadd, 1) := by decide +kernel
theorem dL_law_1104 : decode cL_law 1104 = .ok (.iaload, 1) := by decide +kernel
theorem dL_law_1105 : decode cL_law 1105 = .ok (.aload_n 0, 1) := by decide +kernel
theorem dL_law_1106 : decode cL_law 1106 = .ok (.iload_n 3, 1) := by decide +kernel
theorem dL_law_1107 : decode cL_law 1107 = .ok (.iconst 3, 1) := by decide +kernel
theorem dL_law_1108 : decode cL_law 1108 = .ok (.iadd, 1) := by decide +kernel
theorem dL_law_1109 : decode cL_law 1109 = .ok (.iaload, 1) := by decide +kernel
theorem dL_law_1110 : decode cL_law 1110 = .ok (.invokevirtual 116, 3) := by decide +kernel
theorem dL_law_1113 : decode cL_law 1113 = .ok (.if_icmp .eq 51, 3) := by decide +kernel
theorem dL_law_1116 : decode cL_law 1116 = .ok (.iconst 0, 1) := by decide +kernel
theorem dL_law_1117 : decode cL_law 1117 = .ok (.ireturn, 1) := by decide +kernel
theorem dL_law_1118 : decode cL_law 1118 = .ok (.aload_n 1, 1) := by decide +kernel
theorem dL_law_1119 : decode cL_law 1119 = .ok (.aload_n 0, 1) := by decide +kernel
theorem dL_law_1120 : decode cL_law 1120 = .ok (.iload_n 3, 1) := by decide +kernel
theorem dL_law_1121 : decode cL_law 1121 = .ok (.iconst 1, 1) := by decide +kernel
theorem dL_law_1122 : decode cL_law 1122 = .ok (.iadd, 1) := by decide +kernel
theorem dL_law_1123 : decode cL_law 1123 = .ok (.iaload, 1) := by decide +kernel
theorem dL_law_1124 : decode cL_law 1124 = .ok (.invokevirtual 117, 3) := by decide +kernel
theorem dL_law_1127 : decode cL_law 1127 = .ok (.aload_n 2, 1) := by decide +kernel
theorem dL_law_1128 : decode cL_law 1128 = .ok (.aload_n 0, 1) := by decide +kernel
theorem dL_law_1129 : decode cL_law 1129 = .ok (.iload_n 3, 1) := by decide +kernel
theorem dL_law_1130 : decode cL_law 1130 = .ok (.iconst 1, 1) := by decide +kernel
theorem dL_law_1131 : decode cL_law 1131 = .ok (.iadd, 1) := by decide +kernel
theorem dL_law_1132 : decode cL_law 1132 = .ok (.iaload, 1) := by decide +kernel
theorem dL_law_1133 : decode cL_law 1133 = .ok (.invokevirtual 120, 3) := by decide +kernel
theorem dL_law_1136 : decode cL_law 1136 = .ok (.if_icmp .eq 28, 3) := by decide +kernel
theorem dL_law_1139 : decode cL_law 1139 = .ok (.iconst 0, 1) := by decide +kernel
theorem dL_law_1140 : decode cL_law 1140 = .ok (.ireturn, 1) := by decide +kernel
theorem dL_law_1141 : decode cL_law 1141 = .ok (.aload_n 1, 1) := by decide +kernel
theorem dL_law_1142 : decode cL_law 1142 = .ok (.aload_n 0, 1) := by decide +kernel
theorem dL_law_1143 : decode cL_law 1143 = .ok (.iload_n 3, 1) := by decide +kernel
theorem dL_law_1144 : decode cL_law 1144 = .ok (.iconst 1, 1) := by decide +kernel
theorem dL_law_1145 : decode cL_law 1145 = .ok (.iadd, 1) := by decide +kernel
theorem dL_law_1146 : decode cL_law 1146 = .ok (.iaload, 1) := by decide +kernel
theorem dL_law_1147 : decode cL_law 1147 = .ok (.invokevirtual 121, 3) := by decide +kernel
theorem dL_law_1150 : decode cL_law 1150 = .ok (.aload_n 2, 1) := by decide +kernel
theorem dL_law_1151 : decode cL_law 1151 = .ok (.aload_n 0, 1) := by decide +kernel
theorem dL_law_1152 : decode cL_law 1152 = .ok (.iload_n 3, 1) := by decide +kernel
theorem dL_law_1153 : decode cL_law 1153 = .ok (.iconst 1, 1) := by decide +kernel
theorem dL_law_1154 : decode cL_law 1154 = .ok (.iadd, 1) := by decide +kernel
theorem dL_law_1155 : decode cL_law 1155 = .ok (.iaload, 1) := by decide +kernel
theorem dL_law_1156 : decode cL_law 1156 = .ok (.invokevirtual 124, 3) := by decide +kernel
theorem dL_law_1159 : decode cL_law 1159 = .ok (.if_icmp .eq 5, 3) := by decide +kernel
theorem dL_law_1162 : decode cL_law 1162 = .ok (.iconst 0, 1) := by decide +kernel
theorem dL_law_1163 : decode cL_law 1163 = .ok (.ireturn, 1) := by decide +kernel
theorem dL_law_1164 : decode cL_law 1164 = .ok (.iinc 3 7, 3) := by decide +kernel
theorem dL_law_1167 : decode cL_law 1167 = .ok (.goto (-1149), 3) := by decide +kernel
theorem dL_law_1170 : decode cL_law 1170 = .ok (.iconst 1, 1) := by decide +kernel
theorem dL_law_1171 : decode cL_law 1171 = .ok (.ireturn, 1) := by decide +kernel
end
section
theorem fm_X5_9 : Cond.fieldLink RX5 9 (TX5 0).1 (TX5 0).2.1 (TX5 0).2.2.1 ∈ lw_good := good_of (List.mem_of_getElem? (i := 24) (by decide +kernel)) (by decide +kernel)
theorem fl_X5_9 : FLK RX5 9 5 0 := ⟨_, _, _, rfl, by decide, fm_X5_9⟩
theorem ff_X5_9 : FPF RX5 9 5 0 (.array .int) := ⟨_, _, _, rfl, by decide, fm_X5_9, rfl, rfl, by decide +kernel⟩
theorem fm_X6_10 : Cond.fieldLink RX6 10 (TX6 0).1 (TX6 0).2.1 (TX6 0).2.2.1 ∈ lw_good := good_of (List.mem_of_getElem? (i := 39) (by decide +kernel)) (by decide +kernel)
theorem fl_X6_10 : FLK RX6 10 6 0 := ⟨_, _, _, rfl, by decide, fm_X6_10⟩
theorem ff_X6_10 : FPF RX6 10 6 0 (.object RX5) := ⟨_, _, _, rfl, by decide, fm_X6_10, rfl, rfl, by decide +kernel⟩
theorem fm_X6_18 : Cond.fieldLink RX6 18 (TX6 1).1 (TX6 1).2.1 (TX6 1).2.2.1 ∈ lw_good := good_of (List.mem_of_getElem? (i := 40) (by decide +kernel)) (by decide +kernel)
theorem fl_X6_18 : FLK RX6 18 6 1 := ⟨_, _, _, rfl, by decide, fm_X6_18⟩
theorem ff_X6_18 : FPF RX6 18 6 1 (.array (.object RX0)) := ⟨_, _, _, rfl, by decide, fm_X6_18, rfl, rfl, by decide +kernel⟩
theorem fm_X6_24 : Cond.fieldLink RX6 24 (TX6 2).1 (TX6 2).2.1 (TX6 2).2.2.1 ∈ lw_good := good_of (List.mem_of_getElem? (i := 41) (by decide +kernel)) (by decide +kernel)
theorem fl_X6_24 : FLK RX6 24 6 2 := ⟨_, _, _, rfl, by decide, fm_X6_24⟩
theorem ff_X6_24 : FPF RX6 24 6 2 (.array (.object RX4)) := ⟨_, _, _, rfl, by decide, fm_X6_24, rfl, rfl, by decide +kernel⟩
theorem fm_X6_28 : Cond.fieldLink RX6 28 (TX6 3).1 (TX6 3).2.1 (TX6 3).2.2.1 ∈ lw_good := good_of (List.mem_of_getElem? (i := 42) (by decide +kernel)) (by decide +kernel)
theorem fl_X6_28 : FLK RX6 28 6 3 := ⟨_, _, _, rfl, by decide, fm_X6_28⟩
theorem ff_X6_28 : FPF RX6 28 6 3 (.array .int) := ⟨_, _, _, rfl, by decide, fm_X6_28, rfl, rfl, by decide +kernel⟩
theorem fm_X6_34 : Cond.fieldLink RX6 34 (TX6 4).1 (TX6 4).2.1 (TX6 4).2.2.1 ∈ lw_good := good_of (List.mem_of_getElem? (i := 43) (by decide +kernel)) (by decide +kernel)
theorem fl_X6_34 : FLK RX6 34 6 4 := ⟨_, _, _, rfl, by decide, fm_X6_34⟩
theorem ff_X6_34 : FPF RX6 34 6 4 (.array (.object RX2)) := ⟨_, _, _, rfl, by decide, fm_X6_34, rfl, rfl, by decide +kernel⟩
theorem fm_X6_52 : Cond.fieldLink RX6 52 (TX6 5).1 (TX6 5).2.1 (TX6 5).2.2.1 ∈ lw_good := good_of (List.mem_of_getElem? (i := 44) (by decide +kernel)) (by decide +kernel)
theorem fl_X6_52 : FLK RX6 52 6 5 := ⟨_, _, _, rfl, by decide, fm_X6_52⟩
theorem fp_X6_52 : FPK RX6 52 6 5 (.int) := ⟨_, _, _, rfl, by decide, fm_X6_52, rfl, by decide +kernel⟩
theorem fm_X6_104 : Cond.fieldLink RX6 104 (TX6 6).1 (TX6 6).2.1 (TX6 6).2.2.1 ∈ lw_good := good_of (List.mem_of_getElem? (i := 45) (by decide +kernel)) (by decide +kernel)
theorem fl_X6_104 : FLK RX6 104 6 6 := ⟨_, _, _, rfl, by decide, fm_X6_104⟩
theorem fp_X6_104 : FPK RX6 104 6 6 (.int) := ⟨_, _, _, rfl, by decide, fm_X6_104, rfl, by decide +kernel⟩
theorem fm_X6_274 : Cond.fieldLink RX6 274 (TX6 7).1 (TX6 7).2.1 (TX6 7).2.2.1 ∈ lw_good := good_of (List.mem_of_getElem? (i := 46) (by decide +kernel)) (by decide +kernel)
theorem fl_X6_274 : FLK RX6 274 6 7 := ⟨_, _, _, rfl, by decide, fm_X6_274⟩
theorem fp_X6_274 : FPK RX6 274 6 7 (.int) := ⟨_, _, _, rfl, by decide, fm_X6_274, rfl, by decide +kernel⟩
theorem fm_X6_329 : Cond.fieldLink RX6 329 (TX6 8).1 (TX6 8).2.1 (TX6 8).2.2.1 ∈ lw_good := good_of (List.mem_of_getElem? (i := 47) (by decide +kernel)) (by decide +kernel)
theorem fl_X6_329 : FLK RX6 329 6 8 := ⟨_, _, _, rfl, by decide, fm_X6_329⟩
theorem fp_X6_329 : FPK RX6 329 6 8 (.int) := ⟨_, _, _, rfl, by decide, fm_X6_329, rfl, by decide +kernel⟩
theorem fm_X6_224 : Cond.fieldLink RX6 224 (TX6 9).1 (TX6 9).2.1 (TX6 9).2.2.1 ∈ lw_good := good_of (List.mem_of_getElem? (i := 48) (by decide +kernel)) (by decide +kernel)
theorem fl_X6_224 : FLK RX6 224 6 9 := ⟨_, _, _, rfl, by decide, fm_X6_224⟩
theorem fp_X6_224 : FPK RX6 224 6 9 (.int) := ⟨_, _, _, rfl, by decide, fm_X6_224, rfl, by decide +kernel⟩
theorem fm_X6_305 : Cond.fieldLink RX6 305 (TX6 10).1 (TX6 10).2.1 (TX6 10).2.2.1 ∈ lw_good := good_of (List.mem_of_getElem? (i := 49) (by decide +kernel)) (by decide +kernel)
theorem fl_X6_305 : FLK RX6 305 6 10 := ⟨_, _, _, rfl, by decide, fm_X6_305⟩
theorem fp_X6_305 : FPK RX6 305 6 10 (.int) := ⟨_, _, _, rfl, by decide, fm_X6_305, rfl, by decide +kernel⟩
theorem fm_X0_15 : Cond.fieldLink RX0 15 (TX0 0).1 (TX0 0).2.1 (TX0 0).2.2.1 ∈ lw_good := good_of (List.mem_of_getElem? (i := 106) (by decide +kernel)) (by decide +kernel)
theorem fl_X0_15 : FLK RX0 15 0 0 := ⟨_, _, _, rfl, by decide, fm_X0_15⟩
theorem ff_X0_15 : FPF RX0 15 0 0 (.int) := ⟨_, _, _, rfl, by decide, fm_X0_15, rfl, rfl, by decide +kernel⟩
theorem fm_X6_90 : Cond.fieldLink RX6 90 (TX0 0).1 (TX0 0).2.1 (TX0 0).2.2.1 ∈ lw_good := good_of (List.mem_of_getElem? (i := 107) (by decide +kernel)) (by decide +kernel)
theorem fl_X6_90 : FLK RX6 90 0 0 := ⟨_, _, _, rfl, by decide, fm_X6_90⟩
theorem fm_X0_18 : Cond.fieldLink RX0 18 (TX0 1).1 (TX0 1).2.1 (TX0 1).2.2.1 ∈ lw_good := good_of (List.mem_of_getElem? (i := 108) (by decide +kernel)) (by decide +kernel)
theorem fl_X0_18 : FLK RX0 18 0 1 := ⟨_, _, _, rfl, by decide, fm_X0_18⟩
theorem ff_X0_18 : FPF RX0 18 0 1 (.int) := ⟨_, _, _, rfl, by decide, fm_X0_18, rfl, rfl, by decide +kernel⟩
theorem fm_X4_66 : Cond.fieldLink RX4 66 (TX0 1).1 (TX0 1).2.1 (TX0 1).2.2.1 ∈ lw_good := good_of (List.mem_of_getElem? (i := 109) (by decide +kernel)) (by decide +kernel)
theorem fl_X4_66 : FLK RX4 66 0 1 := ⟨_, _, _, rfl, by decide, fm_X4_66⟩
theorem fm_X6_218 : Cond.fieldLink RX6 218 (TX0 1).1 (TX0 1).2.1 (TX0 1).2.2.1 ∈ lw_good := good_of (List.mem_of_getElem? (i := 110) (by decide +kernel)) (by decide +kernel)
theorem fl_X6_218 : FLK RX6 218 0 1 := ⟨_, _, _, rfl, by decide, fm_X6_218⟩
theorem fm_X0_21 : Cond.fieldLink RX0 21 (TX0 2).1 (TX0 2).2.1 (TX0 2).2.2.1 ∈ lw_good := good_of (List.mem_of_getElem? (i := 111) (by decide +kernel)) (by decide +kernel)
theorem fl_X0_21 : FLK RX0 21 0 2 := ⟨_, _, _, rfl, by decide, fm_X0_21⟩
theorem ff_X0_21 : FPF RX0 21 0 2 (.int) := ⟨_, _, _, rfl, by decide, fm_X0_21, rfl, rfl, by decide +kernel⟩
theorem fm_X6_227 : Cond.fieldLink RX6 227 (TX0 2).1 (TX0 2).2.1 (TX0 2).2.2.1 ∈ lw_good := good_of (List.mem_of_getElem? (i := 112) (by decide +kernel)) (by decide +kernel)
theorem fl_X6_227 : FLK RX6 227 0 2 := ⟨_, _, _, rfl, by decide, fm_X6_227⟩
theorem fm_X6_77 : Cond.fieldLink RX6 77 (TX0 3).1 (TX0 3).2.1 (TX0 3).2.2.1 ∈ lw_good := good_of (List.mem_of_getElem? (i := 113) (by decide +kernel)) (by decide +kernel)
theorem fl_X6_77 : FLK RX6 77 0 3 := ⟨_, _, _, rfl, by decide, fm_X6_77⟩
theorem fp_X6_77 : FPK RX6 77 0 3 (.int) := ⟨_, _, _, rfl, by decide, fm_X6_77, rfl, by decide +kernel⟩
theorem fm_X4_73 : Cond.fieldLink RX4 73 (TX0 3).1 (TX0 3).2.1 (TX0 3).2.2.1 ∈ lw_good := good_of (List.mem_of_getElem? (i := 114) (by decide +kernel)) (by decide +kernel)
theorem fl_X4_73 : FLK RX4 73 0 3 := ⟨_, _, _, rfl, by decide, fm_X4_73⟩
theorem fm_X0_9 : Cond.fieldLink RX0 9 (TX0 4).1 (TX0 4).2.1 (TX0 4).2.2.1 ∈ lw_good := good_of (List.mem_of_getElem? (i := 115) (by decide +kernel)) (by decide +kernel)
theorem fl_X0_9 : FLK RX0 9 0 4 := ⟨_, _, _, rfl, by decide, fm_X0_9⟩
theorem fp_X0_9 : FPK RX0 9 0 4 (.int) := ⟨_, _, _, rfl, by decide, fm_X0_9, rfl, by decide +kernel⟩
theorem fm_X2_28 : Cond.fieldLink RX2 28 (TX0 4).1 (TX0 4).2.1 (TX0 4).2.2.1 ∈ lw_good := good_of (List.mem_of_getElem? (i := 116) (by decide +kernel)) (by decide +kernel)
theorem fl_X2_28 : FLK RX2 28 0 4 := ⟨_, _, _, rfl, by decide, fm_X2_28⟩
theorem fm_X6_97 : Cond.fieldLink RX6 97 (TX0 4).1 (TX0 4).2.1 (TX0 4).2.2.1 ∈ lw_good := good_of (List.mem_of_getElem? (i := 117) (by decide +kernel)) (by decide +kernel)
theorem fl_X6_97 : FLK RX6 97 0 4 := ⟨_, _, _, rfl, by decide, fm_X6_97⟩
theorem fp_X6_97 : FPK RX6 97 0 4 (.int) := ⟨_, _, _, rfl, by decide, fm_X6_97, rfl, by decide +kernel⟩
theorem fm_X4_60 : Cond.fieldLink RX4 60 (TX0 4).1 (TX0 4).2.1 (TX0 4).2.2.1 ∈ lw_good := good_of (List.mem_of_getElem? (i := 118) (by decide +kernel)) (by decide +kernel)
theorem fl_X4_60 : FLK RX4 60 0 4 := ⟨_, _, _, rfl, by decide, fm_X4_60⟩
theorem fm_X6_113 : Cond.fieldLink RX6 113 (TX0 5).1 (TX0 5).2.1 (TX0 5).2.2.1 ∈ lw_good := good_of (List.mem_of_getElem? (i := 119) (by decide +kernel)) (by decide +kernel)
theorem fl_X6_113 : FLK RX6 113 0 5 := ⟨_, _, _, rfl, by decide, fm_X6_113⟩
theorem fp_X6_113 : FPK RX6 113 0 5 (.int) := ⟨_, _, _, rfl, by decide, fm_X6_113, rfl, by decide +kernel⟩
theorem fm_X2_22 : Cond.fieldLink RX2 22 (TX0 6).1 (TX0 6).2.1 (TX0 6).2.2.1 ∈ lw_good := good_of (List.mem_of_getElem? (i := 120) (by decide +kernel)) (by decide +kernel)
theorem fl_X2_22 : FLK RX2 22 0 6 := ⟨_, _, _, rfl, by decide, fm_X2_22⟩
theorem fm_X6_86 : Cond.fieldLink RX6 86 (TX0 6).1 (TX0 6).2.1 (TX0 6).2.2.1 ∈ lw_good := good_of (List.mem_of_getElem? (i := 121) (by decide +kernel)) (by decide +kernel)
theorem fl_X6_86 : FLK RX6 86 0 6 := ⟨_, _, _, rfl, by decide, fm_X6_86⟩
theorem fp_X6_86 : FPK RX6 86 0 6 (.object RX4) := ⟨_, _, _, rfl, by decide, fm_X6_86, rfl, by decide +kernel⟩
theorem fm_X0_34 : Cond.fieldLink RX0 34 (TX0 6).1 (TX0 6).2.1 (TX0 6).2.2.1 ∈ lw_good := good_of (List.mem_of_getElem? (i := 122) (by decide +kernel)) (by decide +kernel)
theorem fl_X0_34 : FLK RX0 34 0 6 := ⟨_, _, _, rfl, by decide, fm_X0_34⟩
theorem fp_X0_34 : FPK RX0 34 0 6 (.object RX4) := ⟨_, _, _, rfl, by decide, fm_X0_34, rfl, by decide +kernel⟩
theorem fm_X0_41 : Cond.fieldLink RX0 41 (TX0 7).1 (TX0 7).2.1 (TX0 7).2.2.1 ∈ lw_good := good_of (List.mem_of_getElem? (i := 123) (by decide +kernel)) (by decide +kernel)
theorem fl_X0_41 : FLK RX0 41 0 7 := ⟨_, _, _, rfl, by decide, fm_X0_41⟩
theorem fm_X6_230 : Cond.fieldLink RX6 230 (TX0 7).1 (TX0 7).2.1 (TX0 7).2.2.1 ∈ lw_good := good_of (List.mem_of_getElem? (i := 124) (by decide +kernel)) (by decide +kernel)
theorem fl_X6_230 : FLK RX6 230 0 7 := ⟨_, _, _, rfl, by decide, fm_X6_230⟩
theorem fp_X6_230 : FPK RX6 230 0 7 (.object RX4) := ⟨_, _, _, rfl, by decide, fm_X6_230, rfl, by decide +kernel⟩
theorem fm_X6_212 : Cond.fieldLink RX6 212 (TX0 8).1 (TX0 8).2.1 (TX0 8).2.2.1 ∈ lw_good := good_of (List.mem_of_getElem? (i := 125) (by decide +kernel)) (by decide +kernel)
theorem fl_X6_212 : FLK RX6 212 0 8 := ⟨_, _, _, rfl, by decide, fm_X6_212⟩
theorem fp_X6_212 : FPK RX6 212 0 8 (.int) := ⟨_, _, _, rfl, by decide, fm_X6_212, rfl, by decide +kernel⟩
theorem fm_X0_48 : Cond.fieldLink RX0 48 (TX0 9).1 (TX0 9).2.1 (TX0 9).2.2.1 ∈ lw_good := good_of (List.mem_of_getElem? (i := 126) (by decide +kernel)) (by decide +kernel)
theorem fl_X0_48 : FLK RX0 48 0 9 := ⟨_, _, _, rfl, by decide, fm_X0_48⟩
theorem fm_X6_259 : Cond.fieldLink RX6 259 (TX0 9).1 (TX0 9).2.1 (TX0 9).2.2.1 ∈ lw_good := good_of (List.mem_of_getElem? (i := 127) (by decide +kernel)) (by decide +kernel)
theorem fl_X6_259 : FLK RX6 259 0 9 := ⟨_, _, _, rfl, by decide, fm_X6_259⟩
theorem fp_X6_259 : FPK RX6 259 0 9 (.int) := ⟨_, _, _, rfl, by decide, fm_X6_259, rfl, by decide +kernel⟩
theorem fm_X6_250 : Cond.fieldLink RX6 250 (TX0 10).1 (TX0 10).2.1 (TX0 10).2.2.1 ∈ lw_good := good_of (List.mem_of_getElem? (i := 128) (by decide +kernel)) (by decide +kernel)
theorem fl_X6_250 : FLK RX6 250 0 10 := ⟨_, _, _, rfl, by decide, fm_X6_250⟩
theorem fp_X6_250 : FPK RX6 250 0 10 (.object RX1) := ⟨_, _, _, rfl, by decide, fm_X6_250, rfl, by decide +kernel⟩
theorem fm_X6_253 : Cond.fieldLink RX6 253 (TX0 11).1 (TX0 11).2.1 (TX0 11).2.2.1 ∈ lw_good := good_of (List.mem_of_getElem? (i := 129) (by decide +kernel)) (by decide +kernel)
theorem fl_X6_253 : FLK RX6 253 0 11 := ⟨_, _, _, rfl, by decide, fm_X6_253⟩
theorem fp_X6_253 : FPK RX6 253 0 11 (.int) := ⟨_, _, _, rfl, by decide, fm_X6_253, rfl, by decide +kernel⟩
theorem fm_X4_27 : Cond.fieldLink RX4 27 (TX4 0).1 (TX4 0).2.1 (TX4 0).2.2.1 ∈ lw_good := good_of (List.mem_of_getElem? (i := 168) (by decide +kernel)) (by decide +kernel)
theorem fl_X4_27 : FLK RX4 27 4 0 := ⟨_, _, _, rfl, by decide, fm_X4_27⟩
theorem ff_X4_27 : FPF RX4 27 4 0 (.int) := ⟨_, _, _, rfl, by decide, fm_X4_27, rfl, rfl, by decide +kernel⟩
theorem fm_X6_103 : Cond.fieldLink RX6 103 (TX4 0).1 (TX4 0).2.1 (TX4 0).2.2.1 ∈ lw_good := good_of (List.mem_of_getElem? (i := 169) (by decide +kernel)) (by decide +kernel)
theorem fl_X6_103 : FLK RX6 103 4 0 := ⟨_, _, _, rfl, by decide, fm_X6_103⟩
theorem fm_X4_31 : Cond.fieldLink RX4 31 (TX4 1).1 (TX4 1).2.1 (TX4 1).2.2.1 ∈ lw_good := good_of (List.mem_of_getElem? (i := 170) (by decide +kernel)) (by decide +kernel)
theorem fl_X4_31 : FLK RX4 31 4 1 := ⟨_, _, _, rfl, by decide, fm_X4_31⟩
theorem ff_X4_31 : FPF RX4 31 4 1 (.object RX0) := ⟨_, _, _, rfl, by decide, fm_X4_31, rfl, rfl, by decide +kernel⟩
theorem fm_X6_195 : Cond.fieldLink RX6 195 (TX4 1).1 (TX4 1).2.1 (TX4 1).2.2.1 ∈ lw_good := good_of (List.mem_of_getElem? (i := 171) (by decide +kernel)) (by decide +kernel)
theorem fl_X6_195 : FLK RX6 195 4 1 := ⟨_, _, _, rfl, by decide, fm_X6_195⟩
theorem fm_X4_35 : Cond.fieldLink RX4 35 (TX4 2).1 (TX4 2).2.1 (TX4 2).2.2.1 ∈ lw_good := good_of (List.mem_of_getElem? (i := 172) (by decide +kernel)) (by decide +kernel)
theorem fl_X4_35 : FLK RX4 35 4 2 := ⟨_, _, _, rfl, by decide, fm_X4_35⟩
theorem ff_X4_35 : FPF RX4 35 4 2 (.int) := ⟨_, _, _, rfl, by decide, fm_X4_35, rfl, rfl, by decide +kernel⟩
theorem fm_X0_38 : Cond.fieldLink RX0 38 (TX4 2).1 (TX4 2).2.1 (TX4 2).2.2.1 ∈ lw_good := good_of (List.mem_of_getElem? (i := 173) (by decide +kernel)) (by decide +kernel)
theorem fl_X0_38 : FLK RX0 38 4 2 := ⟨_, _, _, rfl, by decide, fm_X0_38⟩
theorem fm_X6_363 : Cond.fieldLink RX6 363 (TX4 2).1 (TX4 2).2.1 (TX4 2).2.2.1 ∈ lw_good := good_of (List.mem_of_getElem? (i := 174) (by decide +kernel)) (by decide +kernel)
theorem fl_X6_363 : FLK RX6 363 4 2 := ⟨_, _, _, rfl, by decide, fm_X6_363⟩
theorem fm_X4_12 : Cond.fieldLink RX4 12 (TX4 3).1 (TX4 3).2.1 (TX4 3).2.2.1 ∈ lw_good := good_of (List.mem_of_getElem? (i := 175) (by decide +kernel)) (by decide +kernel)
theorem fl_X4_12 : FLK RX4 12 4 3 := ⟨_, _, _, rfl, by decide, fm_X4_12⟩
theorem ff_X4_12 : FPF RX4 12 4 3 (.object RX5) := ⟨_, _, _, rfl, by decide, fm_X4_12, rfl, rfl, by decide +kernel⟩
theorem fm_X2_31 : Cond.fieldLink RX2 31 (TX4 3).1 (TX4 3).2.1 (TX4 3).2.2.1 ∈ lw_good := good_of (List.mem_of_getElem? (i := 176) (by decide +kernel)) (by decide +kernel)
theorem fl_X2_31 : FLK RX2 31 4 3 := ⟨_, _, _, rfl, by decide, fm_X2_31⟩
theorem fm_X6_80 : Cond.fieldLink RX6 80 (TX4 3).1 (TX4 3).2.1 (TX4 3).2.2.1 ∈ lw_good := good_of (List.mem_of_getElem? (i := 177) (by decide +kernel)) (by decide +kernel)
theorem fl_X6_80 : FLK RX6 80 4 3 := ⟨_, _, _, rfl, by decide, fm_X6_80⟩
theorem fm_X4_18 : Cond.fieldLink RX4 18 (TX4 4).1 (TX4 4).2.1 (TX4 4).2.2.1 ∈ lw_good := good_of (List.mem_of_getElem? (i := 178) (by decide +kernel)) (by decide +kernel)
theorem fl_X4_18 : FLK RX4 18 4 4 := ⟨_, _, _, rfl, by decide, fm_X4_18⟩
theorem ff_X4_18 : FPF RX4 18 4 4 (.object RX5) := ⟨_, _, _, rfl, by decide, fm_X4_18, rfl, rfl, by decide +kernel⟩
theorem fm_X6_192 : Cond.fieldLink RX6 192 (TX4 4).1 (TX4 4).2.1 (TX4 4).2.2.1 ∈ lw_good := good_of (List.mem_of_getElem? (i := 179) (by decide +kernel)) (by decide +kernel)
theorem fl_X6_192 : FLK RX6 192 4 4 := ⟨_, _, _, rfl, by decide, fm_X6_192⟩
theorem fm_X4_23 : Cond.fieldLink RX4 23 (TX4 5).1 (TX4 5).2.1 (TX4 5).2.2.1 ∈ lw_good := good_of (List.mem_of_getElem? (i := 180) (by decide +kernel)) (by decide +kernel)
theorem fl_X4_23 : FLK RX4 23 4 5 := ⟨_, _, _, rfl, by decide, fm_X4_23⟩
theorem ff_X4_23 : FPF RX4 23 4 5 (.array (.object RX3)) := ⟨_, _, _, rfl, by decide, fm_X4_23, rfl, rfl, by decide +kernel⟩
theorem fm_X4_50 : Cond.fieldLink RX4 50 (TX4 6).1 (TX4 6).2.1 (TX4 6).2.2.1 ∈ lw_good := good_of (List.mem_of_getElem? (i := 181) (by decide +kernel)) (by decide +kernel)
theorem fl_X4_50 : FLK RX4 50 4 6 := ⟨_, _, _, rfl, by decide, fm_X4_50⟩
theorem fp_X4_50 : FPK RX4 50 4 6 (.object RX1) := ⟨_, _, _, rfl, by decide, fm_X4_50, rfl, by decide +kernel⟩
theorem fm_X6_170 : Cond.fieldLink RX6 170 (TX4 6).1 (TX4 6).2.1 (TX4 6).2.2.1 ∈ lw_good := good_of (List.mem_of_getElem? (i := 182) (by decide +kernel)) (by decide +kernel)
theorem fl_X6_170 : FLK RX6 170 4 6 := ⟨_, _, _, rfl, by decide, fm_X6_170⟩
theorem fp_X6_170 : FPK RX6 170 4 6 (.object RX1) := ⟨_, _, _, rfl, by decide, fm_X6_170, rfl, by decide +kernel⟩
theorem fm_X6_83 : Cond.fieldLink RX6 83 (TX4 7).1 (TX4 7).2.1 (TX4 7).2.2.1 ∈ lw_good := good_of (List.mem_of_getElem? (i := 183) (by decide +kernel)) (by decide +kernel)
theorem fl_X6_83 : FLK RX6 83 4 7 := ⟨_, _, _, rfl, by decide, fm_X6_83⟩
theorem fp_X6_83 : FPK RX6 83 4 7 (.int) := ⟨_, _, _, rfl, by decide, fm_X6_83, rfl, by decide +kernel⟩
theorem fm_X4_63 : Cond.fieldLink RX4 63 (TX4 7).1 (TX4 7).2.1 (TX4 7).2.2.1 ∈ lw_good := good_of (List.mem_of_getElem? (i := 184) (by decide +kernel)) (by decide +kernel)
theorem fl_X4_63 : FLK RX4 63 4 7 := ⟨_, _, _, rfl, by decide, fm_X4_63⟩
theorem fm_X6_215 : Cond.fieldLink RX6 215 (TX4 8).1 (TX4 8).2.1 (TX4 8).2.2.1 ∈ lw_good := good_of (List.mem_of_getElem? (i := 185) (by decide +kernel)) (by decide +kernel)
theorem fl_X6_215 : FLK RX6 215 4 8 := ⟨_, _, _, rfl, by decide, fm_X6_215⟩
theorem fp_X6_215 : FPK RX6 215 4 8 (.int) := ⟨_, _, _, rfl, by decide, fm_X6_215, rfl, by decide +kernel⟩
theorem fm_X3_7 : Cond.fieldLink RX3 7 (TX3 0).1 (TX3 0).2.1 (TX3 0).2.2.1 ∈ lw_good := good_of (List.mem_of_getElem? (i := 277) (by decide +kernel)) (by decide +kernel)
theorem fl_X3_7 : FLK RX3 7 3 0 := ⟨_, _, _, rfl, by decide, fm_X3_7⟩
theorem ff_X3_7 : FPF RX3 7 3 0 (.int) := ⟨_, _, _, rfl, by decide, fm_X3_7, rfl, rfl, by decide +kernel⟩
theorem fm_X6_164 : Cond.fieldLink RX6 164 (TX3 0).1 (TX3 0).2.1 (TX3 0).2.2.1 ∈ lw_good := good_of (List.mem_of_getElem? (i := 278) (by decide +kernel)) (by decide +kernel)
theorem fl_X6_164 : FLK RX6 164 3 0 := ⟨_, _, _, rfl, by decide, fm_X6_164⟩
theorem fm_X4_90 : Cond.fieldLink RX4 90 (TX3 0).1 (TX3 0).2.1 (TX3 0).2.2.1 ∈ lw_good := good_of (List.mem_of_getElem? (i := 279) (by decide +kernel)) (by decide +kernel)
theorem fl_X4_90 : FLK RX4 90 3 0 := ⟨_, _, _, rfl, by decide, fm_X4_90⟩
theorem fm_X3_13 : Cond.fieldLink RX3 13 (TX3 1).1 (TX3 1).2.1 (TX3 1).2.2.1 ∈ lw_good := good_of (List.mem_of_getElem? (i := 280) (by decide +kernel)) (by decide +kernel)
theorem fl_X3_13 : FLK RX3 13 3 1 := ⟨_, _, _, rfl, by decide, fm_X3_13⟩
theorem ff_X3_13 : FPF RX3 13 3 1 (.int) := ⟨_, _, _, rfl, by decide, fm_X3_13, rfl, rfl, by decide +kernel⟩
theorem fm_X6_161 : Cond.fieldLink RX6 161 (TX3 1).1 (TX3 1).2.1 (TX3 1).2.2.1 ∈ lw_good := good_of (List.mem_of_getElem? (i := 281) (by decide +kernel)) (by decide +kernel)
theorem fl_X6_161 : FLK RX6 161 3 1 := ⟨_, _, _, rfl, by decide, fm_X6_161⟩
theorem fm_X3_16 : Cond.fieldLink RX3 16 (TX3 2).1 (TX3 2).2.1 (TX3 2).2.2.1 ∈ lw_good := good_of (List.mem_of_getElem? (i := 282) (by decide +kernel)) (by decide +kernel)
theorem fl_X3_16 : FLK RX3 16 3 2 := ⟨_, _, _, rfl, by decide, fm_X3_16⟩
theorem ff_X3_16 : FPF RX3 16 3 2 (.int) := ⟨_, _, _, rfl, by decide, fm_X3_16, rfl, rfl, by decide +kernel⟩
theorem fm_X4_84 : Cond.fieldLink RX4 84 (TX3 2).1 (TX3 2).2.1 (TX3 2).2.2.1 ∈ lw_good := good_of (List.mem_of_getElem? (i := 283) (by decide +kernel)) (by decide +kernel)
theorem fl_X4_84 : FLK RX4 84 3 2 := ⟨_, _, _, rfl, by decide, fm_X4_84⟩
theorem fm_X6_167 : Cond.fieldLink RX6 167 (TX3 2).1 (TX3 2).2.1 (TX3 2).2.2.1 ∈ lw_good := good_of (List.mem_of_getElem? (i := 284) (by decide +kernel)) (by decide +kernel)
theorem fl_X6_167 : FLK RX6 167 3 2 := ⟨_, _, _, rfl, by decide, fm_X6_167⟩
theorem fm_X3_19 : Cond.fieldLink RX3 19 (TX3 3).1 (TX3 3).2.1 (TX3 3).2.2.1 ∈ lw_good := good_of (List.mem_of_getElem? (i := 285) (by decide +kernel)) (by decide +kernel)
theorem fl_X3_19 : FLK RX3 19 3 3 := ⟨_, _, _, rfl, by decide, fm_X3_19⟩
theorem ff_X3_19 : FPF RX3 19 3 3 (.int) := ⟨_, _, _, rfl, by decide, fm_X3_19, rfl, rfl, by decide +kernel⟩
theorem fm_X6_288 : Cond.fieldLink RX6 288 (TX3 3).1 (TX3 3).2.1 (TX3 3).2.2.1 ∈ lw_good := good_of (List.mem_of_getElem? (i := 286) (by decide +kernel)) (by decide +kernel)
theorem fl_X6_288 : FLK RX6 288 3 3 := ⟨_, _, _, rfl, by decide, fm_X6_288⟩
theorem fm_X3_22 : Cond.fieldLink RX3 22 (TX3 4).1 (TX3 4).2.1 (TX3 4).2.2.1 ∈ lw_good := good_of (List.mem_of_getElem? (i := 287) (by decide +kernel)) (by decide +kernel)
theorem fl_X3_22 : FLK RX3 22 3 4 := ⟨_, _, _, rfl, by decide, fm_X3_22⟩
theorem ff_X3_22 : FPF RX3 22 3 4 (.int) := ⟨_, _, _, rfl, by decide, fm_X3_22, rfl, rfl, by decide +kernel⟩
theorem fm_X6_256 : Cond.fieldLink RX6 256 (TX3 4).1 (TX3 4).2.1 (TX3 4).2.2.1 ∈ lw_good := good_of (List.mem_of_getElem? (i := 288) (by decide +kernel)) (by decide +kernel)
theorem fl_X6_256 : FLK RX6 256 3 4 := ⟨_, _, _, rfl, by decide, fm_X6_256⟩
theorem fm_X1_7 : Cond.fieldLink RX1 7 (TX1 0).1 (TX1 0).2.1 (TX1 0).2.2.1 ∈ lw_good := good_of (List.mem_of_getElem? (i := 325) (by decide +kernel)) (by decide +kernel)
theorem fl_X1_7 : FLK RX1 7 1 0 := ⟨_, _, _, rfl, by decide, fm_X1_7⟩
theorem ff_X1_7 : FPF RX1 7 1 0 (.int) := ⟨_, _, _, rfl, by decide, fm_X1_7, rfl, rfl, by decide +kernel⟩
theorem fm_X6_189 : Cond.fieldLink RX6 189 (TX1 0).1 (TX1 0).2.1 (TX1 0).2.2.1 ∈ lw_good := good_of (List.mem_of_getElem? (i := 326) (by decide +kernel)) (by decide +kernel)
theorem fl_X6_189 : FLK RX6 189 1 0 := ⟨_, _, _, rfl, by decide, fm_X6_189⟩
theorem fm_X1_13 : Cond.fieldLink RX1 13 (TX1 1).1 (TX1 1).2.1 (TX1 1).2.2.1 ∈ lw_good := good_of (List.mem_of_getElem? (i := 327) (by decide +kernel)) (by decide +kernel)
theorem fl_X1_13 : FLK RX1 13 1 1 := ⟨_, _, _, rfl, by decide, fm_X1_13⟩
theorem ff_X1_13 : FPF RX1 13 1 1 (.int) := ⟨_, _, _, rfl, by decide, fm_X1_13, rfl, rfl, by decide +kernel⟩
theorem fm_X6_319 : Cond.fieldLink RX6 319 (TX1 1).1 (TX1 1).2.1 (TX1 1).2.2.1 ∈ lw_good := good_of (List.mem_of_getElem? (i := 328) (by decide +kernel)) (by decide +kernel)
theorem fl_X6_319 : FLK RX6 319 1 1 := ⟨_, _, _, rfl, by decide, fm_X6_319⟩
theorem fm_X1_16 : Cond.fieldLink RX1 16 (TX1 2).1 (TX1 2).2.1 (TX1 2).2.2.1 ∈ lw_good := good_of (List.mem_of_getElem? (i := 329) (by decide +kernel)) (by decide +kernel)
theorem fl_X1_16 : FLK RX1 16 1 2 := ⟨_, _, _, rfl, by decide, fm_X1_16⟩
theorem ff_X1_16 : FPF RX1 16 1 2 (.int) := ⟨_, _, _, rfl, by decide, fm_X1_16, rfl, rfl, by decide +kernel⟩
theorem fm_X4_79 : Cond.fieldLink RX4 79 (TX1 2).1 (TX1 2).2.1 (TX1 2).2.2.1 ∈ lw_good := good_of (List.mem_of_getElem? (i := 330) (by decide +kernel)) (by decide +kernel)
theorem fl_X4_79 : FLK RX4 79 1 2 := ⟨_, _, _, rfl, by decide, fm_X4_79⟩
theorem fm_X6_179 : Cond.fieldLink RX6 179 (TX1 2).1 (TX1 2).2.1 (TX1 2).2.2.1 ∈ lw_good := good_of (List.mem_of_getElem? (i := 331) (by decide +kernel)) (by decide +kernel)
theorem fl_X6_179 : FLK RX6 179 1 2 := ⟨_, _, _, rfl, by decide, fm_X6_179⟩
theorem fm_X1_19 : Cond.fieldLink RX1 19 (TX1 3).1 (TX1 3).2.1 (TX1 3).2.2.1 ∈ lw_good := good_of (List.mem_of_getElem? (i := 332) (by decide +kernel)) (by decide +kernel)
theorem fl_X1_19 : FLK RX1 19 1 3 := ⟨_, _, _, rfl, by decide, fm_X1_19⟩
theorem ff_X1_19 : FPF RX1 19 1 3 (.int) := ⟨_, _, _, rfl, by decide, fm_X1_19, rfl, rfl, by decide +kernel⟩
theorem fm_X6_182 : Cond.fieldLink RX6 182 (TX1 3).1 (TX1 3).2.1 (TX1 3).2.2.1 ∈ lw_good := good_of (List.mem_of_getElem? (i := 333) (by decide +kernel)) (by decide +kernel)
theorem fl_X6_182 : FLK RX6 182 1 3 := ⟨_, _, _, rfl, by decide, fm_X6_182⟩
theorem fm_X2_9 : Cond.fieldLink RX2 9 (TX2 0).1 (TX2 0).2.1 (TX2 0).2.2.1 ∈ lw_good := good_of (List.mem_of_getElem? (i := 523) (by decide +kernel)) (by decide +kernel)
theorem fl_X2_9 : FLK RX2 9 2 0 := ⟨_, _, _, rfl, by decide, fm_X2_9⟩
theorem ff_X2_9 : FPF RX2 9 2 0 (.object RX0) := ⟨_, _, _, rfl, by decide, fm_X2_9, rfl, rfl, by decide +kernel⟩
theorem fm_X6_354 : Cond.fieldLink RX6 354 (TX2 0).1 (TX2 0).2.1 (TX2 0).2.2.1 ∈ lw_good := good_of (List.mem_of_getElem? (i := 524) (by decide +kernel)) (by decide +kernel)
theorem fl_X6_354 : FLK RX6 354 2 0 := ⟨_, _, _, rfl, by decide, fm_X6_354⟩
theorem fm_X2_15 : Cond.fieldLink RX2 15 (TX2 1).1 (TX2 1).2.1 (TX2 1).2.2.1 ∈ lw_good := good_of (List.mem_of_getElem? (i := 525) (by decide +kernel)) (by decide +kernel)
theorem fl_X2_15 : FLK RX2 15 2 1 := ⟨_, _, _, rfl, by decide, fm_X2_15⟩
theorem ff_X2_15 : FPF RX2 15 2 1 (.int) := ⟨_, _, _, rfl, by decide, fm_X2_15, rfl, rfl, by decide +kernel⟩
theorem fm_X6_358 : Cond.fieldLink RX6 358 (TX2 1).1 (TX2 1).2.1 (TX2 1).2.2.1 ∈ lw_good := good_of (List.mem_of_getElem? (i := 526) (by decide +kernel)) (by decide +kernel)
theorem fl_X6_358 : FLK RX6 358 2 1 := ⟨_, _, _, rfl, by decide, fm_X6_358⟩
theorem fm_X2_19 : Cond.fieldLink RX2 19 (TX2 2).1 (TX2 2).2.1 (TX2 2).2.2.1 ∈ lw_good := good_of (List.mem_of_getElem? (i := 527) (by decide +kernel)) (by decide +kernel)
theorem fl_X2_19 : FLK RX2 19 2 2 := ⟨_, _, _, rfl, by decide, fm_X2_19⟩
theorem ff_X2_19 : FPF RX2 19 2 2 (.int) := ⟨_, _, _, rfl, by decide, fm_X2_19, rfl, rfl, by decide +kernel⟩
theorem fm_X6_345 : Cond.fieldLink RX6 345 (TX2 2).1 (TX2 2).2.1 (TX2 2).2.2.1 ∈ lw_good := good_of (List.mem_of_getElem? (i := 528) (by decide +kernel)) (by decide +kernel)
theorem fl_X6_345 : FLK RX6 345 2 2 := ⟨_, _, _, rfl, by decide, fm_X6_345⟩
theorem fm_X7_7 : Cond.fieldLink RX7 7 (TX7 0).1 (TX7 0).2.1 (TX7 0).2.2.1 ∈ lw_good := good_of (List.mem_of_getElem? (i := 601) (by decide +kernel)) (by decide +kernel)
theorem fl_X7_7 : FLK RX7 7 7 0 := ⟨_, _, _, rfl, by decide, fm_X7_7⟩
theorem ff_X7_7 : FPF RX7 7 7 0 (.array .int) := ⟨_, _, _, rfl, by decide, fm_X7_7, rfl, rfl, by decide +kernel⟩
theorem fm_X7_137 : Cond.fieldLink RX7 137 (TX7 1).1 (TX7 1).2.1 (TX7 1).2.2.1 ∈ lw_good := good_of (List.mem_of_getElem? (i := 602) (by decide +kernel)) (by decide +kernel)
theorem fl_X7_137 : FLK RX7 137 7 1 := ⟨_, _, _, rfl, by decide, fm_X7_137⟩
theorem fp_X7_137 : FPK RX7 137 7 1 (.int) := ⟨_, _, _, rfl, by decide, fm_X7_137, rfl, by decide +kernel⟩
theorem fm_X7_103 : Cond.fieldLink RX7 103 (TX7 2).1 (TX7 2).2.1 (TX7 2).2.2.1 ∈ lw_good := good_of (List.mem_of_getElem? (i := 603) (by decide +kernel)) (by decide +kernel)
theorem fl_X7_103 : FLK RX7 103 7 2 := ⟨_, _, _, rfl, by decide, fm_X7_103⟩
theorem fp_X7_103 : FPK RX7 103 7 2 (.int) := ⟨_, _, _, rfl, by decide, fm_X7_103, rfl, by decide +kernel⟩
theorem fm_X7_165 : Cond.fieldLink RX7 165 (TX7 3).1 (TX7 3).2.1 (TX7 3).2.2.1 ∈ lw_good := good_of (List.mem_of_getElem? (i := 604) (by decide +kernel)) (by decide +kernel)
theorem fl_X7_165 : FLK RX7 165 7 3 := ⟨_, _, _, rfl, by decide, fm_X7_165⟩
theorem fp_X7_165 : FPK RX7 165 7 3 (.int) := ⟨_, _, _, rfl, by decide, fm_X7_165, rfl, by decide +kernel⟩
theorem fm_X7_13 : Cond.fieldLink RX7 13 (TX7 4).1 (TX7 4).2.1 (TX7 4).2.2.1 ∈ lw_good := good_of (List.mem_of_getElem? (i := 605) (by decide +kernel)) (by decide +kernel)
theorem fl_X7_13 : FLK RX7 13 7 4 := ⟨_, _, _, rfl, by decide, fm_X7_13⟩
theorem ff_X7_13 : FPF RX7 13 7 4 (.array .int) := ⟨_, _, _, rfl, by decide, fm_X7_13, rfl, rfl, by decide +kernel⟩
theorem fm_X7_68 : Cond.fieldLink RX7 68 (TX7 5).1 (TX7 5).2.1 (TX7 5).2.2.1 ∈ lw_good := good_of (List.mem_of_getElem? (i := 606) (by decide +kernel)) (by decide +kernel)
theorem fl_X7_68 : FLK RX7 68 7 5 := ⟨_, _, _, rfl, by decide, fm_X7_68⟩
theorem fp_X7_68 : FPK RX7 68 7 5 (.int) := ⟨_, _, _, rfl, by decide, fm_X7_68, rfl, by decide +kernel⟩
theorem fm_X7_16 : Cond.fieldLink RX7 16 (TX7 6).1 (TX7 6).2.1 (TX7 6).2.2.1 ∈ lw_good := good_of (List.mem_of_getElem? (i := 607) (by decide +kernel)) (by decide +kernel)
theorem fl_X7_16 : FLK RX7 16 7 6 := ⟨_, _, _, rfl, by decide, fm_X7_16⟩
theorem ff_X7_16 : FPF RX7 16 7 6 (.array .int) := ⟨_, _, _, rfl, by decide, fm_X7_16, rfl, rfl, by decide +kernel⟩
theorem fm_X7_19 : Cond.fieldLink RX7 19 (TX7 7).1 (TX7 7).2.1 (TX7 7).2.2.1 ∈ lw_good := good_of (List.mem_of_getElem? (i := 608) (by decide +kernel)) (by decide +kernel)
theorem fl_X7_19 : FLK RX7 19 7 7 := ⟨_, _, _, rfl, by decide, fm_X7_19⟩
theorem ff_X7_19 : FPF RX7 19 7 7 (.array .int) := ⟨_, _, _, rfl, by decide, fm_X7_19, rfl, rfl, by decide +kernel⟩
theorem fm_X7_22 : Cond.fieldLink RX7 22 (TX7 8).1 (TX7 8).2.1 (TX7 8).2.2.1 ∈ lw_good := good_of (List.mem_of_getElem? (i := 609) (by decide +kernel)) (by decide +kernel)
theorem fl_X7_22 : FLK RX7 22 7 8 := ⟨_, _, _, rfl, by decide, fm_X7_22⟩
theorem ff_X7_22 : FPF RX7 22 7 8 (.array .int) := ⟨_, _, _, rfl, by decide, fm_X7_22, rfl, rfl, by decide +kernel⟩
theorem fm_X7_25 : Cond.fieldLink RX7 25 (TX7 9).1 (TX7 9).2.1 (TX7 9).2.2.1 ∈ lw_good := good_of (List.mem_of_getElem? (i := 610) (by decide +kernel)) (by decide +kernel)
theorem fl_X7_25 : FLK RX7 25 7 9 := ⟨_, _, _, rfl, by decide, fm_X7_25⟩
theorem ff_X7_25 : FPF RX7 25 7 9 (.array .int) := ⟨_, _, _, rfl, by decide, fm_X7_25, rfl, rfl, by decide +kernel⟩
theorem fm_X7_28 : Cond.fieldLink RX7 28 (TX7 10).1 (TX7 10).2.1 (TX7 10).2.2.1 ∈ lw_good := good_of (List.mem_of_getElem? (i := 611) (by decide +kernel)) (by decide +kernel)
theorem fl_X7_28 : FLK RX7 28 7 10 := ⟨_, _, _, rfl, by decide, fm_X7_28⟩
theorem ff_X7_28 : FPF RX7 28 7 10 (.array .int) := ⟨_, _, _, rfl, by decide, fm_X7_28, rfl, rfl, by decide +kernel⟩
theorem fm_X7_31 : Cond.fieldLink RX7 31 (TX7 11).1 (TX7 11).2.1 (TX7 11).2.2.1 ∈ lw_good := good_of (List.mem_of_getElem? (i := 612) (by decide +kernel)) (by decide +kernel)
theorem fl_X7_31 : FLK RX7 31 7 11 := ⟨_, _, _, rfl, by decide, fm_X7_31⟩
theorem ff_X7_31 : FPF RX7 31 7 11 (.array .int) := ⟨_, _, _, rfl, by decide, fm_X7_31, rfl, rfl, by decide +kernel⟩
theorem fm_X7_34 : Cond.fieldLink RX7 34 (TX7 12).1 (TX7 12).2.1 (TX7 12).2.2.1 ∈ lw_good := good_of (List.mem_of_getElem? (i := 613) (by decide +kernel)) (by decide +kernel)
theorem fl_X7_34 : FLK RX7 34 7 12 := ⟨_, _, _, rfl, by decide, fm_X7_34⟩
theorem ff_X7_34 : FPF RX7 34 7 12 (.array .int) := ⟨_, _, _, rfl, by decide, fm_X7_34, rfl, rfl, by decide +kernel⟩
theorem fm_X7_37 : Cond.fieldLink RX7 37 (TX7 13).1 (TX7 13).2.1 (TX7 13).2.2.1 ∈ lw_good := good_of (List.mem_of_getElem? (i := 614) (by decide +kernel)) (by decide +kernel)
theorem fl_X7_37 : FLK RX7 37 7 13 := ⟨_, _, _, rfl, by decide, fm_X7_37⟩
theorem ff_X7_37 : FPF RX7 37 7 13 (.array .int) := ⟨_, _, _, rfl, by decide, fm_X7_37, rfl, rfl, by decide +kernel⟩
theorem fm_X7_40 : Cond.fieldLink RX7 40 (TX7 14).1 (TX7 14).2.1 (TX7 14).2.2.1 ∈ lw_good := good_of (List.mem_of_getElem? (i := 615) (by decide +kernel)) (by decide +kernel)
theorem fl_X7_40 : FLK RX7 40 7 14 := ⟨_, _, _, rfl, by decide, fm_X7_40⟩
theorem ff_X7_40 : FPF RX7 40 7 14 (.array .int) := ⟨_, _, _, rfl, by decide, fm_X7_40, rfl, rfl, by decide +kernel⟩
theorem fm_X7_43 : Cond.fieldLink RX7 43 (TX7 15).1 (TX7 15).2.1 (TX7 15).2.2.1 ∈ lw_good := good_of (List.mem_of_getElem? (i := 616) (by decide +kernel)) (by decide +kernel)
theorem fl_X7_43 : FLK RX7 43 7 15 := ⟨_, _, _, rfl, by decide, fm_X7_43⟩
theorem ff_X7_43 : FPF RX7 43 7 15 (.array .int) := ⟨_, _, _, rfl, by decide, fm_X7_43, rfl, rfl, by decide +kernel⟩
theorem fm_X7_46 : Cond.fieldLink RX7 46 (TX7 16).1 (TX7 16).2.1 (TX7 16).2.2.1 ∈ lw_good := good_of (List.mem_of_getElem? (i := 617) (by decide +kernel)) (by decide +kernel)
theorem fl_X7_46 : FLK RX7 46 7 16 := ⟨_, _, _, rfl, by decide, fm_X7_46⟩
theorem ff_X7_46 : FPF RX7 46 7 16 (.array .int) := ⟨_, _, _, rfl, by decide, fm_X7_46, rfl, rfl, by decide +kernel⟩
theorem fm_X7_49 : Cond.fieldLink RX7 49 (TX7 17).1 (TX7 17).2.1 (TX7 17).2.2.1 ∈ lw_good := good_of (List.mem_of_getElem? (i := 618) (by decide +kernel)) (by decide +kernel)
theorem fl_X7_49 : FLK RX7 49 7 17 := ⟨_, _, _, rfl, by decide, fm_X7_49⟩
theorem ff_X7_49 : FPF RX7 49 7 17 (.array .int) := ⟨_, _, _, rfl, by decide, fm_X7_49, rfl, rfl, by decide +kernel⟩
theorem fm_X7_72 : Cond.fieldLink RX7 72 (TX7 18).1 (TX7 18).2.1 (TX7 18).2.2.1 ∈ lw_good := good_of (List.mem_of_getElem? (i := 619) (by decide +kernel)) (by decide +kernel)
theorem fl_X7_72 : FLK RX7 72 7 18 := ⟨_, _, _, rfl, by decide, fm_X7_72⟩
theorem fp_X7_72 : FPK RX7 72 7 18 (.int) := ⟨_, _, _, rfl, by decide, fm_X7_72, rfl, by decide +kernel⟩
theorem fm_X7_52 : Cond.fieldLink RX7 52 (TX7 19).1 (TX7 19).2.1 (TX7 19).2.2.1 ∈ lw_good := good_of (List.mem_of_getElem? (i := 620) (by decide +kernel)) (by decide +kernel)
theorem fl_X7_52 : FLK RX7 52 7 19 := ⟨_, _, _, rfl, by decide, fm_X7_52⟩
theorem ff_X7_52 : FPF RX7 52 7 19 (.array .int) := ⟨_, _, _, rfl, by decide, fm_X7_52, rfl, rfl, by decide +kernel⟩
theorem fm_X7_185 : Cond.fieldLink RX7 185 (TX7 20).1 (TX7 20).2.1 (TX7 20).2.2.1 ∈ lw_good := good_of (List.mem_of_getElem? (i := 621) (by decide +kernel)) (by decide +kernel)
theorem fl_X7_185 : FLK RX7 185 7 20 := ⟨_, _, _, rfl, by decide, fm_X7_185⟩
theorem fp_X7_185 : FPK RX7 185 7 20 (.int) := ⟨_, _, _, rfl, by decide, fm_X7_185, rfl, by decide +kernel⟩
theorem fm_X7_55 : Cond.fieldLink RX7 55 (TX7 21).1 (TX7 21).2.1 (TX7 21).2.2.1 ∈ lw_good := good_of (List.mem_of_getElem? (i := 622) (by decide +kernel)) (by decide +kernel)
theorem fl_X7_55 : FLK RX7 55 7 21 := ⟨_, _, _, rfl, by decide, fm_X7_55⟩
theorem ff_X7_55 : FPF RX7 55 7 21 (.array .int) := ⟨_, _, _, rfl, by decide, fm_X7_55, rfl, rfl, by decide +kernel⟩
theorem fm_X7_58 : Cond.fieldLink RX7 58 (TX7 22).1 (TX7 22).2.1 (TX7 22).2.2.1 ∈ lw_good := good_of (List.mem_of_getElem? (i := 623) (by decide +kernel)) (by decide +kernel)
theorem fl_X7_58 : FLK RX7 58 7 22 := ⟨_, _, _, rfl, by decide, fm_X7_58⟩
theorem ff_X7_58 : FPF RX7 58 7 22 (.array .int) := ⟨_, _, _, rfl, by decide, fm_X7_58, rfl, rfl, by decide +kernel⟩
theorem fm_X7_61 : Cond.fieldLink RX7 61 (TX7 23).1 (TX7 23).2.1 (TX7 23).2.2.1 ∈ lw_good := good_of (List.mem_of_getElem? (i := 624) (by decide +kernel)) (by decide +kernel)
theorem fl_X7_61 : FLK RX7 61 7 23 := ⟨_, _, _, rfl, by decide, fm_X7_61⟩
theorem ff_X7_61 : FPF RX7 61 7 23 (.array .int) := ⟨_, _, _, rfl, by decide, fm_X7_61, rfl, rfl, by decide +kernel⟩
theorem ml_L_9 : Cond.methodLink RL 9 yX6_init ∈ lw_good := good_of (List.mem_of_getElem? (i := 12) (by decide +kernel)) (by decide +kernel)
theorem ml_X6_1 : Cond.methodLink RX6 1 objectInit ∈ lw_good := good_of (List.mem_of_getElem? (i := 15) (by decide +kernel)) (by decide +kernel)
theorem ml_X6_9 : Cond.methodLinkNest RX6 9 yX5_init "StateChannels" ∈ lw_tbl := tbl_of (List.mem_of_getElem? (i := 20) (by decide +kernel))
theorem ml_X5_3 : Cond.methodLink RX5 3 objectInit ∈ lw_good := good_of (List.mem_of_getElem? (i := 23) (by decide +kernel)) (by decide +kernel)
theorem ml_X6_38 : Cond.methodLink RX6 38 yX5_put ∈ lw_good := good_of (List.mem_of_getElem? (i := 35) (by decide +kernel)) (by decide +kernel)
theorem ml_L_13 : Cond.methodLink RL 13 yX6_channel ∈ lw_good := good_of (List.mem_of_getElem? (i := 73) (by decide +kernel)) (by decide +kernel)
theorem ml_X6_42 : Cond.methodLink RX6 42 yX6_isWithin ∈ lw_good := good_of (List.mem_of_getElem? (i := 77) (by decide +kernel)) (by decide +kernel)
theorem ml_X6_46 : Cond.methodLink RX6 46 yJ6_bitCount_0f7a4 ∈ lw_good := good_of (List.mem_of_getElem? (i := 80) (by decide +kernel)) (by decide +kernel)
theorem ct_J6_265 : Cond.constant RJ6 265 1431655765 ∈ lw_good := good_of (List.mem_of_getElem? (i := 83) (by decide +kernel)) (by decide +kernel)
theorem ct_J6_266 : Cond.constant RJ6 266 858993459 ∈ lw_good := good_of (List.mem_of_getElem? (i := 84) (by decide +kernel)) (by decide +kernel)
theorem ct_J6_267 : Cond.constant RJ6 267 252645135 ∈ lw_good := good_of (List.mem_of_getElem? (i := 85) (by decide +kernel)) (by decide +kernel)
theorem ml_X6_56 : Cond.methodLink RX6 56 yX6_hasRoomForStates ∈ lw_good := good_of (List.mem_of_getElem? (i := 86) (by decide +kernel)) (by decide +kernel)
theorem ml_X6_60 : Cond.methodLink RX6 60 yX6_allHave ∈ lw_good := good_of (List.mem_of_getElem? (i := 90) (by decide +kernel)) (by decide +kernel)
theorem ml_X6_107 : Cond.methodLink RX6 107 yX6_isIn ∈ lw_good := good_of (List.mem_of_getElem? (i := 94) (by decide +kernel)) (by decide +kernel)
theorem ml_X6_110 : Cond.methodLink RX6 110 yX5_get ∈ lw_good := good_of (List.mem_of_getElem? (i := 97) (by decide +kernel)) (by decide +kernel)
theorem ml_X6_64 : Cond.methodLink RX6 64 yX0_init ∈ lw_good := good_of (List.mem_of_getElem? (i := 102) (by decide +kernel)) (by decide +kernel)
theorem ml_X0_3 : Cond.methodLink RX0 3 objectInit ∈ lw_good := good_of (List.mem_of_getElem? (i := 105) (by decide +kernel)) (by decide +kernel)
theorem ml_X6_67 : Cond.methodLink RX6 67 yX6_newState ∈ lw_good := good_of (List.mem_of_getElem? (i := 155) (by decide +kernel)) (by decide +kernel)
theorem ml_X6_116 : Cond.methodLink RX6 116 yX4_init ∈ lw_good := good_of (List.mem_of_getElem? (i := 160) (by decide +kernel)) (by decide +kernel)
theorem ml_X4_3 : Cond.methodLink RX4 3 objectInit ∈ lw_good := good_of (List.mem_of_getElem? (i := 163) (by decide +kernel)) (by decide +kernel)
theorem ml_X4_11 : Cond.methodLinkNest RX4 11 yX5_init "StateChannels" ∈ lw_tbl := tbl_of (List.mem_of_getElem? (i := 165) (by decide +kernel))
theorem ml_X6_71 : Cond.methodLink RX6 71 yX0_hasMember ∈ lw_good := good_of (List.mem_of_getElem? (i := 205) (by decide +kernel)) (by decide +kernel)
theorem ml_X0_24 : Cond.methodLinkNest RX0 24 yX6_isIn "StateChannels" ∈ lw_tbl := tbl_of (List.mem_of_getElem? (i := 209) (by decide +kernel))
theorem ml_X6_74 : Cond.methodLink RX6 74 yX5_add ∈ lw_good := good_of (List.mem_of_getElem? (i := 210) (by decide +kernel)) (by decide +kernel)
theorem ml_L_18 : Cond.methodLink RL 18 yX6_state ∈ lw_good := good_of (List.mem_of_getElem? (i := 214) (by decide +kernel)) (by decide +kernel)
theorem ml_X6_93 : Cond.methodLink RX6 93 yX6_channelAt ∈ lw_good := good_of (List.mem_of_getElem? (i := 218) (by decide +kernel)) (by decide +kernel)
theorem ml_X6_100 : Cond.methodLink RX6 100 yX6_newStateAsNewest ∈ lw_good := good_of (List.mem_of_getElem? (i := 222) (by decide +kernel)) (by decide +kernel)
theorem ml_X6_119 : Cond.methodLink RX6 119 yX4_copyFrom ∈ lw_good := good_of (List.mem_of_getElem? (i := 226) (by decide +kernel)) (by decide +kernel)
theorem ml_X4_38 : Cond.methodLink RX4 38 yX5_get ∈ lw_good := good_of (List.mem_of_getElem? (i := 230) (by decide +kernel)) (by decide +kernel)
theorem ml_X4_42 : Cond.methodLink RX4 42 yX5_put ∈ lw_good := good_of (List.mem_of_getElem? (i := 231) (by decide +kernel)) (by decide +kernel)
theorem ml_X4_46 : Cond.methodLink RX4 46 yX4_lockAt ∈ lw_good := good_of (List.mem_of_getElem? (i := 232) (by decide +kernel)) (by decide +kernel)
theorem ml_L_23 : Cond.methodLink RL 23 yX6_change ∈ lw_good := good_of (List.mem_of_getElem? (i := 236) (by decide +kernel)) (by decide +kernel)
theorem ml_X6_123 : Cond.methodLink RX6 123 yX6_stateAt ∈ lw_good := good_of (List.mem_of_getElem? (i := 240) (by decide +kernel)) (by decide +kernel)
theorem ml_X6_127 : Cond.methodLink RX6 127 yX4_hasMember ∈ lw_good := good_of (List.mem_of_getElem? (i := 244) (by decide +kernel)) (by decide +kernel)
theorem ml_X4_54 : Cond.methodLink RX4 54 yX0_hasMember ∈ lw_good := good_of (List.mem_of_getElem? (i := 248) (by decide +kernel)) (by decide +kernel)
theorem ml_X6_128 : Cond.methodLink RX6 128 yX4_isFixed ∈ lw_good := good_of (List.mem_of_getElem? (i := 249) (by decide +kernel)) (by decide +kernel)
theorem ct_X6_132 : Cond.constant RX6 132 60000 ∈ lw_good := good_of (List.mem_of_getElem? (i := 253) (by decide +kernel)) (by decide +kernel)
theorem ml_X6_133 : Cond.methodLink RX6 133 yX4_freeOf ∈ lw_good := good_of (List.mem_of_getElem? (i := 254) (by decide +kernel)) (by decide +kernel)
theorem ml_L_28 : Cond.methodLink RL 28 yX6_lock ∈ lw_good := good_of (List.mem_of_getElem? (i := 258) (by decide +kernel)) (by decide +kernel)
theorem ml_X6_136 : Cond.methodLink RX6 136 yX6_isSecret ∈ lw_good := good_of (List.mem_of_getElem? (i := 262) (by decide +kernel)) (by decide +kernel)
theorem ct_X6_139 : Cond.constant RX6 139 1000000 ∈ lw_good := good_of (List.mem_of_getElem? (i := 266) (by decide +kernel)) (by decide +kernel)
theorem ml_X6_140 : Cond.methodLink RX6 140 yX4_emptyPlace ∈ lw_good := good_of (List.mem_of_getElem? (i := 267) (by decide +kernel)) (by decide +kernel)
theorem ml_X6_146 : Cond.methodLink RX6 146 yX3_init ∈ lw_good := good_of (List.mem_of_getElem? (i := 273) (by decide +kernel)) (by decide +kernel)
theorem ml_X3_1 : Cond.methodLink RX3 1 objectInit ∈ lw_good := good_of (List.mem_of_getElem? (i := 276) (by decide +kernel)) (by decide +kernel)
theorem ml_X6_149 : Cond.methodLink RX6 149 yX4_addLock ∈ lw_good := good_of (List.mem_of_getElem? (i := 300) (by decide +kernel)) (by decide +kernel)
theorem ml_X4_87 : Cond.methodLink RX4 87 yX4_emptyPlace ∈ lw_good := good_of (List.mem_of_getElem? (i := 304) (by decide +kernel)) (by decide +kernel)
theorem ml_X4_93 : Cond.methodLink RX4 93 yX5_add ∈ lw_good := good_of (List.mem_of_getElem? (i := 305) (by decide +kernel)) (by decide +kernel)
theorem ml_L_33 : Cond.methodLink RL 33 yX6_unlock ∈ lw_good := good_of (List.mem_of_getElem? (i := 306) (by decide +kernel)) (by decide +kernel)
theorem ml_X6_153 : Cond.methodLink RX6 153 yX4_lockAt ∈ lw_good := good_of (List.mem_of_getElem? (i := 310) (by decide +kernel)) (by decide +kernel)
theorem ml_X6_157 : Cond.methodLink RX6 157 yX4_removeLock ∈ lw_good := good_of (List.mem_of_getElem? (i := 311) (by decide +kernel)) (by decide +kernel)
theorem ml_L_38 : Cond.methodLink RL 38 yX6_game ∈ lw_good := good_of (List.mem_of_getElem? (i := 315) (by decide +kernel)) (by decide +kernel)
theorem ml_X6_176 : Cond.methodLink RX6 176 yX1_init ∈ lw_good := good_of (List.mem_of_getElem? (i := 321) (by decide +kernel)) (by decide +kernel)
theorem ml_X1_1 : Cond.methodLink RX1 1 objectInit ∈ lw_good := good_of (List.mem_of_getElem? (i := 324) (by decide +kernel)) (by decide +kernel)
theorem ml_L_43 : Cond.methodLink RL 43 yX6_move ∈ lw_good := good_of (List.mem_of_getElem? (i := 343) (by decide +kernel)) (by decide +kernel)
theorem ml_X6_185 : Cond.methodLink RX6 185 yX1_after ∈ lw_good := good_of (List.mem_of_getElem? (i := 347) (by decide +kernel)) (by decide +kernel)
theorem ml_X1_22 : Cond.methodLink RX1 22 yX1_init ∈ lw_good := good_of (List.mem_of_getElem? (i := 352) (by decide +kernel)) (by decide +kernel)
theorem ml_L_48 : Cond.methodLink RL 48 yX6_out ∈ lw_good := good_of (List.mem_of_getElem? (i := 353) (by decide +kernel)) (by decide +kernel)
theorem ml_L_52 : Cond.methodLink RL 52 yX6_sign ∈ lw_good := good_of (List.mem_of_getElem? (i := 357) (by decide +kernel)) (by decide +kernel)
theorem ml_X6_199 : Cond.methodLink RX6 199 yX0_noteSigned ∈ lw_good := good_of (List.mem_of_getElem? (i := 361) (by decide +kernel)) (by decide +kernel)
theorem ml_X0_28 : Cond.methodLink RX0 28 yX4_doesCount ∈ lw_good := good_of (List.mem_of_getElem? (i := 365) (by decide +kernel)) (by decide +kernel)
theorem ml_X4_69 : Cond.methodLink RX4 69 yX4_whole ∈ lw_good := good_of (List.mem_of_getElem? (i := 369) (by decide +kernel)) (by decide +kernel)
theorem ml_X4_76 : Cond.methodLink RX4 76 yX5_total ∈ lw_good := good_of (List.mem_of_getElem? (i := 373) (by decide +kernel)) (by decide +kernel)
theorem ml_L_56 : Cond.methodLink RL 56 yX6_show ∈ lw_good := good_of (List.mem_of_getElem? (i := 377) (by decide +kernel)) (by decide +kernel)
theorem ml_X6_202 : Cond.methodLink RX6 202 yX4_doesCount ∈ lw_good := good_of (List.mem_of_getElem? (i := 381) (by decide +kernel)) (by decide +kernel)
theorem ml_X6_205 : Cond.methodLink RX6 205 yX0_wouldTake ∈ lw_good := good_of (List.mem_of_getElem? (i := 382) (by decide +kernel)) (by decide +kernel)
theorem ml_X6_209 : Cond.methodLink RX6 209 yX6_makeShown ∈ lw_good := good_of (List.mem_of_getElem? (i := 386) (by decide +kernel)) (by decide +kernel)
theorem ml_L_60 : Cond.methodLink RL 60 yX6_agree ∈ lw_good := good_of (List.mem_of_getElem? (i := 390) (by decide +kernel)) (by decide +kernel)
theorem ml_X6_221 : Cond.methodLink RX6 221 yX6_fulfil ∈ lw_good := good_of (List.mem_of_getElem? (i := 394) (by decide +kernel)) (by decide +kernel)
theorem ml_X6_233 : Cond.methodLink RX6 233 yX4_hasOut ∈ lw_good := good_of (List.mem_of_getElem? (i := 398) (by decide +kernel)) (by decide +kernel)
theorem ml_X6_236 : Cond.methodLink RX6 236 yX6_payOuts ∈ lw_good := good_of (List.mem_of_getElem? (i := 402) (by decide +kernel)) (by decide +kernel)
theorem ml_X6_242 : Cond.methodLink RX6 242 yX6_payFrom ∈ lw_good := good_of (List.mem_of_getElem? (i := 406) (by decide +kernel)) (by decide +kernel)
theorem ml_X6_239 : Cond.methodLink RX6 239 yX6_endBy ∈ lw_good := good_of (List.mem_of_getElem? (i := 410) (by decide +kernel)) (by decide +kernel)
theorem ml_X6_246 : Cond.methodLink RX6 246 yX6_holdOrGiveBack ∈ lw_good := good_of (List.mem_of_getElem? (i := 414) (by decide +kernel)) (by decide +kernel)
theorem ml_L_64 : Cond.methodLink RL 64 yX6_secret ∈ lw_good := good_of (List.mem_of_getElem? (i := 418) (by decide +kernel)) (by decide +kernel)
theorem ml_X6_262 : Cond.methodLink RX6 262 yX6_isParty ∈ lw_good := good_of (List.mem_of_getElem? (i := 422) (by decide +kernel)) (by decide +kernel)
theorem ml_X6_265 : Cond.methodLink RX6 265 yX6_hasRoomForSecret ∈ lw_good := good_of (List.mem_of_getElem? (i := 425) (by decide +kernel)) (by decide +kernel)
theorem ml_X6_268 : Cond.methodLink RX6 268 yX6_newSecret ∈ lw_good := good_of (List.mem_of_getElem? (i := 429) (by decide +kernel)) (by decide +kernel)
theorem ml_L_68 : Cond.methodLink RL 68 yX6_tell ∈ lw_good := good_of (List.mem_of_getElem? (i := 433) (by decide +kernel)) (by decide +kernel)
theorem ml_X6_271 : Cond.methodLink RX6 271 yX6_isKnownBy ∈ lw_good := good_of (List.mem_of_getElem? (i := 437) (by decide +kernel)) (by decide +kernel)
theorem ml_L_72 : Cond.methodLink RL 72 yX6_claim ∈ lw_good := good_of (List.mem_of_getElem? (i := 441) (by decide +kernel)) (by decide +kernel)
theorem ml_X6_277 : Cond.methodLink RX6 277 yX6_isPlace ∈ lw_good := good_of (List.mem_of_getElem? (i := 445) (by decide +kernel)) (by decide +kernel)
theorem ml_X6_280 : Cond.methodLink RX6 280 yX6_claimHeld ∈ lw_good := good_of (List.mem_of_getElem? (i := 448) (by decide +kernel)) (by decide +kernel)
theorem ml_X6_291 : Cond.methodLink RX6 291 yX0_heldLockAt ∈ lw_good := good_of (List.mem_of_getElem? (i := 452) (by decide +kernel)) (by decide +kernel)
theorem ml_X0_44 : Cond.methodLinkNest RX0 44 yX6_isPlace "StateChannels" ∈ lw_tbl := tbl_of (List.mem_of_getElem? (i := 456) (by decide +kernel))
theorem ml_X0_51 : Cond.methodLink RX0 51 yX4_lockAt ∈ lw_good := good_of (List.mem_of_getElem? (i := 457) (by decide +kernel)) (by decide +kernel)
theorem ml_X6_294 : Cond.methodLink RX6 294 yX6_canClaim ∈ lw_good := good_of (List.mem_of_getElem? (i := 458) (by decide +kernel)) (by decide +kernel)
theorem ml_X6_298 : Cond.methodLink RX6 298 yX6_payHeldLock ∈ lw_good := good_of (List.mem_of_getElem? (i := 462) (by decide +kernel)) (by decide +kernel)
theorem ml_L_76 : Cond.methodLink RL 76 yX6_step ∈ lw_good := good_of (List.mem_of_getElem? (i := 466) (by decide +kernel)) (by decide +kernel)
theorem ml_X6_284 : Cond.methodLink RX6 284 yX6_moveHeld ∈ lw_good := good_of (List.mem_of_getElem? (i := 470) (by decide +kernel)) (by decide +kernel)
theorem ml_X6_302 : Cond.methodLink RX6 302 yX6_payHeldStake ∈ lw_good := good_of (List.mem_of_getElem? (i := 474) (by decide +kernel)) (by decide +kernel)
theorem ml_L_80 : Cond.methodLink RL 80 yX6_watch ∈ lw_good := good_of (List.mem_of_getElem? (i := 478) (by decide +kernel)) (by decide +kernel)
theorem ml_L_85 : Cond.methodLink RL 85 yX6_height ∈ lw_good := good_of (List.mem_of_getElem? (i := 482) (by decide +kernel)) (by decide +kernel)
theorem ml_X6_308 : Cond.methodLink RX6 308 yX6_oneHeightMore ∈ lw_good := good_of (List.mem_of_getElem? (i := 486) (by decide +kernel)) (by decide +kernel)
theorem ml_X6_311 : Cond.methodLink RX6 311 yX6_meetHeight ∈ lw_good := good_of (List.mem_of_getElem? (i := 490) (by decide +kernel)) (by decide +kernel)
theorem ml_X6_315 : Cond.methodLink RX6 315 yX6_watchFor ∈ lw_good := good_of (List.mem_of_getElem? (i := 494) (by decide +kernel)) (by decide +kernel)
theorem ml_X6_322 : Cond.methodLink RX6 322 yX6_playFor ∈ lw_good := good_of (List.mem_of_getElem? (i := 498) (by decide +kernel)) (by decide +kernel)
theorem ml_X6_325 : Cond.methodLink RX6 325 yX6_hasUrgentLock ∈ lw_good := good_of (List.mem_of_getElem? (i := 502) (by decide +kernel)) (by decide +kernel)
theorem ml_L_89 : Cond.methodLink RL 89 yX6_hop ∈ lw_good := good_of (List.mem_of_getElem? (i := 506) (by decide +kernel)) (by decide +kernel)
theorem ml_X6_332 : Cond.methodLink RX6 332 yX6_continuesRoute ∈ lw_good := good_of (List.mem_of_getElem? (i := 510) (by decide +kernel)) (by decide +kernel)
theorem ml_X6_338 : Cond.methodLink RX6 338 yX6_hopAt ∈ lw_good := good_of (List.mem_of_getElem? (i := 514) (by decide +kernel)) (by decide +kernel)
theorem ml_X6_336 : Cond.methodLink RX6 336 yX2_init ∈ lw_good := good_of (List.mem_of_getElem? (i := 519) (by decide +kernel)) (by decide +kernel)
theorem ml_X2_3 : Cond.methodLink RX2 3 objectInit ∈ lw_good := good_of (List.mem_of_getElem? (i := 522) (by decide +kernel)) (by decide +kernel)
theorem ml_L_93 : Cond.methodLink RL 93 yX6_pay ∈ lw_good := good_of (List.mem_of_getElem? (i := 536) (by decide +kernel)) (by decide +kernel)
theorem ml_X6_342 : Cond.methodLink RX6 342 yX6_allCarry ∈ lw_good := good_of (List.mem_of_getElem? (i := 540) (by decide +kernel)) (by decide +kernel)
theorem ml_X6_355 : Cond.methodLink RX6 355 yX2_canCarry ∈ lw_good := good_of (List.mem_of_getElem? (i := 544) (by decide +kernel)) (by decide +kernel)
theorem ml_X2_37 : Cond.methodLink RX2 37 yX5_get ∈ lw_good := good_of (List.mem_of_getElem? (i := 548) (by decide +kernel)) (by decide +kernel)
theorem ml_X2_43 : Cond.methodLink RX2 43 yX4_emptyPlace ∈ lw_good := good_of (List.mem_of_getElem? (i := 549) (by decide +kernel)) (by decide +kernel)
theorem ml_X6_346 : Cond.methodLink RX6 346 yX6_firstExpiry ∈ lw_good := good_of (List.mem_of_getElem? (i := 550) (by decide +kernel)) (by decide +kernel)
theorem ml_X6_350 : Cond.methodLink RX6 350 yX6_payHop ∈ lw_good := good_of (List.mem_of_getElem? (i := 554) (by decide +kernel)) (by decide +kernel)
theorem ml_L_97 : Cond.methodLink RL 97 yX6_account ∈ lw_good := good_of (List.mem_of_getElem? (i := 558) (by decide +kernel)) (by decide +kernel)
theorem ml_L_101 : Cond.methodLink RL 101 yX6_told ∈ lw_good := good_of (List.mem_of_getElem? (i := 562) (by decide +kernel)) (by decide +kernel)
theorem ml_X6_359 : Cond.methodLink RX6 359 yX6_numberOf ∈ lw_good := good_of (List.mem_of_getElem? (i := 566) (by decide +kernel)) (by decide +kernel)
theorem ml_L_105 : Cond.methodLink RL 105 yX6_of ∈ lw_good := good_of (List.mem_of_getElem? (i := 569) (by decide +kernel)) (by decide +kernel)
theorem ml_X6_366 : Cond.methodLink RX6 366 yX4_whole ∈ lw_good := good_of (List.mem_of_getElem? (i := 573) (by decide +kernel)) (by decide +kernel)
theorem ml_L_109 : Cond.methodLink RL 109 yX6_share ∈ lw_good := good_of (List.mem_of_getElem? (i := 574) (by decide +kernel)) (by decide +kernel)
theorem ml_L_113 : Cond.methodLink RL 113 yX6_locked ∈ lw_good := good_of (List.mem_of_getElem? (i := 578) (by decide +kernel)) (by decide +kernel)
theorem ml_L_117 : Cond.methodLink RL 117 yX6_knows ∈ lw_good := good_of (List.mem_of_getElem? (i := 582) (by decide +kernel)) (by decide +kernel)
theorem ml_L_121 : Cond.methodLink RL 121 yX6_count ∈ lw_good := good_of (List.mem_of_getElem? (i := 586) (by decide +kernel)) (by decide +kernel)
theorem ml_X6_369 : Cond.methodLink RX6 369 yX6_allThereIs ∈ lw_good := good_of (List.mem_of_getElem? (i := 590) (by decide +kernel)) (by decide +kernel)
theorem ml_X6_372 : Cond.methodLink RX6 372 yX5_total ∈ lw_good := good_of (List.mem_of_getElem? (i := 594) (by decide +kernel)) (by decide +kernel)
theorem ml_L_12 : Cond.methodLink RL 12 yX7_init ∈ lw_good := good_of (List.mem_of_getElem? (i := 597) (by decide +kernel)) (by decide +kernel)
theorem ml_X7_1 : Cond.methodLink RX7 1 objectInit ∈ lw_good := good_of (List.mem_of_getElem? (i := 600) (by decide +kernel)) (by decide +kernel)
theorem ml_L_17 : Cond.methodLink RL 17 yX7_channel ∈ lw_good := good_of (List.mem_of_getElem? (i := 674) (by decide +kernel)) (by decide +kernel)
theorem ml_X7_64 : Cond.methodLink RX7 64 yX7_isIn ∈ lw_good := good_of (List.mem_of_getElem? (i := 678) (by decide +kernel)) (by decide +kernel)
theorem ml_X7_143 : Cond.methodLink RX7 143 yX7_size ∈ lw_good := good_of (List.mem_of_getElem? (i := 681) (by decide +kernel)) (by decide +kernel)
theorem ml_X7_79 : Cond.methodLink RX7 79 yX7_has ∈ lw_good := good_of (List.mem_of_getElem? (i := 684) (by decide +kernel)) (by decide +kernel)
theorem ml_X7_146 : Cond.methodLink RX7 146 yX7_blank ∈ lw_good := good_of (List.mem_of_getElem? (i := 687) (by decide +kernel)) (by decide +kernel)
theorem ml_X7_86 : Cond.methodLink RX7 86 yX7_channelOf ∈ lw_good := good_of (List.mem_of_getElem? (i := 691) (by decide +kernel)) (by decide +kernel)
theorem ml_L_22 : Cond.methodLink RL 22 yX7_state ∈ lw_good := good_of (List.mem_of_getElem? (i := 695) (by decide +kernel)) (by decide +kernel)
theorem ml_X7_149 : Cond.methodLink RX7 149 yX7_isChannel ∈ lw_good := good_of (List.mem_of_getElem? (i := 699) (by decide +kernel)) (by decide +kernel)
theorem ml_X7_152 : Cond.methodLink RX7 152 yX7_copied ∈ lw_good := good_of (List.mem_of_getElem? (i := 703) (by decide +kernel)) (by decide +kernel)
theorem ml_X7_117 : Cond.methodLink RX7 117 yX7_newest ∈ lw_good := good_of (List.mem_of_getElem? (i := 707) (by decide +kernel)) (by decide +kernel)
theorem ml_X7_100 : Cond.methodLink RX7 100 yX7_counts ∈ lw_good := good_of (List.mem_of_getElem? (i := 711) (by decide +kernel)) (by decide +kernel)
theorem ml_X7_97 : Cond.methodLink RX7 97 yX7_whole ∈ lw_good := good_of (List.mem_of_getElem? (i := 715) (by decide +kernel)) (by decide +kernel)
theorem ml_X7_93 : Cond.methodLink RX7 93 yX7_lockAt ∈ lw_good := good_of (List.mem_of_getElem? (i := 719) (by decide +kernel)) (by decide +kernel)
theorem ml_L_27 : Cond.methodLink RL 27 yX7_change ∈ lw_good := good_of (List.mem_of_getElem? (i := 722) (by decide +kernel)) (by decide +kernel)
theorem ml_X7_155 : Cond.methodLink RX7 155 yX7_isOf ∈ lw_good := good_of (List.mem_of_getElem? (i := 726) (by decide +kernel)) (by decide +kernel)
theorem ml_X7_83 : Cond.methodLink RX7 83 yX7_isState ∈ lw_good := good_of (List.mem_of_getElem? (i := 730) (by decide +kernel)) (by decide +kernel)
theorem ml_X7_90 : Cond.methodLink RX7 90 yX7_isMember ∈ lw_good := good_of (List.mem_of_getElem? (i := 734) (by decide +kernel)) (by decide +kernel)
theorem ml_X7_75 : Cond.methodLink RX7 75 yX7_isParty ∈ lw_good := good_of (List.mem_of_getElem? (i := 738) (by decide +kernel)) (by decide +kernel)
theorem ml_X7_158 : Cond.methodLink RX7 158 yX7_isFixed ∈ lw_good := good_of (List.mem_of_getElem? (i := 741) (by decide +kernel)) (by decide +kernel)
theorem ct_X7_161 : Cond.constant RX7 161 60000 ∈ lw_good := good_of (List.mem_of_getElem? (i := 745) (by decide +kernel)) (by decide +kernel)
theorem ml_X7_162 : Cond.methodLink RX7 162 yX7_free ∈ lw_good := good_of (List.mem_of_getElem? (i := 746) (by decide +kernel)) (by decide +kernel)
theorem ml_L_32 : Cond.methodLink RL 32 yX7_lock ∈ lw_good := good_of (List.mem_of_getElem? (i := 750) (by decide +kernel)) (by decide +kernel)
theorem ct_X7_168 : Cond.constant RX7 168 1000000 ∈ lw_good := good_of (List.mem_of_getElem? (i := 754) (by decide +kernel)) (by decide +kernel)
theorem ml_X7_169 : Cond.methodLink RX7 169 yX7_emptyPlace ∈ lw_good := good_of (List.mem_of_getElem? (i := 755) (by decide +kernel)) (by decide +kernel)
theorem ml_X7_172 : Cond.methodLink RX7 172 yX7_locks ∈ lw_good := good_of (List.mem_of_getElem? (i := 759) (by decide +kernel)) (by decide +kernel)
theorem ml_L_37 : Cond.methodLink RL 37 yX7_unlock ∈ lw_good := good_of (List.mem_of_getElem? (i := 763) (by decide +kernel)) (by decide +kernel)
theorem ml_X7_176 : Cond.methodLink RX7 176 yX7_isLock ∈ lw_good := good_of (List.mem_of_getElem? (i := 767) (by decide +kernel)) (by decide +kernel)
theorem ml_L_42 : Cond.methodLink RL 42 yX7_game ∈ lw_good := good_of (List.mem_of_getElem? (i := 771) (by decide +kernel)) (by decide +kernel)
theorem ml_L_47 : Cond.methodLink RL 47 yX7_move ∈ lw_good := good_of (List.mem_of_getElem? (i := 775) (by decide +kernel)) (by decide +kernel)
theorem ml_L_51 : Cond.methodLink RL 51 yX7_out ∈ lw_good := good_of (List.mem_of_getElem? (i := 779) (by decide +kernel)) (by decide +kernel)
theorem ml_L_55 : Cond.methodLink RL 55 yX7_sign ∈ lw_good := good_of (List.mem_of_getElem? (i := 783) (by decide +kernel)) (by decide +kernel)
theorem ml_L_59 : Cond.methodLink RL 59 yX7_show ∈ lw_good := good_of (List.mem_of_getElem? (i := 787) (by decide +kernel)) (by decide +kernel)
theorem ml_X7_120 : Cond.methodLink RX7 120 yX7_shows ∈ lw_good := good_of (List.mem_of_getElem? (i := 791) (by decide +kernel)) (by decide +kernel)
theorem ml_L_63 : Cond.methodLink RL 63 yX7_agree ∈ lw_good := good_of (List.mem_of_getElem? (i := 795) (by decide +kernel)) (by decide +kernel)
theorem ml_X7_179 : Cond.methodLink RX7 179 yX7_takesOut ∈ lw_good := good_of (List.mem_of_getElem? (i := 799) (by decide +kernel)) (by decide +kernel)
theorem ml_X7_114 : Cond.methodLink RX7 114 yX7_end ∈ lw_good := good_of (List.mem_of_getElem? (i := 803) (by decide +kernel)) (by decide +kernel)
theorem ml_X7_106 : Cond.methodLink RX7 106 yX7_pays ∈ lw_good := good_of (List.mem_of_getElem? (i := 807) (by decide +kernel)) (by decide +kernel)
theorem ml_L_67 : Cond.methodLink RL 67 yX7_secret ∈ lw_good := good_of (List.mem_of_getElem? (i := 811) (by decide +kernel)) (by decide +kernel)
theorem ml_L_71 : Cond.methodLink RL 71 yX7_tell ∈ lw_good := good_of (List.mem_of_getElem? (i := 815) (by decide +kernel)) (by decide +kernel)
theorem ml_L_75 : Cond.methodLink RL 75 yX7_claim ∈ lw_good := good_of (List.mem_of_getElem? (i := 819) (by decide +kernel)) (by decide +kernel)
theorem ml_X7_124 : Cond.methodLink RX7 124 yX7_canClaim ∈ lw_good := good_of (List.mem_of_getElem? (i := 823) (by decide +kernel)) (by decide +kernel)
theorem ml_X7_127 : Cond.methodLink RX7 127 yX7_claims ∈ lw_good := good_of (List.mem_of_getElem? (i := 827) (by decide +kernel)) (by decide +kernel)
theorem ml_L_79 : Cond.methodLink RL 79 yX7_step ∈ lw_good := good_of (List.mem_of_getElem? (i := 831) (by decide +kernel)) (by decide +kernel)
theorem ml_X7_131 : Cond.methodLink RX7 131 yX7_steps ∈ lw_good := good_of (List.mem_of_getElem? (i := 835) (by decide +kernel)) (by decide +kernel)
theorem ml_X7_110 : Cond.methodLink RX7 110 yX7_wins ∈ lw_good := good_of (List.mem_of_getElem? (i := 839) (by decide +kernel)) (by decide +kernel)
theorem ml_L_84 : Cond.methodLink RL 84 yX7_watch ∈ lw_good := good_of (List.mem_of_getElem? (i := 843) (by decide +kernel)) (by decide +kernel)
theorem ml_L_88 : Cond.methodLink RL 88 yX7_height ∈ lw_good := good_of (List.mem_of_getElem? (i := 847) (by decide +kernel)) (by decide +kernel)
theorem ml_X7_182 : Cond.methodLink RX7 182 yX7_oneMore ∈ lw_good := good_of (List.mem_of_getElem? (i := 851) (by decide +kernel)) (by decide +kernel)
theorem ml_X7_134 : Cond.methodLink RX7 134 yX7_dues ∈ lw_good := good_of (List.mem_of_getElem? (i := 855) (by decide +kernel)) (by decide +kernel)
theorem ml_X7_140 : Cond.methodLink RX7 140 yX7_watches ∈ lw_good := good_of (List.mem_of_getElem? (i := 859) (by decide +kernel)) (by decide +kernel)
theorem ml_L_92 : Cond.methodLink RL 92 yX7_hop ∈ lw_good := good_of (List.mem_of_getElem? (i := 863) (by decide +kernel)) (by decide +kernel)
theorem ml_L_96 : Cond.methodLink RL 96 yX7_pay ∈ lw_good := good_of (List.mem_of_getElem? (i := 867) (by decide +kernel)) (by decide +kernel)
theorem ml_X7_188 : Cond.methodLink RX7 188 yX7_secret ∈ lw_good := good_of (List.mem_of_getElem? (i := 871) (by decide +kernel)) (by decide +kernel)
theorem ml_L_100 : Cond.methodLink RL 100 yX7_account ∈ lw_good := good_of (List.mem_of_getElem? (i := 872) (by decide +kernel)) (by decide +kernel)
theorem ml_L_104 : Cond.methodLink RL 104 yX7_told ∈ lw_good := good_of (List.mem_of_getElem? (i := 876) (by decide +kernel)) (by decide +kernel)
theorem ml_L_108 : Cond.methodLink RL 108 yX7_of ∈ lw_good := good_of (List.mem_of_getElem? (i := 880) (by decide +kernel)) (by decide +kernel)
theorem ml_L_112 : Cond.methodLink RL 112 yX7_share ∈ lw_good := good_of (List.mem_of_getElem? (i := 884) (by decide +kernel)) (by decide +kernel)
theorem ml_L_116 : Cond.methodLink RL 116 yX7_locked ∈ lw_good := good_of (List.mem_of_getElem? (i := 888) (by decide +kernel)) (by decide +kernel)
theorem ml_L_120 : Cond.methodLink RL 120 yX7_knows ∈ lw_good := good_of (List.mem_of_getElem? (i := 892) (by decide +kernel)) (by decide +kernel)
theorem ml_L_124 : Cond.methodLink RL 124 yX7_count ∈ lw_good := good_of (List.mem_of_getElem? (i := 896) (by decide +kernel)) (by decide +kernel)
theorem ml_X7_191 : Cond.methodLink RX7 191 yX7_all ∈ lw_good := good_of (List.mem_of_getElem? (i := 900) (by decide +kernel)) (by decide +kernel)
theorem mf_X0_init : MFK yX0_init cX0_init 4 (none) 3 := ⟨good_of (List.mem_of_getElem? (i := 5) (by decide +kernel)) (by decide +kernel), good_of (List.mem_of_getElem? (i := 104) (by decide +kernel)) (by decide +kernel), ⟨by decide +kernel, by decide +kernel⟩, by decide +kernel, by decide⟩
theorem mv_X0_init : Cond.instanceMethod yX0_init ∈ lw_good := good_of (List.mem_of_getElem? (i := 103) (by decide +kernel)) (by decide +kernel)
theorem mf_X0_hasMember : MFK yX0_hasMember cX0_hasMember 2 (some .boolean) 1 := ⟨good_of (List.mem_of_getElem? (i := 5) (by decide +kernel)) (by decide +kernel), good_of (List.mem_of_getElem? (i := 208) (by decide +kernel)) (by decide +kernel), ⟨by decide +kernel, by decide +kernel⟩, by decide +kernel, by decide⟩
theorem mv_X0_hasMember : MVK yX0_hasMember := ⟨good_of (List.mem_of_getElem? (i := 206) (by decide +kernel)) (by decide +kernel), good_of (List.mem_of_getElem? (i := 207) (by decide +kernel)) (by decide +kernel)⟩
theorem mf_X0_noteSigned : MFK yX0_noteSigned cX0_noteSigned 2 (none) 1 := ⟨good_of (List.mem_of_getElem? (i := 5) (by decide +kernel)) (by decide +kernel), good_of (List.mem_of_getElem? (i := 364) (by decide +kernel)) (by decide +kernel), ⟨by decide +kernel, by decide +kernel⟩, by decide +kernel, by decide⟩
theorem mv_X0_noteSigned : MVK yX0_noteSigned := ⟨good_of (List.mem_of_getElem? (i := 362) (by decide +kernel)) (by decide +kernel), good_of (List.mem_of_getElem? (i := 363) (by decide +kernel)) (by decide +kernel)⟩
theorem mf_X0_wouldTake : MFK yX0_wouldTake cX0_wouldTake 2 (some .boolean) 1 := ⟨good_of (List.mem_of_getElem? (i := 5) (by decide +kernel)) (by decide +kernel), good_of (List.mem_of_getElem? (i := 385) (by decide +kernel)) (by decide +kernel), ⟨by decide +kernel, by decide +kernel⟩, by decide +kernel, by decide⟩
theorem mv_X0_wouldTake : MVK yX0_wouldTake := ⟨good_of (List.mem_of_getElem? (i := 383) (by decide +kernel)) (by decide +kernel), good_of (List.mem_of_getElem? (i := 384) (by decide +kernel)) (by decide +kernel)⟩
theorem mf_X0_heldLockAt : MFK yX0_heldLockAt cX0_heldLockAt 2 (some (.object "StateChannels$Lock")) 1 := ⟨good_of (List.mem_of_getElem? (i := 5) (by decide +kernel)) (by decide +kernel), good_of (List.mem_of_getElem? (i := 455) (by decide +kernel)) (by decide +kernel), ⟨by decide +kernel, by decide +kernel⟩, by decide +kernel, by decide⟩
theorem mv_X0_heldLockAt : MVK yX0_heldLockAt := ⟨good_of (List.mem_of_getElem? (i := 453) (by decide +kernel)) (by decide +kernel), good_of (List.mem_of_getElem? (i := 454) (by decide +kernel)) (by decide +kernel)⟩
theorem mf_X1_init : MFK yX1_init cX1_init 5 (none) 4 := ⟨good_of (List.mem_of_getElem? (i := 8) (by decide +kernel)) (by decide +kernel), good_of (List.mem_of_getElem? (i := 323) (by decide +kernel)) (by decide +kernel), ⟨by decide +kernel, by decide +kernel⟩, by decide +kernel, by decide⟩
theorem mv_X1_init : Cond.instanceMethod yX1_init ∈ lw_good := good_of (List.mem_of_getElem? (i := 322) (by decide +kernel)) (by decide +kernel)
theorem mf_X1_after : MFK yX1_after cX1_after 2 (some (.object "StateChannels$Game")) 1 := ⟨good_of (List.mem_of_getElem? (i := 8) (by decide +kernel)) (by decide +kernel), good_of (List.mem_of_getElem? (i := 350) (by decide +kernel)) (by decide +kernel), ⟨by decide +kernel, by decide +kernel⟩, by decide +kernel, by decide⟩
theorem mv_X1_after : MVK yX1_after := ⟨good_of (List.mem_of_getElem? (i := 348) (by decide +kernel)) (by decide +kernel), good_of (List.mem_of_getElem? (i := 349) (by decide +kernel)) (by decide +kernel)⟩
theorem mf_X2_init : MFK yX2_init cX2_init 4 (none) 3 := ⟨good_of (List.mem_of_getElem? (i := 9) (by decide +kernel)) (by decide +kernel), good_of (List.mem_of_getElem? (i := 521) (by decide +kernel)) (by decide +kernel), ⟨by decide +kernel, by decide +kernel⟩, by decide +kernel, by decide⟩
theorem mv_X2_init : Cond.instanceMethod yX2_init ∈ lw_good := good_of (List.mem_of_getElem? (i := 520) (by decide +kernel)) (by decide +kernel)
theorem mf_X2_canCarry : MFK yX2_canCarry cX2_canCarry 3 (some .boolean) 1 := ⟨good_of (List.mem_of_getElem? (i := 9) (by decide +kernel)) (by decide +kernel), good_of (List.mem_of_getElem? (i := 547) (by decide +kernel)) (by decide +kernel), ⟨by decide +kernel, by decide +kernel⟩, by decide +kernel, by decide⟩
theorem mv_X2_canCarry : MVK yX2_canCarry := ⟨good_of (List.mem_of_getElem? (i := 545) (by decide +kernel)) (by decide +kernel), good_of (List.mem_of_getElem? (i := 546) (by decide +kernel)) (by decide +kernel)⟩
theorem mf_X3_init : MFK yX3_init cX3_init 6 (none) 5 := ⟨good_of (List.mem_of_getElem? (i := 7) (by decide +kernel)) (by decide +kernel), good_of (List.mem_of_getElem? (i := 275) (by decide +kernel)) (by decide +kernel), ⟨by decide +kernel, by decide +kernel⟩, by decide +kernel, by decide⟩
theorem mv_X3_init : Cond.instanceMethod yX3_init ∈ lw_good := good_of (List.mem_of_getElem? (i := 274) (by decide +kernel)) (by decide +kernel)
theorem mf_X4_init : MFK yX4_init cX4_init 4 (none) 3 := ⟨good_of (List.mem_of_getElem? (i := 6) (by decide +kernel)) (by decide +kernel), good_of (List.mem_of_getElem? (i := 162) (by decide +kernel)) (by decide +kernel), ⟨by decide +kernel, by decide +kernel⟩, by decide +kernel, by decide⟩
theorem mv_X4_init : Cond.instanceMethod yX4_init ∈ lw_good := good_of (List.mem_of_getElem? (i := 161) (by decide +kernel)) (by decide +kernel)
theorem mf_X4_copyFrom : MFK yX4_copyFrom cX4_copyFrom 3 (none) 1 := ⟨good_of (List.mem_of_getElem? (i := 6) (by decide +kernel)) (by decide +kernel), good_of (List.mem_of_getElem? (i := 229) (by decide +kernel)) (by decide +kernel), ⟨by decide +kernel, by decide +kernel⟩, by decide +kernel, by decide⟩
theorem mv_X4_copyFrom : MVK yX4_copyFrom := ⟨good_of (List.mem_of_getElem? (i := 227) (by decide +kernel)) (by decide +kernel), good_of (List.mem_of_getElem? (i := 228) (by decide +kernel)) (by decide +kernel)⟩
theorem mf_X4_hasMember : MFK yX4_hasMember cX4_hasMember 2 (some .boolean) 1 := ⟨good_of (List.mem_of_getElem? (i := 6) (by decide +kernel)) (by decide +kernel), good_of (List.mem_of_getElem? (i := 247) (by decide +kernel)) (by decide +kernel), ⟨by decide +kernel, by decide +kernel⟩, by decide +kernel, by decide⟩
theorem mv_X4_hasMember : MVK yX4_hasMember := ⟨good_of (List.mem_of_getElem? (i := 245) (by decide +kernel)) (by decide +kernel), good_of (List.mem_of_getElem? (i := 246) (by decide +kernel)) (by decide +kernel)⟩
theorem mf_X4_isFixed : MFK yX4_isFixed cX4_isFixed 1 (some .boolean) 0 := ⟨good_of (List.mem_of_getElem? (i := 6) (by decide +kernel)) (by decide +kernel), good_of (List.mem_of_getElem? (i := 252) (by decide +kernel)) (by decide +kernel), ⟨by decide +kernel, by decide +kernel⟩, by decide +kernel, by decide⟩
theorem mv_X4_isFixed : MVK yX4_isFixed := ⟨good_of (List.mem_of_getElem? (i := 250) (by decide +kernel)) (by decide +kernel), good_of (List.mem_of_getElem? (i := 251) (by decide +kernel)) (by decide +kernel)⟩
theorem mf_X4_doesCount : MFK yX4_doesCount cX4_doesCount 1 (some .boolean) 0 := ⟨good_of (List.mem_of_getElem? (i := 6) (by decide +kernel)) (by decide +kernel), good_of (List.mem_of_getElem? (i := 368) (by decide +kernel)) (by decide +kernel), ⟨by decide +kernel, by decide +kernel⟩, by decide +kernel, by decide⟩
theorem mv_X4_doesCount : MVK yX4_doesCount := ⟨good_of (List.mem_of_getElem? (i := 366) (by decide +kernel)) (by decide +kernel), good_of (List.mem_of_getElem? (i := 367) (by decide +kernel)) (by decide +kernel)⟩
theorem mf_X4_whole : MFK yX4_whole cX4_whole 6 (some .int) 0 := ⟨good_of (List.mem_of_getElem? (i := 6) (by decide +kernel)) (by decide +kernel), good_of (List.mem_of_getElem? (i := 372) (by decide +kernel)) (by decide +kernel), ⟨by decide +kernel, by decide +kernel⟩, by decide +kernel, by decide⟩
theorem mv_X4_whole : MVK yX4_whole := ⟨good_of (List.mem_of_getElem? (i := 370) (by decide +kernel)) (by decide +kernel), good_of (List.mem_of_getElem? (i := 371) (by decide +kernel)) (by decide +kernel)⟩
theorem mf_X4_freeOf : MFK yX4_freeOf cX4_freeOf 2 (some .int) 1 := ⟨good_of (List.mem_of_getElem? (i := 6) (by decide +kernel)) (by decide +kernel), good_of (List.mem_of_getElem? (i := 257) (by decide +kernel)) (by decide +kernel), ⟨by decide +kernel, by decide +kernel⟩, by decide +kernel, by decide⟩
theorem mv_X4_freeOf : MVK yX4_freeOf := ⟨good_of (List.mem_of_getElem? (i := 255) (by decide +kernel)) (by decide +kernel), good_of (List.mem_of_getElem? (i := 256) (by decide +kernel)) (by decide +kernel)⟩
theorem mf_X4_hasOut : MFK yX4_hasOut cX4_hasOut 1 (some .boolean) 0 := ⟨good_of (List.mem_of_getElem? (i := 6) (by decide +kernel)) (by decide +kernel), good_of (List.mem_of_getElem? (i := 401) (by decide +kernel)) (by decide +kernel), ⟨by decide +kernel, by decide +kernel⟩, by decide +kernel, by decide⟩
theorem mv_X4_hasOut : MVK yX4_hasOut := ⟨good_of (List.mem_of_getElem? (i := 399) (by decide +kernel)) (by decide +kernel), good_of (List.mem_of_getElem? (i := 400) (by decide +kernel)) (by decide +kernel)⟩
theorem mf_X4_lockAt : MFK yX4_lockAt cX4_lockAt 2 (some (.object "StateChannels$Lock")) 1 := ⟨good_of (List.mem_of_getElem? (i := 6) (by decide +kernel)) (by decide +kernel), good_of (List.mem_of_getElem? (i := 235) (by decide +kernel)) (by decide +kernel), ⟨by decide +kernel, by decide +kernel⟩, by decide +kernel, by decide⟩
theorem mv_X4_lockAt : MVK yX4_lockAt := ⟨good_of (List.mem_of_getElem? (i := 233) (by decide +kernel)) (by decide +kernel), good_of (List.mem_of_getElem? (i := 234) (by decide +kernel)) (by decide +kernel)⟩
theorem mf_X4_emptyPlace : MFK yX4_emptyPlace cX4_emptyPlace 2 (some .int) 0 := ⟨good_of (List.mem_of_getElem? (i := 6) (by decide +kernel)) (by decide +kernel), good_of (List.mem_of_getElem? (i := 270) (by decide +kernel)) (by decide +kernel), ⟨by decide +kernel, by decide +kernel⟩, by decide +kernel, by decide⟩
theorem mv_X4_emptyPlace : MVK yX4_emptyPlace := ⟨good_of (List.mem_of_getElem? (i := 268) (by decide +kernel)) (by decide +kernel), good_of (List.mem_of_getElem? (i := 269) (by decide +kernel)) (by decide +kernel)⟩
theorem mf_X4_addLock : MFK yX4_addLock cX4_addLock 3 (some .int) 1 := ⟨good_of (List.mem_of_getElem? (i := 6) (by decide +kernel)) (by decide +kernel), good_of (List.mem_of_getElem? (i := 303) (by decide +kernel)) (by decide +kernel), ⟨by decide +kernel, by decide +kernel⟩, by decide +kernel, by decide⟩
theorem mv_X4_addLock : MVK yX4_addLock := ⟨good_of (List.mem_of_getElem? (i := 301) (by decide +kernel)) (by decide +kernel), good_of (List.mem_of_getElem? (i := 302) (by decide +kernel)) (by decide +kernel)⟩
theorem mf_X4_removeLock : MFK yX4_removeLock cX4_removeLock 2 (none) 1 := ⟨good_of (List.mem_of_getElem? (i := 6) (by decide +kernel)) (by decide +kernel), good_of (List.mem_of_getElem? (i := 314) (by decide +kernel)) (by decide +kernel), ⟨by decide +kernel, by decide +kernel⟩, by decide +kernel, by decide⟩
theorem mv_X4_removeLock : MVK yX4_removeLock := ⟨good_of (List.mem_of_getElem? (i := 312) (by decide +kernel)) (by decide +kernel), good_of (List.mem_of_getElem? (i := 313) (by decide +kernel)) (by decide +kernel)⟩
theorem mf_X5_init : MFK yX5_init cX5_init 1 (none) 0 := ⟨good_of (List.mem_of_getElem? (i := 2) (by decide +kernel)) (by decide +kernel), good_of (List.mem_of_getElem? (i := 22) (by decide +kernel)) (by decide +kernel), ⟨by decide +kernel, by decide +kernel⟩, by decide +kernel, by decide⟩
theorem mv_X5_init : Cond.instanceMethod yX5_init ∈ lw_good := good_of (List.mem_of_getElem? (i := 21) (by decide +kernel)) (by decide +kernel)
theorem mf_X5_get : MFK yX5_get cX5_get 2 (some .int) 1 := ⟨good_of (List.mem_of_getElem? (i := 2) (by decide +kernel)) (by decide +kernel), good_of (List.mem_of_getElem? (i := 100) (by decide +kernel)) (by decide +kernel), ⟨by decide +kernel, by decide +kernel⟩, by decide +kernel, by decide⟩
theorem mv_X5_get : MVK yX5_get := ⟨good_of (List.mem_of_getElem? (i := 98) (by decide +kernel)) (by decide +kernel), good_of (List.mem_of_getElem? (i := 99) (by decide +kernel)) (by decide +kernel)⟩
theorem mf_X5_put : MFK yX5_put cX5_put 3 (none) 2 := ⟨good_of (List.mem_of_getElem? (i := 2) (by decide +kernel)) (by decide +kernel), good_of (List.mem_of_getElem? (i := 38) (by decide +kernel)) (by decide +kernel), ⟨by decide +kernel, by decide +kernel⟩, by decide +kernel, by decide⟩
theorem mv_X5_put : MVK yX5_put := ⟨good_of (List.mem_of_getElem? (i := 36) (by decide +kernel)) (by decide +kernel), good_of (List.mem_of_getElem? (i := 37) (by decide +kernel)) (by decide +kernel)⟩
theorem mf_X5_add : MFK yX5_add cX5_add 3 (none) 2 := ⟨good_of (List.mem_of_getElem? (i := 2) (by decide +kernel)) (by decide +kernel), good_of (List.mem_of_getElem? (i := 213) (by decide +kernel)) (by decide +kernel), ⟨by decide +kernel, by decide +kernel⟩, by decide +kernel, by decide⟩
theorem mv_X5_add : MVK yX5_add := ⟨good_of (List.mem_of_getElem? (i := 211) (by decide +kernel)) (by decide +kernel), good_of (List.mem_of_getElem? (i := 212) (by decide +kernel)) (by decide +kernel)⟩
theorem mf_X5_total : MFK yX5_total cX5_total 6 (some .int) 0 := ⟨good_of (List.mem_of_getElem? (i := 2) (by decide +kernel)) (by decide +kernel), good_of (List.mem_of_getElem? (i := 376) (by decide +kernel)) (by decide +kernel), ⟨by decide +kernel, by decide +kernel⟩, by decide +kernel, by decide⟩
theorem mv_X5_total : MVK yX5_total := ⟨good_of (List.mem_of_getElem? (i := 374) (by decide +kernel)) (by decide +kernel), good_of (List.mem_of_getElem? (i := 375) (by decide +kernel)) (by decide +kernel)⟩
theorem mf_X6_init : MFK yX6_init cX6_init 2 (none) 0 := ⟨good_of (List.mem_of_getElem? (i := 1) (by decide +kernel)) (by decide +kernel), good_of (List.mem_of_getElem? (i := 14) (by decide +kernel)) (by decide +kernel), ⟨by decide +kernel, by decide +kernel⟩, by decide +kernel, by decide⟩
theorem mv_X6_init : Cond.instanceMethod yX6_init ∈ lw_good := good_of (List.mem_of_getElem? (i := 13) (by decide +kernel)) (by decide +kernel)
theorem mf_X6_channel : MFK yX6_channel cX6_channel 7 (some .int) 3 := ⟨good_of (List.mem_of_getElem? (i := 1) (by decide +kernel)) (by decide +kernel), good_of (List.mem_of_getElem? (i := 76) (by decide +kernel)) (by decide +kernel), ⟨by decide +kernel, by decide +kernel⟩, by decide +kernel, by decide⟩
theorem mv_X6_channel : MVK yX6_channel := ⟨good_of (List.mem_of_getElem? (i := 74) (by decide +kernel)) (by decide +kernel), good_of (List.mem_of_getElem? (i := 75) (by decide +kernel)) (by decide +kernel)⟩
theorem mf_X6_state : MFK yX6_state cX6_state 3 (some .int) 1 := ⟨good_of (List.mem_of_getElem? (i := 1) (by decide +kernel)) (by decide +kernel), good_of (List.mem_of_getElem? (i := 217) (by decide +kernel)) (by decide +kernel), ⟨by decide +kernel, by decide +kernel⟩, by decide +kernel, by decide⟩
theorem mv_X6_state : MVK yX6_state := ⟨good_of (List.mem_of_getElem? (i := 215) (by decide +kernel)) (by decide +kernel), good_of (List.mem_of_getElem? (i := 216) (by decide +kernel)) (by decide +kernel)⟩
theorem mf_X6_hasRoomForStates : MFK yX6_hasRoomForStates cX6_hasRoomForStates 2 (some .boolean) 1 := ⟨good_of (List.mem_of_getElem? (i := 1) (by decide +kernel)) (by decide +kernel), good_of (List.mem_of_getElem? (i := 89) (by decide +kernel)) (by decide +kernel), ⟨by decide +kernel, by decide +kernel⟩, by decide +kernel, by decide⟩
theorem mv_X6_hasRoomForStates : MVK yX6_hasRoomForStates := ⟨good_of (List.mem_of_getElem? (i := 88) (by decide +kernel)) (by decide +kernel), List.mem_filter.mpr ⟨List.mem_append_left _ (List.mem_of_getElem? (i := 0) (by decide +kernel)), by decide +kernel⟩⟩
theorem mf_X6_allHave : MFK yX6_allHave cX6_allHave 4 (some .boolean) 2 := ⟨good_of (List.mem_of_getElem? (i := 1) (by decide +kernel)) (by decide +kernel), good_of (List.mem_of_getElem? (i := 93) (by decide +kernel)) (by decide +kernel), ⟨by decide +kernel, by decide +kernel⟩, by decide +kernel, by decide⟩
theorem mv_X6_allHave : MVK yX6_allHave := ⟨good_of (List.mem_of_getElem? (i := 92) (by decide +kernel)) (by decide +kernel), List.mem_filter.mpr ⟨List.mem_append_left _ (List.mem_of_getElem? (i := 1) (by decide +kernel)), by decide +kernel⟩⟩
theorem mf_X6_newState : MFK yX6_newState cX6_newState 3 (some (.object "StateChannels$State")) 1 := ⟨good_of (List.mem_of_getElem? (i := 1) (by decide +kernel)) (by decide +kernel), good_of (List.mem_of_getElem? (i := 158) (by decide +kernel)) (by decide +kernel), ⟨by decide +kernel, by decide +kernel⟩, by decide +kernel, by decide⟩
theorem mv_X6_newState : MVK yX6_newState := ⟨good_of (List.mem_of_getElem? (i := 157) (by decide +kernel)) (by decide +kernel), List.mem_filter.mpr ⟨List.mem_append_left _ (List.mem_of_getElem? (i := 2) (by decide +kernel)), by decide +kernel⟩⟩
theorem mf_X6_newStateAsNewest : MFK yX6_newStateAsNewest cX6_newStateAsNewest 4 (some (.object "StateChannels$State")) 1 := ⟨good_of (List.mem_of_getElem? (i := 1) (by decide +kernel)) (by decide +kernel), good_of (List.mem_of_getElem? (i := 225) (by decide +kernel)) (by decide +kernel), ⟨by decide +kernel, by decide +kernel⟩, by decide +kernel, by decide⟩
theorem mv_X6_newStateAsNewest : MVK yX6_newStateAsNewest := ⟨good_of (List.mem_of_getElem? (i := 224) (by decide +kernel)) (by decide +kernel), List.mem_filter.mpr ⟨List.mem_append_left _ (List.mem_of_getElem? (i := 4) (by decide +kernel)), by decide +kernel⟩⟩
theorem mf_X6_change : MFK yX6_change cX6_change 6 (some .int) 4 := ⟨good_of (List.mem_of_getElem? (i := 1) (by decide +kernel)) (by decide +kernel), good_of (List.mem_of_getElem? (i := 239) (by decide +kernel)) (by decide +kernel), ⟨by decide +kernel, by decide +kernel⟩, by decide +kernel, by decide⟩
theorem mv_X6_change : MVK yX6_change := ⟨good_of (List.mem_of_getElem? (i := 237) (by decide +kernel)) (by decide +kernel), good_of (List.mem_of_getElem? (i := 238) (by decide +kernel)) (by decide +kernel)⟩
theorem mf_X6_lock : MFK yX6_lock cX6_lock 8 (some .int) 6 := ⟨good_of (List.mem_of_getElem? (i := 1) (by decide +kernel)) (by decide +kernel), good_of (List.mem_of_getElem? (i := 261) (by decide +kernel)) (by decide +kernel), ⟨by decide +kernel, by decide +kernel⟩, by decide +kernel, by decide⟩
theorem mv_X6_lock : MVK yX6_lock := ⟨good_of (List.mem_of_getElem? (i := 259) (by decide +kernel)) (by decide +kernel), good_of (List.mem_of_getElem? (i := 260) (by decide +kernel)) (by decide +kernel)⟩
theorem mf_X6_unlock : MFK yX6_unlock cX6_unlock 6 (some .int) 3 := ⟨good_of (List.mem_of_getElem? (i := 1) (by decide +kernel)) (by decide +kernel), good_of (List.mem_of_getElem? (i := 309) (by decide +kernel)) (by decide +kernel), ⟨by decide +kernel, by decide +kernel⟩, by decide +kernel, by decide⟩
theorem mv_X6_unlock : MVK yX6_unlock := ⟨good_of (List.mem_of_getElem? (i := 307) (by decide +kernel)) (by decide +kernel), good_of (List.mem_of_getElem? (i := 308) (by decide +kernel)) (by decide +kernel)⟩
theorem mf_X6_game : MFK yX6_game cX6_game 8 (some .int) 5 := ⟨good_of (List.mem_of_getElem? (i := 1) (by decide +kernel)) (by decide +kernel), good_of (List.mem_of_getElem? (i := 318) (by decide +kernel)) (by decide +kernel), ⟨by decide +kernel, by decide +kernel⟩, by decide +kernel, by decide⟩
theorem mv_X6_game : MVK yX6_game := ⟨good_of (List.mem_of_getElem? (i := 316) (by decide +kernel)) (by decide +kernel), good_of (List.mem_of_getElem? (i := 317) (by decide +kernel)) (by decide +kernel)⟩
theorem mf_X6_move : MFK yX6_move cX6_move 5 (some .int) 2 := ⟨good_of (List.mem_of_getElem? (i := 1) (by decide +kernel)) (by decide +kernel), good_of (List.mem_of_getElem? (i := 346) (by decide +kernel)) (by decide +kernel), ⟨by decide +kernel, by decide +kernel⟩, by decide +kernel, by decide⟩
theorem mv_X6_move : MVK yX6_move := ⟨good_of (List.mem_of_getElem? (i := 344) (by decide +kernel)) (by decide +kernel), good_of (List.mem_of_getElem? (i := 345) (by decide +kernel)) (by decide +kernel)⟩
theorem mf_X6_out : MFK yX6_out cX6_out 6 (some .int) 3 := ⟨good_of (List.mem_of_getElem? (i := 1) (by decide +kernel)) (by decide +kernel), good_of (List.mem_of_getElem? (i := 356) (by decide +kernel)) (by decide +kernel), ⟨by decide +kernel, by decide +kernel⟩, by decide +kernel, by decide⟩
theorem mv_X6_out : MVK yX6_out := ⟨good_of (List.mem_of_getElem? (i := 354) (by decide +kernel)) (by decide +kernel), good_of (List.mem_of_getElem? (i := 355) (by decide +kernel)) (by decide +kernel)⟩
theorem mf_X6_sign : MFK yX6_sign cX6_sign 4 (some .int) 2 := ⟨good_of (List.mem_of_getElem? (i := 1) (by decide +kernel)) (by decide +kernel), good_of (List.mem_of_getElem? (i := 360) (by decide +kernel)) (by decide +kernel), ⟨by decide +kernel, by decide +kernel⟩, by decide +kernel, by decide⟩
theorem mv_X6_sign : MVK yX6_sign := ⟨good_of (List.mem_of_getElem? (i := 358) (by decide +kernel)) (by decide +kernel), good_of (List.mem_of_getElem? (i := 359) (by decide +kernel)) (by decide +kernel)⟩
theorem mf_X6_show : MFK yX6_show cX6_show 5 (some .int) 2 := ⟨good_of (List.mem_of_getElem? (i := 1) (by decide +kernel)) (by decide +kernel), good_of (List.mem_of_getElem? (i := 380) (by decide +kernel)) (by decide +kernel), ⟨by decide +kernel, by decide +kernel⟩, by decide +kernel, by decide⟩
theorem mv_X6_show : MVK yX6_show := ⟨good_of (List.mem_of_getElem? (i := 378) (by decide +kernel)) (by decide +kernel), good_of (List.mem_of_getElem? (i := 379) (by decide +kernel)) (by decide +kernel)⟩
theorem mf_X6_agree : MFK yX6_agree cX6_agree 6 (some .int) 2 := ⟨good_of (List.mem_of_getElem? (i := 1) (by decide +kernel)) (by decide +kernel), good_of (List.mem_of_getElem? (i := 393) (by decide +kernel)) (by decide +kernel), ⟨by decide +kernel, by decide +kernel⟩, by decide +kernel, by decide⟩
theorem mv_X6_agree : MVK yX6_agree := ⟨good_of (List.mem_of_getElem? (i := 391) (by decide +kernel)) (by decide +kernel), good_of (List.mem_of_getElem? (i := 392) (by decide +kernel)) (by decide +kernel)⟩
theorem mf_X6_makeShown : MFK yX6_makeShown cX6_makeShown 3 (none) 1 := ⟨good_of (List.mem_of_getElem? (i := 1) (by decide +kernel)) (by decide +kernel), good_of (List.mem_of_getElem? (i := 389) (by decide +kernel)) (by decide +kernel), ⟨by decide +kernel, by decide +kernel⟩, by decide +kernel, by decide⟩
theorem mv_X6_makeShown : MVK yX6_makeShown := ⟨good_of (List.mem_of_getElem? (i := 388) (by decide +kernel)) (by decide +kernel), List.mem_filter.mpr ⟨List.mem_append_left _ (List.mem_of_getElem? (i := 7) (by decide +kernel)), by decide +kernel⟩⟩
theorem mf_X6_fulfil : MFK yX6_fulfil cX6_fulfil 2 (none) 1 := ⟨good_of (List.mem_of_getElem? (i := 1) (by decide +kernel)) (by decide +kernel), good_of (List.mem_of_getElem? (i := 397) (by decide +kernel)) (by decide +kernel), ⟨by decide +kernel, by decide +kernel⟩, by decide +kernel, by decide⟩
theorem mv_X6_fulfil : MVK yX6_fulfil := ⟨good_of (List.mem_of_getElem? (i := 396) (by decide +kernel)) (by decide +kernel), List.mem_filter.mpr ⟨List.mem_append_left _ (List.mem_of_getElem? (i := 8) (by decide +kernel)), by decide +kernel⟩⟩
theorem mf_X6_payOuts : MFK yX6_payOuts cX6_payOuts 4 (none) 1 := ⟨good_of (List.mem_of_getElem? (i := 1) (by decide +kernel)) (by decide +kernel), good_of (List.mem_of_getElem? (i := 405) (by decide +kernel)) (by decide +kernel), ⟨by decide +kernel, by decide +kernel⟩, by decide +kernel, by decide⟩
theorem mv_X6_payOuts : MVK yX6_payOuts := ⟨good_of (List.mem_of_getElem? (i := 404) (by decide +kernel)) (by decide +kernel), List.mem_filter.mpr ⟨List.mem_append_left _ (List.mem_of_getElem? (i := 9) (by decide +kernel)), by decide +kernel⟩⟩
theorem mf_X6_endBy : MFK yX6_endBy cX6_endBy 4 (none) 1 := ⟨good_of (List.mem_of_getElem? (i := 1) (by decide +kernel)) (by decide +kernel), good_of (List.mem_of_getElem? (i := 413) (by decide +kernel)) (by decide +kernel), ⟨by decide +kernel, by decide +kernel⟩, by decide +kernel, by decide⟩
theorem mv_X6_endBy : MVK yX6_endBy := ⟨good_of (List.mem_of_getElem? (i := 412) (by decide +kernel)) (by decide +kernel), List.mem_filter.mpr ⟨List.mem_append_left _ (List.mem_of_getElem? (i := 11) (by decide +kernel)), by decide +kernel⟩⟩
theorem mf_X6_holdOrGiveBack : MFK yX6_holdOrGiveBack cX6_holdOrGiveBack 4 (none) 3 := ⟨good_of (List.mem_of_getElem? (i := 1) (by decide +kernel)) (by decide +kernel), good_of (List.mem_of_getElem? (i := 417) (by decide +kernel)) (by decide +kernel), ⟨by decide +kernel, by decide +kernel⟩, by decide +kernel, by decide⟩
theorem mv_X6_holdOrGiveBack : MVK yX6_holdOrGiveBack := ⟨good_of (List.mem_of_getElem? (i := 416) (by decide +kernel)) (by decide +kernel), List.mem_filter.mpr ⟨List.mem_append_left _ (List.mem_of_getElem? (i := 12) (by decide +kernel)), by decide +kernel⟩⟩
theorem mf_X6_payFrom : MFK yX6_payFrom cX6_payFrom 4 (none) 3 := ⟨good_of (List.mem_of_getElem? (i := 1) (by decide +kernel)) (by decide +kernel), good_of (List.mem_of_getElem? (i := 409) (by decide +kernel)) (by decide +kernel), ⟨by decide +kernel, by decide +kernel⟩, by decide +kernel, by decide⟩
theorem mv_X6_payFrom : MVK yX6_payFrom := ⟨good_of (List.mem_of_getElem? (i := 408) (by decide +kernel)) (by decide +kernel), List.mem_filter.mpr ⟨List.mem_append_left _ (List.mem_of_getElem? (i := 10) (by decide +kernel)), by decide +kernel⟩⟩
theorem mf_X6_secret : MFK yX6_secret cX6_secret 2 (some .int) 1 := ⟨good_of (List.mem_of_getElem? (i := 1) (by decide +kernel)) (by decide +kernel), good_of (List.mem_of_getElem? (i := 421) (by decide +kernel)) (by decide +kernel), ⟨by decide +kernel, by decide +kernel⟩, by decide +kernel, by decide⟩
theorem mv_X6_secret : MVK yX6_secret := ⟨good_of (List.mem_of_getElem? (i := 419) (by decide +kernel)) (by decide +kernel), good_of (List.mem_of_getElem? (i := 420) (by decide +kernel)) (by decide +kernel)⟩
theorem mf_X6_tell : MFK yX6_tell cX6_tell 4 (some .int) 3 := ⟨good_of (List.mem_of_getElem? (i := 1) (by decide +kernel)) (by decide +kernel), good_of (List.mem_of_getElem? (i := 436) (by decide +kernel)) (by decide +kernel), ⟨by decide +kernel, by decide +kernel⟩, by decide +kernel, by decide⟩
theorem mv_X6_tell : MVK yX6_tell := ⟨good_of (List.mem_of_getElem? (i := 434) (by decide +kernel)) (by decide +kernel), good_of (List.mem_of_getElem? (i := 435) (by decide +kernel)) (by decide +kernel)⟩
theorem mf_X6_hasRoomForSecret : MFK yX6_hasRoomForSecret cX6_hasRoomForSecret 1 (some .boolean) 0 := ⟨good_of (List.mem_of_getElem? (i := 1) (by decide +kernel)) (by decide +kernel), good_of (List.mem_of_getElem? (i := 428) (by decide +kernel)) (by decide +kernel), ⟨by decide +kernel, by decide +kernel⟩, by decide +kernel, by decide⟩
theorem mv_X6_hasRoomForSecret : MVK yX6_hasRoomForSecret := ⟨good_of (List.mem_of_getElem? (i := 427) (by decide +kernel)) (by decide +kernel), List.mem_filter.mpr ⟨List.mem_append_left _ (List.mem_of_getElem? (i := 13) (by decide +kernel)), by decide +kernel⟩⟩
theorem mf_X6_newSecret : MFK yX6_newSecret cX6_newSecret 3 (some .int) 1 := ⟨good_of (List.mem_of_getElem? (i := 1) (by decide +kernel)) (by decide +kernel), good_of (List.mem_of_getElem? (i := 432) (by decide +kernel)) (by decide +kernel), ⟨by decide +kernel, by decide +kernel⟩, by decide +kernel, by decide⟩
theorem mv_X6_newSecret : MVK yX6_newSecret := ⟨good_of (List.mem_of_getElem? (i := 431) (by decide +kernel)) (by decide +kernel), List.mem_filter.mpr ⟨List.mem_append_left _ (List.mem_of_getElem? (i := 14) (by decide +kernel)), by decide +kernel⟩⟩
theorem mf_X6_isKnownBy : MFK yX6_isKnownBy cX6_isKnownBy 3 (some .boolean) 2 := ⟨good_of (List.mem_of_getElem? (i := 1) (by decide +kernel)) (by decide +kernel), good_of (List.mem_of_getElem? (i := 440) (by decide +kernel)) (by decide +kernel), ⟨by decide +kernel, by decide +kernel⟩, by decide +kernel, by decide⟩
theorem mv_X6_isKnownBy : MVK yX6_isKnownBy := ⟨good_of (List.mem_of_getElem? (i := 439) (by decide +kernel)) (by decide +kernel), List.mem_filter.mpr ⟨List.mem_append_left _ (List.mem_of_getElem? (i := 15) (by decide +kernel)), by decide +kernel⟩⟩
theorem mf_X6_claim : MFK yX6_claim cX6_claim 6 (some .int) 3 := ⟨good_of (List.mem_of_getElem? (i := 1) (by decide +kernel)) (by decide +kernel), good_of (List.mem_of_getElem? (i := 444) (by decide +kernel)) (by decide +kernel), ⟨by decide +kernel, by decide +kernel⟩, by decide +kernel, by decide⟩
theorem mv_X6_claim : MVK yX6_claim := ⟨good_of (List.mem_of_getElem? (i := 442) (by decide +kernel)) (by decide +kernel), good_of (List.mem_of_getElem? (i := 443) (by decide +kernel)) (by decide +kernel)⟩
theorem mf_X6_step : MFK yX6_step cX6_step 6 (some .int) 3 := ⟨good_of (List.mem_of_getElem? (i := 1) (by decide +kernel)) (by decide +kernel), good_of (List.mem_of_getElem? (i := 469) (by decide +kernel)) (by decide +kernel), ⟨by decide +kernel, by decide +kernel⟩, by decide +kernel, by decide⟩
theorem mv_X6_step : MVK yX6_step := ⟨good_of (List.mem_of_getElem? (i := 467) (by decide +kernel)) (by decide +kernel), good_of (List.mem_of_getElem? (i := 468) (by decide +kernel)) (by decide +kernel)⟩
theorem mf_X6_canClaim : MFK yX6_canClaim cX6_canClaim 3 (some .boolean) 2 := ⟨good_of (List.mem_of_getElem? (i := 1) (by decide +kernel)) (by decide +kernel), good_of (List.mem_of_getElem? (i := 461) (by decide +kernel)) (by decide +kernel), ⟨by decide +kernel, by decide +kernel⟩, by decide +kernel, by decide⟩
theorem mv_X6_canClaim : MVK yX6_canClaim := ⟨good_of (List.mem_of_getElem? (i := 460) (by decide +kernel)) (by decide +kernel), List.mem_filter.mpr ⟨List.mem_append_left _ (List.mem_of_getElem? (i := 17) (by decide +kernel)), by decide +kernel⟩⟩
theorem mf_X6_claimHeld : MFK yX6_claimHeld cX6_claimHeld 5 (some .int) 3 := ⟨good_of (List.mem_of_getElem? (i := 1) (by decide +kernel)) (by decide +kernel), good_of (List.mem_of_getElem? (i := 451) (by decide +kernel)) (by decide +kernel), ⟨by decide +kernel, by decide +kernel⟩, by decide +kernel, by decide⟩
theorem mv_X6_claimHeld : MVK yX6_claimHeld := ⟨good_of (List.mem_of_getElem? (i := 450) (by decide +kernel)) (by decide +kernel), List.mem_filter.mpr ⟨List.mem_append_left _ (List.mem_of_getElem? (i := 16) (by decide +kernel)), by decide +kernel⟩⟩
theorem mf_X6_payHeldLock : MFK yX6_payHeldLock cX6_payHeldLock 5 (none) 4 := ⟨good_of (List.mem_of_getElem? (i := 1) (by decide +kernel)) (by decide +kernel), good_of (List.mem_of_getElem? (i := 465) (by decide +kernel)) (by decide +kernel), ⟨by decide +kernel, by decide +kernel⟩, by decide +kernel, by decide⟩
theorem mv_X6_payHeldLock : MVK yX6_payHeldLock := ⟨good_of (List.mem_of_getElem? (i := 464) (by decide +kernel)) (by decide +kernel), List.mem_filter.mpr ⟨List.mem_append_left _ (List.mem_of_getElem? (i := 18) (by decide +kernel)), by decide +kernel⟩⟩
theorem mf_X6_moveHeld : MFK yX6_moveHeld cX6_moveHeld 5 (none) 3 := ⟨good_of (List.mem_of_getElem? (i := 1) (by decide +kernel)) (by decide +kernel), good_of (List.mem_of_getElem? (i := 473) (by decide +kernel)) (by decide +kernel), ⟨by decide +kernel, by decide +kernel⟩, by decide +kernel, by decide⟩
theorem mv_X6_moveHeld : MVK yX6_moveHeld := ⟨good_of (List.mem_of_getElem? (i := 472) (by decide +kernel)) (by decide +kernel), List.mem_filter.mpr ⟨List.mem_append_left _ (List.mem_of_getElem? (i := 19) (by decide +kernel)), by decide +kernel⟩⟩
theorem mf_X6_payHeldStake : MFK yX6_payHeldStake cX6_payHeldStake 4 (none) 3 := ⟨good_of (List.mem_of_getElem? (i := 1) (by decide +kernel)) (by decide +kernel), good_of (List.mem_of_getElem? (i := 477) (by decide +kernel)) (by decide +kernel), ⟨by decide +kernel, by decide +kernel⟩, by decide +kernel, by decide⟩
theorem mv_X6_payHeldStake : MVK yX6_payHeldStake := ⟨good_of (List.mem_of_getElem? (i := 476) (by decide +kernel)) (by decide +kernel), List.mem_filter.mpr ⟨List.mem_append_left _ (List.mem_of_getElem? (i := 20) (by decide +kernel)), by decide +kernel⟩⟩
theorem mf_X6_watch : MFK yX6_watch cX6_watch 4 (some .int) 2 := ⟨good_of (List.mem_of_getElem? (i := 1) (by decide +kernel)) (by decide +kernel), good_of (List.mem_of_getElem? (i := 481) (by decide +kernel)) (by decide +kernel), ⟨by decide +kernel, by decide +kernel⟩, by decide +kernel, by decide⟩
theorem mv_X6_watch : MVK yX6_watch := ⟨good_of (List.mem_of_getElem? (i := 479) (by decide +kernel)) (by decide +kernel), good_of (List.mem_of_getElem? (i := 480) (by decide +kernel)) (by decide +kernel)⟩
theorem mf_X6_height : MFK yX6_height cX6_height 3 (some .int) 1 := ⟨good_of (List.mem_of_getElem? (i := 1) (by decide +kernel)) (by decide +kernel), good_of (List.mem_of_getElem? (i := 485) (by decide +kernel)) (by decide +kernel), ⟨by decide +kernel, by decide +kernel⟩, by decide +kernel, by decide⟩
theorem mv_X6_height : MVK yX6_height := ⟨good_of (List.mem_of_getElem? (i := 483) (by decide +kernel)) (by decide +kernel), good_of (List.mem_of_getElem? (i := 484) (by decide +kernel)) (by decide +kernel)⟩
theorem mf_X6_oneHeightMore : MFK yX6_oneHeightMore cX6_oneHeightMore 3 (none) 0 := ⟨good_of (List.mem_of_getElem? (i := 1) (by decide +kernel)) (by decide +kernel), good_of (List.mem_of_getElem? (i := 489) (by decide +kernel)) (by decide +kernel), ⟨by decide +kernel, by decide +kernel⟩, by decide +kernel, by decide⟩
theorem mv_X6_oneHeightMore : MVK yX6_oneHeightMore := ⟨good_of (List.mem_of_getElem? (i := 488) (by decide +kernel)) (by decide +kernel), List.mem_filter.mpr ⟨List.mem_append_left _ (List.mem_of_getElem? (i := 21) (by decide +kernel)), by decide +kernel⟩⟩
theorem mf_X6_meetHeight : MFK yX6_meetHeight cX6_meetHeight 4 (none) 1 := ⟨good_of (List.mem_of_getElem? (i := 1) (by decide +kernel)) (by decide +kernel), good_of (List.mem_of_getElem? (i := 493) (by decide +kernel)) (by decide +kernel), ⟨by decide +kernel, by decide +kernel⟩, by decide +kernel, by decide⟩
theorem mv_X6_meetHeight : MVK yX6_meetHeight := ⟨good_of (List.mem_of_getElem? (i := 492) (by decide +kernel)) (by decide +kernel), List.mem_filter.mpr ⟨List.mem_append_left _ (List.mem_of_getElem? (i := 22) (by decide +kernel)), by decide +kernel⟩⟩
theorem mf_X6_watchFor : MFK yX6_watchFor cX6_watchFor 4 (none) 2 := ⟨good_of (List.mem_of_getElem? (i := 1) (by decide +kernel)) (by decide +kernel), good_of (List.mem_of_getElem? (i := 497) (by decide +kernel)) (by decide +kernel), ⟨by decide +kernel, by decide +kernel⟩, by decide +kernel, by decide⟩
theorem mv_X6_watchFor : MVK yX6_watchFor := ⟨good_of (List.mem_of_getElem? (i := 496) (by decide +kernel)) (by decide +kernel), List.mem_filter.mpr ⟨List.mem_append_left _ (List.mem_of_getElem? (i := 23) (by decide +kernel)), by decide +kernel⟩⟩
theorem mf_X6_hasUrgentLock : MFK yX6_hasUrgentLock cX6_hasUrgentLock 5 (some .boolean) 2 := ⟨good_of (List.mem_of_getElem? (i := 1) (by decide +kernel)) (by decide +kernel), good_of (List.mem_of_getElem? (i := 505) (by decide +kernel)) (by decide +kernel), ⟨by decide +kernel, by decide +kernel⟩, by decide +kernel, by decide⟩
theorem mv_X6_hasUrgentLock : MVK yX6_hasUrgentLock := ⟨good_of (List.mem_of_getElem? (i := 504) (by decide +kernel)) (by decide +kernel), List.mem_filter.mpr ⟨List.mem_append_left _ (List.mem_of_getElem? (i := 25) (by decide +kernel)), by decide +kernel⟩⟩
theorem mf_X6_playFor : MFK yX6_playFor cX6_playFor 5 (none) 2 := ⟨good_of (List.mem_of_getElem? (i := 1) (by decide +kernel)) (by decide +kernel), good_of (List.mem_of_getElem? (i := 501) (by decide +kernel)) (by decide +kernel), ⟨by decide +kernel, by decide +kernel⟩, by decide +kernel, by decide⟩
theorem mv_X6_playFor : MVK yX6_playFor := ⟨good_of (List.mem_of_getElem? (i := 500) (by decide +kernel)) (by decide +kernel), List.mem_filter.mpr ⟨List.mem_append_left _ (List.mem_of_getElem? (i := 24) (by decide +kernel)), by decide +kernel⟩⟩
theorem mf_X6_hop : MFK yX6_hop cX6_hop 5 (some .int) 3 := ⟨good_of (List.mem_of_getElem? (i := 1) (by decide +kernel)) (by decide +kernel), good_of (List.mem_of_getElem? (i := 509) (by decide +kernel)) (by decide +kernel), ⟨by decide +kernel, by decide +kernel⟩, by decide +kernel, by decide⟩
theorem mv_X6_hop : MVK yX6_hop := ⟨good_of (List.mem_of_getElem? (i := 507) (by decide +kernel)) (by decide +kernel), good_of (List.mem_of_getElem? (i := 508) (by decide +kernel)) (by decide +kernel)⟩
theorem mf_X6_pay : MFK yX6_pay cX6_pay 9 (some .int) 2 := ⟨good_of (List.mem_of_getElem? (i := 1) (by decide +kernel)) (by decide +kernel), good_of (List.mem_of_getElem? (i := 539) (by decide +kernel)) (by decide +kernel), ⟨by decide +kernel, by decide +kernel⟩, by decide +kernel, by decide⟩
theorem mv_X6_pay : MVK yX6_pay := ⟨good_of (List.mem_of_getElem? (i := 537) (by decide +kernel)) (by decide +kernel), good_of (List.mem_of_getElem? (i := 538) (by decide +kernel)) (by decide +kernel)⟩
theorem mf_X6_continuesRoute : MFK yX6_continuesRoute cX6_continuesRoute 5 (some .boolean) 2 := ⟨good_of (List.mem_of_getElem? (i := 1) (by decide +kernel)) (by decide +kernel), good_of (List.mem_of_getElem? (i := 513) (by decide +kernel)) (by decide +kernel), ⟨by decide +kernel, by decide +kernel⟩, by decide +kernel, by decide⟩
theorem mv_X6_continuesRoute : MVK yX6_continuesRoute := ⟨good_of (List.mem_of_getElem? (i := 512) (by decide +kernel)) (by decide +kernel), List.mem_filter.mpr ⟨List.mem_append_left _ (List.mem_of_getElem? (i := 26) (by decide +kernel)), by decide +kernel⟩⟩
theorem mf_X6_allCarry : MFK yX6_allCarry cX6_allCarry 5 (some .boolean) 2 := ⟨good_of (List.mem_of_getElem? (i := 1) (by decide +kernel)) (by decide +kernel), good_of (List.mem_of_getElem? (i := 543) (by decide +kernel)) (by decide +kernel), ⟨by decide +kernel, by decide +kernel⟩, by decide +kernel, by decide⟩
theorem mv_X6_allCarry : MVK yX6_allCarry := ⟨good_of (List.mem_of_getElem? (i := 542) (by decide +kernel)) (by decide +kernel), List.mem_filter.mpr ⟨List.mem_append_left _ (List.mem_of_getElem? (i := 28) (by decide +kernel)), by decide +kernel⟩⟩
theorem mf_X6_firstExpiry : MFK yX6_firstExpiry cX6_firstExpiry 6 (some .int) 2 := ⟨good_of (List.mem_of_getElem? (i := 1) (by decide +kernel)) (by decide +kernel), good_of (List.mem_of_getElem? (i := 553) (by decide +kernel)) (by decide +kernel), ⟨by decide +kernel, by decide +kernel⟩, by decide +kernel, by decide⟩
theorem mv_X6_firstExpiry : MVK yX6_firstExpiry := ⟨good_of (List.mem_of_getElem? (i := 552) (by decide +kernel)) (by decide +kernel), List.mem_filter.mpr ⟨List.mem_append_left _ (List.mem_of_getElem? (i := 29) (by decide +kernel)), by decide +kernel⟩⟩
theorem mf_X6_payHop : MFK yX6_payHop cX6_payHop 6 (none) 4 := ⟨good_of (List.mem_of_getElem? (i := 1) (by decide +kernel)) (by decide +kernel), good_of (List.mem_of_getElem? (i := 557) (by decide +kernel)) (by decide +kernel), ⟨by decide +kernel, by decide +kernel⟩, by decide +kernel, by decide⟩
theorem mv_X6_payHop : MVK yX6_payHop := ⟨good_of (List.mem_of_getElem? (i := 556) (by decide +kernel)) (by decide +kernel), List.mem_filter.mpr ⟨List.mem_append_left _ (List.mem_of_getElem? (i := 30) (by decide +kernel)), by decide +kernel⟩⟩
theorem mf_X6_account : MFK yX6_account cX6_account 2 (some .int) 1 := ⟨good_of (List.mem_of_getElem? (i := 1) (by decide +kernel)) (by decide +kernel), good_of (List.mem_of_getElem? (i := 561) (by decide +kernel)) (by decide +kernel), ⟨by decide +kernel, by decide +kernel⟩, by decide +kernel, by decide⟩
theorem mv_X6_account : MVK yX6_account := ⟨good_of (List.mem_of_getElem? (i := 559) (by decide +kernel)) (by decide +kernel), good_of (List.mem_of_getElem? (i := 560) (by decide +kernel)) (by decide +kernel)⟩
theorem mf_X6_told : MFK yX6_told cX6_told 5 (some .int) 2 := ⟨good_of (List.mem_of_getElem? (i := 1) (by decide +kernel)) (by decide +kernel), good_of (List.mem_of_getElem? (i := 565) (by decide +kernel)) (by decide +kernel), ⟨by decide +kernel, by decide +kernel⟩, by decide +kernel, by decide⟩
theorem mv_X6_told : MVK yX6_told := ⟨good_of (List.mem_of_getElem? (i := 563) (by decide +kernel)) (by decide +kernel), good_of (List.mem_of_getElem? (i := 564) (by decide +kernel)) (by decide +kernel)⟩
theorem mf_X6_of : MFK yX6_of cX6_of 5 (some .int) 2 := ⟨good_of (List.mem_of_getElem? (i := 1) (by decide +kernel)) (by decide +kernel), good_of (List.mem_of_getElem? (i := 572) (by decide +kernel)) (by decide +kernel), ⟨by decide +kernel, by decide +kernel⟩, by decide +kernel, by decide⟩
theorem mv_X6_of : MVK yX6_of := ⟨good_of (List.mem_of_getElem? (i := 570) (by decide +kernel)) (by decide +kernel), good_of (List.mem_of_getElem? (i := 571) (by decide +kernel)) (by decide +kernel)⟩
theorem mf_X6_share : MFK yX6_share cX6_share 5 (some .int) 3 := ⟨good_of (List.mem_of_getElem? (i := 1) (by decide +kernel)) (by decide +kernel), good_of (List.mem_of_getElem? (i := 577) (by decide +kernel)) (by decide +kernel), ⟨by decide +kernel, by decide +kernel⟩, by decide +kernel, by decide⟩
theorem mv_X6_share : MVK yX6_share := ⟨good_of (List.mem_of_getElem? (i := 575) (by decide +kernel)) (by decide +kernel), good_of (List.mem_of_getElem? (i := 576) (by decide +kernel)) (by decide +kernel)⟩
theorem mf_X6_locked : MFK yX6_locked cX6_locked 6 (some .int) 3 := ⟨good_of (List.mem_of_getElem? (i := 1) (by decide +kernel)) (by decide +kernel), good_of (List.mem_of_getElem? (i := 581) (by decide +kernel)) (by decide +kernel), ⟨by decide +kernel, by decide +kernel⟩, by decide +kernel, by decide⟩
theorem mv_X6_locked : MVK yX6_locked := ⟨good_of (List.mem_of_getElem? (i := 579) (by decide +kernel)) (by decide +kernel), good_of (List.mem_of_getElem? (i := 580) (by decide +kernel)) (by decide +kernel)⟩
theorem mf_X6_knows : MFK yX6_knows cX6_knows 2 (some .int) 1 := ⟨good_of (List.mem_of_getElem? (i := 1) (by decide +kernel)) (by decide +kernel), good_of (List.mem_of_getElem? (i := 585) (by decide +kernel)) (by decide +kernel), ⟨by decide +kernel, by decide +kernel⟩, by decide +kernel, by decide⟩
theorem mv_X6_knows : MVK yX6_knows := ⟨good_of (List.mem_of_getElem? (i := 583) (by decide +kernel)) (by decide +kernel), good_of (List.mem_of_getElem? (i := 584) (by decide +kernel)) (by decide +kernel)⟩
theorem mf_X6_count : MFK yX6_count cX6_count 2 (some .int) 1 := ⟨good_of (List.mem_of_getElem? (i := 1) (by decide +kernel)) (by decide +kernel), good_of (List.mem_of_getElem? (i := 589) (by decide +kernel)) (by decide +kernel), ⟨by decide +kernel, by decide +kernel⟩, by decide +kernel, by decide⟩
theorem mv_X6_count : MVK yX6_count := ⟨good_of (List.mem_of_getElem? (i := 587) (by decide +kernel)) (by decide +kernel), good_of (List.mem_of_getElem? (i := 588) (by decide +kernel)) (by decide +kernel)⟩
theorem mf_X6_allThereIs : MFK yX6_allThereIs cX6_allThereIs 4 (some .int) 0 := ⟨good_of (List.mem_of_getElem? (i := 1) (by decide +kernel)) (by decide +kernel), good_of (List.mem_of_getElem? (i := 593) (by decide +kernel)) (by decide +kernel), ⟨by decide +kernel, by decide +kernel⟩, by decide +kernel, by decide⟩
theorem mv_X6_allThereIs : MVK yX6_allThereIs := ⟨good_of (List.mem_of_getElem? (i := 592) (by decide +kernel)) (by decide +kernel), List.mem_filter.mpr ⟨List.mem_append_left _ (List.mem_of_getElem? (i := 31) (by decide +kernel)), by decide +kernel⟩⟩
theorem mf_X6_channelAt : MFK yX6_channelAt cX6_channelAt 2 (some (.object "StateChannels$Channel")) 1 := ⟨good_of (List.mem_of_getElem? (i := 1) (by decide +kernel)) (by decide +kernel), good_of (List.mem_of_getElem? (i := 221) (by decide +kernel)) (by decide +kernel), ⟨by decide +kernel, by decide +kernel⟩, by decide +kernel, by decide⟩
theorem mv_X6_channelAt : MVK yX6_channelAt := ⟨good_of (List.mem_of_getElem? (i := 220) (by decide +kernel)) (by decide +kernel), List.mem_filter.mpr ⟨List.mem_append_left _ (List.mem_of_getElem? (i := 3) (by decide +kernel)), by decide +kernel⟩⟩
theorem mf_X6_stateAt : MFK yX6_stateAt cX6_stateAt 2 (some (.object "StateChannels$State")) 1 := ⟨good_of (List.mem_of_getElem? (i := 1) (by decide +kernel)) (by decide +kernel), good_of (List.mem_of_getElem? (i := 243) (by decide +kernel)) (by decide +kernel), ⟨by decide +kernel, by decide +kernel⟩, by decide +kernel, by decide⟩
theorem mv_X6_stateAt : MVK yX6_stateAt := ⟨good_of (List.mem_of_getElem? (i := 242) (by decide +kernel)) (by decide +kernel), List.mem_filter.mpr ⟨List.mem_append_left _ (List.mem_of_getElem? (i := 5) (by decide +kernel)), by decide +kernel⟩⟩
theorem mf_X6_hopAt : MFK yX6_hopAt cX6_hopAt 2 (some (.object "StateChannels$Hop")) 1 := ⟨good_of (List.mem_of_getElem? (i := 1) (by decide +kernel)) (by decide +kernel), good_of (List.mem_of_getElem? (i := 517) (by decide +kernel)) (by decide +kernel), ⟨by decide +kernel, by decide +kernel⟩, by decide +kernel, by decide⟩
theorem mv_X6_hopAt : MVK yX6_hopAt := ⟨good_of (List.mem_of_getElem? (i := 516) (by decide +kernel)) (by decide +kernel), List.mem_filter.mpr ⟨List.mem_append_left _ (List.mem_of_getElem? (i := 27) (by decide +kernel)), by decide +kernel⟩⟩
theorem mf_X6_isSecret : MFK yX6_isSecret cX6_isSecret 2 (some .boolean) 1 := ⟨good_of (List.mem_of_getElem? (i := 1) (by decide +kernel)) (by decide +kernel), good_of (List.mem_of_getElem? (i := 265) (by decide +kernel)) (by decide +kernel), ⟨by decide +kernel, by decide +kernel⟩, by decide +kernel, by decide⟩
theorem mv_X6_isSecret : MVK yX6_isSecret := ⟨good_of (List.mem_of_getElem? (i := 264) (by decide +kernel)) (by decide +kernel), List.mem_filter.mpr ⟨List.mem_append_left _ (List.mem_of_getElem? (i := 6) (by decide +kernel)), by decide +kernel⟩⟩
theorem mf_X6_numberOf : MFK yX6_numberOf cX6_numberOf 1 (some .int) 1 := ⟨good_of (List.mem_of_getElem? (i := 1) (by decide +kernel)) (by decide +kernel), good_of (List.mem_of_getElem? (i := 568) (by decide +kernel)) (by decide +kernel), ⟨by decide +kernel, by decide +kernel⟩, by decide +kernel, by decide⟩
theorem mv_X6_numberOf : Cond.static yX6_numberOf ∈ lw_good := good_of (List.mem_of_getElem? (i := 567) (by decide +kernel)) (by decide +kernel)
theorem mf_X6_isParty : MFK yX6_isParty cX6_isParty 1 (some .boolean) 1 := ⟨good_of (List.mem_of_getElem? (i := 1) (by decide +kernel)) (by decide +kernel), good_of (List.mem_of_getElem? (i := 424) (by decide +kernel)) (by decide +kernel), ⟨by decide +kernel, by decide +kernel⟩, by decide +kernel, by decide⟩
theorem mv_X6_isParty : Cond.static yX6_isParty ∈ lw_good := good_of (List.mem_of_getElem? (i := 423) (by decide +kernel)) (by decide +kernel)
theorem mf_X6_isPlace : MFK yX6_isPlace cX6_isPlace 1 (some .boolean) 1 := ⟨good_of (List.mem_of_getElem? (i := 1) (by decide +kernel)) (by decide +kernel), good_of (List.mem_of_getElem? (i := 447) (by decide +kernel)) (by decide +kernel), ⟨by decide +kernel, by decide +kernel⟩, by decide +kernel, by decide⟩
theorem mv_X6_isPlace : Cond.static yX6_isPlace ∈ lw_good := good_of (List.mem_of_getElem? (i := 446) (by decide +kernel)) (by decide +kernel)
theorem mf_X6_isIn : MFK yX6_isIn cX6_isIn 2 (some .boolean) 2 := ⟨good_of (List.mem_of_getElem? (i := 1) (by decide +kernel)) (by decide +kernel), good_of (List.mem_of_getElem? (i := 96) (by decide +kernel)) (by decide +kernel), ⟨by decide +kernel, by decide +kernel⟩, by decide +kernel, by decide⟩
theorem mv_X6_isIn : Cond.static yX6_isIn ∈ lw_good := good_of (List.mem_of_getElem? (i := 95) (by decide +kernel)) (by decide +kernel)
theorem mf_X6_isWithin : MFK yX6_isWithin cX6_isWithin 3 (some .boolean) 3 := ⟨good_of (List.mem_of_getElem? (i := 1) (by decide +kernel)) (by decide +kernel), good_of (List.mem_of_getElem? (i := 79) (by decide +kernel)) (by decide +kernel), ⟨by decide +kernel, by decide +kernel⟩, by decide +kernel, by decide⟩
theorem mv_X6_isWithin : Cond.static yX6_isWithin ∈ lw_good := good_of (List.mem_of_getElem? (i := 78) (by decide +kernel)) (by decide +kernel)
theorem mf_X7_init : MFK yX7_init cX7_init 2 (none) 0 := ⟨good_of (List.mem_of_getElem? (i := 3) (by decide +kernel)) (by decide +kernel), good_of (List.mem_of_getElem? (i := 599) (by decide +kernel)) (by decide +kernel), ⟨by decide +kernel, by decide +kernel⟩, by decide +kernel, by decide⟩
theorem mv_X7_init : Cond.instanceMethod yX7_init ∈ lw_good := good_of (List.mem_of_getElem? (i := 598) (by decide +kernel)) (by decide +kernel)
theorem mf_X7_isIn : MFK yX7_isIn cX7_isIn 3 (some .boolean) 3 := ⟨good_of (List.mem_of_getElem? (i := 3) (by decide +kernel)) (by decide +kernel), good_of (List.mem_of_getElem? (i := 680) (by decide +kernel)) (by decide +kernel), ⟨by decide +kernel, by decide +kernel⟩, by decide +kernel, by decide⟩
theorem mv_X7_isIn : Cond.static yX7_isIn ∈ lw_good := good_of (List.mem_of_getElem? (i := 679) (by decide +kernel)) (by decide +kernel)
theorem mf_X7_isParty : MFK yX7_isParty cX7_isParty 1 (some .boolean) 1 := ⟨good_of (List.mem_of_getElem? (i := 3) (by decide +kernel)) (by decide +kernel), good_of (List.mem_of_getElem? (i := 740) (by decide +kernel)) (by decide +kernel), ⟨by decide +kernel, by decide +kernel⟩, by decide +kernel, by decide⟩
theorem mv_X7_isParty : Cond.static yX7_isParty ∈ lw_good := good_of (List.mem_of_getElem? (i := 739) (by decide +kernel)) (by decide +kernel)
theorem mf_X7_has : MFK yX7_has cX7_has 2 (some .boolean) 2 := ⟨good_of (List.mem_of_getElem? (i := 3) (by decide +kernel)) (by decide +kernel), good_of (List.mem_of_getElem? (i := 686) (by decide +kernel)) (by decide +kernel), ⟨by decide +kernel, by decide +kernel⟩, by decide +kernel, by decide⟩
theorem mv_X7_has : Cond.static yX7_has ∈ lw_good := good_of (List.mem_of_getElem? (i := 685) (by decide +kernel)) (by decide +kernel)
theorem mf_X7_size : MFK yX7_size cX7_size 3 (some .int) 1 := ⟨good_of (List.mem_of_getElem? (i := 3) (by decide +kernel)) (by decide +kernel), good_of (List.mem_of_getElem? (i := 683) (by decide +kernel)) (by decide +kernel), ⟨by decide +kernel, by decide +kernel⟩, by decide +kernel, by decide⟩
theorem mv_X7_size : Cond.static yX7_size ∈ lw_good := good_of (List.mem_of_getElem? (i := 682) (by decide +kernel)) (by decide +kernel)
theorem mf_X7_isChannel : MFK yX7_isChannel cX7_isChannel 2 (some .boolean) 1 := ⟨good_of (List.mem_of_getElem? (i := 3) (by decide +kernel)) (by decide +kernel), good_of (List.mem_of_getElem? (i := 702) (by decide +kernel)) (by decide +kernel), ⟨by decide +kernel, by decide +kernel⟩, by decide +kernel, by decide⟩
theorem mv_X7_isChannel : MVK yX7_isChannel := ⟨good_of (List.mem_of_getElem? (i := 701) (by decide +kernel)) (by decide +kernel), List.mem_filter.mpr ⟨List.mem_append_left _ (List.mem_of_getElem? (i := 34) (by decide +kernel)), by decide +kernel⟩⟩
theorem mf_X7_isState : MFK yX7_isState cX7_isState 2 (some .boolean) 1 := ⟨good_of (List.mem_of_getElem? (i := 3) (by decide +kernel)) (by decide +kernel), good_of (List.mem_of_getElem? (i := 733) (by decide +kernel)) (by decide +kernel), ⟨by decide +kernel, by decide +kernel⟩, by decide +kernel, by decide⟩
theorem mv_X7_isState : MVK yX7_isState := ⟨good_of (List.mem_of_getElem? (i := 732) (by decide +kernel)) (by decide +kernel), List.mem_filter.mpr ⟨List.mem_append_left _ (List.mem_of_getElem? (i := 40) (by decide +kernel)), by decide +kernel⟩⟩
theorem mf_X7_isMember : MFK yX7_isMember cX7_isMember 3 (some .boolean) 2 := ⟨good_of (List.mem_of_getElem? (i := 3) (by decide +kernel)) (by decide +kernel), good_of (List.mem_of_getElem? (i := 737) (by decide +kernel)) (by decide +kernel), ⟨by decide +kernel, by decide +kernel⟩, by decide +kernel, by decide⟩
theorem mv_X7_isMember : MVK yX7_isMember := ⟨good_of (List.mem_of_getElem? (i := 736) (by decide +kernel)) (by decide +kernel), List.mem_filter.mpr ⟨List.mem_append_left _ (List.mem_of_getElem? (i := 41) (by decide +kernel)), by decide +kernel⟩⟩
theorem mf_X7_channelOf : MFK yX7_channelOf cX7_channelOf 2 (some .int) 1 := ⟨good_of (List.mem_of_getElem? (i := 3) (by decide +kernel)) (by decide +kernel), good_of (List.mem_of_getElem? (i := 694) (by decide +kernel)) (by decide +kernel), ⟨by decide +kernel, by decide +kernel⟩, by decide +kernel, by decide⟩
theorem mv_X7_channelOf : MVK yX7_channelOf := ⟨good_of (List.mem_of_getElem? (i := 693) (by decide +kernel)) (by decide +kernel), List.mem_filter.mpr ⟨List.mem_append_left _ (List.mem_of_getElem? (i := 33) (by decide +kernel)), by decide +kernel⟩⟩
theorem mf_X7_isOf : MFK yX7_isOf cX7_isOf 3 (some .boolean) 2 := ⟨good_of (List.mem_of_getElem? (i := 3) (by decide +kernel)) (by decide +kernel), good_of (List.mem_of_getElem? (i := 729) (by decide +kernel)) (by decide +kernel), ⟨by decide +kernel, by decide +kernel⟩, by decide +kernel, by decide⟩
theorem mv_X7_isOf : MVK yX7_isOf := ⟨good_of (List.mem_of_getElem? (i := 728) (by decide +kernel)) (by decide +kernel), List.mem_filter.mpr ⟨List.mem_append_left _ (List.mem_of_getElem? (i := 39) (by decide +kernel)), by decide +kernel⟩⟩
theorem mf_X7_lockAt : MFK yX7_lockAt cX7_lockAt 2 (some .int) 2 := ⟨good_of (List.mem_of_getElem? (i := 3) (by decide +kernel)) (by decide +kernel), good_of (List.mem_of_getElem? (i := 721) (by decide +kernel)) (by decide +kernel), ⟨by decide +kernel, by decide +kernel⟩, by decide +kernel, by decide⟩
theorem mv_X7_lockAt : Cond.static yX7_lockAt ∈ lw_good := good_of (List.mem_of_getElem? (i := 720) (by decide +kernel)) (by decide +kernel)
theorem mf_X7_whole : MFK yX7_whole cX7_whole 4 (some .int) 1 := ⟨good_of (List.mem_of_getElem? (i := 3) (by decide +kernel)) (by decide +kernel), good_of (List.mem_of_getElem? (i := 718) (by decide +kernel)) (by decide +kernel), ⟨by decide +kernel, by decide +kernel⟩, by decide +kernel, by decide⟩
theorem mv_X7_whole : MVK yX7_whole := ⟨good_of (List.mem_of_getElem? (i := 717) (by decide +kernel)) (by decide +kernel), List.mem_filter.mpr ⟨List.mem_append_left _ (List.mem_of_getElem? (i := 38) (by decide +kernel)), by decide +kernel⟩⟩
theorem mf_X7_counts : MFK yX7_counts cX7_counts 3 (some .boolean) 1 := ⟨good_of (List.mem_of_getElem? (i := 3) (by decide +kernel)) (by decide +kernel), good_of (List.mem_of_getElem? (i := 714) (by decide +kernel)) (by decide +kernel), ⟨by decide +kernel, by decide +kernel⟩, by decide +kernel, by decide⟩
theorem mv_X7_counts : MVK yX7_counts := ⟨good_of (List.mem_of_getElem? (i := 713) (by decide +kernel)) (by decide +kernel), List.mem_filter.mpr ⟨List.mem_append_left _ (List.mem_of_getElem? (i := 37) (by decide +kernel)), by decide +kernel⟩⟩
theorem mf_X7_newest : MFK yX7_newest cX7_newest 3 (some .int) 1 := ⟨good_of (List.mem_of_getElem? (i := 3) (by decide +kernel)) (by decide +kernel), good_of (List.mem_of_getElem? (i := 710) (by decide +kernel)) (by decide +kernel), ⟨by decide +kernel, by decide +kernel⟩, by decide +kernel, by decide⟩
theorem mv_X7_newest : MVK yX7_newest := ⟨good_of (List.mem_of_getElem? (i := 709) (by decide +kernel)) (by decide +kernel), List.mem_filter.mpr ⟨List.mem_append_left _ (List.mem_of_getElem? (i := 36) (by decide +kernel)), by decide +kernel⟩⟩
theorem mf_X7_free : MFK yX7_free cX7_free 3 (some .int) 2 := ⟨good_of (List.mem_of_getElem? (i := 3) (by decide +kernel)) (by decide +kernel), good_of (List.mem_of_getElem? (i := 749) (by decide +kernel)) (by decide +kernel), ⟨by decide +kernel, by decide +kernel⟩, by decide +kernel, by decide⟩
theorem mv_X7_free : MVK yX7_free := ⟨good_of (List.mem_of_getElem? (i := 748) (by decide +kernel)) (by decide +kernel), List.mem_filter.mpr ⟨List.mem_append_left _ (List.mem_of_getElem? (i := 43) (by decide +kernel)), by decide +kernel⟩⟩
theorem mf_X7_isFixed : MFK yX7_isFixed cX7_isFixed 2 (some .boolean) 1 := ⟨good_of (List.mem_of_getElem? (i := 3) (by decide +kernel)) (by decide +kernel), good_of (List.mem_of_getElem? (i := 744) (by decide +kernel)) (by decide +kernel), ⟨by decide +kernel, by decide +kernel⟩, by decide +kernel, by decide⟩
theorem mv_X7_isFixed : MVK yX7_isFixed := ⟨good_of (List.mem_of_getElem? (i := 743) (by decide +kernel)) (by decide +kernel), List.mem_filter.mpr ⟨List.mem_append_left _ (List.mem_of_getElem? (i := 42) (by decide +kernel)), by decide +kernel⟩⟩
theorem mf_X7_emptyPlace : MFK yX7_emptyPlace cX7_emptyPlace 3 (some .int) 1 := ⟨good_of (List.mem_of_getElem? (i := 3) (by decide +kernel)) (by decide +kernel), good_of (List.mem_of_getElem? (i := 758) (by decide +kernel)) (by decide +kernel), ⟨by decide +kernel, by decide +kernel⟩, by decide +kernel, by decide⟩
theorem mv_X7_emptyPlace : MVK yX7_emptyPlace := ⟨good_of (List.mem_of_getElem? (i := 757) (by decide +kernel)) (by decide +kernel), List.mem_filter.mpr ⟨List.mem_append_left _ (List.mem_of_getElem? (i := 44) (by decide +kernel)), by decide +kernel⟩⟩
theorem mf_X7_shows : MFK yX7_shows cX7_shows 3 (none) 1 := ⟨good_of (List.mem_of_getElem? (i := 3) (by decide +kernel)) (by decide +kernel), good_of (List.mem_of_getElem? (i := 794) (by decide +kernel)) (by decide +kernel), ⟨by decide +kernel, by decide +kernel⟩, by decide +kernel, by decide⟩
theorem mv_X7_shows : MVK yX7_shows := ⟨good_of (List.mem_of_getElem? (i := 793) (by decide +kernel)) (by decide +kernel), List.mem_filter.mpr ⟨List.mem_append_left _ (List.mem_of_getElem? (i := 47) (by decide +kernel)), by decide +kernel⟩⟩
theorem mf_X7_end : MFK yX7_end cX7_end 4 (none) 2 := ⟨good_of (List.mem_of_getElem? (i := 3) (by decide +kernel)) (by decide +kernel), good_of (List.mem_of_getElem? (i := 806) (by decide +kernel)) (by decide +kernel), ⟨by decide +kernel, by decide +kernel⟩, by decide +kernel, by decide⟩
theorem mv_X7_end : MVK yX7_end := ⟨good_of (List.mem_of_getElem? (i := 805) (by decide +kernel)) (by decide +kernel), List.mem_filter.mpr ⟨List.mem_append_left _ (List.mem_of_getElem? (i := 49) (by decide +kernel)), by decide +kernel⟩⟩
theorem mf_X7_pays : MFK yX7_pays cX7_pays 5 (none) 3 := ⟨good_of (List.mem_of_getElem? (i := 3) (by decide +kernel)) (by decide +kernel), good_of (List.mem_of_getElem? (i := 810) (by decide +kernel)) (by decide +kernel), ⟨by decide +kernel, by decide +kernel⟩, by decide +kernel, by decide⟩
theorem mv_X7_pays : MVK yX7_pays := ⟨good_of (List.mem_of_getElem? (i := 809) (by decide +kernel)) (by decide +kernel), List.mem_filter.mpr ⟨List.mem_append_left _ (List.mem_of_getElem? (i := 50) (by decide +kernel)), by decide +kernel⟩⟩
theorem mf_X7_canClaim : MFK yX7_canClaim cX7_canClaim 5 (some .boolean) 3 := ⟨good_of (List.mem_of_getElem? (i := 3) (by decide +kernel)) (by decide +kernel), good_of (List.mem_of_getElem? (i := 826) (by decide +kernel)) (by decide +kernel), ⟨by decide +kernel, by decide +kernel⟩, by decide +kernel, by decide⟩
theorem mv_X7_canClaim : MVK yX7_canClaim := ⟨good_of (List.mem_of_getElem? (i := 825) (by decide +kernel)) (by decide +kernel), List.mem_filter.mpr ⟨List.mem_append_left _ (List.mem_of_getElem? (i := 51) (by decide +kernel)), by decide +kernel⟩⟩
theorem mf_X7_claims : MFK yX7_claims cX7_claims 5 (some .int) 3 := ⟨good_of (List.mem_of_getElem? (i := 3) (by decide +kernel)) (by decide +kernel), good_of (List.mem_of_getElem? (i := 830) (by decide +kernel)) (by decide +kernel), ⟨by decide +kernel, by decide +kernel⟩, by decide +kernel, by decide⟩
theorem mv_X7_claims : MVK yX7_claims := ⟨good_of (List.mem_of_getElem? (i := 829) (by decide +kernel)) (by decide +kernel), List.mem_filter.mpr ⟨List.mem_append_left _ (List.mem_of_getElem? (i := 52) (by decide +kernel)), by decide +kernel⟩⟩
theorem mf_X7_wins : MFK yX7_wins cX7_wins 3 (none) 2 := ⟨good_of (List.mem_of_getElem? (i := 3) (by decide +kernel)) (by decide +kernel), good_of (List.mem_of_getElem? (i := 842) (by decide +kernel)) (by decide +kernel), ⟨by decide +kernel, by decide +kernel⟩, by decide +kernel, by decide⟩
theorem mv_X7_wins : MVK yX7_wins := ⟨good_of (List.mem_of_getElem? (i := 841) (by decide +kernel)) (by decide +kernel), List.mem_filter.mpr ⟨List.mem_append_left _ (List.mem_of_getElem? (i := 54) (by decide +kernel)), by decide +kernel⟩⟩
theorem mf_X7_steps : MFK yX7_steps cX7_steps 4 (some .int) 2 := ⟨good_of (List.mem_of_getElem? (i := 3) (by decide +kernel)) (by decide +kernel), good_of (List.mem_of_getElem? (i := 838) (by decide +kernel)) (by decide +kernel), ⟨by decide +kernel, by decide +kernel⟩, by decide +kernel, by decide⟩
theorem mv_X7_steps : MVK yX7_steps := ⟨good_of (List.mem_of_getElem? (i := 837) (by decide +kernel)) (by decide +kernel), List.mem_filter.mpr ⟨List.mem_append_left _ (List.mem_of_getElem? (i := 53) (by decide +kernel)), by decide +kernel⟩⟩
theorem mf_X7_dues : MFK yX7_dues cX7_dues 3 (none) 1 := ⟨good_of (List.mem_of_getElem? (i := 3) (by decide +kernel)) (by decide +kernel), good_of (List.mem_of_getElem? (i := 858) (by decide +kernel)) (by decide +kernel), ⟨by decide +kernel, by decide +kernel⟩, by decide +kernel, by decide⟩
theorem mv_X7_dues : MVK yX7_dues := ⟨good_of (List.mem_of_getElem? (i := 857) (by decide +kernel)) (by decide +kernel), List.mem_filter.mpr ⟨List.mem_append_left _ (List.mem_of_getElem? (i := 56) (by decide +kernel)), by decide +kernel⟩⟩
theorem mf_X7_watches : MFK yX7_watches cX7_watches 7 (none) 2 := ⟨good_of (List.mem_of_getElem? (i := 3) (by decide +kernel)) (by decide +kernel), good_of (List.mem_of_getElem? (i := 862) (by decide +kernel)) (by decide +kernel), ⟨by decide +kernel, by decide +kernel⟩, by decide +kernel, by decide⟩
theorem mv_X7_watches : MVK yX7_watches := ⟨good_of (List.mem_of_getElem? (i := 861) (by decide +kernel)) (by decide +kernel), List.mem_filter.mpr ⟨List.mem_append_left _ (List.mem_of_getElem? (i := 57) (by decide +kernel)), by decide +kernel⟩⟩
theorem mf_X7_oneMore : MFK yX7_oneMore cX7_oneMore 3 (none) 0 := ⟨good_of (List.mem_of_getElem? (i := 3) (by decide +kernel)) (by decide +kernel), good_of (List.mem_of_getElem? (i := 854) (by decide +kernel)) (by decide +kernel), ⟨by decide +kernel, by decide +kernel⟩, by decide +kernel, by decide⟩
theorem mv_X7_oneMore : MVK yX7_oneMore := ⟨good_of (List.mem_of_getElem? (i := 853) (by decide +kernel)) (by decide +kernel), List.mem_filter.mpr ⟨List.mem_append_left _ (List.mem_of_getElem? (i := 55) (by decide +kernel)), by decide +kernel⟩⟩
theorem mf_X7_channel : MFK yX7_channel cX7_channel 9 (some .int) 3 := ⟨good_of (List.mem_of_getElem? (i := 3) (by decide +kernel)) (by decide +kernel), good_of (List.mem_of_getElem? (i := 677) (by decide +kernel)) (by decide +kernel), ⟨by decide +kernel, by decide +kernel⟩, by decide +kernel, by decide⟩
theorem mv_X7_channel : MVK yX7_channel := ⟨good_of (List.mem_of_getElem? (i := 675) (by decide +kernel)) (by decide +kernel), good_of (List.mem_of_getElem? (i := 676) (by decide +kernel)) (by decide +kernel)⟩
theorem mf_X7_blank : MFK yX7_blank cX7_blank 5 (some .int) 1 := ⟨good_of (List.mem_of_getElem? (i := 3) (by decide +kernel)) (by decide +kernel), good_of (List.mem_of_getElem? (i := 690) (by decide +kernel)) (by decide +kernel), ⟨by decide +kernel, by decide +kernel⟩, by decide +kernel, by decide⟩
theorem mv_X7_blank : MVK yX7_blank := ⟨good_of (List.mem_of_getElem? (i := 689) (by decide +kernel)) (by decide +kernel), List.mem_filter.mpr ⟨List.mem_append_left _ (List.mem_of_getElem? (i := 32) (by decide +kernel)), by decide +kernel⟩⟩
theorem mf_X7_copied : MFK yX7_copied cX7_copied 6 (some .int) 1 := ⟨good_of (List.mem_of_getElem? (i := 3) (by decide +kernel)) (by decide +kernel), good_of (List.mem_of_getElem? (i := 706) (by decide +kernel)) (by decide +kernel), ⟨by decide +kernel, by decide +kernel⟩, by decide +kernel, by decide⟩
theorem mv_X7_copied : MVK yX7_copied := ⟨good_of (List.mem_of_getElem? (i := 705) (by decide +kernel)) (by decide +kernel), List.mem_filter.mpr ⟨List.mem_append_left _ (List.mem_of_getElem? (i := 35) (by decide +kernel)), by decide +kernel⟩⟩
theorem mf_X7_state : MFK yX7_state cX7_state 2 (some .int) 1 := ⟨good_of (List.mem_of_getElem? (i := 3) (by decide +kernel)) (by decide +kernel), good_of (List.mem_of_getElem? (i := 698) (by decide +kernel)) (by decide +kernel), ⟨by decide +kernel, by decide +kernel⟩, by decide +kernel, by decide⟩
theorem mv_X7_state : MVK yX7_state := ⟨good_of (List.mem_of_getElem? (i := 696) (by decide +kernel)) (by decide +kernel), good_of (List.mem_of_getElem? (i := 697) (by decide +kernel)) (by decide +kernel)⟩
theorem mf_X7_change : MFK yX7_change cX7_change 5 (some .int) 4 := ⟨good_of (List.mem_of_getElem? (i := 3) (by decide +kernel)) (by decide +kernel), good_of (List.mem_of_getElem? (i := 725) (by decide +kernel)) (by decide +kernel), ⟨by decide +kernel, by decide +kernel⟩, by decide +kernel, by decide⟩
theorem mv_X7_change : MVK yX7_change := ⟨good_of (List.mem_of_getElem? (i := 723) (by decide +kernel)) (by decide +kernel), good_of (List.mem_of_getElem? (i := 724) (by decide +kernel)) (by decide +kernel)⟩
theorem mf_X7_lock : MFK yX7_lock cX7_lock 7 (some .int) 6 := ⟨good_of (List.mem_of_getElem? (i := 3) (by decide +kernel)) (by decide +kernel), good_of (List.mem_of_getElem? (i := 753) (by decide +kernel)) (by decide +kernel), ⟨by decide +kernel, by decide +kernel⟩, by decide +kernel, by decide⟩
theorem mv_X7_lock : MVK yX7_lock := ⟨good_of (List.mem_of_getElem? (i := 751) (by decide +kernel)) (by decide +kernel), good_of (List.mem_of_getElem? (i := 752) (by decide +kernel)) (by decide +kernel)⟩
theorem mf_X7_locks : MFK yX7_locks cX7_locks 9 (some .int) 6 := ⟨good_of (List.mem_of_getElem? (i := 3) (by decide +kernel)) (by decide +kernel), good_of (List.mem_of_getElem? (i := 762) (by decide +kernel)) (by decide +kernel), ⟨by decide +kernel, by decide +kernel⟩, by decide +kernel, by decide⟩
theorem mv_X7_locks : MVK yX7_locks := ⟨good_of (List.mem_of_getElem? (i := 761) (by decide +kernel)) (by decide +kernel), List.mem_filter.mpr ⟨List.mem_append_left _ (List.mem_of_getElem? (i := 45) (by decide +kernel)), by decide +kernel⟩⟩
theorem mf_X7_isLock : MFK yX7_isLock cX7_isLock 3 (some .boolean) 2 := ⟨good_of (List.mem_of_getElem? (i := 3) (by decide +kernel)) (by decide +kernel), good_of (List.mem_of_getElem? (i := 770) (by decide +kernel)) (by decide +kernel), ⟨by decide +kernel, by decide +kernel⟩, by decide +kernel, by decide⟩
theorem mv_X7_isLock : MVK yX7_isLock := ⟨good_of (List.mem_of_getElem? (i := 769) (by decide +kernel)) (by decide +kernel), List.mem_filter.mpr ⟨List.mem_append_left _ (List.mem_of_getElem? (i := 46) (by decide +kernel)), by decide +kernel⟩⟩
theorem mf_X7_unlock : MFK yX7_unlock cX7_unlock 8 (some .int) 3 := ⟨good_of (List.mem_of_getElem? (i := 3) (by decide +kernel)) (by decide +kernel), good_of (List.mem_of_getElem? (i := 766) (by decide +kernel)) (by decide +kernel), ⟨by decide +kernel, by decide +kernel⟩, by decide +kernel, by decide⟩
theorem mv_X7_unlock : MVK yX7_unlock := ⟨good_of (List.mem_of_getElem? (i := 764) (by decide +kernel)) (by decide +kernel), good_of (List.mem_of_getElem? (i := 765) (by decide +kernel)) (by decide +kernel)⟩
theorem mf_X7_game : MFK yX7_game cX7_game 7 (some .int) 5 := ⟨good_of (List.mem_of_getElem? (i := 3) (by decide +kernel)) (by decide +kernel), good_of (List.mem_of_getElem? (i := 774) (by decide +kernel)) (by decide +kernel), ⟨by decide +kernel, by decide +kernel⟩, by decide +kernel, by decide⟩
theorem mv_X7_game : MVK yX7_game := ⟨good_of (List.mem_of_getElem? (i := 772) (by decide +kernel)) (by decide +kernel), good_of (List.mem_of_getElem? (i := 773) (by decide +kernel)) (by decide +kernel)⟩
theorem mf_X7_move : MFK yX7_move cX7_move 5 (some .int) 2 := ⟨good_of (List.mem_of_getElem? (i := 3) (by decide +kernel)) (by decide +kernel), good_of (List.mem_of_getElem? (i := 778) (by decide +kernel)) (by decide +kernel), ⟨by decide +kernel, by decide +kernel⟩, by decide +kernel, by decide⟩
theorem mv_X7_move : MVK yX7_move := ⟨good_of (List.mem_of_getElem? (i := 776) (by decide +kernel)) (by decide +kernel), good_of (List.mem_of_getElem? (i := 777) (by decide +kernel)) (by decide +kernel)⟩
theorem mf_X7_out : MFK yX7_out cX7_out 5 (some .int) 3 := ⟨good_of (List.mem_of_getElem? (i := 3) (by decide +kernel)) (by decide +kernel), good_of (List.mem_of_getElem? (i := 782) (by decide +kernel)) (by decide +kernel), ⟨by decide +kernel, by decide +kernel⟩, by decide +kernel, by decide⟩
theorem mv_X7_out : MVK yX7_out := ⟨good_of (List.mem_of_getElem? (i := 780) (by decide +kernel)) (by decide +kernel), good_of (List.mem_of_getElem? (i := 781) (by decide +kernel)) (by decide +kernel)⟩
theorem mf_X7_sign : MFK yX7_sign cX7_sign 4 (some .int) 2 := ⟨good_of (List.mem_of_getElem? (i := 3) (by decide +kernel)) (by decide +kernel), good_of (List.mem_of_getElem? (i := 786) (by decide +kernel)) (by decide +kernel), ⟨by decide +kernel, by decide +kernel⟩, by decide +kernel, by decide⟩
theorem mv_X7_sign : MVK yX7_sign := ⟨good_of (List.mem_of_getElem? (i := 784) (by decide +kernel)) (by decide +kernel), good_of (List.mem_of_getElem? (i := 785) (by decide +kernel)) (by decide +kernel)⟩
theorem mf_X7_show : MFK yX7_show cX7_show 4 (some .int) 2 := ⟨good_of (List.mem_of_getElem? (i := 3) (by decide +kernel)) (by decide +kernel), good_of (List.mem_of_getElem? (i := 790) (by decide +kernel)) (by decide +kernel), ⟨by decide +kernel, by decide +kernel⟩, by decide +kernel, by decide⟩
theorem mv_X7_show : MVK yX7_show := ⟨good_of (List.mem_of_getElem? (i := 788) (by decide +kernel)) (by decide +kernel), good_of (List.mem_of_getElem? (i := 789) (by decide +kernel)) (by decide +kernel)⟩
theorem mf_X7_agree : MFK yX7_agree cX7_agree 6 (some .int) 2 := ⟨good_of (List.mem_of_getElem? (i := 3) (by decide +kernel)) (by decide +kernel), good_of (List.mem_of_getElem? (i := 798) (by decide +kernel)) (by decide +kernel), ⟨by decide +kernel, by decide +kernel⟩, by decide +kernel, by decide⟩
theorem mv_X7_agree : MVK yX7_agree := ⟨good_of (List.mem_of_getElem? (i := 796) (by decide +kernel)) (by decide +kernel), good_of (List.mem_of_getElem? (i := 797) (by decide +kernel)) (by decide +kernel)⟩
theorem mf_X7_takesOut : MFK yX7_takesOut cX7_takesOut 6 (none) 2 := ⟨good_of (List.mem_of_getElem? (i := 3) (by decide +kernel)) (by decide +kernel), good_of (List.mem_of_getElem? (i := 802) (by decide +kernel)) (by decide +kernel), ⟨by decide +kernel, by decide +kernel⟩, by decide +kernel, by decide⟩
theorem mv_X7_takesOut : MVK yX7_takesOut := ⟨good_of (List.mem_of_getElem? (i := 801) (by decide +kernel)) (by decide +kernel), List.mem_filter.mpr ⟨List.mem_append_left _ (List.mem_of_getElem? (i := 48) (by decide +kernel)), by decide +kernel⟩⟩
theorem mf_X7_secret : MFK yX7_secret cX7_secret 2 (some .int) 1 := ⟨good_of (List.mem_of_getElem? (i := 3) (by decide +kernel)) (by decide +kernel), good_of (List.mem_of_getElem? (i := 814) (by decide +kernel)) (by decide +kernel), ⟨by decide +kernel, by decide +kernel⟩, by decide +kernel, by decide⟩
theorem mv_X7_secret : MVK yX7_secret := ⟨good_of (List.mem_of_getElem? (i := 812) (by decide +kernel)) (by decide +kernel), good_of (List.mem_of_getElem? (i := 813) (by decide +kernel)) (by decide +kernel)⟩
theorem mf_X7_tell : MFK yX7_tell cX7_tell 5 (some .int) 3 := ⟨good_of (List.mem_of_getElem? (i := 3) (by decide +kernel)) (by decide +kernel), good_of (List.mem_of_getElem? (i := 818) (by decide +kernel)) (by decide +kernel), ⟨by decide +kernel, by decide +kernel⟩, by decide +kernel, by decide⟩
theorem mv_X7_tell : MVK yX7_tell := ⟨good_of (List.mem_of_getElem? (i := 816) (by decide +kernel)) (by decide +kernel), good_of (List.mem_of_getElem? (i := 817) (by decide +kernel)) (by decide +kernel)⟩
theorem mf_X7_claim : MFK yX7_claim cX7_claim 4 (some .int) 3 := ⟨good_of (List.mem_of_getElem? (i := 3) (by decide +kernel)) (by decide +kernel), good_of (List.mem_of_getElem? (i := 822) (by decide +kernel)) (by decide +kernel), ⟨by decide +kernel, by decide +kernel⟩, by decide +kernel, by decide⟩
theorem mv_X7_claim : MVK yX7_claim := ⟨good_of (List.mem_of_getElem? (i := 820) (by decide +kernel)) (by decide +kernel), good_of (List.mem_of_getElem? (i := 821) (by decide +kernel)) (by decide +kernel)⟩
theorem mf_X7_step : MFK yX7_step cX7_step 4 (some .int) 3 := ⟨good_of (List.mem_of_getElem? (i := 3) (by decide +kernel)) (by decide +kernel), good_of (List.mem_of_getElem? (i := 834) (by decide +kernel)) (by decide +kernel), ⟨by decide +kernel, by decide +kernel⟩, by decide +kernel, by decide⟩
theorem mv_X7_step : MVK yX7_step := ⟨good_of (List.mem_of_getElem? (i := 832) (by decide +kernel)) (by decide +kernel), good_of (List.mem_of_getElem? (i := 833) (by decide +kernel)) (by decide +kernel)⟩
theorem mf_X7_watch : MFK yX7_watch cX7_watch 4 (some .int) 2 := ⟨good_of (List.mem_of_getElem? (i := 3) (by decide +kernel)) (by decide +kernel), good_of (List.mem_of_getElem? (i := 846) (by decide +kernel)) (by decide +kernel), ⟨by decide +kernel, by decide +kernel⟩, by decide +kernel, by decide⟩
theorem mv_X7_watch : MVK yX7_watch := ⟨good_of (List.mem_of_getElem? (i := 844) (by decide +kernel)) (by decide +kernel), good_of (List.mem_of_getElem? (i := 845) (by decide +kernel)) (by decide +kernel)⟩
theorem mf_X7_height : MFK yX7_height cX7_height 3 (some .int) 1 := ⟨good_of (List.mem_of_getElem? (i := 3) (by decide +kernel)) (by decide +kernel), good_of (List.mem_of_getElem? (i := 850) (by decide +kernel)) (by decide +kernel), ⟨by decide +kernel, by decide +kernel⟩, by decide +kernel, by decide⟩
theorem mv_X7_height : MVK yX7_height := ⟨good_of (List.mem_of_getElem? (i := 848) (by decide +kernel)) (by decide +kernel), good_of (List.mem_of_getElem? (i := 849) (by decide +kernel)) (by decide +kernel)⟩
theorem mf_X7_hop : MFK yX7_hop cX7_hop 6 (some .int) 3 := ⟨good_of (List.mem_of_getElem? (i := 3) (by decide +kernel)) (by decide +kernel), good_of (List.mem_of_getElem? (i := 866) (by decide +kernel)) (by decide +kernel), ⟨by decide +kernel, by decide +kernel⟩, by decide +kernel, by decide⟩
theorem mv_X7_hop : MVK yX7_hop := ⟨good_of (List.mem_of_getElem? (i := 864) (by decide +kernel)) (by decide +kernel), good_of (List.mem_of_getElem? (i := 865) (by decide +kernel)) (by decide +kernel)⟩
theorem mf_X7_pay : MFK yX7_pay cX7_pay 11 (some .int) 2 := ⟨good_of (List.mem_of_getElem? (i := 3) (by decide +kernel)) (by decide +kernel), good_of (List.mem_of_getElem? (i := 870) (by decide +kernel)) (by decide +kernel), ⟨by decide +kernel, by decide +kernel⟩, by decide +kernel, by decide⟩
theorem mv_X7_pay : MVK yX7_pay := ⟨good_of (List.mem_of_getElem? (i := 868) (by decide +kernel)) (by decide +kernel), good_of (List.mem_of_getElem? (i := 869) (by decide +kernel)) (by decide +kernel)⟩
theorem mf_X7_account : MFK yX7_account cX7_account 2 (some .int) 1 := ⟨good_of (List.mem_of_getElem? (i := 3) (by decide +kernel)) (by decide +kernel), good_of (List.mem_of_getElem? (i := 875) (by decide +kernel)) (by decide +kernel), ⟨by decide +kernel, by decide +kernel⟩, by decide +kernel, by decide⟩
theorem mv_X7_account : MVK yX7_account := ⟨good_of (List.mem_of_getElem? (i := 873) (by decide +kernel)) (by decide +kernel), good_of (List.mem_of_getElem? (i := 874) (by decide +kernel)) (by decide +kernel)⟩
theorem mf_X7_told : MFK yX7_told cX7_told 4 (some .int) 2 := ⟨good_of (List.mem_of_getElem? (i := 3) (by decide +kernel)) (by decide +kernel), good_of (List.mem_of_getElem? (i := 879) (by decide +kernel)) (by decide +kernel), ⟨by decide +kernel, by decide +kernel⟩, by decide +kernel, by decide⟩
theorem mv_X7_told : MVK yX7_told := ⟨good_of (List.mem_of_getElem? (i := 877) (by decide +kernel)) (by decide +kernel), good_of (List.mem_of_getElem? (i := 878) (by decide +kernel)) (by decide +kernel)⟩
theorem mf_X7_of : MFK yX7_of cX7_of 4 (some .int) 2 := ⟨good_of (List.mem_of_getElem? (i := 3) (by decide +kernel)) (by decide +kernel), good_of (List.mem_of_getElem? (i := 883) (by decide +kernel)) (by decide +kernel), ⟨by decide +kernel, by decide +kernel⟩, by decide +kernel, by decide⟩
theorem mv_X7_of : MVK yX7_of := ⟨good_of (List.mem_of_getElem? (i := 881) (by decide +kernel)) (by decide +kernel), good_of (List.mem_of_getElem? (i := 882) (by decide +kernel)) (by decide +kernel)⟩
theorem mf_X7_share : MFK yX7_share cX7_share 4 (some .int) 3 := ⟨good_of (List.mem_of_getElem? (i := 3) (by decide +kernel)) (by decide +kernel), good_of (List.mem_of_getElem? (i := 887) (by decide +kernel)) (by decide +kernel), ⟨by decide +kernel, by decide +kernel⟩, by decide +kernel, by decide⟩
theorem mv_X7_share : MVK yX7_share := ⟨good_of (List.mem_of_getElem? (i := 885) (by decide +kernel)) (by decide +kernel), good_of (List.mem_of_getElem? (i := 886) (by decide +kernel)) (by decide +kernel)⟩
theorem mf_X7_locked : MFK yX7_locked cX7_locked 5 (some .int) 3 := ⟨good_of (List.mem_of_getElem? (i := 3) (by decide +kernel)) (by decide +kernel), good_of (List.mem_of_getElem? (i := 891) (by decide +kernel)) (by decide +kernel), ⟨by decide +kernel, by decide +kernel⟩, by decide +kernel, by decide⟩
theorem mv_X7_locked : MVK yX7_locked := ⟨good_of (List.mem_of_getElem? (i := 889) (by decide +kernel)) (by decide +kernel), good_of (List.mem_of_getElem? (i := 890) (by decide +kernel)) (by decide +kernel)⟩
theorem mf_X7_knows : MFK yX7_knows cX7_knows 2 (some .int) 1 := ⟨good_of (List.mem_of_getElem? (i := 3) (by decide +kernel)) (by decide +kernel), good_of (List.mem_of_getElem? (i := 895) (by decide +kernel)) (by decide +kernel), ⟨by decide +kernel, by decide +kernel⟩, by decide +kernel, by decide⟩
theorem mv_X7_knows : MVK yX7_knows := ⟨good_of (List.mem_of_getElem? (i := 893) (by decide +kernel)) (by decide +kernel), good_of (List.mem_of_getElem? (i := 894) (by decide +kernel)) (by decide +kernel)⟩
theorem mf_X7_count : MFK yX7_count cX7_count 2 (some .int) 1 := ⟨good_of (List.mem_of_getElem? (i := 3) (by decide +kernel)) (by decide +kernel), good_of (List.mem_of_getElem? (i := 899) (by decide +kernel)) (by decide +kernel), ⟨by decide +kernel, by decide +kernel⟩, by decide +kernel, by decide⟩
theorem mv_X7_count : MVK yX7_count := ⟨good_of (List.mem_of_getElem? (i := 897) (by decide +kernel)) (by decide +kernel), good_of (List.mem_of_getElem? (i := 898) (by decide +kernel)) (by decide +kernel)⟩
theorem mf_X7_all : MFK yX7_all cX7_all 3 (some .int) 0 := ⟨good_of (List.mem_of_getElem? (i := 3) (by decide +kernel)) (by decide +kernel), good_of (List.mem_of_getElem? (i := 903) (by decide +kernel)) (by decide +kernel), ⟨by decide +kernel, by decide +kernel⟩, by decide +kernel, by decide⟩
theorem mv_X7_all : MVK yX7_all := ⟨good_of (List.mem_of_getElem? (i := 902) (by decide +kernel)) (by decide +kernel), List.mem_filter.mpr ⟨List.mem_append_left _ (List.mem_of_getElem? (i := 58) (by decide +kernel)), by decide +kernel⟩⟩
theorem mf_J6_bitCount_0f7a4 : MFK yJ6_bitCount_0f7a4 cJ6_bitCount_0f7a4 1 (some .int) 1 := ⟨good_of (List.mem_of_getElem? (i := 4) (by decide +kernel)) (by decide +kernel), good_of (List.mem_of_getElem? (i := 82) (by decide +kernel)) (by decide +kernel), ⟨by decide +kernel, by decide +kernel⟩, by decide +kernel, by decide⟩
theorem mv_J6_bitCount_0f7a4 : Cond.static yJ6_bitCount_0f7a4 ∈ lw_good := good_of (List.mem_of_getElem? (i := 81) (by decide +kernel)) (by decide +kernel)
theorem nw_L_7 : NWK RL 7 6 [.null, .null, .null, .null, .null, .int 0, .int 0, .int 0, .int 0, .int 0, .int 0] := ⟨_, _, _, rfl, rfl, ⟨tyX6, tyX6_ok, by decide +kernel⟩, good_of (List.mem_of_getElem? (i := 10) (by decide +kernel)) (by decide +kernel), good_of (List.mem_of_getElem? (i := 11) (by decide +kernel)) (by decide +kernel), good_of (List.mem_of_getElem? (i := 1) (by decide +kernel)) (by decide +kernel)⟩
theorem nw_X6_7 : NWK RX6 7 5 [.null] := ⟨_, _, _, rfl, rfl, ⟨tyX5, tyX5_ok, by decide +kernel⟩, good_of (List.mem_of_getElem? (i := 18) (by decide +kernel)) (by decide +kernel), good_of (List.mem_of_getElem? (i := 19) (by decide +kernel)) (by decide +kernel), good_of (List.mem_of_getElem? (i := 2) (by decide +kernel)) (by decide +kernel)⟩
theorem nw_X6_16 : NWK RX6 16 0 [.int 0, .int 0, .int 0, .int 0, .int 0, .int 0, .null, .null, .int 0, .int 0, .null, .int 0] := ⟨_, _, _, rfl, rfl, ⟨tyX0, tyX0_ok, by decide +kernel⟩, good_of (List.mem_of_getElem? (i := 29) (by decide +kernel)) (by decide +kernel), good_of (List.mem_of_getElem? (i := 101) (by decide +kernel)) (by decide +kernel), good_of (List.mem_of_getElem? (i := 5) (by decide +kernel)) (by decide +kernel)⟩
theorem nr_X6_16 : NRK RX6 16 1 := ⟨_, rfl, good_of (List.mem_of_getElem? (i := 29) (by decide +kernel)) (by decide +kernel)⟩
theorem nw_X6_22 : NWK RX6 22 4 [.int 0, .null, .int 0, .null, .null, .null, .null, .int 0, .int 0] := ⟨_, _, _, rfl, rfl, ⟨tyX4, tyX4_ok, by decide +kernel⟩, good_of (List.mem_of_getElem? (i := 31) (by decide +kernel)) (by decide +kernel), good_of (List.mem_of_getElem? (i := 159) (by decide +kernel)) (by decide +kernel), good_of (List.mem_of_getElem? (i := 6) (by decide +kernel)) (by decide +kernel)⟩
theorem nr_X6_22 : NRK RX6 22 4 := ⟨_, rfl, good_of (List.mem_of_getElem? (i := 31) (by decide +kernel)) (by decide +kernel)⟩
theorem nw_X6_32 : NWK RX6 32 2 [.null, .int 0, .int 0] := ⟨_, _, _, rfl, rfl, ⟨tyX2, tyX2_ok, by decide +kernel⟩, good_of (List.mem_of_getElem? (i := 33) (by decide +kernel)) (by decide +kernel), good_of (List.mem_of_getElem? (i := 518) (by decide +kernel)) (by decide +kernel), good_of (List.mem_of_getElem? (i := 9) (by decide +kernel)) (by decide +kernel)⟩
theorem nr_X6_32 : NRK RX6 32 2 := ⟨_, rfl, good_of (List.mem_of_getElem? (i := 33) (by decide +kernel)) (by decide +kernel)⟩
theorem nw_X4_9 : NWK RX4 9 5 [.null] := ⟨_, _, _, rfl, rfl, ⟨tyX5, tyX5_ok, by decide +kernel⟩, good_of (List.mem_of_getElem? (i := 164) (by decide +kernel)) (by decide +kernel), good_of (List.mem_of_getElem? (i := 19) (by decide +kernel)) (by decide +kernel), good_of (List.mem_of_getElem? (i := 2) (by decide +kernel)) (by decide +kernel)⟩
theorem nr_X4_21 : NRK RX4 21 3 := ⟨_, rfl, good_of (List.mem_of_getElem? (i := 166) (by decide +kernel)) (by decide +kernel)⟩
theorem nw_X6_144 : NWK RX6 144 3 [.int 0, .int 0, .int 0, .int 0, .int 0] := ⟨_, _, _, rfl, rfl, ⟨tyX3, tyX3_ok, by decide +kernel⟩, good_of (List.mem_of_getElem? (i := 271) (by decide +kernel)) (by decide +kernel), good_of (List.mem_of_getElem? (i := 272) (by decide +kernel)) (by decide +kernel), good_of (List.mem_of_getElem? (i := 7) (by decide +kernel)) (by decide +kernel)⟩
theorem nw_X6_174 : NWK RX6 174 1 [.int 0, .int 0, .int 0, .int 0] := ⟨_, _, _, rfl, rfl, ⟨tyX1, tyX1_ok, by decide +kernel⟩, good_of (List.mem_of_getElem? (i := 319) (by decide +kernel)) (by decide +kernel), good_of (List.mem_of_getElem? (i := 320) (by decide +kernel)) (by decide +kernel), good_of (List.mem_of_getElem? (i := 8) (by decide +kernel)) (by decide +kernel)⟩
theorem nw_X1_8 : NWK RX1 8 1 [.int 0, .int 0, .int 0, .int 0] := ⟨_, _, _, rfl, rfl, ⟨tyX1, tyX1_ok, by decide +kernel⟩, good_of (List.mem_of_getElem? (i := 351) (by decide +kernel)) (by decide +kernel), good_of (List.mem_of_getElem? (i := 320) (by decide +kernel)) (by decide +kernel), good_of (List.mem_of_getElem? (i := 8) (by decide +kernel)) (by decide +kernel)⟩
theorem nw_L_10 : NWK RL 10 7 [.null, .int 0, .int 0, .int 0, .null, .int 0, .null, .null, .null, .null, .null, .null, .null, .null, .null, .null, .null, .null, .int 0, .null, .int 0, .null, .null, .null] := ⟨_, _, _, rfl, rfl, ⟨tyX7, tyX7_ok, by decide +kernel⟩, good_of (List.mem_of_getElem? (i := 595) (by decide +kernel)) (by decide +kernel), good_of (List.mem_of_getElem? (i := 596) (by decide +kernel)) (by decide +kernel), good_of (List.mem_of_getElem? (i := 3) (by decide +kernel)) (by decide +kernel)⟩
theorem ac_int : Cond.arrayClass .int ∈ lw_good := good_of (List.mem_of_getElem? (i := 28) (by decide +kernel)) (by decide +kernel)
end
section
/-! THE WORLD: what lies in the heap, told by two tables of numbers: T (of the class's objects), Tr (of the reference's arrays). -/
abbrev TB : Type := Nat → Nat → Int32
def up (T : TB) (j i : Nat) (v : Int32) : TB := fun j' i' => if j' = j ∧ i' = i then v else T j' i'
theorem up_s (T : TB) (j i : Nat) (v : Int32) : up T j i v j i = v := if_pos ⟨rfl, rfl⟩
theorem up_j (T : TB) {j j' : Nat} (i i' : Nat) (v : Int32) (h : j' ≠ j) : up T j i v j' i' = T j' i' := if_neg (fun q => h q.1)
theorem up_i (T : TB) (j : Nat) {i i' : Nat} (v : Int32) (h : i' ≠ i) : up T j i v j i' = T j i' := if_neg (fun q => h q.2)
theorem up_row (T : TB) (j i : Nat) (v : Int32) : up T j i v j = upd (T j) i v := by
  funext q
  simp [up, upd]
theorem up_rowj (T : TB) {j j' : Nat} (i : Nat) (v : Int32) (h : j' ≠ j) : up T j i v j' = T j' := by
  funext q
  exact up_j T i q v h
abbrev ix (x : Int32) : Nat := x.toNatClampNeg
abbrev NM : Type := Nat → Nat → Nat
def mlen : Nat → Nat
  | 0 => 6
  | 4 => 16
  | 6 => 8
  | 7 => 8
  | 8 => 8
  | 9 => 8
  | 10 => 8
  | 11 => 8
  | 12 => 8
  | 13 => 8
  | 14 => 8
  | 15 => 8
  | 16 => 8
  | 17 => 8
  | 19 => 2240
  | 21 => 4
  | 22 => 4
  | 23 => 4
  | _ => 0
def vld (T : TB) (k i : Nat) : Prop := (k ≤ 6 ∧ i = 0) ∨ (k = 7 ∧ i < ix (T 5 0)) ∨ (8 ≤ k ∧ k ≤ 13 ∧ i < ix (T 18 0)) ∨ (k = 14 ∧ i = 0) ∨ (k = 15 ∧ mlen i ≠ 0)
/-- a state by its number, none below 0 -/
def sref (Γ : NM) (v : Int32) : Option Nat := if v < 0 then none else some (Γ 8 (ix v))
def chF (Γ : NM) (T : TB) (g : Option Nat) (c : Nat) : List Value := [.int (nI c), .int (T 6 c), .int (T 7 c), .int (T 8 c), .int (T 9 c), .int (T 24 c), va_rf (sref Γ (T 25 c)), va_rf (sref Γ (T 10 c)), .int (T 26 c), .int (T 12 c), va_rf g, .int (T 27 c)]
def stF (Γ : NM) (T : TB) (g : Option Nat) (s : Nat) : List Value := [.int (nI s), .ref (Γ 7 (ix (T 19 (35 * s + 0)))), .int (T 19 (35 * s + 1)), .ref (Γ 9 s), .ref (Γ 11 s), .ref (Γ 13 s), va_rf g, .int (T 19 (35 * s + 2)), .int (T 19 (35 * s + 3))]
def scF (Γ : NM) (T : TB) : List Value := [.ref (Γ 1 0), .ref (Γ 3 0), .ref (Γ 4 0), .ref (Γ 5 0), .ref (Γ 6 0), .int (T 5 0), .int (T 18 0), .int (T 3 0), .int (T 20 0), .int (T 2 0), .int (T 1 0)]
def moF (Γ : NM) (T : TB) : List Value := [.ref (Γ 15 0), .int (T 1 0), .int (T 2 0), .int (T 3 0), .ref (Γ 15 4), .int (T 5 0), .ref (Γ 15 6), .ref (Γ 15 7), .ref (Γ 15 8), .ref (Γ 15 9), .ref (Γ 15 10), .ref (Γ 15 11), .ref (Γ 15 12), .ref (Γ 15 13), .ref (Γ 15 14), .ref (Γ 15 15), .ref (Γ 15 16), .ref (Γ 15 17), .int (T 18 0), .ref (Γ 15 19), .int (T 20 0), .ref (Γ 15 21), .ref (Γ 15 22), .ref (Γ 15 23)]
def GmOK (h : Hp) (g : Option Nat) (stake heap turn other : Int32) : Prop := (stake = 0 → g = none) ∧ (stake ≠ 0 → ∃ a, g = some a ∧ h a = some (ob 1 [.int turn, .int other, .int stake, .int heap]))
def LkOK (h : Hp) (g : Option Nat) (much fr to sec ex : Int32) : Prop := (much = 0 → g = none) ∧ (much ≠ 0 → ∃ a, g = some a ∧ h a = some (ob 3 [.int fr, .int to, .int much, .int sec, .int ex]))
def HpOK (h : Hp) (Γ : NM) (T : TB) (r : Option Nat) (q : Nat) : Prop := ∃ a, r = some a ∧ h a = some (ob 2 [.ref (Γ 7 (ix (T 21 q))), .int (T 22 q), .int (T 23 q)])
abbrev lkT (T : TB) (s k j : Nat) : Int32 := T 19 (35 * s + 16 + 5 * k + j)
/-- what lies at the place k, i -/
def CE (h : Hp) (Γ : NM) (T Tr : TB) (nh k i : Nat) (c : AC) : Prop := match k with
  | 0 => c = ob 6 (scF Γ T)
  | 1 => c = ob 5 [.ref (Γ 2 0)]
  | 2 => c = ia 6 (T 0)
  | 3 => c = ra 1 8 (fun q => if q < ix (T 5 0) then some (Γ 7 q) else none)
  | 4 => c = ra 4 64 (fun q => if q < ix (T 18 0) then some (Γ 8 q) else none)
  | 5 => c = ia 16 (T 4)
  | 6 => ∃ f, c = ra 2 4 f ∧ ∀ q, q < nh → HpOK h Γ T (f q) q
  | 7 => ∃ g, c = ob 0 (chF Γ T g i) ∧ GmOK h g (T 13 i) (T 14 i) (T 15 i) (T 16 i)
  | 8 => ∃ g, c = ob 4 (stF Γ T g i) ∧ GmOK h g (T 19 (35 * i + 31)) (T 19 (35 * i + 32)) (T 19 (35 * i + 33)) (T 19 (35 * i + 34))
  | 9 => c = ob 5 [.ref (Γ 10 i)]
  | 10 => ∃ f, c = ia 6 f ∧ ∀ p, p < 6 → f p = T 19 (35 * i + 4 + p)
  | 11 => c = ob 5 [.ref (Γ 12 i)]
  | 12 => ∃ f, c = ia 6 f ∧ ∀ p, p < 6 → f p = T 19 (35 * i + 10 + p)
  | 13 => ∃ f, c = ra 3 3 f ∧ ∀ k, k < 3 → LkOK h (f k) (lkT T i k 0) (lkT T i k 1) (lkT T i k 2) (lkT T i k 3) (lkT T i k 4)
  | 14 => c = ob 7 (moF Γ Tr)
  | _ => c = ia (mlen i) (Tr i)
def WD (Γ : NM) (ow : Nat → Nat × Nat) (h : Hp) (T Tr : TB) (nh : Nat) : Prop := (∀ k i, vld T k i → ow (Γ k i) = (k, i)) ∧ ∀ k i, vld T k i → ∃ c, h (Γ k i) = some c ∧ CE h Γ T Tr nh k i c
/-- what never changes once it is made: games, hops, locks -/
def Kp (h h' : Hp) : Prop := ∀ a ci fs, (ci = 1 ∨ ci = 2 ∨ ci = 3) → h a = some (ob ci fs) → h' a = some (ob ci fs)
theorem GmOK.kp {h h' : Hp} (hk : Kp h h') {g : Option Nat} {a b c d : Int32} (H : GmOK h g a b c d) : GmOK h' g a b c d := ⟨H.1, fun q => by
  obtain ⟨x, h1, h2⟩ := H.2 q
  exact ⟨x, h1, hk _ _ _ (Or.inl rfl) h2⟩⟩
theorem LkOK.kp {h h' : Hp} (hk : Kp h h') {g : Option Nat} {a b c d e : Int32} (H : LkOK h g a b c d e) : LkOK h' g a b c d e := ⟨H.1, fun q => by
  obtain ⟨x, h1, h2⟩ := H.2 q
  exact ⟨x, h1, hk _ _ _ (Or.inr (Or.inr rfl)) h2⟩⟩
theorem HpOK.kp {h h' : Hp} (hk : Kp h h') {Γ : NM} {T : TB} {g : Option Nat} {q : Nat} (H : HpOK h Γ T g q) : HpOK h' Γ T g q := by
  obtain ⟨x, h1, h2⟩ := H
  exact ⟨x, h1, hk _ _ _ (Or.inr (Or.inl rfl)) h2⟩
theorem CE.kp {h h' : Hp} (hk : Kp h h') {Γ : NM} {T Tr : TB} {nh k i : Nat} {c : AC} (H : CE h Γ T Tr nh k i c) : CE h' Γ T Tr nh k i c := by
  match k, H with
  | 0, H => exact H
  | 1, H => exact H
  | 2, H => exact H
  | 3, H => exact H
  | 4, H => exact H
  | 5, H => exact H
  | 6, H => obtain ⟨f, h1, h2⟩ := H; exact ⟨f, h1, fun q hq => (h2 q hq).kp hk⟩
  | 7, H => obtain ⟨f, h1, h2⟩ := H; exact ⟨f, h1, h2.kp hk⟩
  | 8, H => obtain ⟨f, h1, h2⟩ := H; exact ⟨f, h1, h2.kp hk⟩
  | 9, H => exact H
  | 10, H => exact H
  | 11, H => exact H
  | 12, H => exact H
  | 13, H => obtain ⟨f, h1, h2⟩ := H; exact ⟨f, h1, fun q hq => (h2 q hq).kp hk⟩
  | 14, H => exact H
  | k + 15, H => exact H
/-- what lies at a named place is nothing that never changes -/
theorem CE.ni {h : Hp} {Γ : NM} {T Tr : TB} {nh k i : Nat} {c : AC} (H : CE h Γ T Tr nh k i c) (ci : Nat) (fs : List Value) (hc : ci = 1 ∨ ci = 2 ∨ ci = 3) : c ≠ ob ci fs := by
  rintro rfl
  have key : ∀ d gs, (ob ci fs : AC) = ob d gs → ci = d := fun d gs q => by
    have := Sum.inl.inj q
    exact congrArg Prod.fst this
  have ka : ∀ n f, (ob ci fs : AC) ≠ ia n f := fun n f q => by cases q
  have kr : ∀ t n f, (ob ci fs : AC) ≠ ra t n f := fun t n f q => by cases q
  match k, H with
  | 0, H => have := key _ _ H; omega
  | 1, H => have := key _ _ H; omega
  | 2, H => exact ka _ _ H
  | 3, H => exact kr _ _ _ H
  | 4, H => exact kr _ _ _ H
  | 5, H => exact ka _ _ H
  | 6, H => obtain ⟨f, h1, h2⟩ := H; exact kr _ _ _ h1
  | 7, H => obtain ⟨f, h1, h2⟩ := H; have := key _ _ h1; omega
  | 8, H => obtain ⟨f, h1, h2⟩ := H; have := key _ _ h1; omega
  | 9, H => have := key _ _ H; omega
  | 10, H => obtain ⟨f, h1, h2⟩ := H; exact ka _ _ h1
  | 11, H => have := key _ _ H; omega
  | 12, H => obtain ⟨f, h1, h2⟩ := H; exact ka _ _ h1
  | 13, H => obtain ⟨f, h1, h2⟩ := H; exact kr _ _ _ h1
  | 14, H => have := key _ _ H; omega
  | k + 15, H => exact ka _ _ H
theorem WD.kpp {Γ : NM} {ow : Nat → Nat × Nat} {h : Hp} {T Tr : TB} {nh k i : Nat} (H : WD Γ ow h T Tr nh) (hv : vld T k i) (c : AC) : Kp h (hup h (Γ k i) c) := by
  intro a ci fs hci ha
  obtain ⟨d, h1, h2⟩ := H.2 k i hv
  by_cases e : a = Γ k i
  · subst e
    rw [h1] at ha
    exact absurd (Option.some.inj ha) (h2.ni ci fs hci)
  · rw [hup_n h c e]; exact ha
theorem WD.ne {Γ : NM} {ow : Nat → Nat × Nat} {h : Hp} {T Tr : TB} {nh k i k' i' : Nat} (H : WD Γ ow h T Tr nh) (hv : vld T k i) (hv' : vld T k' i') (hne : ¬ (k' = k ∧ i' = i)) : Γ k' i' ≠ Γ k i := fun e => by
  have h1 := H.1 k i hv
  rw [← e, H.1 k' i' hv'] at h1
  exact hne ⟨congrArg Prod.fst h1, congrArg Prod.snd h1⟩
/-- one named place is written -/
theorem WD.put {Γ : NM} {ow : Nat → Nat × Nat} {h : Hp} {T Tr T' Tr' : TB} {nh nh' k i : Nat} {c : AC} (H : WD Γ ow h T Tr nh) (hv : vld T k i) (hvv : ∀ k i, vld T' k i ↔ vld T k i)
    (hc : CE h Γ T' Tr' nh' k i c) (ho : ∀ k' i' d, vld T k' i' → ¬ (k' = k ∧ i' = i) → CE h Γ T Tr nh k' i' d → CE h Γ T' Tr' nh' k' i' d) : WD Γ ow (hup h (Γ k i) c) T' Tr' nh' := by
  have hk := H.kpp hv c
  refine ⟨fun k' i' g => H.1 k' i' ((hvv k' i').mp g), fun k' i' g => ?_⟩
  by_cases e : k' = k ∧ i' = i
  · obtain ⟨rfl, rfl⟩ := e
    exact ⟨c, hup_s _ _ _, hc.kp hk⟩
  · obtain ⟨d, h1, h2⟩ := H.2 k' i' ((hvv k' i').mp g)
    exact ⟨d, by rw [hup_n h c (H.ne hv ((hvv k' i').mp g) e)]; exact h1, (ho k' i' d ((hvv k' i').mp g) e h2).kp hk⟩
/-- a cell that nobody names is made -/
theorem WD.made {Γ : NM} {ow : Nat → Nat × Nat} {h : Hp} {T Tr : TB} {nh a : Nat} {c : AC} (H : WD Γ ow h T Tr nh) (ha : h a = none) : WD Γ ow (hup h a c) T Tr nh := by
  have hk : Kp h (hup h a c) := fun b ci fs _ hb => by
    by_cases e : b = a
    · subst e; rw [ha] at hb; cases hb
    · rw [hup_n h c e]; exact hb
  refine ⟨H.1, fun k i g => ?_⟩
  obtain ⟨d, h1, h2⟩ := H.2 k i g
  refine ⟨d, ?_, h2.kp hk⟩
  rw [hup_n h c (fun e => by rw [← e, h1] at ha; cases ha)]
  exact h1
theorem vld_m {T : TB} {j : Nat} (h : mlen j ≠ 0) : vld T 15 j := Or.inr (Or.inr (Or.inr (Or.inr ⟨rfl, h⟩)))
theorem vld_o {T : TB} : vld T 14 0 := Or.inr (Or.inr (Or.inr (Or.inl ⟨rfl, rfl⟩)))
theorem WD.mo {Γ : NM} {ow : Nat → Nat × Nat} {h : Hp} {T Tr : TB} {nh : Nat} (H : WD Γ ow h T Tr nh) : h (Γ 14 0) = some (ob 7 (moF Γ Tr)) := by
  obtain ⟨c, h1, h2⟩ := H.2 14 0 vld_o
  rw [h1, show c = _ from h2]
theorem WD.ma {Γ : NM} {ow : Nat → Nat × Nat} {h : Hp} {T Tr : TB} {nh j : Nat} (H : WD Γ ow h T Tr nh) (hj : mlen j ≠ 0) : h (Γ 15 j) = some (ia (mlen j) (Tr j)) := by
  obtain ⟨c, h1, h2⟩ := H.2 15 j (vld_m hj)
  rw [h1, show c = _ from h2]
theorem WD.mrow {Γ : NM} {ow : Nat → Nat × Nat} {h : Hp} {T Tr : TB} {nh j n : Nat} {v : Int32} (H : WD Γ ow h T Tr nh) (hj : mlen j ≠ 0) : WD Γ ow (hup h (Γ 15 j) (ia (mlen j) (upd (Tr j) n v))) T (up Tr j n v) nh := by
  refine H.put (vld_m hj) (fun _ _ => Iff.rfl) (by show ia _ _ = ia _ _; rw [up_row]) (fun k' i' d hv hne hd => ?_)
  match k', hv, hne, hd with
  | 0, _, _, hd => exact hd
  | 1, _, _, hd => exact hd
  | 2, _, _, hd => exact hd
  | 3, _, _, hd => exact hd
  | 4, _, _, hd => exact hd
  | 5, _, _, hd => exact hd
  | 6, _, _, hd => exact hd
  | 7, _, _, hd => exact hd
  | 8, _, _, hd => exact hd
  | 9, _, _, hd => exact hd
  | 10, _, _, hd => exact hd
  | 11, _, _, hd => exact hd
  | 12, _, _, hd => exact hd
  | 13, _, _, hd => exact hd
  | 14, _, _, hd =>
    have q : ∀ x, mlen x = 0 → up Tr j n v x = Tr x := fun x hx => up_rowj Tr n v (fun e => hj (by rw [← e]; exact hx))
    show d = ob 7 _
    rw [show d = ob 7 (moF Γ Tr) from hd]
    unfold moF
    rw [q 1 rfl, q 2 rfl, q 3 rfl, q 5 rfl, q 18 rfl, q 20 rfl]
  | k + 15, hv, hne, hd =>
    have hk : k = 0 := by
      rcases hv with h | h | h | h | h <;> omega
    subst hk
    show d = ia _ _
    rw [up_rowj Tr n v (fun e => hne ⟨rfl, e⟩)]
    exact hd
theorem WD.mscal {Γ : NM} {ow : Nat → Nat × Nat} {h : Hp} {T Tr : TB} {nh j : Nat} {v : Int32} (H : WD Γ ow h T Tr nh) (hj : mlen j = 0) : WD Γ ow (hup h (Γ 14 0) (ob 7 (moF Γ (up Tr j 0 v)))) T (up Tr j 0 v) nh := by
  refine H.put vld_o (fun _ _ => Iff.rfl) rfl (fun k' i' d hv hne hd => ?_)
  match k', hv, hne, hd with
  | 0, _, _, hd => exact hd
  | 1, _, _, hd => exact hd
  | 2, _, _, hd => exact hd
  | 3, _, _, hd => exact hd
  | 4, _, _, hd => exact hd
  | 5, _, _, hd => exact hd
  | 6, _, _, hd => exact hd
  | 7, _, _, hd => exact hd
  | 8, _, _, hd => exact hd
  | 9, _, _, hd => exact hd
  | 10, _, _, hd => exact hd
  | 11, _, _, hd => exact hd
  | 12, _, _, hd => exact hd
  | 13, _, _, hd => exact hd
  | 14, hv, hne, hd =>
    have : i' = 0 := by
      rcases hv with h | h | h | h | h <;> omega
    exact absurd ⟨rfl, this⟩ hne
  | k + 15, hv, hne, hd =>
    have hm : mlen i' ≠ 0 := by
      rcases hv with h | h | h | h | h
      · omega
      · omega
      · omega
      · omega
      · exact h.2
    show d = ia _ _
    rw [up_rowj Tr 0 v (fun e => hm (by rw [e]; exact hj))]
    exact hd
end
section
/-! rules over numbers nI n, and of the reference's arrays -/
theorem nI_one : nI 1 = 1 := by decide
theorem rf_some (a : Nat) : Value.ref a = va_rf (some a) := rfl
theorem rf_none : Value.null = va_rf none := rfl
section AWN
variable {X : XG} {l : Launch} {cc : ByteArray} {own nm : String} {rt : Option FieldType} {nL fr : Nat} {scr : Scr} {Q : Post} {k n pc pcn : Nat} {L : List (Option Value)} {st : List Value} {h : Hp}
variable {Γ : NM} {ow : Nat → Nat × Nat} {T Tr : TB} {nh : Nat}
theorem aw_iaddN {a b : Nat} (hd : decode cc pc = .ok (.iadd, 1)) (hp : pcn = pc + 1) (kk : AW X l cc own nm rt nL fr scr Q k n pcn L (.int (nI (a + b)) :: st) h) : AW X l cc own nm rt nL fr scr Q k n pc L (.int (nI b) :: .int (nI a) :: st) h :=
  aw_iadd hd hp (by rw [nI_add]; exact kk)
theorem aw_imulN {a b : Nat} (hd : decode cc pc = .ok (.imul, 1)) (hp : pcn = pc + 1) (kk : AW X l cc own nm rt nL fr scr Q k n pcn L (.int (nI (a * b)) :: st) h) : AW X l cc own nm rt nL fr scr Q k n pc L (.int (nI b) :: .int (nI a) :: st) h :=
  aw_imul hd hp (by rw [pk_mul]; exact kk)
theorem aw_isubN {a b : Nat} (hle : b ≤ a) (hd : decode cc pc = .ok (.isub, 1)) (hp : pcn = pc + 1) (kk : AW X l cc own nm rt nL fr scr Q k n pcn L (.int (nI (a - b)) :: st) h) : AW X l cc own nm rt nL fr scr Q k n pc L (.int (nI b) :: .int (nI a) :: st) h :=
  aw_isub hd hp (by rw [pk_sub hle]; exact kk)
theorem aw_iincN {i m : Nat} (hd : decode cc pc = .ok (.iinc i 1, 3)) (hp : pcn = pc + 3) (hi : i < nL) (hx : L[i]? = some (some (.int (nI m)))) (kk : AW X l cc own nm rt nL fr scr Q k n pcn (L.set i (some (.int (nI (m + 1))))) st h) : AW X l cc own nm rt nL fr scr Q k n pc L st h :=
  aw_iinc hd hp hi hx (nI_1 m) kk
theorem aw_ialdN {a N m : Nat} {f : Nat → Int32} (hN : N < 2 ^ 31) (hd : decode cc pc = .ok (.iaload, 1)) (hp : pcn = pc + 1) (ha : h a = some (ia N f)) (hn : m < N) (kk : AW X l cc own nm rt nL fr scr Q k n pcn L (.int (f m) :: st) h) : AW X l cc own nm rt nL fr scr Q k n pc L (.int (nI m) :: .ref a :: st) h :=
  aw_iald hd hp ha (vp_in_nI hn hN) (by rw [nI_clamp (by omega)]; exact kk)
theorem aw_iastN {a N m : Nat} {f : Nat → Int32} {x : Int32} (hN : N < 2 ^ 31) (hd : decode cc pc = .ok (.iastore, 1)) (hp : pcn = pc + 1) (ha : h a = some (ia N f)) (hn : m < N) (kk : AW X l cc own nm rt nL fr scr Q k n pcn L st (hup h a (ia N (upd f m x)))) : AW X l cc own nm rt nL fr scr Q k n pc L (.int x :: .int (nI m) :: .ref a :: st) h :=
  aw_iast hd hp ha (vp_in_nI hn hN) (by rw [nI_clamp (by omega)]; exact kk)
theorem aw_aaldN {a t N m : Nat} {f : Nat → Option Nat} (hN : N < 2 ^ 31) (hd : decode cc pc = .ok (.aaload, 1)) (hp : pcn = pc + 1) (ha : h a = some (ra t N f)) (ht : 1 ≤ t ∧ t ≤ 4) (hn : m < N) (kk : AW X l cc own nm rt nL fr scr Q k n pcn L (va_rf (f m) :: st) h) : AW X l cc own nm rt nL fr scr Q k n pc L (.int (nI m) :: .ref a :: st) h :=
  aw_aald hd hp ha ht (vp_in_nI hn hN) (by rw [nI_clamp (by omega)]; exact kk)
theorem mlen_lt (j : Nat) : mlen j < 2 ^ 31 := by
  unfold mlen
  split <;> decide
theorem aw_ialdM {j m : Nat} (hW : WD Γ ow h T Tr nh) (hd : decode cc pc = .ok (.iaload, 1)) (hp : pcn = pc + 1) (hn : m < mlen j) (kk : AW X l cc own nm rt nL fr scr Q k n pcn L (.int (Tr j m) :: st) h) : AW X l cc own nm rt nL fr scr Q k n pc L (.int (nI m) :: .ref (Γ 15 j) :: st) h :=
  aw_ialdN (mlen_lt j) hd hp (hW.ma (by omega)) hn kk
theorem aw_iastM {j m : Nat} {x : Int32} (hW : WD Γ ow h T Tr nh) (hd : decode cc pc = .ok (.iastore, 1)) (hp : pcn = pc + 1) (hn : m < mlen j) (kk : ∀ h, WD Γ ow h T (up Tr j m x) nh → AW X l cc own nm rt nL fr scr Q k n pcn L st h) : AW X l cc own nm rt nL fr scr Q k n pc L (.int x :: .int (nI m) :: .ref (Γ 15 j) :: st) h :=
  aw_iastN (mlen_lt j) hd hp (hW.ma (by omega)) hn (kk _ (hW.mrow (by omega)))
theorem aw_putM {idx j : Nat} {x : Int32} (hW : WD Γ ow h T Tr nh) (hF : FPK own idx 7 j .int) (hj : mlen j = 0) (hs : (moF Γ Tr).set j (.int x) = moF Γ (up Tr j 0 x)) (hl : j < 24) (hd : decode cc pc = .ok (.putfield idx, 3)) (hp : pcn = pc + 3) (kk : ∀ h, WD Γ ow h T (up Tr j 0 x) nh → AW X l cc own nm rt nL fr scr Q k n pcn L st h) : AW X l cc own nm rt nL fr scr Q k n pc L (.int x :: .ref (Γ 14 0) :: st) h :=
  aw_putf hF hd hp hW.mo hl (VF.i x) (by rw [hs]; exact kk _ (hW.mscal hj))
theorem aw_ilo {i : Fin 4} (j : Nat) {x : Int32} (hj : (i : Nat) = j) (hd : decode cc pc = .ok (.iload_n i, 1)) (hp : pcn = pc + 1) (hi : L[j]? = some (some (.int x))) (kk : AW X l cc own nm rt nL fr scr Q k n pcn L (.int x :: st) h) : AW X l cc own nm rt nL fr scr Q k n pc L st h := by
  subst hj
  exact aw_iload_n hd hp hi kk
theorem aw_alo {i : Fin 4} (j : Nat) {r : Option Nat} {v : Value} (hj : (i : Nat) = j) (hd : decode cc pc = .ok (.aload_n i, 1)) (hp : pcn = pc + 1) (hi : L[j]? = some (some v)) (hr : v = va_rf r) (kk : AW X l cc own nm rt nL fr scr Q k n pcn L (v :: st) h) : AW X l cc own nm rt nL fr scr Q k n pc L st h := by
  subst hj
  exact aw_aload_n hd hp hi hr kk
theorem aw_ist {i : Fin 4} (j : Nat) {x : Int32} (hj : (i : Nat) = j) (hd : decode cc pc = .ok (.istore_n i, 1)) (hp : pcn = pc + 1) (hi : j < nL) (kk : AW X l cc own nm rt nL fr scr Q k n pcn (L.set j (some (.int x))) st h) : AW X l cc own nm rt nL fr scr Q k n pc L (.int x :: st) h := by
  subst hj
  exact aw_istore_n hd hp hi kk
theorem aw_ast {i : Fin 4} (j : Nat) {r : Option Nat} {v : Value} (hj : (i : Nat) = j) (hd : decode cc pc = .ok (.astore_n i, 1)) (hp : pcn = pc + 1) (hi : j < nL) (hr : v = va_rf r) (kk : AW X l cc own nm rt nL fr scr Q k n pcn (L.set j (some v)) st h) : AW X l cc own nm rt nL fr scr Q k n pc L (v :: st) h := by
  subst hj
  exact aw_astore_n hd hp hi hr kk
end AWN
theorem ms_1 (Γ : NM) (T : TB) (x : Int32) : (moF Γ T).set 1 (.int x) = moF Γ (up T 1 0 x) := by simp [moF, up]
theorem ms_2 (Γ : NM) (T : TB) (x : Int32) : (moF Γ T).set 2 (.int x) = moF Γ (up T 2 0 x) := by simp [moF, up]
theorem ms_3 (Γ : NM) (T : TB) (x : Int32) : (moF Γ T).set 3 (.int x) = moF Γ (up T 3 0 x) := by simp [moF, up]
theorem ms_5 (Γ : NM) (T : TB) (x : Int32) : (moF Γ T).set 5 (.int x) = moF Γ (up T 5 0 x) := by simp [moF, up]
theorem ms_18 (Γ : NM) (T : TB) (x : Int32) : (moF Γ T).set 18 (.int x) = moF Γ (up T 18 0 x) := by simp [moF, up]
theorem ms_20 (Γ : NM) (T : TB) (x : Int32) : (moF Γ T).set 20 (.int x) = moF Γ (up T 20 0 x) := by simp [moF, up]
theorem WD.ghost {Γ : NM} {ow : Nat → Nat × Nat} {h : Hp} {T Tr : TB} {nh j i : Nat} {v : Int32} (H : WD Γ ow h T Tr nh) (hj : 24 ≤ j) : WD Γ ow h T (up Tr j i v) nh := by
  refine ⟨H.1, fun k' i' g => ?_⟩
  obtain ⟨c, h1, h2⟩ := H.2 k' i' g
  refine ⟨c, h1, ?_⟩
  match k', g, h2 with
  | 0, _, hd => exact hd
  | 1, _, hd => exact hd
  | 2, _, hd => exact hd
  | 3, _, hd => exact hd
  | 4, _, hd => exact hd
  | 5, _, hd => exact hd
  | 6, _, hd => exact hd
  | 7, _, hd => exact hd
  | 8, _, hd => exact hd
  | 9, _, hd => exact hd
  | 10, _, hd => exact hd
  | 11, _, hd => exact hd
  | 12, _, hd => exact hd
  | 13, _, hd => exact hd
  | 14, _, hd =>
    show c = ob 7 _
    rw [show c = ob 7 (moF Γ Tr) from hd]
    unfold moF
    rw [up_j Tr i 0 v (show 1 ≠ j by omega), up_j Tr i 0 v (show 2 ≠ j by omega), up_j Tr i 0 v (show 3 ≠ j by omega), up_j Tr i 0 v (show 5 ≠ j by omega), up_j Tr i 0 v (show 18 ≠ j by omega), up_j Tr i 0 v (show 20 ≠ j by omega)]
  | k + 15, hv, hd =>
    have hm : mlen i' ≠ 0 := by
      rcases hv with h | h | h | h | h
      · omega
      · omega
      · omega
      · omega
      · exact h.2
    have h24 : i' < 24 := by
      rcases Nat.lt_or_ge i' 24 with q | q
      · exact q
      · exact absurd (by unfold mlen; split <;> first | rfl | omega) hm
    show c = ia _ _
    rw [up_rowj Tr i v (show i' ≠ j by omega)]
    exact hd
end
section
/-! the reference's small methods -/
theorem bI_01 (b : Bool) : bI b = 0 ∨ bI b = 1 := by cases b <;> decide
def hasB (set p : Int32) : Bool := decide ((set >>> (p &&& 31)) &&& nI 1 = nI 1)
def bitT (set : Int32) (p : Nat) : Int32 := (set >>> (nI p &&& 31)) &&& nI 1
def sizeT (set : Int32) : Int32 := nI 0 + bitT set 0 + bitT set 1 + bitT set 2 + bitT set 3 + bitT set 4 + bitT set 5
def inR (v a b : Int32) : Bool := decide (a ≤ v) && decide (v ≤ b)
set_option maxHeartbeats 8000000 in
set_option maxRecDepth 20000 in
theorem r_isIn {X : XG} {l : Launch} {h : Hp}  (v a b : Int32) : AM X l yX7_isIn cX7_isIn 3 (some .boolean) 0 0 0 [.int v, .int a, .int b] h (qi fun r h' => r = bI (inR v a b) ∧ h' = h) := by
  refine AM.of (by decide +kernel) (by simp [Value.category]) (Nat.le_of_ble_eq_true rfl) ?_
  show AW X l cX7_isIn RX7 "isIn" (some .boolean) 3 0 none _ 0 0 0 [some (.int v), some (.int a), some (.int b)] [] h
  refine aw_ilo 0 (pcn := 1) rfl dX7_isIn_0 rfl rfl ?_
  refine aw_ilo 1 (pcn := 2) rfl dX7_isIn_1 rfl rfl ?_
  refine aw_icmp_lt (t := 14) (pcn := 5) dX7_isIn_2 rfl (by decide) (fun q1 => ?_) (fun q1 => ?_)
  · refine aw_iconst (v := nI 0) (pcn := 15) dX7_isIn_14 rfl (by decide) ?_
    exact aw_zret dX7_isIn_15 rfl (by decide) ⟨_, rfl, ⟨by grind [bI, inR, nI_one, nI_0], rfl⟩⟩
  · refine aw_ilo 0 (pcn := 6) rfl dX7_isIn_5 rfl rfl ?_
    refine aw_ilo 2 (pcn := 7) rfl dX7_isIn_6 rfl rfl ?_
    refine aw_icmp_gt (t := 14) (pcn := 10) dX7_isIn_7 rfl (by decide) (fun q2 => ?_) (fun q2 => ?_)
    · refine aw_iconst (v := nI 0) (pcn := 15) dX7_isIn_14 rfl (by decide) ?_
      exact aw_zret dX7_isIn_15 rfl (by decide) ⟨_, rfl, ⟨by grind [bI, inR, nI_one, nI_0], rfl⟩⟩
    · refine aw_iconst (v := nI 1) (pcn := 11) dX7_isIn_10 rfl (by decide) ?_
      refine aw_goto (t := 15) dX7_isIn_11 (by decide) ?_
      exact aw_zret dX7_isIn_15 rfl (by decide) ⟨_, rfl, ⟨by grind [bI, inR, nI_one, nI_0], rfl⟩⟩

set_option maxHeartbeats 8000000 in
set_option maxRecDepth 20000 in
theorem r_isParty {X : XG} {l : Launch} {h : Hp}  (p : Int32) : AM X l yX7_isParty cX7_isParty 1 (some .boolean) 1 0 0 [.int p] h (qi fun r h' => r = bI (inR p (nI 0) (nI 5)) ∧ h' = h) := by
  refine AM.of (by decide +kernel) (by simp [Value.category]) (Nat.le_of_ble_eq_true rfl) ?_
  show AW X l cX7_isParty RX7 "isParty" (some .boolean) 1 1 none _ 0 0 0 [some (.int p)] [] h
  refine aw_ilo 0 (pcn := 1) rfl dX7_isParty_0 rfl rfl ?_
  refine aw_iconst (v := nI 0) (pcn := 2) dX7_isParty_1 rfl (by decide) ?_
  refine aw_iconst (v := nI 5) (pcn := 3) dX7_isParty_2 rfl (by decide) ?_
  refine aw_Si (pcn := 6) (r_isIn _ _ _) mf_X7_isIn mv_X7_isIn ml_X7_64 rfl (by decide) (by decide) (by decide) (by exact Nat.le_of_ble_eq_true rfl) rfl dX7_isParty_3 rfl (fun r h2 hq => ?_)
  obtain ⟨rfl, hq⟩ := hq
  obtain rfl := hq.symm
  exact aw_zret dX7_isParty_6 rfl (bI_01 _) ⟨_, rfl, ⟨rfl, rfl⟩⟩

set_option maxHeartbeats 8000000 in
set_option maxRecDepth 20000 in
theorem r_has {X : XG} {l : Launch} {h : Hp}  (set p : Int32) : AM X l yX7_has cX7_has 2 (some .boolean) 0 0 0 [.int set, .int p] h (qi fun r h' => r = bI (hasB set p) ∧ h' = h) := by
  refine AM.of (by decide +kernel) (by simp [Value.category]) (Nat.le_of_ble_eq_true rfl) ?_
  show AW X l cX7_has RX7 "has" (some .boolean) 2 0 none _ 0 0 0 [some (.int set), some (.int p)] [] h
  refine aw_ilo 0 (pcn := 1) rfl dX7_has_0 rfl rfl ?_
  refine aw_ilo 1 (pcn := 2) rfl dX7_has_1 rfl rfl ?_
  refine aw_ishr (pcn := 3) dX7_has_2 rfl ?_
  refine aw_iconst (v := nI 1) (pcn := 4) dX7_has_3 rfl (by decide) ?_
  refine aw_iand (pcn := 5) dX7_has_4 rfl ?_
  refine aw_iconst (v := nI 1) (pcn := 6) dX7_has_5 rfl (by decide) ?_
  refine aw_icmp_ne (t := 13) (pcn := 9) dX7_has_6 rfl (by decide) (fun q1 => ?_) (fun q1 => ?_)
  · refine aw_iconst (v := nI 0) (pcn := 14) dX7_has_13 rfl (by decide) ?_
    exact aw_zret dX7_has_14 rfl (by decide) ⟨_, rfl, ⟨by simp_all [bI, hasB, nI_one, nI_0], rfl⟩⟩
  · refine aw_iconst (v := nI 1) (pcn := 10) dX7_has_9 rfl (by decide) ?_
    refine aw_goto (t := 14) dX7_has_10 (by decide) ?_
    exact aw_zret dX7_has_14 rfl (by decide) ⟨_, rfl, ⟨by simp_all [bI, hasB, nI_one, nI_0], rfl⟩⟩

set_option maxHeartbeats 8000000 in
set_option maxRecDepth 20000 in
theorem r_size {X : XG} {l : Launch} {h : Hp}  (set : Int32) : AM X l yX7_size cX7_size 3 (some .int) 0 0 0 [.int set] h (qi fun r h' => r = sizeT set ∧ h' = h) := by
  refine AM.of (by decide +kernel) (by simp [Value.category]) (Nat.le_of_ble_eq_true rfl) ?_
  show AW X l cX7_size RX7 "size" (some .int) 3 0 none _ 0 0 0 [some (.int set), none, none] [] h
  refine aw_iconst (v := nI 0) (pcn := 1) dX7_size_0 rfl (by decide) ?_
  refine aw_ist 1 (pcn := 2) rfl dX7_size_1 rfl (by decide) ?_
  dsimp only [List.set_cons_zero, List.set_cons_succ]
  refine aw_iconst (v := nI 0) (pcn := 3) dX7_size_2 rfl (by decide) ?_
  refine aw_ist 2 (pcn := 4) rfl dX7_size_3 rfl (by decide) ?_
  dsimp only [List.set_cons_zero, List.set_cons_succ]
  refine aw_ilo 2 (pcn := 5) rfl dX7_size_4 rfl rfl ?_
  refine aw_bipush (v := nI 6) (pcn := 7) dX7_size_5 rfl (by decide) ?_
  refine aw_icmp_ge (t := 24) (pcn := 10) dX7_size_7 rfl (by decide) (fun q1 => absurd q1 (by decide)) (fun q1 => ?_)
  refine aw_ilo 1 (pcn := 11) rfl dX7_size_10 rfl rfl ?_
  refine aw_ilo 0 (pcn := 12) rfl dX7_size_11 rfl rfl ?_
  refine aw_ilo 2 (pcn := 13) rfl dX7_size_12 rfl rfl ?_
  refine aw_ishr (pcn := 14) dX7_size_13 rfl ?_
  refine aw_iconst (v := nI 1) (pcn := 15) dX7_size_14 rfl (by decide) ?_
  refine aw_iand (pcn := 16) dX7_size_15 rfl ?_
  refine aw_iadd (pcn := 17) dX7_size_16 rfl ?_
  refine aw_ist 1 (pcn := 18) rfl dX7_size_17 rfl (by decide) ?_
  dsimp only [List.set_cons_zero, List.set_cons_succ]
  refine aw_iinc (v := nI 1) (pcn := 21) dX7_size_18 rfl (by decide) rfl (by decide) ?_
  dsimp only [List.set_cons_zero, List.set_cons_succ]
  refine aw_goto (t := 4) dX7_size_21 (by decide) ?_
  refine aw_ilo 2 (pcn := 5) rfl dX7_size_4 rfl rfl ?_
  refine aw_bipush (v := nI 6) (pcn := 7) dX7_size_5 rfl (by decide) ?_
  refine aw_icmp_ge (t := 24) (pcn := 10) dX7_size_7 rfl (by decide) (fun q2 => absurd q2 (by decide)) (fun q2 => ?_)
  refine aw_ilo 1 (pcn := 11) rfl dX7_size_10 rfl rfl ?_
  refine aw_ilo 0 (pcn := 12) rfl dX7_size_11 rfl rfl ?_
  refine aw_ilo 2 (pcn := 13) rfl dX7_size_12 rfl rfl ?_
  refine aw_ishr (pcn := 14) dX7_size_13 rfl ?_
  refine aw_iconst (v := nI 1) (pcn := 15) dX7_size_14 rfl (by decide) ?_
  refine aw_iand (pcn := 16) dX7_size_15 rfl ?_
  refine aw_iadd (pcn := 17) dX7_size_16 rfl ?_
  refine aw_ist 1 (pcn := 18) rfl dX7_size_17 rfl (by decide) ?_
  dsimp only [List.set_cons_zero, List.set_cons_succ]
  refine aw_iinc (v := nI 2) (pcn := 21) dX7_size_18 rfl (by decide) rfl (by decide) ?_
  dsimp only [List.set_cons_zero, List.set_cons_succ]
  refine aw_goto (t := 4) dX7_size_21 (by decide) ?_
  refine aw_ilo 2 (pcn := 5) rfl dX7_size_4 rfl rfl ?_
  refine aw_bipush (v := nI 6) (pcn := 7) dX7_size_5 rfl (by decide) ?_
  refine aw_icmp_ge (t := 24) (pcn := 10) dX7_size_7 rfl (by decide) (fun q3 => absurd q3 (by decide)) (fun q3 => ?_)
  refine aw_ilo 1 (pcn := 11) rfl dX7_size_10 rfl rfl ?_
  refine aw_ilo 0 (pcn := 12) rfl dX7_size_11 rfl rfl ?_
  refine aw_ilo 2 (pcn := 13) rfl dX7_size_12 rfl rfl ?_
  refine aw_ishr (pcn := 14) dX7_size_13 rfl ?_
  refine aw_iconst (v := nI 1) (pcn := 15) dX7_size_14 rfl (by decide) ?_
  refine aw_iand (pcn := 16) dX7_size_15 rfl ?_
  refine aw_iadd (pcn := 17) dX7_size_16 rfl ?_
  refine aw_ist 1 (pcn := 18) rfl dX7_size_17 rfl (by decide) ?_
  dsimp only [List.set_cons_zero, List.set_cons_succ]
  refine aw_iinc (v := nI 3) (pcn := 21) dX7_size_18 rfl (by decide) rfl (by decide) ?_
  dsimp only [List.set_cons_zero, List.set_cons_succ]
  refine aw_goto (t := 4) dX7_size_21 (by decide) ?_
  refine aw_ilo 2 (pcn := 5) rfl dX7_size_4 rfl rfl ?_
  refine aw_bipush (v := nI 6) (pcn := 7) dX7_size_5 rfl (by decide) ?_
  refine aw_icmp_ge (t := 24) (pcn := 10) dX7_size_7 rfl (by decide) (fun q4 => absurd q4 (by decide)) (fun q4 => ?_)
  refine aw_ilo 1 (pcn := 11) rfl dX7_size_10 rfl rfl ?_
  refine aw_ilo 0 (pcn := 12) rfl dX7_size_11 rfl rfl ?_
  refine aw_ilo 2 (pcn := 13) rfl dX7_size_12 rfl rfl ?_
  refine aw_ishr (pcn := 14) dX7_size_13 rfl ?_
  refine aw_iconst (v := nI 1) (pcn := 15) dX7_size_14 rfl (by decide) ?_
  refine aw_iand (pcn := 16) dX7_size_15 rfl ?_
  refine aw_iadd (pcn := 17) dX7_size_16 rfl ?_
  refine aw_ist 1 (pcn := 18) rfl dX7_size_17 rfl (by decide) ?_
  dsimp only [List.set_cons_zero, List.set_cons_succ]
  refine aw_iinc (v := nI 4) (pcn := 21) dX7_size_18 rfl (by decide) rfl (by decide) ?_
  dsimp only [List.set_cons_zero, List.set_cons_succ]
  refine aw_goto (t := 4) dX7_size_21 (by decide) ?_
  refine aw_ilo 2 (pcn := 5) rfl dX7_size_4 rfl rfl ?_
  refine aw_bipush (v := nI 6) (pcn := 7) dX7_size_5 rfl (by decide) ?_
  refine aw_icmp_ge (t := 24) (pcn := 10) dX7_size_7 rfl (by decide) (fun q5 => absurd q5 (by decide)) (fun q5 => ?_)
  refine aw_ilo 1 (pcn := 11) rfl dX7_size_10 rfl rfl ?_
  refine aw_ilo 0 (pcn := 12) rfl dX7_size_11 rfl rfl ?_
  refine aw_ilo 2 (pcn := 13) rfl dX7_size_12 rfl rfl ?_
  refine aw_ishr (pcn := 14) dX7_size_13 rfl ?_
  refine aw_iconst (v := nI 1) (pcn := 15) dX7_size_14 rfl (by decide) ?_
  refine aw_iand (pcn := 16) dX7_size_15 rfl ?_
  refine aw_iadd (pcn := 17) dX7_size_16 rfl ?_
  refine aw_ist 1 (pcn := 18) rfl dX7_size_17 rfl (by decide) ?_
  dsimp only [List.set_cons_zero, List.set_cons_succ]
  refine aw_iinc (v := nI 5) (pcn := 21) dX7_size_18 rfl (by decide) rfl (by decide) ?_
  dsimp only [List.set_cons_zero, List.set_cons_succ]
  refine aw_goto (t := 4) dX7_size_21 (by decide) ?_
  refine aw_ilo 2 (pcn := 5) rfl dX7_size_4 rfl rfl ?_
  refine aw_bipush (v := nI 6) (pcn := 7) dX7_size_5 rfl (by decide) ?_
  refine aw_icmp_ge (t := 24) (pcn := 10) dX7_size_7 rfl (by decide) (fun q6 => absurd q6 (by decide)) (fun q6 => ?_)
  refine aw_ilo 1 (pcn := 11) rfl dX7_size_10 rfl rfl ?_
  refine aw_ilo 0 (pcn := 12) rfl dX7_size_11 rfl rfl ?_
  refine aw_ilo 2 (pcn := 13) rfl dX7_size_12 rfl rfl ?_
  refine aw_ishr (pcn := 14) dX7_size_13 rfl ?_
  refine aw_iconst (v := nI 1) (pcn := 15) dX7_size_14 rfl (by decide) ?_
  refine aw_iand (pcn := 16) dX7_size_15 rfl ?_
  refine aw_iadd (pcn := 17) dX7_size_16 rfl ?_
  refine aw_ist 1 (pcn := 18) rfl dX7_size_17 rfl (by decide) ?_
  dsimp only [List.set_cons_zero, List.set_cons_succ]
  refine aw_iinc (v := nI 6) (pcn := 21) dX7_size_18 rfl (by decide) rfl (by decide) ?_
  dsimp only [List.set_cons_zero, List.set_cons_succ]
  refine aw_goto (t := 4) dX7_size_21 (by decide) ?_
  refine aw_ilo 2 (pcn := 5) rfl dX7_size_4 rfl rfl ?_
  refine aw_bipush (v := nI 6) (pcn := 7) dX7_size_5 rfl (by decide) ?_
  refine aw_icmp_ge (t := 24) (pcn := 10) dX7_size_7 rfl (by decide) (fun q7 => ?_) (fun q7 => absurd (by decide) q7)
  refine aw_ilo 1 (pcn := 25) rfl dX7_size_24 rfl rfl ?_
  exact aw_iret dX7_size_25 rfl ⟨_, rfl, ⟨rfl, rfl⟩⟩

set_option maxHeartbeats 8000000 in
set_option maxRecDepth 20000 in
theorem r_isChannel {X : XG} {l : Launch} {Γ : NM} {ow : Nat → Nat × Nat} {h : Hp} {T Tr : TB} {nh : Nat} (hW : WD Γ ow h T Tr nh) (c : Int32) : AM X l yX7_isChannel cX7_isChannel 2 (some .boolean) 1 0 0 [.ref (Γ 14 0), .int c] h (qi fun r h' => r = bI (inR c (nI 0) (Tr 5 0 - nI 1)) ∧ h' = h) := by
  refine AM.of (by decide +kernel) (by simp [Value.category]) (Nat.le_of_ble_eq_true rfl) ?_
  show AW X l cX7_isChannel RX7 "isChannel" (some .boolean) 2 1 none _ 0 0 0 [some (.ref (Γ 14 0)), some (.int c)] [] h
  refine aw_ilo 1 (pcn := 1) rfl dX7_isChannel_0 rfl rfl ?_
  refine aw_iconst (v := nI 0) (pcn := 2) dX7_isChannel_1 rfl (by decide) ?_
  refine aw_alo 0 (pcn := 3) rfl dX7_isChannel_2 rfl rfl (rf_some _) ?_
  refine aw_getf (pcn := 6) fl_X7_68 dX7_isChannel_3 rfl hW.mo rfl ?_
  refine aw_iconst (v := nI 1) (pcn := 7) dX7_isChannel_6 rfl (by decide) ?_
  refine aw_isub (pcn := 8) dX7_isChannel_7 rfl ?_
  refine aw_Si (pcn := 11) (r_isIn _ _ _) mf_X7_isIn mv_X7_isIn ml_X7_64 rfl (by decide) (by decide) (by decide) (by exact Nat.le_of_ble_eq_true rfl) rfl dX7_isChannel_8 rfl (fun r h2 hq => ?_)
  obtain ⟨rfl, hq⟩ := hq
  obtain rfl := hq.symm
  exact aw_zret dX7_isChannel_11 rfl (bI_01 _) ⟨_, rfl, ⟨rfl, rfl⟩⟩

set_option maxHeartbeats 8000000 in
set_option maxRecDepth 20000 in
theorem r_isState {X : XG} {l : Launch} {Γ : NM} {ow : Nat → Nat × Nat} {h : Hp} {T Tr : TB} {nh : Nat} (hW : WD Γ ow h T Tr nh) (c : Int32) : AM X l yX7_isState cX7_isState 2 (some .boolean) 1 0 0 [.ref (Γ 14 0), .int c] h (qi fun r h' => r = bI (inR c (nI 0) (Tr 18 0 - nI 1)) ∧ h' = h) := by
  refine AM.of (by decide +kernel) (by simp [Value.category]) (Nat.le_of_ble_eq_true rfl) ?_
  show AW X l cX7_isState RX7 "isState" (some .boolean) 2 1 none _ 0 0 0 [some (.ref (Γ 14 0)), some (.int c)] [] h
  refine aw_ilo 1 (pcn := 1) rfl dX7_isState_0 rfl rfl ?_
  refine aw_iconst (v := nI 0) (pcn := 2) dX7_isState_1 rfl (by decide) ?_
  refine aw_alo 0 (pcn := 3) rfl dX7_isState_2 rfl rfl (rf_some _) ?_
  refine aw_getf (pcn := 6) fl_X7_72 dX7_isState_3 rfl hW.mo rfl ?_
  refine aw_iconst (v := nI 1) (pcn := 7) dX7_isState_6 rfl (by decide) ?_
  refine aw_isub (pcn := 8) dX7_isState_7 rfl ?_
  refine aw_Si (pcn := 11) (r_isIn _ _ _) mf_X7_isIn mv_X7_isIn ml_X7_64 rfl (by decide) (by decide) (by decide) (by exact Nat.le_of_ble_eq_true rfl) rfl dX7_isState_8 rfl (fun r h2 hq => ?_)
  obtain ⟨rfl, hq⟩ := hq
  obtain rfl := hq.symm
  exact aw_zret dX7_isState_11 rfl (bI_01 _) ⟨_, rfl, ⟨rfl, rfl⟩⟩

set_option maxHeartbeats 8000000 in
set_option maxRecDepth 20000 in
theorem r_channelOf {X : XG} {l : Launch} {Γ : NM} {ow : Nat → Nat × Nat} {h : Hp} {T Tr : TB} {nh : Nat} (hW : WD Γ ow h T Tr nh) {S : Nat} (hS : S < 64) : AM X l yX7_channelOf cX7_channelOf 2 (some .int) 0 0 0 [.ref (Γ 14 0), .int (nI S)] h (qi fun r h' => r = Tr 19 (35 * S + 0) ∧ h' = h) := by
  refine AM.of (by decide +kernel) (by simp [Value.category]) (Nat.le_of_ble_eq_true rfl) ?_
  show AW X l cX7_channelOf RX7 "channelOf" (some .int) 2 0 none _ 0 0 0 [some (.ref (Γ 14 0)), some (.int (nI S))] [] h
  refine aw_alo 0 (pcn := 1) rfl dX7_channelOf_0 rfl rfl (rf_some _) ?_
  refine aw_getf (pcn := 4) fl_X7_52 dX7_channelOf_1 rfl hW.mo rfl ?_
  refine aw_bipush (v := nI 35) (pcn := 6) dX7_channelOf_4 rfl (by decide) ?_
  refine aw_ilo 1 (pcn := 7) rfl dX7_channelOf_6 rfl rfl ?_
  refine aw_imulN (pcn := 8) dX7_channelOf_7 rfl ?_
  refine aw_iconst (v := nI 0) (pcn := 9) dX7_channelOf_8 rfl (by decide) ?_
  refine aw_iaddN (pcn := 10) dX7_channelOf_9 rfl ?_
  refine aw_ialdM (j := 19) (pcn := 11) hW dX7_channelOf_10 rfl (show _ < 2240 by omega) ?_
  exact aw_iret dX7_channelOf_11 rfl ⟨_, rfl, ⟨rfl, rfl⟩⟩

set_option maxHeartbeats 8000000 in
set_option maxRecDepth 20000 in
theorem r_lockAt {X : XG} {l : Launch} {h : Hp}  (S K : Nat) : AM X l yX7_lockAt cX7_lockAt 2 (some .int) 0 0 0 [.int (nI S), .int (nI K)] h (qi fun r h' => r = nI (35 * S + 16 + 5 * K) ∧ h' = h) := by
  refine AM.of (by decide +kernel) (by simp [Value.category]) (Nat.le_of_ble_eq_true rfl) ?_
  show AW X l cX7_lockAt RX7 "lockAt" (some .int) 2 0 none _ 0 0 0 [some (.int (nI S)), some (.int (nI K))] [] h
  refine aw_bipush (v := nI 35) (pcn := 2) dX7_lockAt_0 rfl (by decide) ?_
  refine aw_ilo 0 (pcn := 3) rfl dX7_lockAt_2 rfl rfl ?_
  refine aw_imulN (pcn := 4) dX7_lockAt_3 rfl ?_
  refine aw_bipush (v := nI 16) (pcn := 6) dX7_lockAt_4 rfl (by decide) ?_
  refine aw_iaddN (pcn := 7) dX7_lockAt_6 rfl ?_
  refine aw_iconst (v := nI 5) (pcn := 8) dX7_lockAt_7 rfl (by decide) ?_
  refine aw_ilo 1 (pcn := 9) rfl dX7_lockAt_8 rfl rfl ?_
  refine aw_imulN (pcn := 10) dX7_lockAt_9 rfl ?_
  refine aw_iaddN (pcn := 11) dX7_lockAt_10 rfl ?_
  exact aw_iret dX7_lockAt_11 rfl ⟨_, rfl, ⟨rfl, rfl⟩⟩

set_option maxHeartbeats 8000000 in
set_option maxRecDepth 20000 in
theorem r_free {X : XG} {l : Launch} {Γ : NM} {ow : Nat → Nat × Nat} {h : Hp} {T Tr : TB} {nh : Nat} (hW : WD Γ ow h T Tr nh) {S P : Nat} (hS : S < 64) (hP : P < 6) : AM X l yX7_free cX7_free 3 (some .int) 0 0 0 [.ref (Γ 14 0), .int (nI S), .int (nI P)] h (qi fun r h' => r = Tr 19 (35 * S + 4 + P) - Tr 19 (35 * S + 10 + P) ∧ h' = h) := by
  refine AM.of (by decide +kernel) (by simp [Value.category]) (Nat.le_of_ble_eq_true rfl) ?_
  show AW X l cX7_free RX7 "free" (some .int) 3 0 none _ 0 0 0 [some (.ref (Γ 14 0)), some (.int (nI S)), some (.int (nI P))] [] h
  refine aw_alo 0 (pcn := 1) rfl dX7_free_0 rfl rfl (rf_some _) ?_
  refine aw_getf (pcn := 4) fl_X7_52 dX7_free_1 rfl hW.mo rfl ?_
  refine aw_bipush (v := nI 35) (pcn := 6) dX7_free_4 rfl (by decide) ?_
  refine aw_ilo 1 (pcn := 7) rfl dX7_free_6 rfl rfl ?_
  refine aw_imulN (pcn := 8) dX7_free_7 rfl ?_
  refine aw_iconst (v := nI 4) (pcn := 9) dX7_free_8 rfl (by decide) ?_
  refine aw_iaddN (pcn := 10) dX7_free_9 rfl ?_
  refine aw_ilo 2 (pcn := 11) rfl dX7_free_10 rfl rfl ?_
  refine aw_iaddN (pcn := 12) dX7_free_11 rfl ?_
  refine aw_ialdM (j := 19) (pcn := 13) hW dX7_free_12 rfl (show _ < 2240 by omega) ?_
  refine aw_alo 0 (pcn := 14) rfl dX7_free_13 rfl rfl (rf_some _) ?_
  refine aw_getf (pcn := 17) fl_X7_52 dX7_free_14 rfl hW.mo rfl ?_
  refine aw_bipush (v := nI 35) (pcn := 19) dX7_free_17 rfl (by decide) ?_
  refine aw_ilo 1 (pcn := 20) rfl dX7_free_19 rfl rfl ?_
  refine aw_imulN (pcn := 21) dX7_free_20 rfl ?_
  refine aw_bipush (v := nI 10) (pcn := 23) dX7_free_21 rfl (by decide) ?_
  refine aw_iaddN (pcn := 24) dX7_free_23 rfl ?_
  refine aw_ilo 2 (pcn := 25) rfl dX7_free_24 rfl rfl ?_
  refine aw_iaddN (pcn := 26) dX7_free_25 rfl ?_
  refine aw_ialdM (j := 19) (pcn := 27) hW dX7_free_26 rfl (show _ < 2240 by omega) ?_
  refine aw_isub (pcn := 28) dX7_free_27 rfl ?_
  exact aw_iret dX7_free_28 rfl ⟨_, rfl, ⟨rfl, rfl⟩⟩
end
section
/-! what the helpers do, on tables -/
def isST (T : TB) (s : Int32) : Bool := inR s (nI 0) (T 18 0 - nI 1)
def isCT (T : TB) (c : Int32) : Bool := inR c (nI 0) (T 5 0 - nI 1)
def isPT (p : Int32) : Bool := inR p (nI 0) (nI 5)
def mbT (T : TB) (c : Nat) (p : Int32) : Bool := isPT p && hasB (T 6 c) p
def isOfT (T : TB) (s p : Int32) : Bool := isST T s && mbT T (ix (T 19 (35 * ix s + 0))) p
def wholeT (T : TB) (s : Nat) : Int32 := T 19 (35 * s + 31) + T 19 (35 * s + 4 + 0) + T 19 (35 * s + 4 + 1) + T 19 (35 * s + 4 + 2) + T 19 (35 * s + 4 + 3) + T 19 (35 * s + 4 + 4) + T 19 (35 * s + 4 + 5) + T 19 (35 * s + 16 + 5 * 0 + 0) + T 19 (35 * s + 16 + 5 * 1 + 0) + T 19 (35 * s + 16 + 5 * 2 + 0)
def cnt (T : TB) (c s : Nat) : Bool := !decide (T 9 c = nI 3) && (decide (T 19 (35 * s + 2) = T 6 c) && decide (wholeT T s = T 8 c))
def nwT (T : TB) (c : Nat) : Nat → Int32
  | 0 => -1
  | n + 1 => if T 19 (35 * n + 0) = nI c ∧ cnt T c n = true then nI n else nwT T c n
def fxT (T : TB) (c s : Nat) : Bool := decide (T 9 c = nI 3) || !decide (T 19 (35 * s + 2) = 0)
def epT (T : TB) (s : Nat) : Int32 := if T 19 (35 * s + 16 + 5 * 0 + 0) ≤ 0 then nI 0 else if T 19 (35 * s + 16 + 5 * 1 + 0) ≤ 0 then nI 1 else if T 19 (35 * s + 16 + 5 * 2 + 0) ≤ 0 then nI 2 else -1
def frT (T : TB) (s p : Nat) : Int32 := T 19 (35 * s + 4 + p) - T 19 (35 * s + 10 + p)
def isLT (T : TB) (s : Nat) (k : Int32) : Bool := inR k (nI 0) (nI 2) && decide (0 < T 19 (35 * s + 16 + 5 * ix k + 0))
def payT (T : TB) (c p : Nat) (v : Int32) : TB := up (up T 0 p (T 0 p + v)) 8 c (T 8 c - v)
def shiT (k : Nat) : Int32 := nI 1 <<< (nI k &&& 31)
/-- a held lock's sum goes to p -/
def paysT (T : TB) (c k p b : Nat) : TB := up (payT T c p (lkT T b k 0)) 12 c (T 12 c - shiT k)
def showsT (T : TB) (c s : Nat) : TB := if T 9 c = nI 1 then up (up (up (up T 9 c (nI 2)) 10 c (nI s)) 11 c (T 2 0 + T 7 c)) 26 c (T 2 0 + T 7 c) else if T 19 (35 * ix (T 10 c) + 1) < T 19 (35 * s + 1) then up T 10 c (nI s) else T
def eShT (T : TB) (c s : Nat) : Nat → TB
  | 0 => T
  | p + 1 => payT (eShT T c s p) c p ((eShT T c s p) 19 (35 * s + 4 + p))
def eLkT (T : TB) (c s k : Nat) : TB := if T 19 (35 * s + 16 + 5 * k + 0) ≤ 0 then T else if T 19 (35 * s + 16 + 5 * k + 4) ≤ T 2 0 then paysT (up T 12 c (T 12 c + shiT k)) c k (ix (T 19 (35 * s + 16 + 5 * k + 1))) s else up T 12 c (T 12 c + shiT k)
def eGmT (T : TB) (c s : Nat) : TB := up (up (up (up (up T 13 c (T 19 (35 * s + 31))) 14 c (T 19 (35 * s + 32))) 15 c (T 19 (35 * s + 33))) 16 c (T 19 (35 * s + 34))) 17 c (T 2 0 + T 7 c)
def eGhT (T : TB) (c s : Nat) : TB := up (up (up T 25 c (-1)) 26 c 0) 27 c (if T 19 (35 * s + 31) = 0 then 0 else T 2 0 + T 7 c)
/-- a channel ends by a state -/
def endT (T : TB) (c s : Nat) : TB := eGhT (eGmT (eLkT (eLkT (eLkT (eShT (up (up (up T 9 c (nI 3)) 10 c (nI s)) 12 c (nI 0)) c s 6) c s 0) c s 1) c s 2) c s) c s
def canT (T : TB) (c b k p : Nat) : Bool := hasB (T 12 c) (nI k) && (decide (T 19 (35 * b + 16 + 5 * k + 2) = nI p) && hasB (T 4 (ix (T 19 (35 * b + 16 + 5 * k + 3)))) (nI p))
def clmT (T : TB) (c b k p : Nat) : TB := paysT (up T 4 (ix (T 19 (35 * b + 16 + 5 * k + 3))) (nI 63)) c k p b
def winT (T : TB) (c p : Nat) : TB := up (up (up (up (up T 0 p (T 0 p + T 13 c)) 8 c (T 8 c - T 13 c)) 13 c (nI 0)) 14 c (nI 0)) 27 c 0
def stpT (T : TB) (c : Nat) (take : Int32) : TB := if T 14 c - take = 0 then winT (up T 14 c (T 14 c - take)) c (ix (T 15 c)) else up (up (up (up (up T 14 c (T 14 c - take)) 15 c (T 16 c)) 16 c (T 15 c)) 17 c (T 2 0 + T 7 c)) 27 c (T 2 0 + T 7 c)
theorem isOfT_eq {T : TB} {S c : Nat} {p : Int32} (hS : S < 64) (hc : T 19 (35 * S + 0) = nI c) (hc8 : c < 8) : isOfT T (nI S) p = (isST T (nI S) && mbT T c p) := by
  unfold isOfT
  rw [show ix (nI S) = S from nI_clamp (by omega), hc, show ix (nI c) = c from nI_clamp (by omega)]
end
section
/-! the reference's looking methods -/
set_option maxHeartbeats 8000000 in
set_option maxRecDepth 20000 in
theorem r_isMember {X : XG} {l : Launch} {Γ : NM} {ow : Nat → Nat × Nat} {h : Hp} {T Tr : TB} {nh : Nat} (hW : WD Γ ow h T Tr nh) {c : Nat} (hc : c < 8) (p : Int32) : AM X l yX7_isMember cX7_isMember 3 (some .boolean) 2 0 0 [.ref (Γ 14 0), .int (nI c), .int p] h (qi fun r h' => r = bI (mbT Tr c p) ∧ h' = h) := by
  refine AM.of (by decide +kernel) (by simp [Value.category]) (Nat.le_of_ble_eq_true rfl) ?_
  show AW X l cX7_isMember RX7 "isMember" (some .boolean) 3 2 none _ 0 0 0 [some (.ref (Γ 14 0)), some (.int (nI c)), some (.int p)] [] h
  refine aw_ilo 2 (pcn := 1) rfl dX7_isMember_0 rfl rfl ?_
  refine aw_Si (pcn := 4) (r_isParty _) mf_X7_isParty mv_X7_isParty ml_X7_75 rfl (by decide) (by decide) (by decide) (by exact Nat.le_of_ble_eq_true rfl) rfl dX7_isMember_1 rfl (fun r h2 hq => ?_)
  obtain ⟨rfl, hq⟩ := hq
  obtain rfl := hq.symm
  refine aw_if_eqB (t := 24) (pcn := 7) dX7_isMember_4 rfl (by decide) (fun q1 => ?_) (fun q1 => ?_)
  · refine aw_iconst (v := nI 0) (pcn := 25) dX7_isMember_24 rfl (by decide) ?_
    exact aw_zret dX7_isMember_25 rfl (by decide) ⟨_, rfl, ⟨by simp_all [bI, mbT, isPT, nI_one, nI_0], rfl⟩⟩
  · refine aw_alo 0 (pcn := 8) rfl dX7_isMember_7 rfl rfl (rf_some _) ?_
    refine aw_getf (pcn := 11) fl_X7_16 dX7_isMember_8 rfl hW.mo rfl ?_
    refine aw_ilo 1 (pcn := 12) rfl dX7_isMember_11 rfl rfl ?_
    refine aw_ialdM (j := 6) (pcn := 13) hW dX7_isMember_12 rfl (show _ < 8 by omega) ?_
    refine aw_ilo 2 (pcn := 14) rfl dX7_isMember_13 rfl rfl ?_
    refine aw_Si (pcn := 17) (r_has _ _) mf_X7_has mv_X7_has ml_X7_79 rfl (by decide) (by decide) (by decide) (by exact Nat.le_of_ble_eq_true rfl) rfl dX7_isMember_14 rfl (fun r h2 hq => ?_)
    obtain ⟨rfl, hq⟩ := hq
    obtain rfl := hq.symm
    refine aw_if_eqB (t := 24) (pcn := 20) dX7_isMember_17 rfl (by decide) (fun q2 => ?_) (fun q2 => ?_)
    · refine aw_iconst (v := nI 0) (pcn := 25) dX7_isMember_24 rfl (by decide) ?_
      exact aw_zret dX7_isMember_25 rfl (by decide) ⟨_, rfl, ⟨by simp_all [bI, mbT, isPT, nI_one, nI_0], rfl⟩⟩
    · refine aw_iconst (v := nI 1) (pcn := 21) dX7_isMember_20 rfl (by decide) ?_
      refine aw_goto (t := 25) dX7_isMember_21 (by decide) ?_
      exact aw_zret dX7_isMember_25 rfl (by decide) ⟨_, rfl, ⟨by simp_all [bI, mbT, isPT, nI_one, nI_0], rfl⟩⟩

set_option maxHeartbeats 8000000 in
set_option maxRecDepth 20000 in
theorem r_isOf {X : XG} {l : Launch} {Γ : NM} {ow : Nat → Nat × Nat} {h : Hp} {T Tr : TB} {nh : Nat} (hW : WD Γ ow h T Tr nh) {s : Int32} (hs : isST Tr s = true → ∃ S c, s = nI S ∧ S < 64 ∧ c < 8 ∧ Tr 19 (35 * S + 0) = nI c) (p : Int32) : AM X l yX7_isOf cX7_isOf 3 (some .boolean) 3 0 0 [.ref (Γ 14 0), .int s, .int p] h (qi fun r h' => r = bI (isOfT Tr s p) ∧ h' = h) := by
  refine AM.of (by decide +kernel) (by simp [Value.category]) (Nat.le_of_ble_eq_true rfl) ?_
  show AW X l cX7_isOf RX7 "isOf" (some .boolean) 3 3 none _ 0 0 0 [some (.ref (Γ 14 0)), some (.int s), some (.int p)] [] h
  refine aw_alo 0 (pcn := 1) rfl dX7_isOf_0 rfl rfl (rf_some _) ?_
  refine aw_ilo 1 (pcn := 2) rfl dX7_isOf_1 rfl rfl ?_
  refine aw_Vi (pcn := 5) (r_isState hW _) mf_X7_isState mv_X7_isState hW.mo rfl ml_X7_83 rfl (by decide) (by decide) (by decide) (by exact Nat.le_of_ble_eq_true rfl) rfl dX7_isOf_2 rfl (fun r h2 hq => ?_)
  obtain ⟨rfl, hq⟩ := hq
  obtain rfl := hq.symm
  refine aw_if_eqB (t := 25) (pcn := 8) dX7_isOf_5 rfl (by decide) (fun q1 => ?_) (fun q1 => ?_)
  · refine aw_iconst (v := nI 0) (pcn := 26) dX7_isOf_25 rfl (by decide) ?_
    exact aw_zret dX7_isOf_26 rfl (by decide) ⟨_, rfl, ⟨by first | (rw [isOfT_eq hS hc hc8]; simp_all [bI, isST, nI_one, nI_0]; done) | (unfold isOfT isST; simp_all [bI, nI_one, nI_0]; done), rfl⟩⟩
  · obtain ⟨S, c, rfl, hS, hc8, hc⟩ := hs q1
    refine aw_alo 0 (pcn := 9) rfl dX7_isOf_8 rfl rfl (rf_some _) ?_
    refine aw_alo 0 (pcn := 10) rfl dX7_isOf_9 rfl rfl (rf_some _) ?_
    refine aw_ilo 1 (pcn := 11) rfl dX7_isOf_10 rfl rfl ?_
    refine aw_Vi (pcn := 14) (r_channelOf hW (S := S) hS) mf_X7_channelOf mv_X7_channelOf hW.mo rfl ml_X7_86 rfl (by decide) (by decide) (by decide) (by exact Nat.le_of_ble_eq_true rfl) rfl dX7_isOf_11 rfl (fun r h2 hq => ?_)
    obtain ⟨rfl, hq⟩ := hq
    obtain rfl := hq.symm
    rw [hc]
    refine aw_ilo 2 (pcn := 15) rfl dX7_isOf_14 rfl rfl ?_
    refine aw_Vi (pcn := 18) (r_isMember hW (c := _) (by omega) _) mf_X7_isMember mv_X7_isMember hW.mo rfl ml_X7_90 rfl (by decide) (by decide) (by decide) (by exact Nat.le_of_ble_eq_true rfl) rfl dX7_isOf_15 rfl (fun r h2 hq => ?_)
    obtain ⟨rfl, hq⟩ := hq
    obtain rfl := hq.symm
    refine aw_if_eqB (t := 25) (pcn := 21) dX7_isOf_18 rfl (by decide) (fun q2 => ?_) (fun q2 => ?_)
    · refine aw_iconst (v := nI 0) (pcn := 26) dX7_isOf_25 rfl (by decide) ?_
      exact aw_zret dX7_isOf_26 rfl (by decide) ⟨_, rfl, ⟨by first | (rw [isOfT_eq hS hc hc8]; simp_all [bI, isST, nI_one, nI_0]; done) | (unfold isOfT isST; simp_all [bI, nI_one, nI_0]; done), rfl⟩⟩
    · refine aw_iconst (v := nI 1) (pcn := 22) dX7_isOf_21 rfl (by decide) ?_
      refine aw_goto (t := 26) dX7_isOf_22 (by decide) ?_
      exact aw_zret dX7_isOf_26 rfl (by decide) ⟨_, rfl, ⟨by first | (rw [isOfT_eq hS hc hc8]; simp_all [bI, isST, nI_one, nI_0]; done) | (unfold isOfT isST; simp_all [bI, nI_one, nI_0]; done), rfl⟩⟩

set_option maxHeartbeats 8000000 in
set_option maxRecDepth 20000 in
theorem r_whole {X : XG} {l : Launch} {Γ : NM} {ow : Nat → Nat × Nat} {h : Hp} {T Tr : TB} {nh : Nat} (hW : WD Γ ow h T Tr nh) {S : Nat} (hS : S < 64) : AM X l yX7_whole cX7_whole 4 (some .int) 1 0 0 [.ref (Γ 14 0), .int (nI S)] h (qi fun r h' => r = wholeT Tr S ∧ h' = h) := by
  refine AM.of (by decide +kernel) (by simp [Value.category]) (Nat.le_of_ble_eq_true rfl) ?_
  show AW X l cX7_whole RX7 "whole" (some .int) 4 1 none _ 0 0 0 [some (.ref (Γ 14 0)), some (.int (nI S)), none, none] [] h
  refine aw_alo 0 (pcn := 1) rfl dX7_whole_0 rfl rfl (rf_some _) ?_
  refine aw_getf (pcn := 4) fl_X7_52 dX7_whole_1 rfl hW.mo rfl ?_
  refine aw_bipush (v := nI 35) (pcn := 6) dX7_whole_4 rfl (by decide) ?_
  refine aw_ilo 1 (pcn := 7) rfl dX7_whole_6 rfl rfl ?_
  refine aw_imulN (pcn := 8) dX7_whole_7 rfl ?_
  refine aw_bipush (v := nI 31) (pcn := 10) dX7_whole_8 rfl (by decide) ?_
  refine aw_iaddN (pcn := 11) dX7_whole_10 rfl ?_
  refine aw_ialdM (j := 19) (pcn := 12) hW dX7_whole_11 rfl (show _ < 2240 by omega) ?_
  refine aw_ist 2 (pcn := 13) rfl dX7_whole_12 rfl (by decide) ?_
  dsimp only [List.set_cons_zero, List.set_cons_succ]
  refine aw_iconst (v := nI 0) (pcn := 14) dX7_whole_13 rfl (by decide) ?_
  refine aw_ist 3 (pcn := 15) rfl dX7_whole_14 rfl (by decide) ?_
  dsimp only [List.set_cons_zero, List.set_cons_succ]
  refine aw_ilo 3 (pcn := 16) rfl dX7_whole_15 rfl rfl ?_
  refine aw_bipush (v := nI 6) (pcn := 18) dX7_whole_16 rfl (by decide) ?_
  refine aw_icmp_ge (t := 43) (pcn := 21) dX7_whole_18 rfl (by decide) (fun q1 => absurd q1 (by decide)) (fun q1 => ?_)
  refine aw_ilo 2 (pcn := 22) rfl dX7_whole_21 rfl rfl ?_
  refine aw_alo 0 (pcn := 23) rfl dX7_whole_22 rfl rfl (rf_some _) ?_
  refine aw_getf (pcn := 26) fl_X7_52 dX7_whole_23 rfl hW.mo rfl ?_
  refine aw_bipush (v := nI 35) (pcn := 28) dX7_whole_26 rfl (by decide) ?_
  refine aw_ilo 1 (pcn := 29) rfl dX7_whole_28 rfl rfl ?_
  refine aw_imulN (pcn := 30) dX7_whole_29 rfl ?_
  refine aw_iconst (v := nI 4) (pcn := 31) dX7_whole_30 rfl (by decide) ?_
  refine aw_iaddN (pcn := 32) dX7_whole_31 rfl ?_
  refine aw_ilo 3 (pcn := 33) rfl dX7_whole_32 rfl rfl ?_
  refine aw_iaddN (pcn := 34) dX7_whole_33 rfl ?_
  refine aw_ialdM (j := 19) (pcn := 35) hW dX7_whole_34 rfl (show _ < 2240 by omega) ?_
  refine aw_iadd (pcn := 36) dX7_whole_35 rfl ?_
  refine aw_ist 2 (pcn := 37) rfl dX7_whole_36 rfl (by decide) ?_
  dsimp only [List.set_cons_zero, List.set_cons_succ]
  refine aw_iinc (v := nI 1) (pcn := 40) dX7_whole_37 rfl (by decide) rfl (by decide) ?_
  dsimp only [List.set_cons_zero, List.set_cons_succ]
  refine aw_goto (t := 15) dX7_whole_40 (by decide) ?_
  refine aw_ilo 3 (pcn := 16) rfl dX7_whole_15 rfl rfl ?_
  refine aw_bipush (v := nI 6) (pcn := 18) dX7_whole_16 rfl (by decide) ?_
  refine aw_icmp_ge (t := 43) (pcn := 21) dX7_whole_18 rfl (by decide) (fun q2 => absurd q2 (by decide)) (fun q2 => ?_)
  refine aw_ilo 2 (pcn := 22) rfl dX7_whole_21 rfl rfl ?_
  refine aw_alo 0 (pcn := 23) rfl dX7_whole_22 rfl rfl (rf_some _) ?_
  refine aw_getf (pcn := 26) fl_X7_52 dX7_whole_23 rfl hW.mo rfl ?_
  refine aw_bipush (v := nI 35) (pcn := 28) dX7_whole_26 rfl (by decide) ?_
  refine aw_ilo 1 (pcn := 29) rfl dX7_whole_28 rfl rfl ?_
  refine aw_imulN (pcn := 30) dX7_whole_29 rfl ?_
  refine aw_iconst (v := nI 4) (pcn := 31) dX7_whole_30 rfl (by decide) ?_
  refine aw_iaddN (pcn := 32) dX7_whole_31 rfl ?_
  refine aw_ilo 3 (pcn := 33) rfl dX7_whole_32 rfl rfl ?_
  refine aw_iaddN (pcn := 34) dX7_whole_33 rfl ?_
  refine aw_ialdM (j := 19) (pcn := 35) hW dX7_whole_34 rfl (show _ < 2240 by omega) ?_
  refine aw_iadd (pcn := 36) dX7_whole_35 rfl ?_
  refine aw_ist 2 (pcn := 37) rfl dX7_whole_36 rfl (by decide) ?_
  dsimp only [List.set_cons_zero, List.set_cons_succ]
  refine aw_iinc (v := nI 2) (pcn := 40) dX7_whole_37 rfl (by decide) rfl (by decide) ?_
  dsimp only [List.set_cons_zero, List.set_cons_succ]
  refine aw_goto (t := 15) dX7_whole_40 (by decide) ?_
  refine aw_ilo 3 (pcn := 16) rfl dX7_whole_15 rfl rfl ?_
  refine aw_bipush (v := nI 6) (pcn := 18) dX7_whole_16 rfl (by decide) ?_
  refine aw_icmp_ge (t := 43) (pcn := 21) dX7_whole_18 rfl (by decide) (fun q3 => absurd q3 (by decide)) (fun q3 => ?_)
  refine aw_ilo 2 (pcn := 22) rfl dX7_whole_21 rfl rfl ?_
  refine aw_alo 0 (pcn := 23) rfl dX7_whole_22 rfl rfl (rf_some _) ?_
  refine aw_getf (pcn := 26) fl_X7_52 dX7_whole_23 rfl hW.mo rfl ?_
  refine aw_bipush (v := nI 35) (pcn := 28) dX7_whole_26 rfl (by decide) ?_
  refine aw_ilo 1 (pcn := 29) rfl dX7_whole_28 rfl rfl ?_
  refine aw_imulN (pcn := 30) dX7_whole_29 rfl ?_
  refine aw_iconst (v := nI 4) (pcn := 31) dX7_whole_30 rfl (by decide) ?_
  refine aw_iaddN (pcn := 32) dX7_whole_31 rfl ?_
  refine aw_ilo 3 (pcn := 33) rfl dX7_whole_32 rfl rfl ?_
  refine aw_iaddN (pcn := 34) dX7_whole_33 rfl ?_
  refine aw_ialdM (j := 19) (pcn := 35) hW dX7_whole_34 rfl (show _ < 2240 by omega) ?_
  refine aw_iadd (pcn := 36) dX7_whole_35 rfl ?_
  refine aw_ist 2 (pcn := 37) rfl dX7_whole_36 rfl (by decide) ?_
  dsimp only [List.set_cons_zero, List.set_cons_succ]
  refine aw_iinc (v := nI 3) (pcn := 40) dX7_whole_37 rfl (by decide) rfl (by decide) ?_
  dsimp only [List.set_cons_zero, List.set_cons_succ]
  refine aw_goto (t := 15) dX7_whole_40 (by decide) ?_
  refine aw_ilo 3 (pcn := 16) rfl dX7_whole_15 rfl rfl ?_
  refine aw_bipush (v := nI 6) (pcn := 18) dX7_whole_16 rfl (by decide) ?_
  refine aw_icmp_ge (t := 43) (pcn := 21) dX7_whole_18 rfl (by decide) (fun q4 => absurd q4 (by decide)) (fun q4 => ?_)
  refine aw_ilo 2 (pcn := 22) rfl dX7_whole_21 rfl rfl ?_
  refine aw_alo 0 (pcn := 23) rfl dX7_whole_22 rfl rfl (rf_some _) ?_
  refine aw_getf (pcn := 26) fl_X7_52 dX7_whole_23 rfl hW.mo rfl ?_
  refine aw_bipush (v := nI 35) (pcn := 28) dX7_whole_26 rfl (by decide) ?_
  refine aw_ilo 1 (pcn := 29) rfl dX7_whole_28 rfl rfl ?_
  refine aw_imulN (pcn := 30) dX7_whole_29 rfl ?_
  refine aw_iconst (v := nI 4) (pcn := 31) dX7_whole_30 rfl (by decide) ?_
  refine aw_iaddN (pcn := 32) dX7_whole_31 rfl ?_
  refine aw_ilo 3 (pcn := 33) rfl dX7_whole_32 rfl rfl ?_
  refine aw_iaddN (pcn := 34) dX7_whole_33 rfl ?_
  refine aw_ialdM (j := 19) (pcn := 35) hW dX7_whole_34 rfl (show _ < 2240 by omega) ?_
  refine aw_iadd (pcn := 36) dX7_whole_35 rfl ?_
  refine aw_ist 2 (pcn := 37) rfl dX7_whole_36 rfl (by decide) ?_
  dsimp only [List.set_cons_zero, List.set_cons_succ]
  refine aw_iinc (v := nI 4) (pcn := 40) dX7_whole_37 rfl (by decide) rfl (by decide) ?_
  dsimp only [List.set_cons_zero, List.set_cons_succ]
  refine aw_goto (t := 15) dX7_whole_40 (by decide) ?_
  refine aw_ilo 3 (pcn := 16) rfl dX7_whole_15 rfl rfl ?_
  refine aw_bipush (v := nI 6) (pcn := 18) dX7_whole_16 rfl (by decide) ?_
  refine aw_icmp_ge (t := 43) (pcn := 21) dX7_whole_18 rfl (by decide) (fun q5 => absurd q5 (by decide)) (fun q5 => ?_)
  refine aw_ilo 2 (pcn := 22) rfl dX7_whole_21 rfl rfl ?_
  refine aw_alo 0 (pcn := 23) rfl dX7_whole_22 rfl rfl (rf_some _) ?_
  refine aw_getf (pcn := 26) fl_X7_52 dX7_whole_23 rfl hW.mo rfl ?_
  refine aw_bipush (v := nI 35) (pcn := 28) dX7_whole_26 rfl (by decide) ?_
  refine aw_ilo 1 (pcn := 29) rfl dX7_whole_28 rfl rfl ?_
  refine aw_imulN (pcn := 30) dX7_whole_29 rfl ?_
  refine aw_iconst (v := nI 4) (pcn := 31) dX7_whole_30 rfl (by decide) ?_
  refine aw_iaddN (pcn := 32) dX7_whole_31 rfl ?_
  refine aw_ilo 3 (pcn := 33) rfl dX7_whole_32 rfl rfl ?_
  refine aw_iaddN (pcn := 34) dX7_whole_33 rfl ?_
  refine aw_ialdM (j := 19) (pcn := 35) hW dX7_whole_34 rfl (show _ < 2240 by omega) ?_
  refine aw_iadd (pcn := 36) dX7_whole_35 rfl ?_
  refine aw_ist 2 (pcn := 37) rfl dX7_whole_36 rfl (by decide) ?_
  dsimp only [List.set_cons_zero, List.set_cons_succ]
  refine aw_iinc (v := nI 5) (pcn := 40) dX7_whole_37 rfl (by decide) rfl (by decide) ?_
  dsimp only [List.set_cons_zero, List.set_cons_succ]
  refine aw_goto (t := 15) dX7_whole_40 (by decide) ?_
  refine aw_ilo 3 (pcn := 16) rfl dX7_whole_15 rfl rfl ?_
  refine aw_bipush (v := nI 6) (pcn := 18) dX7_whole_16 rfl (by decide) ?_
  refine aw_icmp_ge (t := 43) (pcn := 21) dX7_whole_18 rfl (by decide) (fun q6 => absurd q6 (by decide)) (fun q6 => ?_)
  refine aw_ilo 2 (pcn := 22) rfl dX7_whole_21 rfl rfl ?_
  refine aw_alo 0 (pcn := 23) rfl dX7_whole_22 rfl rfl (rf_some _) ?_
  refine aw_getf (pcn := 26) fl_X7_52 dX7_whole_23 rfl hW.mo rfl ?_
  refine aw_bipush (v := nI 35) (pcn := 28) dX7_whole_26 rfl (by decide) ?_
  refine aw_ilo 1 (pcn := 29) rfl dX7_whole_28 rfl rfl ?_
  refine aw_imulN (pcn := 30) dX7_whole_29 rfl ?_
  refine aw_iconst (v := nI 4) (pcn := 31) dX7_whole_30 rfl (by decide) ?_
  refine aw_iaddN (pcn := 32) dX7_whole_31 rfl ?_
  refine aw_ilo 3 (pcn := 33) rfl dX7_whole_32 rfl rfl ?_
  refine aw_iaddN (pcn := 34) dX7_whole_33 rfl ?_
  refine aw_ialdM (j := 19) (pcn := 35) hW dX7_whole_34 rfl (show _ < 2240 by omega) ?_
  refine aw_iadd (pcn := 36) dX7_whole_35 rfl ?_
  refine aw_ist 2 (pcn := 37) rfl dX7_whole_36 rfl (by decide) ?_
  dsimp only [List.set_cons_zero, List.set_cons_succ]
  refine aw_iinc (v := nI 6) (pcn := 40) dX7_whole_37 rfl (by decide) rfl (by decide) ?_
  dsimp only [List.set_cons_zero, List.set_cons_succ]
  refine aw_goto (t := 15) dX7_whole_40 (by decide) ?_
  refine aw_ilo 3 (pcn := 16) rfl dX7_whole_15 rfl rfl ?_
  refine aw_bipush (v := nI 6) (pcn := 18) dX7_whole_16 rfl (by decide) ?_
  refine aw_icmp_ge (t := 43) (pcn := 21) dX7_whole_18 rfl (by decide) (fun q7 => ?_) (fun q7 => absurd (by decide) q7)
  refine aw_iconst (v := nI 0) (pcn := 44) dX7_whole_43 rfl (by decide) ?_
  refine aw_ist 3 (pcn := 45) rfl dX7_whole_44 rfl (by decide) ?_
  dsimp only [List.set_cons_zero, List.set_cons_succ]
  refine aw_ilo 3 (pcn := 46) rfl dX7_whole_45 rfl rfl ?_
  refine aw_iconst (v := nI 3) (pcn := 47) dX7_whole_46 rfl (by decide) ?_
  refine aw_icmp_ge (t := 71) (pcn := 50) dX7_whole_47 rfl (by decide) (fun q8 => absurd q8 (by decide)) (fun q8 => ?_)
  refine aw_ilo 2 (pcn := 51) rfl dX7_whole_50 rfl rfl ?_
  refine aw_alo 0 (pcn := 52) rfl dX7_whole_51 rfl rfl (rf_some _) ?_
  refine aw_getf (pcn := 55) fl_X7_52 dX7_whole_52 rfl hW.mo rfl ?_
  refine aw_ilo 1 (pcn := 56) rfl dX7_whole_55 rfl rfl ?_
  refine aw_ilo 3 (pcn := 57) rfl dX7_whole_56 rfl rfl ?_
  refine aw_Si (pcn := 60) (r_lockAt _ _) mf_X7_lockAt mv_X7_lockAt ml_X7_93 rfl (by decide) (by decide) (by decide) (by exact Nat.le_of_ble_eq_true rfl) rfl dX7_whole_57 rfl (fun r h2 hq => ?_)
  obtain ⟨rfl, hq⟩ := hq
  obtain rfl := hq.symm
  refine aw_iconst (v := nI 0) (pcn := 61) dX7_whole_60 rfl (by decide) ?_
  refine aw_iaddN (pcn := 62) dX7_whole_61 rfl ?_
  refine aw_ialdM (j := 19) (pcn := 63) hW dX7_whole_62 rfl (show _ < 2240 by omega) ?_
  refine aw_iadd (pcn := 64) dX7_whole_63 rfl ?_
  refine aw_ist 2 (pcn := 65) rfl dX7_whole_64 rfl (by decide) ?_
  dsimp only [List.set_cons_zero, List.set_cons_succ]
  refine aw_iinc (v := nI 1) (pcn := 68) dX7_whole_65 rfl (by decide) rfl (by decide) ?_
  dsimp only [List.set_cons_zero, List.set_cons_succ]
  refine aw_goto (t := 45) dX7_whole_68 (by decide) ?_
  refine aw_ilo 3 (pcn := 46) rfl dX7_whole_45 rfl rfl ?_
  refine aw_iconst (v := nI 3) (pcn := 47) dX7_whole_46 rfl (by decide) ?_
  refine aw_icmp_ge (t := 71) (pcn := 50) dX7_whole_47 rfl (by decide) (fun q9 => absurd q9 (by decide)) (fun q9 => ?_)
  refine aw_ilo 2 (pcn := 51) rfl dX7_whole_50 rfl rfl ?_
  refine aw_alo 0 (pcn := 52) rfl dX7_whole_51 rfl rfl (rf_some _) ?_
  refine aw_getf (pcn := 55) fl_X7_52 dX7_whole_52 rfl hW.mo rfl ?_
  refine aw_ilo 1 (pcn := 56) rfl dX7_whole_55 rfl rfl ?_
  refine aw_ilo 3 (pcn := 57) rfl dX7_whole_56 rfl rfl ?_
  refine aw_Si (pcn := 60) (r_lockAt _ _) mf_X7_lockAt mv_X7_lockAt ml_X7_93 rfl (by decide) (by decide) (by decide) (by exact Nat.le_of_ble_eq_true rfl) rfl dX7_whole_57 rfl (fun r h2 hq => ?_)
  obtain ⟨rfl, hq⟩ := hq
  obtain rfl := hq.symm
  refine aw_iconst (v := nI 0) (pcn := 61) dX7_whole_60 rfl (by decide) ?_
  refine aw_iaddN (pcn := 62) dX7_whole_61 rfl ?_
  refine aw_ialdM (j := 19) (pcn := 63) hW dX7_whole_62 rfl (show _ < 2240 by omega) ?_
  refine aw_iadd (pcn := 64) dX7_whole_63 rfl ?_
  refine aw_ist 2 (pcn := 65) rfl dX7_whole_64 rfl (by decide) ?_
  dsimp only [List.set_cons_zero, List.set_cons_succ]
  refine aw_iinc (v := nI 2) (pcn := 68) dX7_whole_65 rfl (by decide) rfl (by decide) ?_
  dsimp only [List.set_cons_zero, List.set_cons_succ]
  refine aw_goto (t := 45) dX7_whole_68 (by decide) ?_
  refine aw_ilo 3 (pcn := 46) rfl dX7_whole_45 rfl rfl ?_
  refine aw_iconst (v := nI 3) (pcn := 47) dX7_whole_46 rfl (by decide) ?_
  refine aw_icmp_ge (t := 71) (pcn := 50) dX7_whole_47 rfl (by decide) (fun q10 => absurd q10 (by decide)) (fun q10 => ?_)
  refine aw_ilo 2 (pcn := 51) rfl dX7_whole_50 rfl rfl ?_
  refine aw_alo 0 (pcn := 52) rfl dX7_whole_51 rfl rfl (rf_some _) ?_
  refine aw_getf (pcn := 55) fl_X7_52 dX7_whole_52 rfl hW.mo rfl ?_
  refine aw_ilo 1 (pcn := 56) rfl dX7_whole_55 rfl rfl ?_
  refine aw_ilo 3 (pcn := 57) rfl dX7_whole_56 rfl rfl ?_
  refine aw_Si (pcn := 60) (r_lockAt _ _) mf_X7_lockAt mv_X7_lockAt ml_X7_93 rfl (by decide) (by decide) (by decide) (by exact Nat.le_of_ble_eq_true rfl) rfl dX7_whole_57 rfl (fun r h2 hq => ?_)
  obtain ⟨rfl, hq⟩ := hq
  obtain rfl := hq.symm
  refine aw_iconst (v := nI 0) (pcn := 61) dX7_whole_60 rfl (by decide) ?_
  refine aw_iaddN (pcn := 62) dX7_whole_61 rfl ?_
  refine aw_ialdM (j := 19) (pcn := 63) hW dX7_whole_62 rfl (show _ < 2240 by omega) ?_
  refine aw_iadd (pcn := 64) dX7_whole_63 rfl ?_
  refine aw_ist 2 (pcn := 65) rfl dX7_whole_64 rfl (by decide) ?_
  dsimp only [List.set_cons_zero, List.set_cons_succ]
  refine aw_iinc (v := nI 3) (pcn := 68) dX7_whole_65 rfl (by decide) rfl (by decide) ?_
  dsimp only [List.set_cons_zero, List.set_cons_succ]
  refine aw_goto (t := 45) dX7_whole_68 (by decide) ?_
  refine aw_ilo 3 (pcn := 46) rfl dX7_whole_45 rfl rfl ?_
  refine aw_iconst (v := nI 3) (pcn := 47) dX7_whole_46 rfl (by decide) ?_
  refine aw_icmp_ge (t := 71) (pcn := 50) dX7_whole_47 rfl (by decide) (fun q11 => ?_) (fun q11 => absurd (by decide) q11)
  refine aw_ilo 2 (pcn := 72) rfl dX7_whole_71 rfl rfl ?_
  exact aw_iret dX7_whole_72 rfl ⟨_, rfl, ⟨rfl, rfl⟩⟩

set_option maxHeartbeats 8000000 in
set_option maxRecDepth 20000 in
theorem r_counts {X : XG} {l : Launch} {Γ : NM} {ow : Nat → Nat × Nat} {h : Hp} {T Tr : TB} {nh : Nat} (hW : WD Γ ow h T Tr nh) {S c : Nat} (hS : S < 64) (hc8 : c < 8) (hc : Tr 19 (35 * S + 0) = nI c) : AM X l yX7_counts cX7_counts 3 (some .boolean) 2 0 0 [.ref (Γ 14 0), .int (nI S)] h (qi fun r h' => r = bI (cnt Tr c S) ∧ h' = h) := by
  refine AM.of (by decide +kernel) (by simp [Value.category]) (Nat.le_of_ble_eq_true rfl) ?_
  show AW X l cX7_counts RX7 "counts" (some .boolean) 3 2 none _ 0 0 0 [some (.ref (Γ 14 0)), some (.int (nI S)), none] [] h
  refine aw_alo 0 (pcn := 1) rfl dX7_counts_0 rfl rfl (rf_some _) ?_
  refine aw_ilo 1 (pcn := 2) rfl dX7_counts_1 rfl rfl ?_
  refine aw_Vi (pcn := 5) (r_channelOf hW (S := _) (by omega)) mf_X7_channelOf mv_X7_channelOf hW.mo rfl ml_X7_86 rfl (by decide) (by decide) (by decide) (by exact Nat.le_of_ble_eq_true rfl) rfl dX7_counts_2 rfl (fun r h2 hq => ?_)
  obtain ⟨rfl, hq⟩ := hq
  obtain rfl := hq.symm
  rw [hc]
  refine aw_ist 2 (pcn := 6) rfl dX7_counts_5 rfl (by decide) ?_
  dsimp only [List.set_cons_zero, List.set_cons_succ]
  refine aw_alo 0 (pcn := 7) rfl dX7_counts_6 rfl rfl (rf_some _) ?_
  refine aw_getf (pcn := 10) fl_X7_25 dX7_counts_7 rfl hW.mo rfl ?_
  refine aw_ilo 2 (pcn := 11) rfl dX7_counts_10 rfl rfl ?_
  refine aw_ialdM (j := 9) (pcn := 12) hW dX7_counts_11 rfl (show _ < 8 by omega) ?_
  refine aw_iconst (v := nI 3) (pcn := 13) dX7_counts_12 rfl (by decide) ?_
  refine aw_icmp_eq (t := 54) (pcn := 16) dX7_counts_13 rfl (by decide) (fun q1 => ?_) (fun q1 => ?_)
  · refine aw_iconst (v := nI 0) (pcn := 55) dX7_counts_54 rfl (by decide) ?_
    exact aw_zret dX7_counts_55 rfl (by decide) ⟨_, rfl, ⟨by simp_all [bI, cnt, nI_one, nI_0], rfl⟩⟩
  · refine aw_alo 0 (pcn := 17) rfl dX7_counts_16 rfl rfl (rf_some _) ?_
    refine aw_getf (pcn := 20) fl_X7_52 dX7_counts_17 rfl hW.mo rfl ?_
    refine aw_bipush (v := nI 35) (pcn := 22) dX7_counts_20 rfl (by decide) ?_
    refine aw_ilo 1 (pcn := 23) rfl dX7_counts_22 rfl rfl ?_
    refine aw_imulN (pcn := 24) dX7_counts_23 rfl ?_
    refine aw_iconst (v := nI 2) (pcn := 25) dX7_counts_24 rfl (by decide) ?_
    refine aw_iaddN (pcn := 26) dX7_counts_25 rfl ?_
    refine aw_ialdM (j := 19) (pcn := 27) hW dX7_counts_26 rfl (show _ < 2240 by omega) ?_
    refine aw_alo 0 (pcn := 28) rfl dX7_counts_27 rfl rfl (rf_some _) ?_
    refine aw_getf (pcn := 31) fl_X7_16 dX7_counts_28 rfl hW.mo rfl ?_
    refine aw_ilo 2 (pcn := 32) rfl dX7_counts_31 rfl rfl ?_
    refine aw_ialdM (j := 6) (pcn := 33) hW dX7_counts_32 rfl (show _ < 8 by omega) ?_
    refine aw_icmp_ne (t := 54) (pcn := 36) dX7_counts_33 rfl (by decide) (fun q2 => ?_) (fun q2 => ?_)
    · refine aw_iconst (v := nI 0) (pcn := 55) dX7_counts_54 rfl (by decide) ?_
      exact aw_zret dX7_counts_55 rfl (by decide) ⟨_, rfl, ⟨by simp_all [bI, cnt, nI_one, nI_0], rfl⟩⟩
    · refine aw_alo 0 (pcn := 37) rfl dX7_counts_36 rfl rfl (rf_some _) ?_
      refine aw_ilo 1 (pcn := 38) rfl dX7_counts_37 rfl rfl ?_
      refine aw_Vi (pcn := 41) (r_whole hW (S := _) (by omega)) mf_X7_whole mv_X7_whole hW.mo rfl ml_X7_97 rfl (by decide) (by decide) (by decide) (by exact Nat.le_of_ble_eq_true rfl) rfl dX7_counts_38 rfl (fun r h2 hq => ?_)
      obtain ⟨rfl, hq⟩ := hq
      obtain rfl := hq.symm
      refine aw_alo 0 (pcn := 42) rfl dX7_counts_41 rfl rfl (rf_some _) ?_
      refine aw_getf (pcn := 45) fl_X7_22 dX7_counts_42 rfl hW.mo rfl ?_
      refine aw_ilo 2 (pcn := 46) rfl dX7_counts_45 rfl rfl ?_
      refine aw_ialdM (j := 8) (pcn := 47) hW dX7_counts_46 rfl (show _ < 8 by omega) ?_
      refine aw_icmp_ne (t := 54) (pcn := 50) dX7_counts_47 rfl (by decide) (fun q3 => ?_) (fun q3 => ?_)
      · refine aw_iconst (v := nI 0) (pcn := 55) dX7_counts_54 rfl (by decide) ?_
        exact aw_zret dX7_counts_55 rfl (by decide) ⟨_, rfl, ⟨by simp_all [bI, cnt, nI_one, nI_0], rfl⟩⟩
      · refine aw_iconst (v := nI 1) (pcn := 51) dX7_counts_50 rfl (by decide) ?_
        refine aw_goto (t := 55) dX7_counts_51 (by decide) ?_
        exact aw_zret dX7_counts_55 rfl (by decide) ⟨_, rfl, ⟨by simp_all [bI, cnt, nI_one, nI_0], rfl⟩⟩

set_option maxHeartbeats 8000000 in
set_option maxRecDepth 20000 in
theorem r_isFixed {X : XG} {l : Launch} {Γ : NM} {ow : Nat → Nat × Nat} {h : Hp} {T Tr : TB} {nh : Nat} (hW : WD Γ ow h T Tr nh) {S c : Nat} (hS : S < 64) (hc8 : c < 8) (hc : Tr 19 (35 * S + 0) = nI c) : AM X l yX7_isFixed cX7_isFixed 2 (some .boolean) 1 0 0 [.ref (Γ 14 0), .int (nI S)] h (qi fun r h' => r = bI (fxT Tr c S) ∧ h' = h) := by
  refine AM.of (by decide +kernel) (by simp [Value.category]) (Nat.le_of_ble_eq_true rfl) ?_
  show AW X l cX7_isFixed RX7 "isFixed" (some .boolean) 2 1 none _ 0 0 0 [some (.ref (Γ 14 0)), some (.int (nI S))] [] h
  refine aw_alo 0 (pcn := 1) rfl dX7_isFixed_0 rfl rfl (rf_some _) ?_
  refine aw_getf (pcn := 4) fl_X7_25 dX7_isFixed_1 rfl hW.mo rfl ?_
  refine aw_alo 0 (pcn := 5) rfl dX7_isFixed_4 rfl rfl (rf_some _) ?_
  refine aw_ilo 1 (pcn := 6) rfl dX7_isFixed_5 rfl rfl ?_
  refine aw_Vi (pcn := 9) (r_channelOf hW (S := _) (by omega)) mf_X7_channelOf mv_X7_channelOf hW.mo rfl ml_X7_86 rfl (by decide) (by decide) (by decide) (by exact Nat.le_of_ble_eq_true rfl) rfl dX7_isFixed_6 rfl (fun r h2 hq => ?_)
  obtain ⟨rfl, hq⟩ := hq
  obtain rfl := hq.symm
  rw [hc]
  refine aw_ialdM (j := 9) (pcn := 10) hW dX7_isFixed_9 rfl (show _ < 8 by omega) ?_
  refine aw_iconst (v := nI 3) (pcn := 11) dX7_isFixed_10 rfl (by decide) ?_
  refine aw_icmp_eq (t := 28) (pcn := 14) dX7_isFixed_11 rfl (by decide) (fun q1 => ?_) (fun q1 => ?_)
  · refine aw_iconst (v := nI 1) (pcn := 29) dX7_isFixed_28 rfl (by decide) ?_
    refine aw_goto (t := 33) dX7_isFixed_29 (by decide) ?_
    exact aw_zret dX7_isFixed_33 rfl (by decide) ⟨_, rfl, ⟨by simp_all [bI, fxT, nI_one, nI_0], rfl⟩⟩
  · refine aw_alo 0 (pcn := 15) rfl dX7_isFixed_14 rfl rfl (rf_some _) ?_
    refine aw_getf (pcn := 18) fl_X7_52 dX7_isFixed_15 rfl hW.mo rfl ?_
    refine aw_bipush (v := nI 35) (pcn := 20) dX7_isFixed_18 rfl (by decide) ?_
    refine aw_ilo 1 (pcn := 21) rfl dX7_isFixed_20 rfl rfl ?_
    refine aw_imulN (pcn := 22) dX7_isFixed_21 rfl ?_
    refine aw_iconst (v := nI 2) (pcn := 23) dX7_isFixed_22 rfl (by decide) ?_
    refine aw_iaddN (pcn := 24) dX7_isFixed_23 rfl ?_
    refine aw_ialdM (j := 19) (pcn := 25) hW dX7_isFixed_24 rfl (show _ < 2240 by omega) ?_
    refine aw_if_eq (t := 32) (pcn := 28) dX7_isFixed_25 rfl (by decide) (fun q2 => ?_) (fun q2 => ?_)
    · refine aw_iconst (v := nI 0) (pcn := 33) dX7_isFixed_32 rfl (by decide) ?_
      exact aw_zret dX7_isFixed_33 rfl (by decide) ⟨_, rfl, ⟨by simp_all [bI, fxT, nI_one, nI_0], rfl⟩⟩
    · refine aw_iconst (v := nI 1) (pcn := 29) dX7_isFixed_28 rfl (by decide) ?_
      refine aw_goto (t := 33) dX7_isFixed_29 (by decide) ?_
      exact aw_zret dX7_isFixed_33 rfl (by decide) ⟨_, rfl, ⟨by simp_all [bI, fxT, nI_one, nI_0], rfl⟩⟩

set_option maxHeartbeats 8000000 in
set_option maxRecDepth 20000 in
theorem r_emptyPlace {X : XG} {l : Launch} {Γ : NM} {ow : Nat → Nat × Nat} {h : Hp} {T Tr : TB} {nh : Nat} (hW : WD Γ ow h T Tr nh) {S : Nat} (hS : S < 64) : AM X l yX7_emptyPlace cX7_emptyPlace 3 (some .int) 1 0 0 [.ref (Γ 14 0), .int (nI S)] h (qi fun r h' => r = epT Tr S ∧ h' = h) := by
  refine AM.of (by decide +kernel) (by simp [Value.category]) (Nat.le_of_ble_eq_true rfl) ?_
  show AW X l cX7_emptyPlace RX7 "emptyPlace" (some .int) 3 1 none _ 0 0 0 [some (.ref (Γ 14 0)), some (.int (nI S)), none] [] h
  refine aw_iconst (v := nI 0) (pcn := 1) dX7_emptyPlace_0 rfl (by decide) ?_
  refine aw_ist 2 (pcn := 2) rfl dX7_emptyPlace_1 rfl (by decide) ?_
  dsimp only [List.set_cons_zero, List.set_cons_succ]
  refine aw_ilo 2 (pcn := 3) rfl dX7_emptyPlace_2 rfl rfl ?_
  refine aw_iconst (v := nI 3) (pcn := 4) dX7_emptyPlace_3 rfl (by decide) ?_
  refine aw_icmp_ge (t := 28) (pcn := 7) dX7_emptyPlace_4 rfl (by decide) (fun q1 => absurd q1 (by decide)) (fun q1 => ?_)
  refine aw_alo 0 (pcn := 8) rfl dX7_emptyPlace_7 rfl rfl (rf_some _) ?_
  refine aw_getf (pcn := 11) fl_X7_52 dX7_emptyPlace_8 rfl hW.mo rfl ?_
  refine aw_ilo 1 (pcn := 12) rfl dX7_emptyPlace_11 rfl rfl ?_
  refine aw_ilo 2 (pcn := 13) rfl dX7_emptyPlace_12 rfl rfl ?_
  refine aw_Si (pcn := 16) (r_lockAt _ _) mf_X7_lockAt mv_X7_lockAt ml_X7_93 rfl (by decide) (by decide) (by decide) (by exact Nat.le_of_ble_eq_true rfl) rfl dX7_emptyPlace_13 rfl (fun r h2 hq => ?_)
  obtain ⟨rfl, hq⟩ := hq
  obtain rfl := hq.symm
  refine aw_iconst (v := nI 0) (pcn := 17) dX7_emptyPlace_16 rfl (by decide) ?_
  refine aw_iaddN (pcn := 18) dX7_emptyPlace_17 rfl ?_
  refine aw_ialdM (j := 19) (pcn := 19) hW dX7_emptyPlace_18 rfl (show _ < 2240 by omega) ?_
  refine aw_if_le (t := 28) (pcn := 22) dX7_emptyPlace_19 rfl (by decide) (fun q2 => ?_) (fun q2 => ?_)
  · refine aw_ilo 2 (pcn := 29) rfl dX7_emptyPlace_28 rfl rfl ?_
    refine aw_iconst (v := nI 3) (pcn := 30) dX7_emptyPlace_29 rfl (by decide) ?_
    refine aw_icmp_ne (t := 37) (pcn := 33) dX7_emptyPlace_30 rfl (by decide) (fun q3 => ?_) (fun q3 => absurd q3 (by decide))
    refine aw_ilo 2 (pcn := 38) rfl dX7_emptyPlace_37 rfl rfl ?_
    exact aw_iret dX7_emptyPlace_38 rfl ⟨_, rfl, ⟨by grind [epT], rfl⟩⟩
  · refine aw_iinc (v := nI 1) (pcn := 25) dX7_emptyPlace_22 rfl (by decide) rfl (by decide) ?_
    dsimp only [List.set_cons_zero, List.set_cons_succ]
    refine aw_goto (t := 2) dX7_emptyPlace_25 (by decide) ?_
    refine aw_ilo 2 (pcn := 3) rfl dX7_emptyPlace_2 rfl rfl ?_
    refine aw_iconst (v := nI 3) (pcn := 4) dX7_emptyPlace_3 rfl (by decide) ?_
    refine aw_icmp_ge (t := 28) (pcn := 7) dX7_emptyPlace_4 rfl (by decide) (fun q4 => absurd q4 (by decide)) (fun q4 => ?_)
    refine aw_alo 0 (pcn := 8) rfl dX7_emptyPlace_7 rfl rfl (rf_some _) ?_
    refine aw_getf (pcn := 11) fl_X7_52 dX7_emptyPlace_8 rfl hW.mo rfl ?_
    refine aw_ilo 1 (pcn := 12) rfl dX7_emptyPlace_11 rfl rfl ?_
    refine aw_ilo 2 (pcn := 13) rfl dX7_emptyPlace_12 rfl rfl ?_
    refine aw_Si (pcn := 16) (r_lockAt _ _) mf_X7_lockAt mv_X7_lockAt ml_X7_93 rfl (by decide) (by decide) (by decide) (by exact Nat.le_of_ble_eq_true rfl) rfl dX7_emptyPlace_13 rfl (fun r h2 hq => ?_)
    obtain ⟨rfl, hq⟩ := hq
    obtain rfl := hq.symm
    refine aw_iconst (v := nI 0) (pcn := 17) dX7_emptyPlace_16 rfl (by decide) ?_
    refine aw_iaddN (pcn := 18) dX7_emptyPlace_17 rfl ?_
    refine aw_ialdM (j := 19) (pcn := 19) hW dX7_emptyPlace_18 rfl (show _ < 2240 by omega) ?_
    refine aw_if_le (t := 28) (pcn := 22) dX7_emptyPlace_19 rfl (by decide) (fun q5 => ?_) (fun q5 => ?_)
    · refine aw_ilo 2 (pcn := 29) rfl dX7_emptyPlace_28 rfl rfl ?_
      refine aw_iconst (v := nI 3) (pcn := 30) dX7_emptyPlace_29 rfl (by decide) ?_
      refine aw_icmp_ne (t := 37) (pcn := 33) dX7_emptyPlace_30 rfl (by decide) (fun q6 => ?_) (fun q6 => absurd q6 (by decide))
      refine aw_ilo 2 (pcn := 38) rfl dX7_emptyPlace_37 rfl rfl ?_
      exact aw_iret dX7_emptyPlace_38 rfl ⟨_, rfl, ⟨by grind [epT], rfl⟩⟩
    · refine aw_iinc (v := nI 2) (pcn := 25) dX7_emptyPlace_22 rfl (by decide) rfl (by decide) ?_
      dsimp only [List.set_cons_zero, List.set_cons_succ]
      refine aw_goto (t := 2) dX7_emptyPlace_25 (by decide) ?_
      refine aw_ilo 2 (pcn := 3) rfl dX7_emptyPlace_2 rfl rfl ?_
      refine aw_iconst (v := nI 3) (pcn := 4) dX7_emptyPlace_3 rfl (by decide) ?_
      refine aw_icmp_ge (t := 28) (pcn := 7) dX7_emptyPlace_4 rfl (by decide) (fun q7 => absurd q7 (by decide)) (fun q7 => ?_)
      refine aw_alo 0 (pcn := 8) rfl dX7_emptyPlace_7 rfl rfl (rf_some _) ?_
      refine aw_getf (pcn := 11) fl_X7_52 dX7_emptyPlace_8 rfl hW.mo rfl ?_
      refine aw_ilo 1 (pcn := 12) rfl dX7_emptyPlace_11 rfl rfl ?_
      refine aw_ilo 2 (pcn := 13) rfl dX7_emptyPlace_12 rfl rfl ?_
      refine aw_Si (pcn := 16) (r_lockAt _ _) mf_X7_lockAt mv_X7_lockAt ml_X7_93 rfl (by decide) (by decide) (by decide) (by exact Nat.le_of_ble_eq_true rfl) rfl dX7_emptyPlace_13 rfl (fun r h2 hq => ?_)
      obtain ⟨rfl, hq⟩ := hq
      obtain rfl := hq.symm
      refine aw_iconst (v := nI 0) (pcn := 17) dX7_emptyPlace_16 rfl (by decide) ?_
      refine aw_iaddN (pcn := 18) dX7_emptyPlace_17 rfl ?_
      refine aw_ialdM (j := 19) (pcn := 19) hW dX7_emptyPlace_18 rfl (show _ < 2240 by omega) ?_
      refine aw_if_le (t := 28) (pcn := 22) dX7_emptyPlace_19 rfl (by decide) (fun q8 => ?_) (fun q8 => ?_)
      · refine aw_ilo 2 (pcn := 29) rfl dX7_emptyPlace_28 rfl rfl ?_
        refine aw_iconst (v := nI 3) (pcn := 30) dX7_emptyPlace_29 rfl (by decide) ?_
        refine aw_icmp_ne (t := 37) (pcn := 33) dX7_emptyPlace_30 rfl (by decide) (fun q9 => ?_) (fun q9 => absurd q9 (by decide))
        refine aw_ilo 2 (pcn := 38) rfl dX7_emptyPlace_37 rfl rfl ?_
        exact aw_iret dX7_emptyPlace_38 rfl ⟨_, rfl, ⟨by grind [epT], rfl⟩⟩
      · refine aw_iinc (v := nI 3) (pcn := 25) dX7_emptyPlace_22 rfl (by decide) rfl (by decide) ?_
        dsimp only [List.set_cons_zero, List.set_cons_succ]
        refine aw_goto (t := 2) dX7_emptyPlace_25 (by decide) ?_
        refine aw_ilo 2 (pcn := 3) rfl dX7_emptyPlace_2 rfl rfl ?_
        refine aw_iconst (v := nI 3) (pcn := 4) dX7_emptyPlace_3 rfl (by decide) ?_
        refine aw_icmp_ge (t := 28) (pcn := 7) dX7_emptyPlace_4 rfl (by decide) (fun q10 => ?_) (fun q10 => absurd (by decide) q10)
        refine aw_ilo 2 (pcn := 29) rfl dX7_emptyPlace_28 rfl rfl ?_
        refine aw_iconst (v := nI 3) (pcn := 30) dX7_emptyPlace_29 rfl (by decide) ?_
        refine aw_icmp_ne (t := 37) (pcn := 33) dX7_emptyPlace_30 rfl (by decide) (fun q11 => absurd (by decide) q11) (fun q11 => ?_)
        refine aw_iconst (v := -1) (pcn := 34) dX7_emptyPlace_33 rfl (by decide) ?_
        refine aw_goto (t := 38) dX7_emptyPlace_34 (by decide) ?_
        exact aw_iret dX7_emptyPlace_38 rfl ⟨_, rfl, ⟨by grind [epT], rfl⟩⟩

set_option maxHeartbeats 8000000 in
set_option maxRecDepth 20000 in
theorem r_newest {X : XG} {l : Launch} {Γ : NM} {ow : Nat → Nat × Nat} {h : Hp} {T Tr : TB} {nh : Nat} (hW : WD Γ ow h T Tr nh) {c n : Nat} (hc8 : c < 8) (hn64 : n ≤ 64) (hn : Tr 18 0 = nI n) : AM X l yX7_newest cX7_newest 3 (some .int) 3 0 0 [.ref (Γ 14 0), .int (nI c)] h (qi fun r h' => r = nwT Tr c n ∧ h' = h) := by
  refine AM.of (by decide +kernel) (by simp [Value.category]) (Nat.le_of_ble_eq_true rfl) ?_
  show AW X l cX7_newest RX7 "newest" (some .int) 3 3 none _ 0 0 0 [some (.ref (Γ 14 0)), some (.int (nI c)), none] [] h
  refine aw_alo 0 (pcn := 1) rfl dX7_newest_0 rfl rfl (rf_some _) ?_
  refine aw_getf (pcn := 4) fl_X7_72 dX7_newest_1 rfl hW.mo rfl ?_
  refine aw_iconst (v := nI 1) (pcn := 5) dX7_newest_4 rfl (by decide) ?_
  refine aw_isub (pcn := 6) dX7_newest_5 rfl ?_
  refine aw_ist 2 (pcn := 7) rfl dX7_newest_6 rfl (by decide) ?_
  dsimp only [List.set_cons_zero, List.set_cons_succ]
  rw [hn]
  have H : ∀ j, j ≤ n → AW X l cX7_newest RX7 "newest" (some .int) 3 3 none (qi fun r h' => r = nwT Tr c j ∧ h' = h) 0 0 7 [some (.ref (Γ 14 0)), some (.int (nI c)), some (.int (nI j - nI 1))] [] h := by
    intro j
    induction j with
    | zero =>
      intro hj
      refine aw_iload_n (pcn := 8) dX7_newest_7 rfl rfl ?_
      refine aw_if_lt (t := 34) (pcn := 11) dX7_newest_8 rfl (by decide) (fun q => ?_) (fun q => absurd (by decide) q)
      refine aw_iload_n (pcn := 35) dX7_newest_34 rfl rfl ?_
      exact aw_iret dX7_newest_35 rfl ⟨_, rfl, ⟨(show nI 0 - nI 1 = (-1 : Int32) by decide), rfl⟩⟩
    | succ j ih =>
      intro hj
      have e1 : nI (j + 1) - nI 1 = nI j := by rw [pk_sub (by omega)]; rfl
      rw [e1]
      refine aw_iload_n (pcn := 8) dX7_newest_7 rfl rfl ?_
      refine aw_if_lt (t := 34) (pcn := 11) dX7_newest_8 rfl (by decide) (fun q => absurd q (nI_pos (by omega))) (fun _ => ?_)
      refine aw_alo 0 (pcn := 12) rfl dX7_newest_11 rfl rfl (rf_some _) ?_
      refine aw_ilo 2 (pcn := 13) rfl dX7_newest_12 rfl rfl ?_
      refine aw_Vi (pcn := 16) (r_channelOf hW (S := _) (by omega)) mf_X7_channelOf mv_X7_channelOf hW.mo rfl ml_X7_86 rfl (by decide) (by decide) (by decide) (by exact Nat.le_of_ble_eq_true rfl) rfl dX7_newest_13 rfl (fun r h2 hq => ?_)
      obtain ⟨rfl, hq⟩ := hq
      obtain rfl := hq.symm
      refine aw_ilo 1 (pcn := 17) rfl dX7_newest_16 rfl rfl ?_
      refine aw_icmp_ne (t := 28) (pcn := 20) dX7_newest_17 rfl (by decide) (fun q1 => ?_) (fun q1 => ?_)
      · refine aw_iinc (v := nI j - nI 1) (pcn := 31) dX7_newest_28 rfl (by decide) rfl (by rw [show (Int32.ofInt (-1)) = -nI 1 by decide, Int32.sub_eq_add_neg]) ?_
        refine aw_goto (t := 7) dX7_newest_31 (by decide) ?_
        refine AW.post (Q' := qi fun r h' => r = nwT Tr c j ∧ h' = h) ?_ (ih (by omega))
        rintro v h' ⟨r, rfl, rfl, rfl⟩
        exact ⟨_, rfl, by rw [nwT, if_neg (by simp_all)], rfl⟩
      · refine aw_alo 0 (pcn := 21) rfl dX7_newest_20 rfl rfl (rf_some _) ?_
        refine aw_ilo 2 (pcn := 22) rfl dX7_newest_21 rfl rfl ?_
        refine aw_Vi (pcn := 25) (r_counts hW (S := j) (c := c) (by omega) hc8 (by assumption)) mf_X7_counts mv_X7_counts hW.mo rfl ml_X7_100 rfl (by decide) (by decide) (by decide) (by exact Nat.le_of_ble_eq_true rfl) rfl dX7_newest_22 rfl (fun r h2 hq => ?_)
        obtain ⟨rfl, hq⟩ := hq
        obtain rfl := hq.symm
        refine aw_if_neB (t := 34) (pcn := 28) dX7_newest_25 rfl (by decide) (fun q2 => ?_) (fun q2 => ?_)
        · refine aw_ilo 2 (pcn := 35) rfl dX7_newest_34 rfl rfl ?_
          exact aw_iret dX7_newest_35 rfl ⟨_, rfl, ⟨by rw [nwT, if_pos (by simp_all)], rfl⟩⟩
        · refine aw_iinc (v := nI j - nI 1) (pcn := 31) dX7_newest_28 rfl (by decide) rfl (by rw [show (Int32.ofInt (-1)) = -nI 1 by decide, Int32.sub_eq_add_neg]) ?_
          refine aw_goto (t := 7) dX7_newest_31 (by decide) ?_
          refine AW.post (Q' := qi fun r h' => r = nwT Tr c j ∧ h' = h) ?_ (ih (by omega))
          rintro v h' ⟨r, rfl, rfl, rfl⟩
          exact ⟨_, rfl, by rw [nwT, if_neg (by simp_all)], rfl⟩
  exact H n (Nat.le_refl _)
end
section
/-! the reference's writing helpers -/
theorem inR_nI {v : Int32} {b : Nat} (hb : b < 2 ^ 31) (h : inR v (nI 0) (nI b) = true) : ∃ K, K ≤ b ∧ v = nI K := by
  simp only [inR, Bool.and_eq_true, decide_eq_true_eq] at h
  exact nI_of2 (M := nI b) (nI_toInt hb) (by rw [← nI_0]; exact Int32.not_lt.mpr h.1) h.2
theorem inR_lt {v : Int32} {n : Nat} (hn : n < 2 ^ 31) (h : inR v (nI 0) (nI n - nI 1) = true) : ∃ K, K < n ∧ v = nI K := by
  cases n with
  | zero =>
    simp only [inR, Bool.and_eq_true, decide_eq_true_eq] at h
    exact absurd (Int32.le_trans h.1 h.2) (by decide)
  | succ m =>
    rw [pk_sub (by omega)] at h
    obtain ⟨K, h1, h2⟩ := inR_nI (by omega) h
    exact ⟨K, by omega, h2⟩
theorem payT_j (T : TB) (c p : Nat) (v : Int32) {j : Nat} (i : Nat) (h0 : j ≠ 0) (h8 : j ≠ 8) : payT T c p v j i = T j i := by
  unfold payT
  rw [up_j _ _ _ _ h8, up_j _ _ _ _ h0]
theorem eShT_j (T : TB) (c s n : Nat) {j : Nat} (i : Nat) (h0 : j ≠ 0) (h8 : j ≠ 8) : eShT T c s n j i = T j i := by
  induction n with
  | zero => rfl
  | succ n ih => rw [eShT, payT_j _ _ _ _ _ h0 h8, ih]
theorem paysT_j (T : TB) (c k p b : Nat) {j : Nat} (i : Nat) (h0 : j ≠ 0) (h8 : j ≠ 8) (h12 : j ≠ 12) : paysT T c k p b j i = T j i := by
  unfold paysT
  rw [up_j _ _ _ _ h12, payT_j _ _ _ _ _ h0 h8]
theorem eLkT_j (T : TB) (c s k : Nat) {j : Nat} (i : Nat) (h0 : j ≠ 0) (h8 : j ≠ 8) (h12 : j ≠ 12) : eLkT T c s k j i = T j i := by
  unfold eLkT
  split
  · rfl
  · split
    · rw [paysT_j _ _ _ _ _ _ h0 h8 h12, up_j _ _ _ _ h12]
    · rw [up_j _ _ _ _ h12]
set_option maxHeartbeats 8000000 in
set_option maxRecDepth 20000 in
theorem r_isLock {X : XG} {l : Launch} {Γ : NM} {ow : Nat → Nat × Nat} {h : Hp} {T Tr : TB} {nh : Nat} (hW : WD Γ ow h T Tr nh) {s : Int32} {n : Nat} (hn : Tr 18 0 = nI n) (hn64 : n ≤ 64) (p : Int32) : AM X l yX7_isLock cX7_isLock 3 (some .boolean) 2 0 0 [.ref (Γ 14 0), .int s, .int p] h (qi fun r h' => r = bI (isST Tr s && isLT Tr (ix s) p) ∧ h' = h) := by
  refine AM.of (by decide +kernel) (by simp [Value.category]) (Nat.le_of_ble_eq_true rfl) ?_
  show AW X l cX7_isLock RX7 "isLock" (some .boolean) 3 2 none _ 0 0 0 [some (.ref (Γ 14 0)), some (.int s), some (.int p)] [] h
  refine aw_alo 0 (pcn := 1) rfl dX7_isLock_0 rfl rfl (rf_some _) ?_
  refine aw_ilo 1 (pcn := 2) rfl dX7_isLock_1 rfl rfl ?_
  refine aw_Vi (pcn := 5) (r_isState hW _) mf_X7_isState mv_X7_isState hW.mo rfl ml_X7_83 rfl (by decide) (by decide) (by decide) (by exact Nat.le_of_ble_eq_true rfl) rfl dX7_isLock_2 rfl (fun r h2 hq => ?_)
  obtain ⟨rfl, hq⟩ := hq
  obtain rfl := hq.symm
  refine aw_if_eqB (t := 36) (pcn := 8) dX7_isLock_5 rfl (by decide) (fun q1 => ?_) (fun q1 => ?_)
  · refine aw_iconst (v := nI 0) (pcn := 37) dX7_isLock_36 rfl (by decide) ?_
    exact aw_zret dX7_isLock_37 rfl (by decide) ⟨_, rfl, ⟨by first | (have e1 := nI_clamp (n := S) (by omega); have e2 := nI_clamp (n := K) (by omega); simp only [isST, isLT, ix, e1, e2]; simp_all [bI, nI_one, nI_0]; done) | (simp only [isST, isLT]; simp_all [bI, nI_one, nI_0]; done), rfl⟩⟩
  · obtain ⟨S, hS, rfl⟩ := inR_lt (n := n) (by omega) (by rw [← hn]; exact q1)
    refine aw_ilo 2 (pcn := 9) rfl dX7_isLock_8 rfl rfl ?_
    refine aw_iconst (v := nI 0) (pcn := 10) dX7_isLock_9 rfl (by decide) ?_
    refine aw_iconst (v := nI 2) (pcn := 11) dX7_isLock_10 rfl (by decide) ?_
    refine aw_Si (pcn := 14) (r_isIn _ _ _) mf_X7_isIn mv_X7_isIn ml_X7_64 rfl (by decide) (by decide) (by decide) (by exact Nat.le_of_ble_eq_true rfl) rfl dX7_isLock_11 rfl (fun r h2 hq => ?_)
    obtain ⟨rfl, hq⟩ := hq
    obtain rfl := hq.symm
    refine aw_if_eqB (t := 36) (pcn := 17) dX7_isLock_14 rfl (by decide) (fun q2 => ?_) (fun q2 => ?_)
    · refine aw_iconst (v := nI 0) (pcn := 37) dX7_isLock_36 rfl (by decide) ?_
      exact aw_zret dX7_isLock_37 rfl (by decide) ⟨_, rfl, ⟨by first | (have e1 := nI_clamp (n := S) (by omega); have e2 := nI_clamp (n := K) (by omega); simp only [isST, isLT, ix, e1, e2]; simp_all [bI, nI_one, nI_0]; done) | (simp only [isST, isLT]; simp_all [bI, nI_one, nI_0]; done), rfl⟩⟩
    · obtain ⟨K, hK, rfl⟩ := inR_nI (by omega) q2
      refine aw_alo 0 (pcn := 18) rfl dX7_isLock_17 rfl rfl (rf_some _) ?_
      refine aw_getf (pcn := 21) fl_X7_52 dX7_isLock_18 rfl hW.mo rfl ?_
      refine aw_ilo 1 (pcn := 22) rfl dX7_isLock_21 rfl rfl ?_
      refine aw_ilo 2 (pcn := 23) rfl dX7_isLock_22 rfl rfl ?_
      refine aw_Si (pcn := 26) (r_lockAt _ _) mf_X7_lockAt mv_X7_lockAt ml_X7_93 rfl (by decide) (by decide) (by decide) (by exact Nat.le_of_ble_eq_true rfl) rfl dX7_isLock_23 rfl (fun r h2 hq => ?_)
      obtain ⟨rfl, hq⟩ := hq
      obtain rfl := hq.symm
      refine aw_iconst (v := nI 0) (pcn := 27) dX7_isLock_26 rfl (by decide) ?_
      refine aw_iaddN (pcn := 28) dX7_isLock_27 rfl ?_
      refine aw_ialdM (j := 19) (pcn := 29) hW dX7_isLock_28 rfl (show _ < 2240 by omega) ?_
      refine aw_if_le (t := 36) (pcn := 32) dX7_isLock_29 rfl (by decide) (fun q3 => ?_) (fun q3 => ?_)
      · refine aw_iconst (v := nI 0) (pcn := 37) dX7_isLock_36 rfl (by decide) ?_
        exact aw_zret dX7_isLock_37 rfl (by decide) ⟨_, rfl, ⟨by first | (have e1 := nI_clamp (n := S) (by omega); have e2 := nI_clamp (n := K) (by omega); simp only [isST, isLT, ix, e1, e2]; simp_all [bI, nI_one, nI_0]; done) | (simp only [isST, isLT]; simp_all [bI, nI_one, nI_0]; done), rfl⟩⟩
      · refine aw_iconst (v := nI 1) (pcn := 33) dX7_isLock_32 rfl (by decide) ?_
        refine aw_goto (t := 37) dX7_isLock_33 (by decide) ?_
        exact aw_zret dX7_isLock_37 rfl (by decide) ⟨_, rfl, ⟨by first | (have e1 := nI_clamp (n := S) (by omega); have e2 := nI_clamp (n := K) (by omega); simp only [isST, isLT, ix, e1, e2]; simp_all [bI, nI_one, nI_0]; done) | (simp only [isST, isLT]; simp_all [bI, nI_one, nI_0]; done), rfl⟩⟩

set_option maxHeartbeats 8000000 in
set_option maxRecDepth 20000 in
theorem r_pays {X : XG} {l : Launch} {Γ : NM} {ow : Nat → Nat × Nat} {h : Hp} {T Tr : TB} {nh : Nat} (hW : WD Γ ow h T Tr nh) {c b K P0 : Nat} (hc8 : c < 8) (hb : Tr 10 c = nI b) (hb64 : b < 64) (hK : K < 3) (hP : P0 < 6) : AM X l yX7_pays cX7_pays 5 (none) 1 0 0 [.ref (Γ 14 0), .int (nI c), .int (nI K), .int (nI P0)] h (qv fun h' => WD Γ ow h' T (paysT Tr c K P0 b) nh) := by
  refine AM.of (by decide +kernel) (by simp [Value.category]) (Nat.le_of_ble_eq_true rfl) ?_
  show AW X l cX7_pays RX7 "pays" (none) 5 1 none _ 0 0 0 [some (.ref (Γ 14 0)), some (.int (nI c)), some (.int (nI K)), some (.int (nI P0)), none] [] h
  refine aw_alo 0 (pcn := 1) rfl dX7_pays_0 rfl rfl (rf_some _) ?_
  refine aw_getf (pcn := 4) fl_X7_52 dX7_pays_1 rfl hW.mo rfl ?_
  refine aw_alo 0 (pcn := 5) rfl dX7_pays_4 rfl rfl (rf_some _) ?_
  refine aw_getf (pcn := 8) fl_X7_28 dX7_pays_5 rfl hW.mo rfl ?_
  refine aw_ilo 1 (pcn := 9) rfl dX7_pays_8 rfl rfl ?_
  refine aw_ialdM (j := 10) (pcn := 10) hW dX7_pays_9 rfl (show _ < 8 by omega) ?_
  rw [hb]
  refine aw_ilo 2 (pcn := 11) rfl dX7_pays_10 rfl rfl ?_
  refine aw_Si (pcn := 14) (r_lockAt _ _) mf_X7_lockAt mv_X7_lockAt ml_X7_93 rfl (by decide) (by decide) (by decide) (by exact Nat.le_of_ble_eq_true rfl) rfl dX7_pays_11 rfl (fun r h2 hq => ?_)
  obtain ⟨rfl, hq⟩ := hq
  obtain rfl := hq.symm
  refine aw_iconst (v := nI 0) (pcn := 15) dX7_pays_14 rfl (by decide) ?_
  refine aw_iaddN (pcn := 16) dX7_pays_15 rfl ?_
  refine aw_ialdM (j := 19) (pcn := 17) hW dX7_pays_16 rfl (show _ < 2240 by omega) ?_
  refine aw_istore (pcn := 19) dX7_pays_17 rfl (by decide) ?_
  dsimp only [List.set_cons_zero, List.set_cons_succ]
  refine aw_alo 0 (pcn := 20) rfl dX7_pays_19 rfl rfl (rf_some _) ?_
  refine aw_getf (pcn := 23) fl_X7_7 dX7_pays_20 rfl hW.mo rfl ?_
  refine aw_ilo 3 (pcn := 24) rfl dX7_pays_23 rfl rfl ?_
  refine aw_dup2 (pcn := 25) dX7_pays_24 rfl rfl rfl ?_
  refine aw_ialdM (j := 0) (pcn := 26) hW dX7_pays_25 rfl (show _ < 6 by omega) ?_
  refine aw_iload (pcn := 28) dX7_pays_26 rfl rfl ?_
  refine aw_iadd (pcn := 29) dX7_pays_28 rfl ?_
  refine aw_iastM (j := 0) (pcn := 30) hW dX7_pays_29 rfl (show _ < 6 by omega) (fun h hW => ?_)
  refine aw_alo 0 (pcn := 31) rfl dX7_pays_30 rfl rfl (rf_some _) ?_
  refine aw_getf (pcn := 34) fl_X7_22 dX7_pays_31 rfl hW.mo rfl ?_
  refine aw_ilo 1 (pcn := 35) rfl dX7_pays_34 rfl rfl ?_
  refine aw_dup2 (pcn := 36) dX7_pays_35 rfl rfl rfl ?_
  refine aw_ialdM (j := 8) (pcn := 37) hW dX7_pays_36 rfl (show _ < 8 by omega) ?_
  refine aw_iload (pcn := 39) dX7_pays_37 rfl rfl ?_
  refine aw_isub (pcn := 40) dX7_pays_39 rfl ?_
  refine aw_iastM (j := 8) (pcn := 41) hW dX7_pays_40 rfl (show _ < 8 by omega) (fun h hW => ?_)
  refine aw_alo 0 (pcn := 42) rfl dX7_pays_41 rfl rfl (rf_some _) ?_
  refine aw_getf (pcn := 45) fl_X7_34 dX7_pays_42 rfl hW.mo rfl ?_
  refine aw_ilo 1 (pcn := 46) rfl dX7_pays_45 rfl rfl ?_
  refine aw_dup2 (pcn := 47) dX7_pays_46 rfl rfl rfl ?_
  refine aw_ialdM (j := 12) (pcn := 48) hW dX7_pays_47 rfl (show _ < 8 by omega) ?_
  refine aw_iconst (v := nI 1) (pcn := 49) dX7_pays_48 rfl (by decide) ?_
  refine aw_ilo 2 (pcn := 50) rfl dX7_pays_49 rfl rfl ?_
  refine aw_ishl (pcn := 51) dX7_pays_50 rfl ?_
  refine aw_isub (pcn := 52) dX7_pays_51 rfl ?_
  refine aw_iastM (j := 12) (pcn := 53) hW dX7_pays_52 rfl (show _ < 8 by omega) (fun h hW => ?_)
  exact aw_ret dX7_pays_53 rfl ⟨rfl, hW⟩

set_option maxHeartbeats 8000000 in
set_option maxRecDepth 20000 in
theorem r_canClaim {X : XG} {l : Launch} {Γ : NM} {ow : Nat → Nat × Nat} {h : Hp} {T Tr : TB} {nh : Nat} (hW : WD Γ ow h T Tr nh) {c b K P0 Z : Nat} (hc8 : c < 8) (hb : Tr 10 c = nI b) (hb64 : b < 64) (hK : K < 3) (hz : hasB (Tr 12 c) (nI K) = true → Tr 19 (35 * b + 16 + 5 * K + 3) = nI Z ∧ Z < 16) : AM X l yX7_canClaim cX7_canClaim 5 (some .boolean) 1 0 0 [.ref (Γ 14 0), .int (nI c), .int (nI K), .int (nI P0)] h (qi fun r h' => r = bI (canT Tr c b K P0) ∧ h' = h) := by
  refine AM.of (by decide +kernel) (by simp [Value.category]) (Nat.le_of_ble_eq_true rfl) ?_
  show AW X l cX7_canClaim RX7 "canClaim" (some .boolean) 5 1 none _ 0 0 0 [some (.ref (Γ 14 0)), some (.int (nI c)), some (.int (nI K)), some (.int (nI P0)), none] [] h
  refine aw_alo 0 (pcn := 1) rfl dX7_canClaim_0 rfl rfl (rf_some _) ?_
  refine aw_getf (pcn := 4) fl_X7_28 dX7_canClaim_1 rfl hW.mo rfl ?_
  refine aw_ilo 1 (pcn := 5) rfl dX7_canClaim_4 rfl rfl ?_
  refine aw_ialdM (j := 10) (pcn := 6) hW dX7_canClaim_5 rfl (show _ < 8 by omega) ?_
  rw [hb]
  refine aw_ilo 2 (pcn := 7) rfl dX7_canClaim_6 rfl rfl ?_
  refine aw_Si (pcn := 10) (r_lockAt _ _) mf_X7_lockAt mv_X7_lockAt ml_X7_93 rfl (by decide) (by decide) (by decide) (by exact Nat.le_of_ble_eq_true rfl) rfl dX7_canClaim_7 rfl (fun r h2 hq => ?_)
  obtain ⟨rfl, hq⟩ := hq
  obtain rfl := hq.symm
  refine aw_istore (pcn := 12) dX7_canClaim_10 rfl (by decide) ?_
  dsimp only [List.set_cons_zero, List.set_cons_succ]
  refine aw_alo 0 (pcn := 13) rfl dX7_canClaim_12 rfl rfl (rf_some _) ?_
  refine aw_getf (pcn := 16) fl_X7_34 dX7_canClaim_13 rfl hW.mo rfl ?_
  refine aw_ilo 1 (pcn := 17) rfl dX7_canClaim_16 rfl rfl ?_
  refine aw_ialdM (j := 12) (pcn := 18) hW dX7_canClaim_17 rfl (show _ < 8 by omega) ?_
  refine aw_ilo 2 (pcn := 19) rfl dX7_canClaim_18 rfl rfl ?_
  refine aw_Si (pcn := 22) (r_has _ _) mf_X7_has mv_X7_has ml_X7_79 rfl (by decide) (by decide) (by decide) (by exact Nat.le_of_ble_eq_true rfl) rfl dX7_canClaim_19 rfl (fun r h2 hq => ?_)
  obtain ⟨rfl, hq⟩ := hq
  obtain rfl := hq.symm
  refine aw_if_eqB (t := 63) (pcn := 25) dX7_canClaim_22 rfl (by decide) (fun q1 => ?_) (fun q1 => ?_)
  · refine aw_iconst (v := nI 0) (pcn := 64) dX7_canClaim_63 rfl (by decide) ?_
    exact aw_zret dX7_canClaim_64 rfl (by decide) ⟨_, rfl, ⟨by first | (have e1 := nI_clamp (n := Z) (by omega); simp only [canT, ix, hz1, e1]; simp_all [bI, nI_one, nI_0]; done) | (simp only [canT]; simp_all [bI, nI_one, nI_0]; done), rfl⟩⟩
  · obtain ⟨hz1, hz2⟩ := hz q1
    refine aw_alo 0 (pcn := 26) rfl dX7_canClaim_25 rfl rfl (rf_some _) ?_
    refine aw_getf (pcn := 29) fl_X7_52 dX7_canClaim_26 rfl hW.mo rfl ?_
    refine aw_iload (pcn := 31) dX7_canClaim_29 rfl rfl ?_
    refine aw_iconst (v := nI 2) (pcn := 32) dX7_canClaim_31 rfl (by decide) ?_
    refine aw_iaddN (pcn := 33) dX7_canClaim_32 rfl ?_
    refine aw_ialdM (j := 19) (pcn := 34) hW dX7_canClaim_33 rfl (show _ < 2240 by omega) ?_
    refine aw_ilo 3 (pcn := 35) rfl dX7_canClaim_34 rfl rfl ?_
    refine aw_icmp_ne (t := 63) (pcn := 38) dX7_canClaim_35 rfl (by decide) (fun q2 => ?_) (fun q2 => ?_)
    · refine aw_iconst (v := nI 0) (pcn := 64) dX7_canClaim_63 rfl (by decide) ?_
      exact aw_zret dX7_canClaim_64 rfl (by decide) ⟨_, rfl, ⟨by first | (have e1 := nI_clamp (n := Z) (by omega); simp only [canT, ix, hz1, e1]; simp_all [bI, nI_one, nI_0]; done) | (simp only [canT]; simp_all [bI, nI_one, nI_0]; done), rfl⟩⟩
    · refine aw_alo 0 (pcn := 39) rfl dX7_canClaim_38 rfl rfl (rf_some _) ?_
      refine aw_getf (pcn := 42) fl_X7_13 dX7_canClaim_39 rfl hW.mo rfl ?_
      refine aw_alo 0 (pcn := 43) rfl dX7_canClaim_42 rfl rfl (rf_some _) ?_
      refine aw_getf (pcn := 46) fl_X7_52 dX7_canClaim_43 rfl hW.mo rfl ?_
      refine aw_iload (pcn := 48) dX7_canClaim_46 rfl rfl ?_
      refine aw_iconst (v := nI 3) (pcn := 49) dX7_canClaim_48 rfl (by decide) ?_
      refine aw_iaddN (pcn := 50) dX7_canClaim_49 rfl ?_
      refine aw_ialdM (j := 19) (pcn := 51) hW dX7_canClaim_50 rfl (show _ < 2240 by omega) ?_
      rw [hz1]
      refine aw_ialdM (j := 4) (pcn := 52) hW dX7_canClaim_51 rfl (show _ < 16 by omega) ?_
      refine aw_ilo 3 (pcn := 53) rfl dX7_canClaim_52 rfl rfl ?_
      refine aw_Si (pcn := 56) (r_has _ _) mf_X7_has mv_X7_has ml_X7_79 rfl (by decide) (by decide) (by decide) (by exact Nat.le_of_ble_eq_true rfl) rfl dX7_canClaim_53 rfl (fun r h2 hq => ?_)
      obtain ⟨rfl, hq⟩ := hq
      obtain rfl := hq.symm
      refine aw_if_eqB (t := 63) (pcn := 59) dX7_canClaim_56 rfl (by decide) (fun q3 => ?_) (fun q3 => ?_)
      · refine aw_iconst (v := nI 0) (pcn := 64) dX7_canClaim_63 rfl (by decide) ?_
        exact aw_zret dX7_canClaim_64 rfl (by decide) ⟨_, rfl, ⟨by first | (have e1 := nI_clamp (n := Z) (by omega); simp only [canT, ix, hz1, e1]; simp_all [bI, nI_one, nI_0]; done) | (simp only [canT]; simp_all [bI, nI_one, nI_0]; done), rfl⟩⟩
      · refine aw_iconst (v := nI 1) (pcn := 60) dX7_canClaim_59 rfl (by decide) ?_
        refine aw_goto (t := 64) dX7_canClaim_60 (by decide) ?_
        exact aw_zret dX7_canClaim_64 rfl (by decide) ⟨_, rfl, ⟨by first | (have e1 := nI_clamp (n := Z) (by omega); simp only [canT, ix, hz1, e1]; simp_all [bI, nI_one, nI_0]; done) | (simp only [canT]; simp_all [bI, nI_one, nI_0]; done), rfl⟩⟩

set_option maxHeartbeats 8000000 in
set_option maxRecDepth 20000 in
theorem r_claims {X : XG} {l : Launch} {Γ : NM} {ow : Nat → Nat × Nat} {h : Hp} {T Tr : TB} {nh : Nat} (hW : WD Γ ow h T Tr nh) {c b K P0 Z : Nat} (hc8 : c < 8) (hb : Tr 10 c = nI b) (hb64 : b < 64) (hK : K < 3) (hP : P0 < 6) (hz1 : Tr 19 (35 * b + 16 + 5 * K + 3) = nI Z) (hz2 : Z < 16) : AM X l yX7_claims cX7_claims 5 (some .int) 2 0 0 [.ref (Γ 14 0), .int (nI c), .int (nI K), .int (nI P0)] h (qi fun r h' => r = Tr 19 (35 * b + 16 + 5 * K + 0) ∧ WD Γ ow h' T (clmT Tr c b K P0) nh) := by
  refine AM.of (by decide +kernel) (by simp [Value.category]) (Nat.le_of_ble_eq_true rfl) ?_
  show AW X l cX7_claims RX7 "claims" (some .int) 5 2 none _ 0 0 0 [some (.ref (Γ 14 0)), some (.int (nI c)), some (.int (nI K)), some (.int (nI P0)), none] [] h
  refine aw_alo 0 (pcn := 1) rfl dX7_claims_0 rfl rfl (rf_some _) ?_
  refine aw_getf (pcn := 4) fl_X7_28 dX7_claims_1 rfl hW.mo rfl ?_
  refine aw_ilo 1 (pcn := 5) rfl dX7_claims_4 rfl rfl ?_
  refine aw_ialdM (j := 10) (pcn := 6) hW dX7_claims_5 rfl (show _ < 8 by omega) ?_
  rw [hb]
  refine aw_ilo 2 (pcn := 7) rfl dX7_claims_6 rfl rfl ?_
  refine aw_Si (pcn := 10) (r_lockAt _ _) mf_X7_lockAt mv_X7_lockAt ml_X7_93 rfl (by decide) (by decide) (by decide) (by exact Nat.le_of_ble_eq_true rfl) rfl dX7_claims_7 rfl (fun r h2 hq => ?_)
  obtain ⟨rfl, hq⟩ := hq
  obtain rfl := hq.symm
  refine aw_istore (pcn := 12) dX7_claims_10 rfl (by decide) ?_
  dsimp only [List.set_cons_zero, List.set_cons_succ]
  refine aw_alo 0 (pcn := 13) rfl dX7_claims_12 rfl rfl (rf_some _) ?_
  refine aw_getf (pcn := 16) fl_X7_13 dX7_claims_13 rfl hW.mo rfl ?_
  refine aw_alo 0 (pcn := 17) rfl dX7_claims_16 rfl rfl (rf_some _) ?_
  refine aw_getf (pcn := 20) fl_X7_52 dX7_claims_17 rfl hW.mo rfl ?_
  refine aw_iload (pcn := 22) dX7_claims_20 rfl rfl ?_
  refine aw_iconst (v := nI 3) (pcn := 23) dX7_claims_22 rfl (by decide) ?_
  refine aw_iaddN (pcn := 24) dX7_claims_23 rfl ?_
  refine aw_ialdM (j := 19) (pcn := 25) hW dX7_claims_24 rfl (show _ < 2240 by omega) ?_
  rw [hz1]
  refine aw_bipush (v := nI 63) (pcn := 27) dX7_claims_25 rfl (by decide) ?_
  refine aw_iastM (j := 4) (pcn := 28) hW dX7_claims_27 rfl (show _ < 16 by omega) (fun h hW => ?_)
  refine aw_alo 0 (pcn := 29) rfl dX7_claims_28 rfl rfl (rf_some _) ?_
  refine aw_ilo 1 (pcn := 30) rfl dX7_claims_29 rfl rfl ?_
  refine aw_ilo 2 (pcn := 31) rfl dX7_claims_30 rfl rfl ?_
  refine aw_ilo 3 (pcn := 32) rfl dX7_claims_31 rfl rfl ?_
  refine aw_Vv (pcn := 35) (r_pays hW (c := _) (b := b) (K := _) (P0 := _) (by omega) hb hb64 (by omega) (by omega)) mf_X7_pays mv_X7_pays hW.mo rfl ml_X7_106 rfl (by decide) (by decide) (by decide) (by exact Nat.le_of_ble_eq_true rfl) rfl dX7_claims_32 rfl (fun h hW => ?_)
  refine aw_alo 0 (pcn := 36) rfl dX7_claims_35 rfl rfl (rf_some _) ?_
  refine aw_getf (pcn := 39) fl_X7_52 dX7_claims_36 rfl hW.mo rfl ?_
  refine aw_iload (pcn := 41) dX7_claims_39 rfl rfl ?_
  refine aw_iconst (v := nI 0) (pcn := 42) dX7_claims_41 rfl (by decide) ?_
  refine aw_iaddN (pcn := 43) dX7_claims_42 rfl ?_
  refine aw_ialdM (j := 19) (pcn := 44) hW dX7_claims_43 rfl (show _ < 2240 by omega) ?_
  exact aw_iret dX7_claims_44 rfl ⟨_, rfl, ⟨rfl, by unfold clmT; rw [hz1, show ix (nI Z) = Z from nI_clamp (by omega)]; exact hW⟩⟩

set_option maxHeartbeats 8000000 in
set_option maxRecDepth 20000 in
theorem r_wins {X : XG} {l : Launch} {Γ : NM} {ow : Nat → Nat × Nat} {h : Hp} {T Tr : TB} {nh : Nat} (hW : WD Γ ow h T Tr nh) {c P0 : Nat} (hc8 : c < 8) (hP : P0 < 6) : AM X l yX7_wins cX7_wins 3 (none) 0 0 0 [.ref (Γ 14 0), .int (nI c), .int (nI P0)] h (qv fun h' => WD Γ ow h' T (winT Tr c P0) nh) := by
  refine AM.of (by decide +kernel) (by simp [Value.category]) (Nat.le_of_ble_eq_true rfl) ?_
  show AW X l cX7_wins RX7 "wins" (none) 3 0 none _ 0 0 0 [some (.ref (Γ 14 0)), some (.int (nI c)), some (.int (nI P0))] [] h
  refine aw_alo 0 (pcn := 1) rfl dX7_wins_0 rfl rfl (rf_some _) ?_
  refine aw_getf (pcn := 4) fl_X7_7 dX7_wins_1 rfl hW.mo rfl ?_
  refine aw_ilo 2 (pcn := 5) rfl dX7_wins_4 rfl rfl ?_
  refine aw_dup2 (pcn := 6) dX7_wins_5 rfl rfl rfl ?_
  refine aw_ialdM (j := 0) (pcn := 7) hW dX7_wins_6 rfl (show _ < 6 by omega) ?_
  refine aw_alo 0 (pcn := 8) rfl dX7_wins_7 rfl rfl (rf_some _) ?_
  refine aw_getf (pcn := 11) fl_X7_37 dX7_wins_8 rfl hW.mo rfl ?_
  refine aw_ilo 1 (pcn := 12) rfl dX7_wins_11 rfl rfl ?_
  refine aw_ialdM (j := 13) (pcn := 13) hW dX7_wins_12 rfl (show _ < 8 by omega) ?_
  refine aw_iadd (pcn := 14) dX7_wins_13 rfl ?_
  refine aw_iastM (j := 0) (pcn := 15) hW dX7_wins_14 rfl (show _ < 6 by omega) (fun h hW => ?_)
  refine aw_alo 0 (pcn := 16) rfl dX7_wins_15 rfl rfl (rf_some _) ?_
  refine aw_getf (pcn := 19) fl_X7_22 dX7_wins_16 rfl hW.mo rfl ?_
  refine aw_ilo 1 (pcn := 20) rfl dX7_wins_19 rfl rfl ?_
  refine aw_dup2 (pcn := 21) dX7_wins_20 rfl rfl rfl ?_
  refine aw_ialdM (j := 8) (pcn := 22) hW dX7_wins_21 rfl (show _ < 8 by omega) ?_
  refine aw_alo 0 (pcn := 23) rfl dX7_wins_22 rfl rfl (rf_some _) ?_
  refine aw_getf (pcn := 26) fl_X7_37 dX7_wins_23 rfl hW.mo rfl ?_
  refine aw_ilo 1 (pcn := 27) rfl dX7_wins_26 rfl rfl ?_
  refine aw_ialdM (j := 13) (pcn := 28) hW dX7_wins_27 rfl (show _ < 8 by omega) ?_
  refine aw_isub (pcn := 29) dX7_wins_28 rfl ?_
  refine aw_iastM (j := 8) (pcn := 30) hW dX7_wins_29 rfl (show _ < 8 by omega) (fun h hW => ?_)
  refine aw_alo 0 (pcn := 31) rfl dX7_wins_30 rfl rfl (rf_some _) ?_
  refine aw_getf (pcn := 34) fl_X7_37 dX7_wins_31 rfl hW.mo rfl ?_
  refine aw_ilo 1 (pcn := 35) rfl dX7_wins_34 rfl rfl ?_
  refine aw_iconst (v := nI 0) (pcn := 36) dX7_wins_35 rfl (by decide) ?_
  refine aw_iastM (j := 13) (pcn := 37) hW dX7_wins_36 rfl (show _ < 8 by omega) (fun h hW => ?_)
  refine aw_alo 0 (pcn := 38) rfl dX7_wins_37 rfl rfl (rf_some _) ?_
  refine aw_getf (pcn := 41) fl_X7_40 dX7_wins_38 rfl hW.mo rfl ?_
  refine aw_ilo 1 (pcn := 42) rfl dX7_wins_41 rfl rfl ?_
  refine aw_iconst (v := nI 0) (pcn := 43) dX7_wins_42 rfl (by decide) ?_
  refine aw_iastM (j := 14) (pcn := 44) hW dX7_wins_43 rfl (show _ < 8 by omega) (fun h hW => ?_)
  exact aw_ret dX7_wins_44 rfl ⟨rfl, hW.ghost (j := 27) (i := c) (v := 0) (by omega)⟩

set_option maxHeartbeats 8000000 in
set_option maxRecDepth 20000 in
theorem r_shows {X : XG} {l : Launch} {Γ : NM} {ow : Nat → Nat × Nat} {h : Hp} {T Tr : TB} {nh : Nat} (hW : WD Γ ow h T Tr nh) {S c b : Nat} (hS : S < 64) (hc8 : c < 8) (hc : Tr 19 (35 * S + 0) = nI c) (hb : ¬ Tr 9 c = nI 1 → Tr 10 c = nI b ∧ b < 64) : AM X l yX7_shows cX7_shows 3 (none) 1 0 0 [.ref (Γ 14 0), .int (nI S)] h (qv fun h' => WD Γ ow h' T (showsT Tr c S) nh) := by
  refine AM.of (by decide +kernel) (by simp [Value.category]) (Nat.le_of_ble_eq_true rfl) ?_
  show AW X l cX7_shows RX7 "shows" (none) 3 1 none _ 0 0 0 [some (.ref (Γ 14 0)), some (.int (nI S)), none] [] h
  refine aw_alo 0 (pcn := 1) rfl dX7_shows_0 rfl rfl (rf_some _) ?_
  refine aw_ilo 1 (pcn := 2) rfl dX7_shows_1 rfl rfl ?_
  refine aw_Vi (pcn := 5) (r_channelOf hW (S := S) hS) mf_X7_channelOf mv_X7_channelOf hW.mo rfl ml_X7_86 rfl (by decide) (by decide) (by decide) (by exact Nat.le_of_ble_eq_true rfl) rfl dX7_shows_2 rfl (fun r h2 hq => ?_)
  obtain ⟨rfl, hq⟩ := hq
  obtain rfl := hq.symm
  rw [hc]
  refine aw_ist 2 (pcn := 6) rfl dX7_shows_5 rfl (by decide) ?_
  dsimp only [List.set_cons_zero, List.set_cons_succ]
  refine aw_alo 0 (pcn := 7) rfl dX7_shows_6 rfl rfl (rf_some _) ?_
  refine aw_getf (pcn := 10) fl_X7_25 dX7_shows_7 rfl hW.mo rfl ?_
  refine aw_ilo 2 (pcn := 11) rfl dX7_shows_10 rfl rfl ?_
  refine aw_ialdM (j := 9) (pcn := 12) hW dX7_shows_11 rfl (show _ < 8 by omega) ?_
  refine aw_iconst (v := nI 1) (pcn := 13) dX7_shows_12 rfl (by decide) ?_
  refine aw_icmp_ne (t := 50) (pcn := 16) dX7_shows_13 rfl (by decide) (fun q1 => ?_) (fun q1 => ?_)
  · obtain ⟨hb1, hb2⟩ := hb q1
    refine aw_alo 0 (pcn := 51) rfl dX7_shows_50 rfl rfl (rf_some _) ?_
    refine aw_getf (pcn := 54) fl_X7_52 dX7_shows_51 rfl hW.mo rfl ?_
    refine aw_bipush (v := nI 35) (pcn := 56) dX7_shows_54 rfl (by decide) ?_
    refine aw_alo 0 (pcn := 57) rfl dX7_shows_56 rfl rfl (rf_some _) ?_
    refine aw_getf (pcn := 60) fl_X7_28 dX7_shows_57 rfl hW.mo rfl ?_
    refine aw_ilo 2 (pcn := 61) rfl dX7_shows_60 rfl rfl ?_
    refine aw_ialdM (j := 10) (pcn := 62) hW dX7_shows_61 rfl (show _ < 8 by omega) ?_
    rw [hb1]
    refine aw_imulN (pcn := 63) dX7_shows_62 rfl ?_
    refine aw_iconst (v := nI 1) (pcn := 64) dX7_shows_63 rfl (by decide) ?_
    refine aw_iaddN (pcn := 65) dX7_shows_64 rfl ?_
    refine aw_ialdM (j := 19) (pcn := 66) hW dX7_shows_65 rfl (show _ < 2240 by omega) ?_
    refine aw_alo 0 (pcn := 67) rfl dX7_shows_66 rfl rfl (rf_some _) ?_
    refine aw_getf (pcn := 70) fl_X7_52 dX7_shows_67 rfl hW.mo rfl ?_
    refine aw_bipush (v := nI 35) (pcn := 72) dX7_shows_70 rfl (by decide) ?_
    refine aw_ilo 1 (pcn := 73) rfl dX7_shows_72 rfl rfl ?_
    refine aw_imulN (pcn := 74) dX7_shows_73 rfl ?_
    refine aw_iconst (v := nI 1) (pcn := 75) dX7_shows_74 rfl (by decide) ?_
    refine aw_iaddN (pcn := 76) dX7_shows_75 rfl ?_
    refine aw_ialdM (j := 19) (pcn := 77) hW dX7_shows_76 rfl (show _ < 2240 by omega) ?_
    refine aw_icmp_ge (t := 87) (pcn := 80) dX7_shows_77 rfl (by decide) (fun q2 => ?_) (fun q2 => ?_)
    · exact aw_ret dX7_shows_87 rfl ⟨rfl, (by first | (unfold showsT; rw [if_pos (by assumption)]; exact hW.ghost (j := 26) (i := c) (v := Tr 2 0 + Tr 7 c) (by omega)) | (unfold showsT; rw [if_neg (by assumption), hb1, show ix (nI b) = b from nI_clamp (by omega), if_pos (Int32.not_le.mp (by assumption))]; exact hW) | (unfold showsT; rw [if_neg (by assumption), hb1, show ix (nI b) = b from nI_clamp (by omega), if_neg (Int32.not_lt.mpr (by assumption))]; exact hW))⟩
    · refine aw_alo 0 (pcn := 81) rfl dX7_shows_80 rfl rfl (rf_some _) ?_
      refine aw_getf (pcn := 84) fl_X7_28 dX7_shows_81 rfl hW.mo rfl ?_
      refine aw_ilo 2 (pcn := 85) rfl dX7_shows_84 rfl rfl ?_
      refine aw_ilo 1 (pcn := 86) rfl dX7_shows_85 rfl rfl ?_
      refine aw_iastM (j := 10) (pcn := 87) hW dX7_shows_86 rfl (show _ < 8 by omega) (fun h hW => ?_)
      exact aw_ret dX7_shows_87 rfl ⟨rfl, (by first | (unfold showsT; rw [if_pos (by assumption)]; exact hW.ghost (j := 26) (i := c) (v := Tr 2 0 + Tr 7 c) (by omega)) | (unfold showsT; rw [if_neg (by assumption), hb1, show ix (nI b) = b from nI_clamp (by omega), if_pos (Int32.not_le.mp (by assumption))]; exact hW) | (unfold showsT; rw [if_neg (by assumption), hb1, show ix (nI b) = b from nI_clamp (by omega), if_neg (Int32.not_lt.mpr (by assumption))]; exact hW))⟩
  · refine aw_alo 0 (pcn := 17) rfl dX7_shows_16 rfl rfl (rf_some _) ?_
    refine aw_getf (pcn := 20) fl_X7_25 dX7_shows_17 rfl hW.mo rfl ?_
    refine aw_ilo 2 (pcn := 21) rfl dX7_shows_20 rfl rfl ?_
    refine aw_iconst (v := nI 2) (pcn := 22) dX7_shows_21 rfl (by decide) ?_
    refine aw_iastM (j := 9) (pcn := 23) hW dX7_shows_22 rfl (show _ < 8 by omega) (fun h hW => ?_)
    refine aw_alo 0 (pcn := 24) rfl dX7_shows_23 rfl rfl (rf_some _) ?_
    refine aw_getf (pcn := 27) fl_X7_28 dX7_shows_24 rfl hW.mo rfl ?_
    refine aw_ilo 2 (pcn := 28) rfl dX7_shows_27 rfl rfl ?_
    refine aw_ilo 1 (pcn := 29) rfl dX7_shows_28 rfl rfl ?_
    refine aw_iastM (j := 10) (pcn := 30) hW dX7_shows_29 rfl (show _ < 8 by omega) (fun h hW => ?_)
    refine aw_alo 0 (pcn := 31) rfl dX7_shows_30 rfl rfl (rf_some _) ?_
    refine aw_getf (pcn := 34) fl_X7_31 dX7_shows_31 rfl hW.mo rfl ?_
    refine aw_ilo 2 (pcn := 35) rfl dX7_shows_34 rfl rfl ?_
    refine aw_alo 0 (pcn := 36) rfl dX7_shows_35 rfl rfl (rf_some _) ?_
    refine aw_getf (pcn := 39) fl_X7_103 dX7_shows_36 rfl hW.mo rfl ?_
    refine aw_alo 0 (pcn := 40) rfl dX7_shows_39 rfl rfl (rf_some _) ?_
    refine aw_getf (pcn := 43) fl_X7_19 dX7_shows_40 rfl hW.mo rfl ?_
    refine aw_ilo 2 (pcn := 44) rfl dX7_shows_43 rfl rfl ?_
    refine aw_ialdM (j := 7) (pcn := 45) hW dX7_shows_44 rfl (show _ < 8 by omega) ?_
    refine aw_iadd (pcn := 46) dX7_shows_45 rfl ?_
    refine aw_iastM (j := 11) (pcn := 47) hW dX7_shows_46 rfl (show _ < 8 by omega) (fun h hW => ?_)
    refine aw_goto (t := 87) dX7_shows_47 (by decide) ?_
    exact aw_ret dX7_shows_87 rfl ⟨rfl, (by first | (unfold showsT; rw [if_pos (by assumption)]; exact hW.ghost (j := 26) (i := c) (v := Tr 2 0 + Tr 7 c) (by omega)) | (unfold showsT; rw [if_neg (by assumption), hb1, show ix (nI b) = b from nI_clamp (by omega), if_pos (Int32.not_le.mp (by assumption))]; exact hW) | (unfold showsT; rw [if_neg (by assumption), hb1, show ix (nI b) = b from nI_clamp (by omega), if_neg (Int32.not_lt.mpr (by assumption))]; exact hW))⟩

set_option maxHeartbeats 8000000 in
set_option maxRecDepth 20000 in
theorem r_steps {X : XG} {l : Launch} {Γ : NM} {ow : Nat → Nat × Nat} {h : Hp} {T Tr : TB} {nh : Nat} (hW : WD Γ ow h T Tr nh) {c P0 : Nat} (hc8 : c < 8) (hP1 : Tr 15 c = nI P0) (hP : P0 < 6) (t : Int32) : AM X l yX7_steps cX7_steps 4 (some .int) 1 0 0 [.ref (Γ 14 0), .int (nI c), .int t] h (qi fun r h' => r = (stpT Tr c t) 14 c ∧ WD Γ ow h' T (stpT Tr c t) nh) := by
  refine AM.of (by decide +kernel) (by simp [Value.category]) (Nat.le_of_ble_eq_true rfl) ?_
  show AW X l cX7_steps RX7 "steps" (some .int) 4 1 none _ 0 0 0 [some (.ref (Γ 14 0)), some (.int (nI c)), some (.int t), none] [] h
  refine aw_alo 0 (pcn := 1) rfl dX7_steps_0 rfl rfl (rf_some _) ?_
  refine aw_getf (pcn := 4) fl_X7_40 dX7_steps_1 rfl hW.mo rfl ?_
  refine aw_ilo 1 (pcn := 5) rfl dX7_steps_4 rfl rfl ?_
  refine aw_dup2 (pcn := 6) dX7_steps_5 rfl rfl rfl ?_
  refine aw_ialdM (j := 14) (pcn := 7) hW dX7_steps_6 rfl (show _ < 8 by omega) ?_
  refine aw_ilo 2 (pcn := 8) rfl dX7_steps_7 rfl rfl ?_
  refine aw_isub (pcn := 9) dX7_steps_8 rfl ?_
  refine aw_iastM (j := 14) (pcn := 10) hW dX7_steps_9 rfl (show _ < 8 by omega) (fun h hW => ?_)
  refine aw_alo 0 (pcn := 11) rfl dX7_steps_10 rfl rfl (rf_some _) ?_
  refine aw_getf (pcn := 14) fl_X7_40 dX7_steps_11 rfl hW.mo rfl ?_
  refine aw_ilo 1 (pcn := 15) rfl dX7_steps_14 rfl rfl ?_
  refine aw_ialdM (j := 14) (pcn := 16) hW dX7_steps_15 rfl (show _ < 8 by omega) ?_
  refine aw_if_ne (t := 33) (pcn := 19) dX7_steps_16 rfl (by decide) (fun q1 => ?_) (fun q1 => ?_)
  · have q0 : ¬ Tr 14 c - t = 0 := by simpa only [up_s] using q1
    refine aw_alo 0 (pcn := 34) rfl dX7_steps_33 rfl rfl (rf_some _) ?_
    refine aw_getf (pcn := 37) fl_X7_43 dX7_steps_34 rfl hW.mo rfl ?_
    refine aw_ilo 1 (pcn := 38) rfl dX7_steps_37 rfl rfl ?_
    refine aw_ialdM (j := 15) (pcn := 39) hW dX7_steps_38 rfl (show _ < 8 by omega) ?_
    refine aw_ist 3 (pcn := 40) rfl dX7_steps_39 rfl (by decide) ?_
    dsimp only [List.set_cons_zero, List.set_cons_succ]
    refine aw_alo 0 (pcn := 41) rfl dX7_steps_40 rfl rfl (rf_some _) ?_
    refine aw_getf (pcn := 44) fl_X7_43 dX7_steps_41 rfl hW.mo rfl ?_
    refine aw_ilo 1 (pcn := 45) rfl dX7_steps_44 rfl rfl ?_
    refine aw_alo 0 (pcn := 46) rfl dX7_steps_45 rfl rfl (rf_some _) ?_
    refine aw_getf (pcn := 49) fl_X7_46 dX7_steps_46 rfl hW.mo rfl ?_
    refine aw_ilo 1 (pcn := 50) rfl dX7_steps_49 rfl rfl ?_
    refine aw_ialdM (j := 16) (pcn := 51) hW dX7_steps_50 rfl (show _ < 8 by omega) ?_
    refine aw_iastM (j := 15) (pcn := 52) hW dX7_steps_51 rfl (show _ < 8 by omega) (fun h hW => ?_)
    refine aw_alo 0 (pcn := 53) rfl dX7_steps_52 rfl rfl (rf_some _) ?_
    refine aw_getf (pcn := 56) fl_X7_46 dX7_steps_53 rfl hW.mo rfl ?_
    refine aw_ilo 1 (pcn := 57) rfl dX7_steps_56 rfl rfl ?_
    refine aw_ilo 3 (pcn := 58) rfl dX7_steps_57 rfl rfl ?_
    refine aw_iastM (j := 16) (pcn := 59) hW dX7_steps_58 rfl (show _ < 8 by omega) (fun h hW => ?_)
    refine aw_alo 0 (pcn := 60) rfl dX7_steps_59 rfl rfl (rf_some _) ?_
    refine aw_getf (pcn := 63) fl_X7_49 dX7_steps_60 rfl hW.mo rfl ?_
    refine aw_ilo 1 (pcn := 64) rfl dX7_steps_63 rfl rfl ?_
    refine aw_alo 0 (pcn := 65) rfl dX7_steps_64 rfl rfl (rf_some _) ?_
    refine aw_getf (pcn := 68) fl_X7_103 dX7_steps_65 rfl hW.mo rfl ?_
    refine aw_alo 0 (pcn := 69) rfl dX7_steps_68 rfl rfl (rf_some _) ?_
    refine aw_getf (pcn := 72) fl_X7_19 dX7_steps_69 rfl hW.mo rfl ?_
    refine aw_ilo 1 (pcn := 73) rfl dX7_steps_72 rfl rfl ?_
    refine aw_ialdM (j := 7) (pcn := 74) hW dX7_steps_73 rfl (show _ < 8 by omega) ?_
    refine aw_iadd (pcn := 75) dX7_steps_74 rfl ?_
    refine aw_iastM (j := 17) (pcn := 76) hW dX7_steps_75 rfl (show _ < 8 by omega) (fun h hW => ?_)
    refine aw_alo 0 (pcn := 77) rfl dX7_steps_76 rfl rfl (rf_some _) ?_
    refine aw_getf (pcn := 80) fl_X7_40 dX7_steps_77 rfl hW.mo rfl ?_
    refine aw_ilo 1 (pcn := 81) rfl dX7_steps_80 rfl rfl ?_
    refine aw_ialdM (j := 14) (pcn := 82) hW dX7_steps_81 rfl (show _ < 8 by omega) ?_
    exact aw_iret dX7_steps_82 rfl ⟨_, rfl, (by first | (unfold stpT; rw [if_pos q0, hP1, show ix (nI P0) = P0 from nI_clamp (by omega)]; exact ⟨rfl, hW⟩) | (unfold stpT; rw [if_neg q0]; exact ⟨rfl, hW.ghost (j := 27) (i := c) (v := Tr 2 0 + Tr 7 c) (by omega)⟩))⟩
  · have q0 : Tr 14 c - t = 0 := by simpa only [up_s] using q1
    refine aw_alo 0 (pcn := 20) rfl dX7_steps_19 rfl rfl (rf_some _) ?_
    refine aw_ilo 1 (pcn := 21) rfl dX7_steps_20 rfl rfl ?_
    refine aw_alo 0 (pcn := 22) rfl dX7_steps_21 rfl rfl (rf_some _) ?_
    refine aw_getf (pcn := 25) fl_X7_43 dX7_steps_22 rfl hW.mo rfl ?_
    refine aw_ilo 1 (pcn := 26) rfl dX7_steps_25 rfl rfl ?_
    refine aw_ialdM (j := 15) (pcn := 27) hW dX7_steps_26 rfl (show _ < 8 by omega) ?_
    rw [show (up Tr 14 c (Tr 14 c - t)) 15 c = nI P0 from hP1]
    refine aw_Vv (pcn := 30) (r_wins hW (c := _) (P0 := P0) (by omega) (by omega)) mf_X7_wins mv_X7_wins hW.mo rfl ml_X7_110 rfl (by decide) (by decide) (by decide) (by exact Nat.le_of_ble_eq_true rfl) rfl dX7_steps_27 rfl (fun h hW => ?_)
    refine aw_goto (t := 76) dX7_steps_30 (by decide) ?_
    refine aw_alo 0 (pcn := 77) rfl dX7_steps_76 rfl rfl (rf_some _) ?_
    refine aw_getf (pcn := 80) fl_X7_40 dX7_steps_77 rfl hW.mo rfl ?_
    refine aw_ilo 1 (pcn := 81) rfl dX7_steps_80 rfl rfl ?_
    refine aw_ialdM (j := 14) (pcn := 82) hW dX7_steps_81 rfl (show _ < 8 by omega) ?_
    exact aw_iret dX7_steps_82 rfl ⟨_, rfl, (by first | (unfold stpT; rw [if_pos q0, hP1, show ix (nI P0) = P0 from nI_clamp (by omega)]; exact ⟨rfl, hW⟩) | (unfold stpT; rw [if_neg q0]; exact ⟨rfl, hW.ghost (j := 27) (i := c) (v := Tr 2 0 + Tr 7 c) (by omega)⟩))⟩
end
