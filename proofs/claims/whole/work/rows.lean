section
def lw_okq (q : MethodName × Nat) : Prop := (q.1.cls ≠ "java/lang/invoke/MethodHandle" ∧ q.1.cls ≠ "java/lang/invoke/VarHandle") ∧ Cond.instantiable q.1.cls q.2 ∈ tables_1 ∧ Cond.privateMethod q.1 ∈ tables_1 ∧ Cond.instanceMethod q.1 ∈ tables_1
theorem lw_p0 : lw_okq (⟨"GrantRing", "isLive", "(I)Z"⟩, 3) := ⟨⟨by decide +kernel, by decide +kernel⟩, List.mem_of_getElem? (i := 10) (by decide +kernel), List.mem_of_getElem? (i := 211) (by decide +kernel), List.mem_of_getElem? (i := 212) (by decide +kernel)⟩
theorem lw_p1 : lw_okq (⟨"GrantRing", "removeDevicesOf", "(I)V"⟩, 3) := ⟨⟨by decide +kernel, by decide +kernel⟩, List.mem_of_getElem? (i := 10) (by decide +kernel), List.mem_of_getElem? (i := 218) (by decide +kernel), List.mem_of_getElem? (i := 219) (by decide +kernel)⟩
theorem lw_p2 : lw_okq (⟨"GrantRing", "takeAwayMappingsOf", "(I)V"⟩, 3) := ⟨⟨by decide +kernel, by decide +kernel⟩, List.mem_of_getElem? (i := 10) (by decide +kernel), List.mem_of_getElem? (i := 222) (by decide +kernel), List.mem_of_getElem? (i := 223) (by decide +kernel)⟩
theorem lw_p3 : lw_okq (⟨"GrantRing", "takeAway", "(LGrantRing$Handle;)V"⟩, 3) := ⟨⟨by decide +kernel, by decide +kernel⟩, List.mem_of_getElem? (i := 10) (by decide +kernel), List.mem_of_getElem? (i := 230) (by decide +kernel), List.mem_of_getElem? (i := 231) (by decide +kernel)⟩
theorem lw_p4 : lw_okq (⟨"GrantRing", "entryOf", "(LGrantRing$Handle;)LGrantRing$Entry;"⟩, 3) := ⟨⟨by decide +kernel, by decide +kernel⟩, List.mem_of_getElem? (i := 10) (by decide +kernel), List.mem_of_getElem? (i := 234) (by decide +kernel), List.mem_of_getElem? (i := 235) (by decide +kernel)⟩
theorem lw_p5 : lw_okq (⟨"GrantRing", "release", "(ILGrantRing$Entry;)V"⟩, 3) := ⟨⟨by decide +kernel, by decide +kernel⟩, List.mem_of_getElem? (i := 10) (by decide +kernel), List.mem_of_getElem? (i := 250) (by decide +kernel), List.mem_of_getElem? (i := 251) (by decide +kernel)⟩
theorem lw_p6 : lw_okq (⟨"GrantRing", "buryIfPageless", "(I)V"⟩, 3) := ⟨⟨by decide +kernel, by decide +kernel⟩, List.mem_of_getElem? (i := 10) (by decide +kernel), List.mem_of_getElem? (i := 267) (by decide +kernel), List.mem_of_getElem? (i := 268) (by decide +kernel)⟩
theorem lw_p7 : lw_okq (⟨"GrantRing", "pagesOwnedBy", "(I)I"⟩, 3) := ⟨⟨by decide +kernel, by decide +kernel⟩, List.mem_of_getElem? (i := 10) (by decide +kernel), List.mem_of_getElem? (i := 271) (by decide +kernel), List.mem_of_getElem? (i := 272) (by decide +kernel)⟩
theorem lw_p8 : lw_okq (⟨"GrantRing", "closePortsOf", "(I)V"⟩, 3) := ⟨⟨by decide +kernel, by decide +kernel⟩, List.mem_of_getElem? (i := 10) (by decide +kernel), List.mem_of_getElem? (i := 275) (by decide +kernel), List.mem_of_getElem? (i := 276) (by decide +kernel)⟩
theorem lw_p9 : lw_okq (⟨"GrantRing", "peerOf", "(LGrantRing$Port;)LGrantRing$Port;"⟩, 3) := ⟨⟨by decide +kernel, by decide +kernel⟩, List.mem_of_getElem? (i := 10) (by decide +kernel), List.mem_of_getElem? (i := 279) (by decide +kernel), List.mem_of_getElem? (i := 280) (by decide +kernel)⟩
theorem lw_p10 : lw_okq (⟨"GrantRing$Port", "become", "(III)V"⟩, 4) := ⟨⟨by decide +kernel, by decide +kernel⟩, List.mem_of_getElem? (i := 75) (by decide +kernel), List.mem_of_getElem? (i := 287) (by decide +kernel), List.mem_of_getElem? (i := 288) (by decide +kernel)⟩
theorem lw_p11 : lw_okq (⟨"GrantRing", "freeUnmappedPagesOf", "(I)V"⟩, 3) := ⟨⟨by decide +kernel, by decide +kernel⟩, List.mem_of_getElem? (i := 10) (by decide +kernel), List.mem_of_getElem? (i := 296) (by decide +kernel), List.mem_of_getElem? (i := 297) (by decide +kernel)⟩
theorem lw_p12 : lw_okq (⟨"GrantRing", "pageToGet", "(I)I"⟩, 3) := ⟨⟨by decide +kernel, by decide +kernel⟩, List.mem_of_getElem? (i := 10) (by decide +kernel), List.mem_of_getElem? (i := 304) (by decide +kernel), List.mem_of_getElem? (i := 305) (by decide +kernel)⟩
theorem lw_p13 : lw_okq (⟨"GrantRing", "leastFreePage", "()I"⟩, 3) := ⟨⟨by decide +kernel, by decide +kernel⟩, List.mem_of_getElem? (i := 10) (by decide +kernel), List.mem_of_getElem? (i := 308) (by decide +kernel), List.mem_of_getElem? (i := 309) (by decide +kernel)⟩
theorem lw_p14 : lw_okq (⟨"GrantRing", "owns", "(II)Z"⟩, 3) := ⟨⟨by decide +kernel, by decide +kernel⟩, List.mem_of_getElem? (i := 10) (by decide +kernel), List.mem_of_getElem? (i := 320) (by decide +kernel), List.mem_of_getElem? (i := 321) (by decide +kernel)⟩
theorem lw_p15 : lw_okq (⟨"GrantRing", "accessCode", "(IIIZ)I"⟩, 3) := ⟨⟨by decide +kernel, by decide +kernel⟩, List.mem_of_getElem? (i := 10) (by decide +kernel), List.mem_of_getElem? (i := 381) (by decide +kernel), List.mem_of_getElem? (i := 382) (by decide +kernel)⟩
def lw_privs_1 : List (MethodName × Nat) := [(⟨"GrantRing", "isLive", "(I)Z"⟩, 3), (⟨"GrantRing", "removeDevicesOf", "(I)V"⟩, 3), (⟨"GrantRing", "takeAwayMappingsOf", "(I)V"⟩, 3), (⟨"GrantRing", "takeAway", "(LGrantRing$Handle;)V"⟩, 3), (⟨"GrantRing", "entryOf", "(LGrantRing$Handle;)LGrantRing$Entry;"⟩, 3), (⟨"GrantRing", "release", "(ILGrantRing$Entry;)V"⟩, 3), (⟨"GrantRing", "buryIfPageless", "(I)V"⟩, 3), (⟨"GrantRing", "pagesOwnedBy", "(I)I"⟩, 3), (⟨"GrantRing", "closePortsOf", "(I)V"⟩, 3), (⟨"GrantRing", "peerOf", "(LGrantRing$Port;)LGrantRing$Port;"⟩, 3), (⟨"GrantRing$Port", "become", "(III)V"⟩, 4), (⟨"GrantRing", "freeUnmappedPagesOf", "(I)V"⟩, 3), (⟨"GrantRing", "pageToGet", "(I)I"⟩, 3), (⟨"GrantRing", "leastFreePage", "()I"⟩, 3), (⟨"GrantRing", "owns", "(II)Z"⟩, 3), (⟨"GrantRing", "accessCode", "(IIIZ)I"⟩, 3)]
theorem lw_r1 : ∀ q ∈ lw_privs_1, lw_okq q := List.forall_mem_cons.mpr ⟨lw_p0, List.forall_mem_cons.mpr ⟨lw_p1, List.forall_mem_cons.mpr ⟨lw_p2, List.forall_mem_cons.mpr ⟨lw_p3, List.forall_mem_cons.mpr ⟨lw_p4, List.forall_mem_cons.mpr ⟨lw_p5, List.forall_mem_cons.mpr ⟨lw_p6, List.forall_mem_cons.mpr ⟨lw_p7, List.forall_mem_cons.mpr ⟨lw_p8, List.forall_mem_cons.mpr ⟨lw_p9, List.forall_mem_cons.mpr ⟨lw_p10, List.forall_mem_cons.mpr ⟨lw_p11, List.forall_mem_cons.mpr ⟨lw_p12, List.forall_mem_cons.mpr ⟨lw_p13, List.forall_mem_cons.mpr ⟨lw_p14, List.forall_mem_cons.mpr ⟨lw_p15, fun _ h => absurd h List.not_mem_nil⟩⟩⟩⟩⟩⟩⟩⟩⟩⟩⟩⟩⟩⟩⟩⟩
theorem lw_p16 : lw_okq (⟨"GrantRing", "hasMappingOf", "(IIZ)Z"⟩, 3) := ⟨⟨by decide +kernel, by decide +kernel⟩, List.mem_of_getElem? (i := 10) (by decide +kernel), List.mem_of_getElem? (i := 385) (by decide +kernel), List.mem_of_getElem? (i := 386) (by decide +kernel)⟩
theorem lw_p17 : lw_okq (⟨"GrantRing", "pageOf", "(LGrantRing$Handle;)I"⟩, 3) := ⟨⟨by decide +kernel, by decide +kernel⟩, List.mem_of_getElem? (i := 10) (by decide +kernel), List.mem_of_getElem? (i := 389) (by decide +kernel), List.mem_of_getElem? (i := 390) (by decide +kernel)⟩
theorem lw_p18 : lw_okq (⟨"GrantRing", "leastAbsentDevice", "()I"⟩, 3) := ⟨⟨by decide +kernel, by decide +kernel⟩, List.mem_of_getElem? (i := 10) (by decide +kernel), List.mem_of_getElem? (i := 437) (by decide +kernel), List.mem_of_getElem? (i := 438) (by decide +kernel)⟩
theorem lw_p19 : lw_okq (⟨"GrantRing", "hasRoomForFront", "(I)Z"⟩, 3) := ⟨⟨by decide +kernel, by decide +kernel⟩, List.mem_of_getElem? (i := 10) (by decide +kernel), List.mem_of_getElem? (i := 441) (by decide +kernel), List.mem_of_getElem? (i := 442) (by decide +kernel)⟩
theorem lw_p20 : lw_okq (⟨"GrantRing", "canGrantNewPage", "(I)Z"⟩, 3) := ⟨⟨by decide +kernel, by decide +kernel⟩, List.mem_of_getElem? (i := 10) (by decide +kernel), List.mem_of_getElem? (i := 445) (by decide +kernel), List.mem_of_getElem? (i := 446) (by decide +kernel)⟩
theorem lw_p21 : lw_okq (⟨"GrantRing", "hasRoomForBack", "(I)Z"⟩, 3) := ⟨⟨by decide +kernel, by decide +kernel⟩, List.mem_of_getElem? (i := 10) (by decide +kernel), List.mem_of_getElem? (i := 449) (by decide +kernel), List.mem_of_getElem? (i := 450) (by decide +kernel)⟩
theorem lw_p22 : lw_okq (⟨"GrantRing", "deviceCode", "(I)I"⟩, 3) := ⟨⟨by decide +kernel, by decide +kernel⟩, List.mem_of_getElem? (i := 10) (by decide +kernel), List.mem_of_getElem? (i := 466) (by decide +kernel), List.mem_of_getElem? (i := 467) (by decide +kernel)⟩
theorem lw_p23 : lw_okq (⟨"GrantRing", "isPresent", "(I)Z"⟩, 3) := ⟨⟨by decide +kernel, by decide +kernel⟩, List.mem_of_getElem? (i := 10) (by decide +kernel), List.mem_of_getElem? (i := 470) (by decide +kernel), List.mem_of_getElem? (i := 471) (by decide +kernel)⟩
theorem lw_p24 : lw_okq (⟨"GrantRing", "isWhole", "(LGrantRing$Device;)Z"⟩, 3) := ⟨⟨by decide +kernel, by decide +kernel⟩, List.mem_of_getElem? (i := 10) (by decide +kernel), List.mem_of_getElem? (i := 474) (by decide +kernel), List.mem_of_getElem? (i := 475) (by decide +kernel)⟩
theorem lw_p25 : lw_okq (⟨"GrantRing", "post", "(LGrantRing$Device;III)I"⟩, 3) := ⟨⟨by decide +kernel, by decide +kernel⟩, List.mem_of_getElem? (i := 10) (by decide +kernel), List.mem_of_getElem? (i := 483) (by decide +kernel), List.mem_of_getElem? (i := 484) (by decide +kernel)⟩
theorem lw_p26 : lw_okq (⟨"GrantRing", "carryOut", "(LGrantRing$Device;I)I"⟩, 3) := ⟨⟨by decide +kernel, by decide +kernel⟩, List.mem_of_getElem? (i := 10) (by decide +kernel), List.mem_of_getElem? (i := 493) (by decide +kernel), List.mem_of_getElem? (i := 494) (by decide +kernel)⟩
theorem lw_p27 : lw_okq (⟨"GrantRingModel", "live", "(I)Z"⟩, 24) := ⟨⟨by decide +kernel, by decide +kernel⟩, List.mem_of_getElem? (i := 513) (by decide +kernel), List.mem_of_getElem? (i := 601) (by decide +kernel), List.mem_of_getElem? (i := 602) (by decide +kernel)⟩
theorem lw_p28 : lw_okq (⟨"GrantRingModel", "takeAway", "(I)V"⟩, 24) := ⟨⟨by decide +kernel, by decide +kernel⟩, List.mem_of_getElem? (i := 513) (by decide +kernel), List.mem_of_getElem? (i := 605) (by decide +kernel), List.mem_of_getElem? (i := 606) (by decide +kernel)⟩
theorem lw_p29 : lw_okq (⟨"GrantRingModel", "mappings", "(I)I"⟩, 24) := ⟨⟨by decide +kernel, by decide +kernel⟩, List.mem_of_getElem? (i := 513) (by decide +kernel), List.mem_of_getElem? (i := 609) (by decide +kernel), List.mem_of_getElem? (i := 610) (by decide +kernel)⟩
theorem lw_p30 : lw_okq (⟨"GrantRingModel", "held", "(IIZ)Z"⟩, 24) := ⟨⟨by decide +kernel, by decide +kernel⟩, List.mem_of_getElem? (i := 513) (by decide +kernel), List.mem_of_getElem? (i := 613) (by decide +kernel), List.mem_of_getElem? (i := 614) (by decide +kernel)⟩
theorem lw_p31 : lw_okq (⟨"GrantRingModel", "owned", "(I)I"⟩, 24) := ⟨⟨by decide +kernel, by decide +kernel⟩, List.mem_of_getElem? (i := 513) (by decide +kernel), List.mem_of_getElem? (i := 617) (by decide +kernel), List.mem_of_getElem? (i := 618) (by decide +kernel)⟩
def lw_privs_2 : List (MethodName × Nat) := [(⟨"GrantRing", "hasMappingOf", "(IIZ)Z"⟩, 3), (⟨"GrantRing", "pageOf", "(LGrantRing$Handle;)I"⟩, 3), (⟨"GrantRing", "leastAbsentDevice", "()I"⟩, 3), (⟨"GrantRing", "hasRoomForFront", "(I)Z"⟩, 3), (⟨"GrantRing", "canGrantNewPage", "(I)Z"⟩, 3), (⟨"GrantRing", "hasRoomForBack", "(I)Z"⟩, 3), (⟨"GrantRing", "deviceCode", "(I)I"⟩, 3), (⟨"GrantRing", "isPresent", "(I)Z"⟩, 3), (⟨"GrantRing", "isWhole", "(LGrantRing$Device;)Z"⟩, 3), (⟨"GrantRing", "post", "(LGrantRing$Device;III)I"⟩, 3), (⟨"GrantRing", "carryOut", "(LGrantRing$Device;I)I"⟩, 3), (⟨"GrantRingModel", "live", "(I)Z"⟩, 24), (⟨"GrantRingModel", "takeAway", "(I)V"⟩, 24), (⟨"GrantRingModel", "mappings", "(I)I"⟩, 24), (⟨"GrantRingModel", "held", "(IIZ)Z"⟩, 24), (⟨"GrantRingModel", "owned", "(I)I"⟩, 24)]
theorem lw_r2 : ∀ q ∈ lw_privs_2, lw_okq q := List.forall_mem_cons.mpr ⟨lw_p16, List.forall_mem_cons.mpr ⟨lw_p17, List.forall_mem_cons.mpr ⟨lw_p18, List.forall_mem_cons.mpr ⟨lw_p19, List.forall_mem_cons.mpr ⟨lw_p20, List.forall_mem_cons.mpr ⟨lw_p21, List.forall_mem_cons.mpr ⟨lw_p22, List.forall_mem_cons.mpr ⟨lw_p23, List.forall_mem_cons.mpr ⟨lw_p24, List.forall_mem_cons.mpr ⟨lw_p25, List.forall_mem_cons.mpr ⟨lw_p26, List.forall_mem_cons.mpr ⟨lw_p27, List.forall_mem_cons.mpr ⟨lw_p28, List.forall_mem_cons.mpr ⟨lw_p29, List.forall_mem_cons.mpr ⟨lw_p30, List.forall_mem_cons.mpr ⟨lw_p31, fun _ h => absurd h List.not_mem_nil⟩⟩⟩⟩⟩⟩⟩⟩⟩⟩⟩⟩⟩⟩⟩⟩
theorem lw_p32 : lw_okq (⟨"GrantRingModel", "close", "(I)V"⟩, 24) := ⟨⟨by decide +kernel, by decide +kernel⟩, List.mem_of_getElem? (i := 513) (by decide +kernel), List.mem_of_getElem? (i := 621) (by decide +kernel), List.mem_of_getElem? (i := 622) (by decide +kernel)⟩
theorem lw_p33 : lw_okq (⟨"GrantRingModel", "owns", "(II)Z"⟩, 24) := ⟨⟨by decide +kernel, by decide +kernel⟩, List.mem_of_getElem? (i := 513) (by decide +kernel), List.mem_of_getElem? (i := 625) (by decide +kernel), List.mem_of_getElem? (i := 626) (by decide +kernel)⟩
theorem lw_p34 : lw_okq (⟨"GrantRingModel", "freePage", "()I"⟩, 24) := ⟨⟨by decide +kernel, by decide +kernel⟩, List.mem_of_getElem? (i := 513) (by decide +kernel), List.mem_of_getElem? (i := 633) (by decide +kernel), List.mem_of_getElem? (i := 634) (by decide +kernel)⟩
theorem lw_p35 : lw_okq (⟨"GrantRingModel", "freeEntry", "(I)I"⟩, 24) := ⟨⟨by decide +kernel, by decide +kernel⟩, List.mem_of_getElem? (i := 513) (by decide +kernel), List.mem_of_getElem? (i := 645) (by decide +kernel), List.mem_of_getElem? (i := 646) (by decide +kernel)⟩
theorem lw_p36 : lw_okq (⟨"GrantRingModel", "entry", "(II)I"⟩, 24) := ⟨⟨by decide +kernel, by decide +kernel⟩, List.mem_of_getElem? (i := 513) (by decide +kernel), List.mem_of_getElem? (i := 653) (by decide +kernel), List.mem_of_getElem? (i := 654) (by decide +kernel)⟩
theorem lw_p37 : lw_okq (⟨"GrantRingModel", "freeHandle", "(I)I"⟩, 24) := ⟨⟨by decide +kernel, by decide +kernel⟩, List.mem_of_getElem? (i := 513) (by decide +kernel), List.mem_of_getElem? (i := 661) (by decide +kernel), List.mem_of_getElem? (i := 662) (by decide +kernel)⟩
theorem lw_p38 : lw_okq (⟨"GrantRingModel", "refusal", "(IIIZ)I"⟩, 24) := ⟨⟨by decide +kernel, by decide +kernel⟩, List.mem_of_getElem? (i := 513) (by decide +kernel), List.mem_of_getElem? (i := 677) (by decide +kernel), List.mem_of_getElem? (i := 678) (by decide +kernel)⟩
theorem lw_p39 : lw_okq (⟨"GrantRingModel", "may", "(IIZ)Z"⟩, 24) := ⟨⟨by decide +kernel, by decide +kernel⟩, List.mem_of_getElem? (i := 513) (by decide +kernel), List.mem_of_getElem? (i := 681) (by decide +kernel), List.mem_of_getElem? (i := 682) (by decide +kernel)⟩
theorem lw_p40 : lw_okq (⟨"GrantRingModel", "closedPort", "(I)I"⟩, 24) := ⟨⟨by decide +kernel, by decide +kernel⟩, List.mem_of_getElem? (i := 513) (by decide +kernel), List.mem_of_getElem? (i := 697) (by decide +kernel), List.mem_of_getElem? (i := 698) (by decide +kernel)⟩
theorem lw_p41 : lw_okq (⟨"GrantRingModel", "trouble", "(I)I"⟩, 24) := ⟨⟨by decide +kernel, by decide +kernel⟩, List.mem_of_getElem? (i := 513) (by decide +kernel), List.mem_of_getElem? (i := 726) (by decide +kernel), List.mem_of_getElem? (i := 727) (by decide +kernel)⟩
def lw_privs_3 : List (MethodName × Nat) := [(⟨"GrantRingModel", "close", "(I)V"⟩, 24), (⟨"GrantRingModel", "owns", "(II)Z"⟩, 24), (⟨"GrantRingModel", "freePage", "()I"⟩, 24), (⟨"GrantRingModel", "freeEntry", "(I)I"⟩, 24), (⟨"GrantRingModel", "entry", "(II)I"⟩, 24), (⟨"GrantRingModel", "freeHandle", "(I)I"⟩, 24), (⟨"GrantRingModel", "refusal", "(IIIZ)I"⟩, 24), (⟨"GrantRingModel", "may", "(IIZ)Z"⟩, 24), (⟨"GrantRingModel", "closedPort", "(I)I"⟩, 24), (⟨"GrantRingModel", "trouble", "(I)I"⟩, 24)]
theorem lw_r3 : ∀ q ∈ lw_privs_3, lw_okq q := List.forall_mem_cons.mpr ⟨lw_p32, List.forall_mem_cons.mpr ⟨lw_p33, List.forall_mem_cons.mpr ⟨lw_p34, List.forall_mem_cons.mpr ⟨lw_p35, List.forall_mem_cons.mpr ⟨lw_p36, List.forall_mem_cons.mpr ⟨lw_p37, List.forall_mem_cons.mpr ⟨lw_p38, List.forall_mem_cons.mpr ⟨lw_p39, List.forall_mem_cons.mpr ⟨lw_p40, List.forall_mem_cons.mpr ⟨lw_p41, fun _ h => absurd h List.not_mem_nil⟩⟩⟩⟩⟩⟩⟩⟩⟩⟩
def lw_privs : List (MethodName × Nat) := lw_privs_1 ++ (lw_privs_2 ++ (lw_privs_3))
def lw_tbl : List Cond := k2_sels lw_privs ++ tables_1
theorem lw_privs_ok : ∀ q ∈ lw_privs, lw_okq q := by
  show ∀ q ∈ lw_privs_1 ++ (lw_privs_2 ++ (lw_privs_3)), lw_okq q
  exact List.forall_mem_append.mpr ⟨lw_r1, List.forall_mem_append.mpr ⟨lw_r2, lw_r3⟩⟩
end
section
def RX0 : String := "GrantRing"
def TX0 : u_T := fun k => match k with
  | 0 => ("GrantRing", "domains", "[LGrantRing$Domain;", true)
  | 1 => ("GrantRing", "pages", "[LGrantRing$Page;", true)
  | _ => ("GrantRing", "devices", "[LGrantRing$Device;", true)
def tyX0 : Nat → FieldType := fun k => match k with
  | 0 => .array (.object "GrantRing$Domain")
  | 1 => .array (.object "GrantRing$Page")
  | _ => .array (.object "GrantRing$Device")
theorem nmX0 : ∀ a, a < 3 → ∀ b, b < 3 → a ≠ b → (TX0 a).2.1 ≠ (TX0 b).2.1 := by decide +kernel
theorem tyX0_ok : ∀ k, k < 3 → parseFieldDescriptor (TX0 k).2.2.1 = some (tyX0 k) := by decide +kernel
def RX1 : String := "GrantRing$Domain"
def TX1 : u_T := fun k => match k with
  | 0 => ("GrantRing$Domain", "state", "I", false)
  | 1 => ("GrantRing$Domain", "entries", "[LGrantRing$Entry;", true)
  | 2 => ("GrantRing$Domain", "handles", "[LGrantRing$Handle;", true)
  | _ => ("GrantRing$Domain", "ports", "[LGrantRing$Port;", true)
def tyX1 : Nat → FieldType := fun k => match k with
  | 0 => .int
  | 1 => .array (.object "GrantRing$Entry")
  | 2 => .array (.object "GrantRing$Handle")
  | _ => .array (.object "GrantRing$Port")
theorem nmX1 : ∀ a, a < 4 → ∀ b, b < 4 → a ≠ b → (TX1 a).2.1 ≠ (TX1 b).2.1 := by decide +kernel
theorem tyX1_ok : ∀ k, k < 4 → parseFieldDescriptor (TX1 k).2.2.1 = some (tyX1 k) := by decide +kernel
def RX2 : String := "GrantRing$Page"
def TX2 : u_T := fun k => match k with
  | 0 => ("GrantRing$Page", "owner", "I", false)
  | _ => ("GrantRing$Page", "words", "[I", true)
def tyX2 : Nat → FieldType := fun k => match k with
  | 0 => .int
  | _ => .array .int
theorem nmX2 : ∀ a, a < 2 → ∀ b, b < 2 → a ≠ b → (TX2 a).2.1 ≠ (TX2 b).2.1 := by decide +kernel
theorem tyX2_ok : ∀ k, k < 2 → parseFieldDescriptor (TX2 k).2.2.1 = some (tyX2 k) := by decide +kernel
def RX3 : String := "GrantRing$Device"
def TX3 : u_T := fun k => match k with
  | 0 => ("GrantRing$Device", "present", "Z", false)
  | 1 => ("GrantRing$Device", "front", "I", false)
  | 2 => ("GrantRing$Device", "back", "I", false)
  | 3 => ("GrantRing$Device", "ringPage", "I", false)
  | 4 => ("GrantRing$Device", "ringEntry", "I", false)
  | 5 => ("GrantRing$Device", "ringHandle", "I", false)
  | 6 => ("GrantRing$Device", "frontPort", "I", false)
  | 7 => ("GrantRing$Device", "backPort", "I", false)
  | 8 => ("GrantRing$Device", "posted", "I", false)
  | 9 => ("GrantRing$Device", "reaped", "I", false)
  | 10 => ("GrantRing$Device", "taken", "I", false)
  | 11 => ("GrantRing$Device", "notedPages", "[I", true)
  | 12 => ("GrantRing$Device", "notedEntries", "[I", true)
  | _ => ("GrantRing$Device", "disk", "[I", true)
def tyX3 : Nat → FieldType := fun k => match k with
  | 0 => .boolean
  | 1 => .int
  | 2 => .int
  | 3 => .int
  | 4 => .int
  | 5 => .int
  | 6 => .int
  | 7 => .int
  | 8 => .int
  | 9 => .int
  | 10 => .int
  | 11 => .array .int
  | 12 => .array .int
  | _ => .array .int
theorem nmX3 : ∀ a, a < 14 → ∀ b, b < 14 → a ≠ b → (TX3 a).2.1 ≠ (TX3 b).2.1 := by decide +kernel
theorem tyX3_ok : ∀ k, k < 14 → parseFieldDescriptor (TX3 k).2.2.1 = some (tyX3 k) := by decide +kernel
def RX4 : String := "GrantRing$Entry"
def TX4 : u_T := fun k => match k with
  | 0 => ("GrantRing$Entry", "target", "I", false)
  | 1 => ("GrantRing$Entry", "kind", "I", false)
  | 2 => ("GrantRing$Entry", "page", "I", false)
  | _ => ("GrantRing$Entry", "mappings", "I", false)
def tyX4 : Nat → FieldType := fun k => match k with
  | 0 => .int
  | 1 => .int
  | 2 => .int
  | _ => .int
theorem nmX4 : ∀ a, a < 4 → ∀ b, b < 4 → a ≠ b → (TX4 a).2.1 ≠ (TX4 b).2.1 := by decide +kernel
theorem tyX4_ok : ∀ k, k < 4 → parseFieldDescriptor (TX4 k).2.2.1 = some (tyX4 k) := by decide +kernel
def RX5 : String := "GrantRing$Handle"
def TX5 : u_T := fun k => match k with
  | 0 => ("GrantRing$Handle", "from", "I", false)
  | 1 => ("GrantRing$Handle", "ref", "I", false)
  | _ => ("GrantRing$Handle", "writing", "Z", false)
def tyX5 : Nat → FieldType := fun k => match k with
  | 0 => .int
  | 1 => .int
  | _ => .boolean
theorem nmX5 : ∀ a, a < 3 → ∀ b, b < 3 → a ≠ b → (TX5 a).2.1 ≠ (TX5 b).2.1 := by decide +kernel
theorem tyX5_ok : ∀ k, k < 3 → parseFieldDescriptor (TX5 k).2.2.1 = some (tyX5 k) := by decide +kernel
def RX6 : String := "GrantRing$Port"
def TX6 : u_T := fun k => match k with
  | 0 => ("GrantRing$Port", "state", "I", false)
  | 1 => ("GrantRing$Port", "other", "I", false)
  | 2 => ("GrantRing$Port", "otherPort", "I", false)
  | _ => ("GrantRing$Port", "pending", "Z", false)
def tyX6 : Nat → FieldType := fun k => match k with
  | 0 => .int
  | 1 => .int
  | 2 => .int
  | _ => .boolean
theorem nmX6 : ∀ a, a < 4 → ∀ b, b < 4 → a ≠ b → (TX6 a).2.1 ≠ (TX6 b).2.1 := by decide +kernel
theorem tyX6_ok : ∀ k, k < 4 → parseFieldDescriptor (TX6 k).2.2.1 = some (tyX6 k) := by decide +kernel
def RX7 : String := "GrantRingModel"
def TX7 : u_T := fun k => match k with
  | 0 => ("GrantRingModel", "state", "[I", false)
  | 1 => ("GrantRingModel", "owner", "[I", false)
  | 2 => ("GrantRingModel", "words", "[I", false)
  | 3 => ("GrantRingModel", "target", "[I", false)
  | 4 => ("GrantRingModel", "kinds", "[I", false)
  | 5 => ("GrantRingModel", "entryPage", "[I", false)
  | 6 => ("GrantRingModel", "mapped", "[I", false)
  | 7 => ("GrantRingModel", "writes", "[Z", false)
  | 8 => ("GrantRingModel", "port", "[I", false)
  | 9 => ("GrantRingModel", "far", "[I", false)
  | 10 => ("GrantRingModel", "pending", "[Z", false)
  | 11 => ("GrantRingModel", "front", "[I", false)
  | 12 => ("GrantRingModel", "back", "[I", false)
  | 13 => ("GrantRingModel", "ring", "[I", false)
  | 14 => ("GrantRingModel", "ringEntry", "[I", false)
  | 15 => ("GrantRingModel", "ringHandle", "[I", false)
  | 16 => ("GrantRingModel", "frontPort", "[I", false)
  | 17 => ("GrantRingModel", "backPort", "[I", false)
  | 18 => ("GrantRingModel", "posted", "[I", false)
  | 19 => ("GrantRingModel", "reaped", "[I", false)
  | 20 => ("GrantRingModel", "taken", "[I", false)
  | 21 => ("GrantRingModel", "notePage", "[I", false)
  | 22 => ("GrantRingModel", "noteEntry", "[I", false)
  | _ => ("GrantRingModel", "disk", "[I", false)
def tyX7 : Nat → FieldType := fun k => match k with
  | 0 => .array .int
  | 1 => .array .int
  | 2 => .array .int
  | 3 => .array .int
  | 4 => .array .int
  | 5 => .array .int
  | 6 => .array .int
  | 7 => .array .boolean
  | 8 => .array .int
  | 9 => .array .int
  | 10 => .array .boolean
  | 11 => .array .int
  | 12 => .array .int
  | 13 => .array .int
  | 14 => .array .int
  | 15 => .array .int
  | 16 => .array .int
  | 17 => .array .int
  | 18 => .array .int
  | 19 => .array .int
  | 20 => .array .int
  | 21 => .array .int
  | 22 => .array .int
  | _ => .array .int
theorem nmX7 : ∀ a, a < 24 → ∀ b, b < 24 → a ≠ b → (TX7 a).2.1 ≠ (TX7 b).2.1 := by decide +kernel
theorem tyX7_ok : ∀ k, k < 24 → parseFieldDescriptor (TX7 k).2.2.1 = some (tyX7 k) := by decide +kernel
def RL : String := "GrantRingLaw"
def pm_cl : List vw_C := [(RX0, TX0, 3), (RX1, TX1, 4), (RX2, TX2, 2), (RX3, TX3, 14), (RX4, TX4, 4), (RX5, TX5, 3), (RX6, TX6, 4), (RX7, TX7, 24)]
def pm_ft (t : Nat) : Nat → FieldType := match t with
  | 0 => tyX0
  | 1 => tyX1
  | 2 => tyX2
  | 3 => tyX3
  | 4 => tyX4
  | 5 => tyX5
  | 6 => tyX6
  | 7 => tyX7
  | _ => fun _ => .int
def pm_fins : List (List Bool) := [[true, true, true], [false, true, true, true], [false, true], [false, false, false, false, false, false, false, false, false, false, false, true, true, true], [false, false, false, false], [false, false, false], [false, false, false, false], [false, false, false, false, false, false, false, false, false, false, false, false, false, false, false, false, false, false, false, false, false, false, false, false]]
def pm_fin (t j : Nat) : Bool := (pm_fins.getD t []).getD j false
def pm_onms : List String := [RX0, RX1, RX2, RX3, RX4, RX5, RX6, RX7, RL]
def pm_onm (o : Nat) : String := pm_onms.getD o RL
def pm_ats : List FieldType := [.int, .boolean, .object RX1, .object RX2, .object RX3, .object RX4, .object RX5, .object RX6]
def pm_at (k : Nat) : Option FieldType := pm_ats[k]?
def pm_aes : List Nat := [100, 100, 1, 2, 3, 4, 5, 6]
def pm_ae (k : Nat) : Option Nat := match pm_aes[k]? with
  | some u => if u < 100 then some u else none
  | none => none
abbrev pm_M : Type := MethodName × ByteArray × Nat × Option FieldType × Nat × Bool
def pm_ms : List pm_M := [
  (⟨RX0, "<init>", "()V"⟩, prog_1_method_1_code, 2, none, 0, true),
  (⟨RX0, "create", "()I"⟩, prog_1_method_2_code, 2, some .int, 0, false),
  (⟨RX0, "destroy", "(I)I"⟩, prog_1_method_3_code, 2, some .int, 0, false),
  (⟨RX0, "alloc", "(I)I"⟩, prog_1_method_4_code, 3, some .int, 0, false),
  (⟨RX0, "free", "(II)I"⟩, prog_1_method_5_code, 3, some .int, 0, false),
  (⟨RX0, "grant", "(IIII)I"⟩, prog_1_method_6_code, 6, some .int, 0, false),
  (⟨RX0, "end", "(II)I"⟩, prog_1_method_7_code, 4, some .int, 0, false),
  (⟨RX0, "map", "(IIIZ)I"⟩, prog_1_method_8_code, 7, some .int, 0, false),
  (⟨RX0, "unmap", "(II)I"⟩, prog_1_method_9_code, 3, some .int, 0, false),
  (⟨RX0, "give", "(IIII)I"⟩, prog_1_method_10_code, 6, some .int, 0, false),
  (⟨RX0, "store", "(IIII)I"⟩, prog_1_method_11_code, 6, some .int, 0, false),
  (⟨RX0, "load", "(III)J"⟩, prog_1_method_12_code, 5, some .long, 0, false),
  (⟨RX0, "open", "(II)I"⟩, prog_1_method_13_code, 4, some .int, 0, false),
  (⟨RX0, "bind", "(III)I"⟩, prog_1_method_14_code, 5, some .int, 0, false),
  (⟨RX0, "send", "(II)I"⟩, prog_1_method_15_code, 5, some .int, 0, false),
  (⟨RX0, "next", "(I)I"⟩, prog_1_method_16_code, 4, some .int, 0, false),
  (⟨RX0, "attach", "(II)I"⟩, prog_1_method_17_code, 5, some .int, 0, false),
  (⟨RX0, "submit", "(IZII)I"⟩, prog_1_method_18_code, 10, some .int, 0, false),
  (⟨RX0, "serve", "(I)I"⟩, prog_1_method_19_code, 9, some .int, 0, false),
  (⟨RX0, "reap", "(I)J"⟩, prog_1_method_20_code, 11, some .long, 0, false),
  (⟨RX0, "look", "(III)J"⟩, prog_1_method_21_code, 4, some .long, 0, false),
  (⟨RX0, "isDomain", "(I)Z"⟩, prog_1_method_22_code, 1, some .boolean, 0, false),
  (⟨RX0, "isOtherDomain", "(II)Z"⟩, prog_1_method_23_code, 2, some .boolean, 0, false),
  (⟨RX0, "isPage", "(I)Z"⟩, prog_1_method_24_code, 1, some .boolean, 0, false),
  (⟨RX0, "isPort", "(I)Z"⟩, prog_1_method_25_code, 1, some .boolean, 0, false),
  (⟨RX0, "isLive", "(I)Z"⟩, prog_1_method_26_code, 2, some .boolean, 0, false),
  (⟨RX0, "isPresent", "(I)Z"⟩, prog_1_method_27_code, 2, some .boolean, 0, false),
  (⟨RX0, "owns", "(II)Z"⟩, prog_1_method_28_code, 3, some .boolean, 0, false),
  (⟨RX0, "pagesOwnedBy", "(I)I"⟩, prog_1_method_29_code, 4, some .int, 0, false),
  (⟨RX0, "pageToGet", "(I)I"⟩, prog_1_method_30_code, 2, some .int, 0, false),
  (⟨RX0, "leastFreePage", "()I"⟩, prog_1_method_31_code, 2, some .int, 0, false),
  (⟨RX0, "accessCode", "(IIIZ)I"⟩, prog_1_method_32_code, 5, some .int, 0, false),
  (⟨RX0, "hasMappingOf", "(IIZ)Z"⟩, prog_1_method_33_code, 6, some .boolean, 0, false),
  (⟨RX0, "entryOf", "(LGrantRing$Handle;)LGrantRing$Entry;"⟩, prog_1_method_34_code, 2, some (.object "GrantRing$Entry"), 0, false),
  (⟨RX0, "pageOf", "(LGrantRing$Handle;)I"⟩, prog_1_method_35_code, 2, some .int, 0, false),
  (⟨RX0, "peerOf", "(LGrantRing$Port;)LGrantRing$Port;"⟩, prog_1_method_36_code, 2, some (.object "GrantRing$Port"), 0, false),
  (⟨RX0, "takeAway", "(LGrantRing$Handle;)V"⟩, prog_1_method_37_code, 4, none, 0, false),
  (⟨RX0, "release", "(ILGrantRing$Entry;)V"⟩, prog_1_method_38_code, 4, none, 0, false),
  (⟨RX0, "buryIfPageless", "(I)V"⟩, prog_1_method_39_code, 2, none, 0, false),
  (⟨RX0, "removeDevicesOf", "(I)V"⟩, prog_1_method_40_code, 3, none, 0, false),
  (⟨RX0, "takeAwayMappingsOf", "(I)V"⟩, prog_1_method_41_code, 4, none, 0, false),
  (⟨RX0, "closePortsOf", "(I)V"⟩, prog_1_method_42_code, 4, none, 0, false),
  (⟨RX0, "freeUnmappedPagesOf", "(I)V"⟩, prog_1_method_43_code, 3, none, 0, false),
  (⟨RX0, "leastAbsentDevice", "()I"⟩, prog_1_method_44_code, 2, some .int, 0, false),
  (⟨RX0, "canGrantNewPage", "(I)Z"⟩, prog_1_method_45_code, 2, some .boolean, 0, false),
  (⟨RX0, "hasRoomForFront", "(I)Z"⟩, prog_1_method_46_code, 2, some .boolean, 0, false),
  (⟨RX0, "hasRoomForBack", "(I)Z"⟩, prog_1_method_47_code, 2, some .boolean, 0, false),
  (⟨RX0, "deviceCode", "(I)I"⟩, prog_1_method_48_code, 2, some .int, 0, false),
  (⟨RX0, "isWhole", "(LGrantRing$Device;)Z"⟩, prog_1_method_49_code, 3, some .boolean, 0, false),
  (⟨RX0, "post", "(LGrantRing$Device;III)I"⟩, prog_1_method_50_code, 8, some .int, 0, false),
  (⟨RX0, "carryOut", "(LGrantRing$Device;I)I"⟩, prog_1_method_51_code, 7, some .int, 0, false),
  (⟨RX1, "<init>", "()V"⟩, prog_3_method_1_code, 2, none, 1, true),
  (⟨RX1, "hasEntry", "(I)Z"⟩, prog_3_method_2_code, 2, some .boolean, 1, false),
  (⟨RX1, "hasMapping", "(I)Z"⟩, prog_3_method_3_code, 2, some .boolean, 1, false),
  (⟨RX1, "hasEntryWith", "(I)Z"⟩, prog_3_method_4_code, 3, some .boolean, 1, false),
  (⟨RX1, "hasMappedEntryWith", "(I)Z"⟩, prog_3_method_5_code, 3, some .boolean, 1, false),
  (⟨RX1, "leastFreeEntry", "()I"⟩, prog_3_method_6_code, 2, some .int, 1, false),
  (⟨RX1, "leastFreeHandle", "()I"⟩, prog_3_method_7_code, 2, some .int, 1, false),
  (⟨RX1, "leastClosedPort", "()I"⟩, prog_3_method_8_code, 2, some .int, 1, false),
  (⟨RX1, "clearUnmappedEntries", "()V"⟩, prog_3_method_9_code, 2, none, 1, false),
  (⟨RX2, "<init>", "()V"⟩, prog_6_method_1_code, 1, none, 2, true),
  (⟨RX2, "wipe", "()V"⟩, prog_6_method_2_code, 2, none, 2, false),
  (⟨RX3, "<init>", "()V"⟩, prog_2_method_1_code, 1, none, 3, true),
  (⟨RX3, "begin", "(II)V"⟩, prog_2_method_2_code, 4, none, 3, false),
  (⟨RX3, "underway", "()I"⟩, prog_2_method_3_code, 1, some .int, 3, false),
  (⟨RX4, "<init>", "()V"⟩, prog_4_method_1_code, 1, none, 4, true),
  (⟨RX4, "isFree", "()Z"⟩, prog_4_method_2_code, 1, some .boolean, 4, false),
  (⟨RX4, "isMapped", "()Z"⟩, prog_4_method_3_code, 1, some .boolean, 4, false),
  (⟨RX4, "fill", "(III)V"⟩, prog_4_method_4_code, 4, none, 4, false),
  (⟨RX4, "clear", "()V"⟩, prog_4_method_5_code, 1, none, 4, false),
  (⟨RX5, "<init>", "()V"⟩, prog_5_method_1_code, 1, none, 5, true),
  (⟨RX5, "isFree", "()Z"⟩, prog_5_method_2_code, 1, some .boolean, 5, false),
  (⟨RX5, "fill", "(IIZ)V"⟩, prog_5_method_3_code, 4, none, 5, false),
  (⟨RX5, "clear", "()V"⟩, prog_5_method_4_code, 1, none, 5, false),
  (⟨RX6, "<init>", "()V"⟩, prog_7_method_1_code, 1, none, 6, true),
  (⟨RX6, "isWaitingFor", "(I)Z"⟩, prog_7_method_2_code, 2, some .boolean, 6, false),
  (⟨RX6, "waitFor", "(I)V"⟩, prog_7_method_3_code, 2, none, 6, false),
  (⟨RX6, "joinTo", "(II)V"⟩, prog_7_method_4_code, 3, none, 6, false),
  (⟨RX6, "close", "()V"⟩, prog_7_method_5_code, 1, none, 6, false),
  (⟨RX6, "become", "(III)V"⟩, prog_7_method_6_code, 4, none, 6, false),
  (⟨RX7, "<init>", "()V"⟩, prog_9_method_1_code, 1, none, 7, true),
  (⟨RX7, "live", "(I)Z"⟩, prog_9_method_2_code, 2, some .boolean, 7, false),
  (⟨RX7, "owns", "(II)Z"⟩, prog_9_method_3_code, 3, some .boolean, 7, false),
  (⟨RX7, "owned", "(I)I"⟩, prog_9_method_4_code, 4, some .int, 7, false),
  (⟨RX7, "freePage", "()I"⟩, prog_9_method_5_code, 2, some .int, 7, false),
  (⟨RX7, "freeEntry", "(I)I"⟩, prog_9_method_6_code, 3, some .int, 7, false),
  (⟨RX7, "freeHandle", "(I)I"⟩, prog_9_method_7_code, 3, some .int, 7, false),
  (⟨RX7, "closedPort", "(I)I"⟩, prog_9_method_8_code, 3, some .int, 7, false),
  (⟨RX7, "mappings", "(I)I"⟩, prog_9_method_9_code, 4, some .int, 7, false),
  (⟨RX7, "held", "(IIZ)Z"⟩, prog_9_method_10_code, 5, some .boolean, 7, false),
  (⟨RX7, "create", "()I"⟩, prog_9_method_11_code, 2, some .int, 7, false),
  (⟨RX7, "takeAway", "(I)V"⟩, prog_9_method_12_code, 4, none, 7, false),
  (⟨RX7, "close", "(I)V"⟩, prog_9_method_13_code, 2, none, 7, false),
  (⟨RX7, "destroy", "(I)I"⟩, prog_9_method_14_code, 3, some .int, 7, false),
  (⟨RX7, "alloc", "(I)I"⟩, prog_9_method_15_code, 4, some .int, 7, false),
  (⟨RX7, "free", "(II)I"⟩, prog_9_method_16_code, 3, some .int, 7, false),
  (⟨RX7, "grant", "(IIII)I"⟩, prog_9_method_17_code, 6, some .int, 7, false),
  (⟨RX7, "entry", "(II)I"⟩, prog_9_method_18_code, 3, some .int, 7, false),
  (⟨RX7, "end", "(II)I"⟩, prog_9_method_19_code, 4, some .int, 7, false),
  (⟨RX7, "map", "(IIIZ)I"⟩, prog_9_method_20_code, 7, some .int, 7, false),
  (⟨RX7, "unmap", "(II)I"⟩, prog_9_method_21_code, 3, some .int, 7, false),
  (⟨RX7, "give", "(IIII)I"⟩, prog_9_method_22_code, 6, some .int, 7, false),
  (⟨RX7, "may", "(IIZ)Z"⟩, prog_9_method_23_code, 6, some .boolean, 7, false),
  (⟨RX7, "refusal", "(IIIZ)I"⟩, prog_9_method_24_code, 5, some .int, 7, false),
  (⟨RX7, "store", "(IIII)I"⟩, prog_9_method_25_code, 6, some .int, 7, false),
  (⟨RX7, "plain", "(I)J"⟩, prog_9_method_26_code, 1, some .long, 7, false),
  (⟨RX7, "load", "(III)J"⟩, prog_9_method_27_code, 5, some .long, 7, false),
  (⟨RX7, "open", "(II)I"⟩, prog_9_method_28_code, 4, some .int, 7, false),
  (⟨RX7, "bind", "(III)I"⟩, prog_9_method_29_code, 5, some .int, 7, false),
  (⟨RX7, "send", "(II)I"⟩, prog_9_method_30_code, 4, some .int, 7, false),
  (⟨RX7, "next", "(I)I"⟩, prog_9_method_31_code, 3, some .int, 7, false),
  (⟨RX7, "attach", "(II)I"⟩, prog_9_method_32_code, 6, some .int, 7, false),
  (⟨RX7, "trouble", "(I)I"⟩, prog_9_method_33_code, 4, some .int, 7, false),
  (⟨RX7, "submit", "(IZII)I"⟩, prog_9_method_34_code, 10, some .int, 7, false),
  (⟨RX7, "serve", "(I)I"⟩, prog_9_method_35_code, 14, some .int, 7, false),
  (⟨RX7, "reap", "(I)J"⟩, prog_9_method_36_code, 12, some .long, 7, false),
  (⟨RX7, "look", "(III)J"⟩, prog_9_method_37_code, 4, some .long, 7, false),
  (⟨RL, "<init>", "()V"⟩, code, 1, none, 8, true),
  (⟨RL, "cell", "([II)I"⟩, code, 2, some .int, 8, false),
  (⟨RL, "law", "([I)Z"⟩, code, 4, some .boolean, 8, false)]
def pm_m0 : pm_M := (⟨RL, "law", "([I)Z"⟩, code, 4, some .boolean, 8, false)
def pm_m (y : Nat) : pm_M := pm_ms.getD y pm_m0
def pm_y (y : Nat) : MethodName := (pm_m y).1
def pm_code (y : Nat) : ByteArray := (pm_m y).2.1
def pm_maxL (y : Nat) : Nat := (pm_m y).2.2.1
def pm_ret (y : Nat) : Option FieldType := (pm_m y).2.2.2.1
def pm_oc (y : Nat) : Nat := (pm_m y).2.2.2.2.1
def pm_ini (y : Nat) : Bool := (pm_m y).2.2.2.2.2
def pm_own (y : Nat) : String := pm_onm (pm_oc y)
def pm_fls : List (List (Nat × Nat × Nat × Nat)) := [
  [(11, 0, 0, 234), (17, 0, 1, 235), (23, 0, 2, 236), (30, 1, 0, 141), (61, 2, 0, 163), (81, 1, 1, 143), (101, 4, 1, 84), (104, 4, 0, 82), (110, 1, 2, 145), (119, 4, 3, 89), (136, 2, 1, 165), (145, 1, 3, 147), (164, 6, 0, 124), (169, 6, 3, 130), (188, 3, 3, 184), (195, 3, 4, 186), (201, 3, 5, 188), (208, 3, 6, 190), (215, 3, 7, 192), (224, 3, 1, 180), (233, 3, 2, 182), (240, 3, 10, 198), (252, 3, 9, 196), (259, 3, 11, 200), (266, 3, 12, 202), (292, 3, 13, 204), (295, 3, 0, 178), (308, 5, 2, 109), (311, 5, 0, 105), (314, 5, 1, 107), (321, 4, 2, 87), (324, 6, 1, 126), (327, 6, 2, 128), (345, 3, 8, 194)],
  [(9, 1, 0, 140), (17, 1, 1, 142), (23, 1, 2, 144), (29, 1, 3, 146), (41, 4, 2, 86), (47, 6, 0, 123)],
  [(9, 2, 0, 162), (15, 2, 1, 164)],
  [(9, 3, 0, 177), (15, 3, 1, 179), (19, 3, 2, 181), (22, 3, 3, 183), (25, 3, 4, 185), (28, 3, 5, 187), (31, 3, 6, 189), (34, 3, 7, 191), (37, 3, 8, 193), (40, 3, 9, 195), (43, 3, 10, 197), (46, 3, 11, 199), (50, 3, 12, 201), (53, 3, 13, 203)],
  [(9, 4, 0, 81), (15, 4, 1, 83), (18, 4, 2, 85), (21, 4, 3, 88)],
  [(9, 5, 0, 104), (15, 5, 1, 106), (18, 5, 2, 108)],
  [(9, 6, 0, 122), (15, 6, 1, 125), (18, 6, 2, 127), (21, 6, 3, 129)],
  [(7, 7, 0, 560), (13, 7, 1, 561), (16, 7, 2, 562), (19, 7, 3, 563), (22, 7, 4, 564), (25, 7, 5, 565), (28, 7, 6, 566), (31, 7, 7, 567), (35, 7, 8, 568), (38, 7, 9, 569), (41, 7, 10, 570), (44, 7, 11, 571), (47, 7, 12, 572), (50, 7, 13, 573), (53, 7, 14, 574), (56, 7, 15, 575), (59, 7, 16, 576), (62, 7, 17, 577), (65, 7, 18, 578), (68, 7, 19, 579), (71, 7, 20, 580), (74, 7, 21, 581), (77, 7, 22, 582), (80, 7, 23, 583)],
  []]
def pm_cals : List (List (Nat × Nat × Nat × Nat × Nat × Nat × Nat × Nat)) := [
  [(1, 4, 0, 1, 56, 0, 0, 0), (27, 2, 51, 1, 66, 68, 67, 0), (28, 3, 60, 1, 0, 160, 159, 0), (29, 3, 62, 1, 0, 175, 174, 0), (34, 0, 25, 2, 252, 255, 254, 0), (38, 0, 39, 2, 259, 262, 261, 1), (42, 0, 40, 2, 263, 266, 265, 2), (45, 0, 41, 2, 316, 319, 318, 8), (48, 0, 59, 1, 332, 335, 333, 334), (51, 0, 42, 2, 337, 340, 339, 11), (54, 0, 38, 2, 308, 311, 310, 6), (57, 0, 29, 2, 345, 348, 347, 12), (64, 0, 61, 1, 353, 356, 354, 355), (67, 0, 27, 3, 361, 364, 363, 14), (71, 0, 54, 2, 368, 371, 369, 370), (74, 1, 22, 2, 376, 378, 377, 0), (77, 0, 56, 1, 379, 382, 380, 381), (85, 0, 68, 4, 387, 302, 300, 301), (91, 0, 52, 2, 392, 395, 393, 394), (94, 0, 67, 1, 287, 290, 288, 289), (98, 0, 69, 1, 295, 298, 296, 297), (107, 0, 57, 1, 400, 403, 401, 402), (114, 0, 72, 4, 405, 286, 284, 285), (122, 0, 53, 2, 410, 413, 411, 412), (125, 0, 36, 2, 271, 274, 273, 3), (129, 0, 28, 2, 312, 315, 314, 7), (132, 0, 31, 5, 422, 425, 424, 15), (142, 0, 58, 1, 443, 446, 444, 445), (149, 0, 76, 2, 447, 450, 448, 449), (154, 1, 24, 1, 455, 457, 456, 0), (157, 0, 75, 2, 458, 461, 459, 460), (160, 0, 77, 3, 462, 465, 463, 464), (165, 0, 35, 2, 320, 323, 322, 9), (173, 0, 43, 1, 478, 481, 480, 18), (176, 0, 45, 2, 482, 485, 484, 19), (179, 0, 46, 2, 490, 493, 492, 21), (182, 0, 63, 3, 494, 497, 495, 496), (185, 0, 3, 2, 498, 344, 342, 343), (191, 0, 5, 5, 499, 375, 373, 374), (198, 0, 7, 5, 500, 399, 397, 398), (204, 0, 12, 3, 501, 442, 440, 441), (211, 0, 13, 4, 502, 454, 452, 453), (218, 0, 47, 2, 507, 510, 509, 22), (221, 0, 64, 1, 519, 522, 520, 521), (227, 0, 44, 2, 486, 489, 488, 20), (230, 0, 10, 5, 523, 421, 419, 420), (236, 0, 49, 5, 524, 527, 526, 25), (245, 0, 50, 3, 534, 537, 536, 26), (249, 0, 14, 3, 528, 469, 467, 468), (262, 0, 11, 4, 545, 437, 435, 436), (269, 0, 6, 3, 546, 391, 389, 390), (272, 0, 4, 3, 547, 360, 358, 359), (277, 1, 21, 1, 256, 258, 257, 0), (282, 1, 23, 1, 365, 367, 366, 0), (285, 0, 34, 2, 430, 433, 432, 17), (289, 0, 26, 2, 511, 514, 513, 23), (298, 0, 30, 1, 349, 352, 351, 13), (301, 0, 32, 4, 426, 429, 428, 16), (305, 0, 71, 1, 267, 270, 268, 269), (317, 0, 33, 2, 275, 278, 277, 4), (330, 0, 73, 1, 279, 282, 280, 281), (331, 0, 37, 3, 291, 294, 293, 5), (335, 0, 55, 2, 303, 306, 304, 305), (338, 0, 78, 1, 324, 327, 325, 326), (341, 0, 48, 2, 515, 518, 517, 24), (348, 0, 8, 3, 538, 409, 407, 408)],
  [(3, 4, 0, 1, 69, 0, 0, 0), (33, 3, 65, 1, 0, 79, 78, 0), (34, 3, 70, 1, 0, 102, 101, 0), (35, 3, 74, 1, 0, 120, 119, 0), (36, 0, 66, 1, 383, 386, 384, 385), (40, 0, 71, 1, 404, 270, 268, 269), (44, 0, 67, 1, 307, 290, 288, 289), (48, 0, 69, 1, 336, 298, 296, 297)],
  [(3, 4, 0, 1, 161, 0, 0, 0)],
  [(3, 4, 0, 1, 176, 0, 0, 0)],
  [(3, 4, 0, 1, 80, 0, 0, 0), (24, 0, 68, 4, 299, 302, 300, 301)],
  [(3, 4, 0, 1, 103, 0, 0, 0), (22, 0, 72, 4, 283, 286, 284, 285)],
  [(3, 4, 0, 1, 121, 0, 0, 0), (25, 0, 79, 4, 328, 331, 330, 10)],
  [(1, 4, 0, 1, 559, 0, 0, 0), (83, 0, 88, 2, 650, 653, 652, 29), (87, 0, 89, 4, 654, 657, 656, 30), (91, 0, 83, 2, 658, 661, 660, 31), (94, 0, 81, 2, 642, 645, 644, 27), (98, 0, 91, 2, 646, 649, 648, 28), (102, 0, 92, 2, 662, 665, 664, 32), (105, 0, 82, 3, 666, 669, 668, 33), (109, 0, 84, 1, 674, 677, 676, 34), (113, 0, 85, 2, 686, 689, 688, 35), (116, 0, 97, 3, 694, 697, 696, 36), (120, 0, 86, 2, 702, 705, 704, 37), (123, 0, 102, 4, 722, 725, 724, 39), (126, 0, 103, 5, 718, 721, 720, 38), (132, 1, 105, 1, 730, 732, 731, 0), (136, 0, 87, 2, 738, 741, 740, 40), (139, 0, 94, 2, 758, 673, 671, 672), (142, 0, 96, 5, 759, 685, 683, 684), (146, 0, 99, 5, 760, 701, 699, 700), (149, 0, 107, 3, 761, 737, 735, 736), (152, 0, 108, 4, 762, 745, 743, 744), (156, 0, 112, 2, 767, 770, 769, 41), (159, 0, 109, 3, 771, 749, 747, 748), (168, 0, 106, 4, 783, 729, 727, 728), (172, 0, 98, 3, 784, 693, 691, 692), (175, 0, 95, 3, 785, 681, 679, 680)],
  [(9, 2, 0, 1, 53, 55, 54, 0), (12, 2, 80, 1, 556, 558, 557, 0), (13, 0, 1, 1, 244, 247, 245, 246), (17, 0, 90, 1, 634, 637, 635, 636), (18, 0, 2, 2, 248, 251, 249, 250), (22, 0, 93, 2, 638, 641, 639, 640), (23, 0, 3, 2, 341, 344, 342, 343), (26, 0, 94, 2, 670, 673, 671, 672), (27, 0, 4, 3, 357, 360, 358, 359), (31, 0, 95, 3, 678, 681, 679, 680), (32, 0, 5, 5, 372, 375, 373, 374), (36, 0, 96, 5, 682, 685, 683, 684), (37, 0, 6, 3, 388, 391, 389, 390), (40, 0, 98, 3, 690, 693, 691, 692), (41, 0, 7, 5, 396, 399, 397, 398), (45, 0, 99, 5, 698, 701, 699, 700), (46, 0, 8, 3, 406, 409, 407, 408), (49, 0, 100, 3, 706, 709, 707, 708), (50, 0, 9, 5, 414, 417, 415, 416), (53, 0, 101, 5, 710, 713, 711, 712), (54, 0, 10, 5, 418, 421, 419, 420), (57, 0, 104, 5, 714, 717, 715, 716), (58, 0, 11, 4, 434, 437, 435, 436), (62, 0, 106, 4, 726, 729, 727, 728), (63, 0, 12, 3, 439, 442, 440, 441), (66, 0, 107, 3, 734, 737, 735, 736), (67, 0, 13, 4, 451, 454, 452, 453), (71, 0, 108, 4, 742, 745, 743, 744), (72, 0, 14, 3, 466, 469, 467, 468), (75, 0, 109, 3, 746, 749, 747, 748), (76, 0, 15, 2, 470, 473, 471, 472), (79, 0, 110, 2, 750, 753, 751, 752), (80, 0, 16, 3, 474, 477, 475, 476), (83, 0, 111, 3, 754, 757, 755, 756), (84, 0, 17, 5, 503, 506, 504, 505), (88, 0, 113, 5, 763, 766, 764, 765), (89, 0, 18, 2, 529, 532, 530, 531), (92, 0, 114, 2, 772, 775, 773, 774), (93, 0, 19, 2, 539, 542, 540, 541), (97, 0, 115, 2, 777, 780, 778, 779), (98, 0, 20, 4, 549, 552, 550, 551), (101, 0, 116, 4, 787, 790, 788, 789)]]
def pm_nws : List (List (Nat × Nat × Nat)) := [
  [(9, 1, 59), (15, 2, 61), (21, 3, 63)],
  [(15, 4, 70), (21, 5, 72), (27, 6, 74)],
  [],
  [],
  [],
  [],
  [],
  [],
  [(7, 0, 51), (10, 7, 554)]]
def pm_ans : List (List (Nat × Nat × Nat)) := [
  [(9, 2, 59), (15, 3, 61), (21, 4, 63)],
  [(15, 5, 70), (21, 6, 72), (27, 7, 74)],
  [],
  [],
  [],
  [],
  [],
  [],
  []]
def pm_l2s : List (List (Nat × Int64 × Nat)) := [
  [(140, 4294967295, 438), (243, 3, 533), (255, -11, 543), (257, -12, 544), (275, -13, 548), (280, -1, 553)],
  [],
  [],
  [],
  [],
  [],
  [],
  [(130, 4294967296, 733), (162, 3, 776), (164, -11, 781), (166, -12, 782), (178, -13, 786), (180, -1, 791)],
  []]
def pm_fl (o x : Nat) : Option (Nat × Nat) := ((pm_fls.getD o []).lookup x).map fun q => (q.1, q.2.1)
def pm_cal (o x : Nat) : Option (Nat × Nat × Nat) := ((pm_cals.getD o []).lookup x).map fun q => (q.1, q.2.1, q.2.2.1)
def pm_nw (o x : Nat) : Option Nat := ((pm_nws.getD o []).lookup x).map fun q => q.1
def pm_an (o x : Nat) : Option Nat := ((pm_ans.getD o []).lookup x).map fun q => q.1
def pm_l2 (o x : Nat) : Option Int64 := ((pm_l2s.getD o []).lookup x).map fun q => q.1
def pm_nests : List (String × Nat × MethodName × String) := [(RX1, 33, ⟨RX4, "<init>", "()V"⟩, RX0), (RX1, 34, ⟨RX5, "<init>", "()V"⟩, RX0), (RX1, 35, ⟨RX6, "<init>", "()V"⟩, RX0), (RX0, 28, ⟨RX2, "<init>", "()V"⟩, RX0), (RX0, 29, ⟨RX3, "<init>", "()V"⟩, RX0)]
def pm_nest : List Cond := pm_nests.map fun q => .methodLinkNest q.1 q.2.1 q.2.2.1 q.2.2.2
def pm_over : List String := [RX1, RX2, RX3, RX4, RX5, RX6]
def pm_T : List Cond := lw_tbl.filter goodWord
def pm_in (n : Nat) (w : Cond) : Bool := decide (lw_tbl[n]? = some w) && goodWord w
theorem pm_in_mem {n : Nat} {w : Cond} (h : pm_in n w = true) : w ∈ pm_T := by
  simp only [pm_in, Bool.and_eq_true, decide_eq_true_eq] at h
  exact List.mem_filter.mpr ⟨List.mem_of_getElem? h.1, h.2⟩
theorem pm_T_good (w : Cond) (h : w ∈ pm_T) : (w.onTables && w.keeps) = true ∨ ∃ ty, w = .arrayClass ty := good_of_word (List.mem_filter.mp h).2
theorem pm_look {α : Type} {l : List (List (Nat × α))} {o x : Nat} {v : α} (h : (l.getD o []).lookup x = some v) : ∃ r, l[o]? = some r ∧ (x, v) ∈ r := by
  have h1 : ∀ r : List (Nat × α), r.lookup x = some v → (x, v) ∈ r := by
    intro r
    induction r with
    | nil => intro h; cases h
    | cons q r ih =>
      obtain ⟨a, b⟩ := q
      intro h
      by_cases hx : x = a
      · subst hx
        simp at h
        subst h
        exact List.mem_cons_self
      · have hb : (x == a) = false := by simp [hx]
        rw [List.lookup, hb] at h
        exact List.mem_cons_of_mem _ (ih h)
  have h2 := h1 _ h
  rw [List.getD_eq_getElem?_getD] at h2
  cases h3 : l[o]? with
  | none => rw [h3] at h2; cases h2
  | some r => rw [h3] at h2; exact ⟨r, rfl, h2⟩
theorem pm_all {α : Type} {l : List (List (Nat × α))} {chk : Nat → Nat → α → Bool} (h : (l.zipIdx.all fun q => q.1.all fun z => chk q.2 z.1 z.2) = true) {o x : Nat} {v : α} (hl : (l.getD o []).lookup x = some v) : chk o x v = true := by
  obtain ⟨r, h1, h2⟩ := pm_look hl
  have h3 := List.all_eq_true.mp h (r, o) (List.mem_zipIdx_iff_getElem?.mpr h1)
  exact List.all_eq_true.mp h3 (x, v) h2
def pm_ui : List (List Nat) := [[237, 239, 241], [148, 150, 152, 154], [166, 168], [205, 207, 209, 211, 213, 215, 217, 219, 221, 223, 225, 227, 229, 231], [90, 92, 94, 96], [110, 112, 114], [131, 133, 135, 137], [584, 586, 588, 590, 592, 594, 596, 598, 600, 602, 604, 606, 608, 610, 612, 614, 616, 618, 620, 622, 624, 626, 628, 630]]
def pm_uchk (t : Nat) : Bool := match pm_cl[t]? with
  | some r => (List.range r.2.2).all fun k => pm_in ((pm_ui.getD t []).getD k 0) (u_lay r.1 r.2.1 k)
  | none => true
theorem pm_u_ok0 : ((List.range 8).all pm_uchk) = true := by decide +kernel
theorem pm_cl_lt {t : Nat} {r : vw_C} (h : pm_cl[t]? = some r) : t < 8 := (List.getElem?_eq_some_iff.mp h).1
theorem pm_u_ok {t : Nat} {r : vw_C} (h : pm_cl[t]? = some r) : ∀ w ∈ u_ws r.1 r.2.1 r.2.2, w ∈ pm_T := by
  intro w hw
  obtain ⟨k, hk, rfl⟩ := List.mem_map.mp hw
  have h1 := List.all_eq_true.mp pm_u_ok0 t (List.mem_range.mpr (pm_cl_lt h))
  simp only [pm_uchk, h] at h1
  exact pm_in_mem (List.all_eq_true.mp h1 k hk)
def pm_flchk (o x : Nat) (q : Nat × Nat × Nat) : Bool := match pm_cl[q.1]? with
  | some r => decide (q.2.1 < r.2.2) && pm_in q.2.2 (.fieldLink (pm_onm o) x (r.2.1 q.2.1).1 (r.2.1 q.2.1).2.1 (r.2.1 q.2.1).2.2.1)
  | none => false
theorem pm_fl_ok0 : (pm_fls.zipIdx.all fun q => q.1.all fun z => pm_flchk q.2 z.1 z.2) = true := by decide +kernel
theorem pm_fl_ok {o x t j : Nat} (h : pm_fl o x = some (t, j)) : ∃ r0 : vw_C, pm_cl[t]? = some r0 ∧ j < r0.2.2 ∧ Cond.fieldLink (pm_onm o) x (r0.2.1 j).1 (r0.2.1 j).2.1 (r0.2.1 j).2.2.1 ∈ pm_T ∧ ∀ w ∈ u_ws r0.1 r0.2.1 r0.2.2, w ∈ pm_T := by
  obtain ⟨⟨t', j', n⟩, h1, h2⟩ := Option.map_eq_some_iff.mp h
  cases h2
  have h3 := pm_all pm_fl_ok0 h1
  unfold pm_flchk at h3
  split at h3
  · next r hr =>
    simp only [Bool.and_eq_true, decide_eq_true_eq] at h3
    exact ⟨r, hr, h3.1, pm_in_mem h3.2, pm_u_ok hr⟩
  · cases h3
theorem pm_ft_ok {t : Nat} {r : vw_C} (h : pm_cl[t]? = some r) : (∀ k, k < r.2.2 → parseFieldDescriptor (r.2.1 k).2.2.1 = some (pm_ft t k)) ∧ ∀ a, a < r.2.2 → ∀ b, b < r.2.2 → a ≠ b → (r.2.1 a).2.1 ≠ (r.2.1 b).2.1 := by
  match t, h with
  | 0, h => cases h; exact ⟨tyX0_ok, nmX0⟩
  | 1, h => cases h; exact ⟨tyX1_ok, nmX1⟩
  | 2, h => cases h; exact ⟨tyX2_ok, nmX2⟩
  | 3, h => cases h; exact ⟨tyX3_ok, nmX3⟩
  | 4, h => cases h; exact ⟨tyX4_ok, nmX4⟩
  | 5, h => cases h; exact ⟨tyX5_ok, nmX5⟩
  | 6, h => cases h; exact ⟨tyX6_ok, nmX6⟩
  | 7, h => cases h; exact ⟨tyX7_ok, nmX7⟩
  | n + 8, h => exact absurd (pm_cl_lt h) (by omega)
def pm_fchk (t : Nat) : Bool := match pm_cl[t]? with
  | some r => (List.range r.2.2).all fun k => decide (pm_fin t k = (r.2.1 k).2.2.2) && decide ((r.2.1 k).1 = pm_onm t)
  | none => true
theorem pm_fin_ok0 : ((List.range 8).all pm_fchk) = true := by decide +kernel
theorem pm_fin_ok {t j : Nat} {r : vw_C} (h : pm_cl[t]? = some r) (hj : j < r.2.2) : pm_fin t j = (r.2.1 j).2.2.2 ∧ (r.2.1 j).1 = pm_onm t := by
  have h1 := List.all_eq_true.mp pm_fin_ok0 t (List.mem_range.mpr (pm_cl_lt h))
  simp only [pm_fchk, h] at h1
  have h2 := List.all_eq_true.mp h1 j (List.mem_range.mpr hj)
  simp only [Bool.and_eq_true, decide_eq_true_eq] at h2
  exact h2
theorem pm_ae_ok {k u : Nat} (h : pm_ae k = some u) : ∃ r : vw_C, pm_cl[u]? = some r ∧ pm_at k = some (.object r.1) ∧ u < 100 := by
  match k, h with
  | 0, h => cases h
  | 1, h => cases h
  | 2, h => cases h; exact ⟨_, rfl, rfl, by decide⟩
  | 3, h => cases h; exact ⟨_, rfl, rfl, by decide⟩
  | 4, h => cases h; exact ⟨_, rfl, rfl, by decide⟩
  | 5, h => cases h; exact ⟨_, rfl, rfl, by decide⟩
  | 6, h => cases h; exact ⟨_, rfl, rfl, by decide⟩
  | 7, h => cases h; exact ⟨_, rfl, rfl, by decide⟩
  | n + 8, h => simp [pm_ae, pm_aes] at h
theorem pm_T_ints : Cond.arrayClass .int ∈ pm_T := pm_in_mem (n := 171) (by decide +kernel)
theorem pm_T_booleans : Cond.arrayClass .boolean ∈ pm_T := pm_in_mem (n := 633) (by decide +kernel)
def pm_insti : List Nat := [52, 65, 157, 172, 76, 99, 117, 555]
def pm_inii : List Nat := [43, 44, 48, 49, 45, 46, 47, 50, 42]
def pm_nwchk (o x : Nat) (q : Nat × Nat) : Bool := match pm_cl[q.1]? with
  | some r => pm_in q.2 (.classLink (pm_onm o) x r.1) && pm_in (pm_insti.getD q.1 0) (.instantiable r.1 r.2.2) && pm_in (pm_inii.getD q.1 0) (.initialized r.1)
  | none => false
theorem pm_nw_ok0 : (pm_nws.zipIdx.all fun q => q.1.all fun z => pm_nwchk q.2 z.1 z.2) = true := by decide +kernel
theorem pm_nw_ok {o x t : Nat} (h : pm_nw o x = some t) : ∃ r0 : vw_C, pm_cl[t]? = some r0 ∧ t < 100 ∧ Cond.classLink (pm_onm o) x r0.1 ∈ pm_T ∧ Cond.instantiable r0.1 r0.2.2 ∈ pm_T ∧ Cond.initialized r0.1 ∈ pm_T ∧ ∀ w ∈ u_ws r0.1 r0.2.1 r0.2.2, w ∈ pm_T := by
  obtain ⟨⟨t', n⟩, h1, h2⟩ := Option.map_eq_some_iff.mp h
  cases h2
  have h3 := pm_all pm_nw_ok0 h1
  unfold pm_nwchk at h3
  split at h3
  · next r hr =>
    simp only [Bool.and_eq_true] at h3
    exact ⟨r, hr, by have := pm_cl_lt hr; show t' < 100; have : t' < 8 := this; omega, pm_in_mem h3.1.1, pm_in_mem h3.1.2, pm_in_mem h3.2, pm_u_ok hr⟩
  · cases h3
def pm_anchk (o x : Nat) (q : Nat × Nat) : Bool := match pm_at q.1 with
  | some (.object C) => pm_in q.2 (.classLink (pm_onm o) x C) && decide (C ∈ pm_over)
  | _ => false
theorem pm_an_ok0 : (pm_ans.zipIdx.all fun q => q.1.all fun z => pm_anchk q.2 z.1 z.2) = true := by decide +kernel
theorem pm_an_ok {o x k : Nat} (h : pm_an o x = some k) : ∃ C, pm_at k = some (.object C) ∧ Cond.classLink (pm_onm o) x C ∈ pm_T ∧ C ∈ pm_over := by
  obtain ⟨⟨t', n⟩, h1, h2⟩ := Option.map_eq_some_iff.mp h
  cases h2
  have h3 := pm_all pm_an_ok0 h1
  unfold pm_anchk at h3
  split at h3
  · next C hC =>
    simp only [Bool.and_eq_true, decide_eq_true_eq] at h3
    exact ⟨C, hC, pm_in_mem h3.1, h3.2⟩
  · cases h3
def pm_l2chk (o x : Nat) (q : Int64 × Nat) : Bool := pm_in q.2 (.constantLong (pm_onm o) x q.1)
theorem pm_l2_ok0 : (pm_l2s.zipIdx.all fun q => q.1.all fun z => pm_l2chk q.2 z.1 z.2) = true := by decide +kernel
theorem pm_l2_ok {o x : Nat} {v : Int64} (h : pm_l2 o x = some v) : Cond.constantLong (pm_onm o) x v ∈ pm_T := by
  obtain ⟨⟨v', n⟩, h1, h2⟩ := Option.map_eq_some_iff.mp h
  cases h2
  have h3 := pm_all pm_l2_ok0 h1
  unfold pm_l2chk at h3
  exact pm_in_mem h3
theorem pm_m_all {Q : pm_M → Prop} (h0 : Q pm_m0) (h : ∀ q ∈ pm_ms, Q q) (y : Nat) : Q (pm_m y) := by
  unfold pm_m
  rw [List.getD_eq_getElem?_getD]
  cases h1 : pm_ms[y]? with
  | none => exact h0
  | some q => exact h q (List.mem_of_getElem? h1)
theorem pm_maxL_le (y : Nat) : pm_maxL y ≤ 14 := pm_m_all (Q := fun q => q.2.2.1 ≤ 14) (by decide) (by decide +kernel) y
theorem pm_plain (y : Nat) : plainName (pm_y y).cls = true := pm_m_all (Q := fun q => plainName q.1.cls = true) (by decide +kernel) (by decide +kernel) y
theorem pm_y_cls (y : Nat) : (pm_y y).cls = pm_own y := pm_m_all (Q := fun q => q.1.cls = pm_onm q.2.2.2.2.1) (by decide +kernel) (by decide +kernel) y
theorem pm_ini_ok {y : Nat} (h : pm_ini y = true) : (pm_y y).name = "<init>" := pm_m_all (Q := fun q => q.2.2.2.2.2 = true → q.1.name = "<init>") (by decide +kernel) (by decide +kernel) y h
abbrev pm_C : Type := Nat × Nat × Nat × Nat × Nat × Nat × Nat
def pm_cod (y n : Nat) : Bool := pm_in n (.code (pm_y y) (pm_code y) (pm_maxL y) (pm_ret y))
def pm_hasc (y : Nat) : Bool := decide (y < 117)
def pm_d3 (y n : Nat) : Bool := decide ((pm_y y).cls ≠ "java/lang/invoke/MethodHandle") && decide ((pm_y y).cls ≠ "java/lang/invoke/VarHandle") && decide ((parseMethodDescriptor (pm_y y).desc).map (fun d => d.parameters.length) = some n)
def pm_calchk (o x : Nat) (q : pm_C) : Bool :=
  if q.1 = 4 then pm_in q.2.2.2.1 (.methodLink (pm_onm o) x Lib.objectInit)
  else pm_hasc q.2.1 && pm_in (pm_inii.getD (pm_oc q.2.1) 0) (.initialized (pm_y q.2.1).cls) &&
    (if q.1 = 1 then pm_d3 q.2.1 q.2.2.1 && pm_in q.2.2.2.1 (.methodLink (pm_onm o) x (pm_y q.2.1)) && pm_in q.2.2.2.2.2.1 (.static (pm_y q.2.1))
    else pm_d3 q.2.1 (q.2.2.1 - 1) && pm_in q.2.2.2.2.2.1 (.instanceMethod (pm_y q.2.1)) &&
      (if q.1 = 0 then pm_in q.2.2.2.1 (.methodLink (pm_onm o) x (pm_y q.2.1)) && pm_in q.2.2.2.2.2.2 (.selects (pm_y q.2.1).cls (pm_y q.2.1) (pm_y q.2.1)) && decide (pm_oc q.2.1 < 8)
      else decide ((pm_y q.2.1).name = "<init>") && decide (pm_ret q.2.1 = none) &&
        (if q.1 = 2 then pm_in q.2.2.2.1 (.methodLink (pm_onm o) x (pm_y q.2.1)) else decide (q.1 = 3) && pm_nests.any fun z => decide (z.1 = pm_onm o ∧ z.2.1 = x ∧ z.2.2.1 = pm_y q.2.1))))
end
section
theorem pm_chunk {α : Type} {p : α → Bool} {l : List α} (n : Nat) (h1 : (l.take n).all p = true) (h2 : (l.drop n).all p = true) : l.all p = true := by
  rw [← List.take_append_drop n l, List.all_append, h1, h2]
  rfl
theorem pm_calA0_0 : (((pm_cals.getD 0 []).drop 0).take 10).all (fun z => pm_calchk 0 z.1 z.2) = true := by decide +kernel
theorem pm_calA0_1 : (((pm_cals.getD 0 []).drop 10).take 10).all (fun z => pm_calchk 0 z.1 z.2) = true := by decide +kernel
theorem pm_calA0_2 : (((pm_cals.getD 0 []).drop 20).take 10).all (fun z => pm_calchk 0 z.1 z.2) = true := by decide +kernel
theorem pm_calA0_3 : (((pm_cals.getD 0 []).drop 30).take 10).all (fun z => pm_calchk 0 z.1 z.2) = true := by decide +kernel
theorem pm_calA0_4 : (((pm_cals.getD 0 []).drop 40).take 10).all (fun z => pm_calchk 0 z.1 z.2) = true := by decide +kernel
theorem pm_calA0_5 : (((pm_cals.getD 0 []).drop 50).take 10).all (fun z => pm_calchk 0 z.1 z.2) = true := by decide +kernel
theorem pm_calA0_6 : (((pm_cals.getD 0 []).drop 60).take 10).all (fun z => pm_calchk 0 z.1 z.2) = true := by decide +kernel
theorem pm_calA0 : ((pm_cals.getD 0 []).all fun z => pm_calchk 0 z.1 z.2) = true := by
  refine pm_chunk 10 pm_calA0_0 ?_
  refine pm_chunk 10 pm_calA0_1 ?_
  rw [List.drop_drop]
  refine pm_chunk 10 pm_calA0_2 ?_
  rw [List.drop_drop]
  refine pm_chunk 10 pm_calA0_3 ?_
  rw [List.drop_drop]
  refine pm_chunk 10 pm_calA0_4 ?_
  rw [List.drop_drop]
  refine pm_chunk 10 pm_calA0_5 ?_
  rw [List.drop_drop]
  have h := pm_calA0_6
  rw [List.take_of_length_le (by decide)] at h
  exact h
theorem pm_calA1 : ((pm_cals.getD 1 []).all fun z => pm_calchk 1 z.1 z.2) = true := by decide +kernel
theorem pm_calA2 : ((pm_cals.getD 2 []).all fun z => pm_calchk 2 z.1 z.2) = true := by decide +kernel
theorem pm_calA3 : ((pm_cals.getD 3 []).all fun z => pm_calchk 3 z.1 z.2) = true := by decide +kernel
theorem pm_calA4 : ((pm_cals.getD 4 []).all fun z => pm_calchk 4 z.1 z.2) = true := by decide +kernel
theorem pm_calA5 : ((pm_cals.getD 5 []).all fun z => pm_calchk 5 z.1 z.2) = true := by decide +kernel
theorem pm_calA6 : ((pm_cals.getD 6 []).all fun z => pm_calchk 6 z.1 z.2) = true := by decide +kernel
theorem pm_calA7_0 : (((pm_cals.getD 7 []).drop 0).take 10).all (fun z => pm_calchk 7 z.1 z.2) = true := by decide +kernel
theorem pm_calA7_1 : (((pm_cals.getD 7 []).drop 10).take 10).all (fun z => pm_calchk 7 z.1 z.2) = true := by decide +kernel
theorem pm_calA7_2 : (((pm_cals.getD 7 []).drop 20).take 10).all (fun z => pm_calchk 7 z.1 z.2) = true := by decide +kernel
theorem pm_calA7 : ((pm_cals.getD 7 []).all fun z => pm_calchk 7 z.1 z.2) = true := by
  refine pm_chunk 10 pm_calA7_0 ?_
  refine pm_chunk 10 pm_calA7_1 ?_
  rw [List.drop_drop]
  have h := pm_calA7_2
  rw [List.take_of_length_le (by decide)] at h
  exact h
theorem pm_calA8_0 : (((pm_cals.getD 8 []).drop 0).take 10).all (fun z => pm_calchk 8 z.1 z.2) = true := by decide +kernel
theorem pm_calA8_1 : (((pm_cals.getD 8 []).drop 10).take 10).all (fun z => pm_calchk 8 z.1 z.2) = true := by decide +kernel
theorem pm_calA8_2 : (((pm_cals.getD 8 []).drop 20).take 10).all (fun z => pm_calchk 8 z.1 z.2) = true := by decide +kernel
theorem pm_calA8_3 : (((pm_cals.getD 8 []).drop 30).take 10).all (fun z => pm_calchk 8 z.1 z.2) = true := by decide +kernel
theorem pm_calA8_4 : (((pm_cals.getD 8 []).drop 40).take 10).all (fun z => pm_calchk 8 z.1 z.2) = true := by decide +kernel
theorem pm_calA8 : ((pm_cals.getD 8 []).all fun z => pm_calchk 8 z.1 z.2) = true := by
  refine pm_chunk 10 pm_calA8_0 ?_
  refine pm_chunk 10 pm_calA8_1 ?_
  rw [List.drop_drop]
  refine pm_chunk 10 pm_calA8_2 ?_
  rw [List.drop_drop]
  refine pm_chunk 10 pm_calA8_3 ?_
  rw [List.drop_drop]
  have h := pm_calA8_4
  rw [List.take_of_length_le (by decide)] at h
  exact h
end
section
theorem pm_codA0 : pm_cod 0 55 = true := by decide +kernel
theorem pm_codA1 : pm_cod 1 247 = true := by decide +kernel
theorem pm_codA2 : pm_cod 2 251 = true := by decide +kernel
theorem pm_codA3 : pm_cod 3 344 = true := by decide +kernel
theorem pm_codA4 : pm_cod 4 360 = true := by decide +kernel
theorem pm_codA5 : pm_cod 5 375 = true := by decide +kernel
theorem pm_codA6 : pm_cod 6 391 = true := by decide +kernel
theorem pm_codA7 : pm_cod 7 399 = true := by decide +kernel
theorem pm_codA8 : pm_cod 8 409 = true := by decide +kernel
theorem pm_codA9 : pm_cod 9 417 = true := by decide +kernel
theorem pm_codA10 : pm_cod 10 421 = true := by decide +kernel
theorem pm_codA11 : pm_cod 11 437 = true := by decide +kernel
theorem pm_codA12 : pm_cod 12 442 = true := by decide +kernel
theorem pm_codA13 : pm_cod 13 454 = true := by decide +kernel
theorem pm_codA14 : pm_cod 14 469 = true := by decide +kernel
theorem pm_codA15 : pm_cod 15 473 = true := by decide +kernel
theorem pm_codA16 : pm_cod 16 477 = true := by decide +kernel
theorem pm_codA17 : pm_cod 17 506 = true := by decide +kernel
theorem pm_codA18 : pm_cod 18 532 = true := by decide +kernel
theorem pm_codA19 : pm_cod 19 542 = true := by decide +kernel
theorem pm_codA20 : pm_cod 20 552 = true := by decide +kernel
theorem pm_codA21 : pm_cod 21 258 = true := by decide +kernel
theorem pm_codA22 : pm_cod 22 378 = true := by decide +kernel
theorem pm_codA23 : pm_cod 23 367 = true := by decide +kernel
theorem pm_codA24 : pm_cod 24 457 = true := by decide +kernel
theorem pm_codA25 : pm_cod 25 255 = true := by decide +kernel
theorem pm_codA26 : pm_cod 26 514 = true := by decide +kernel
theorem pm_codA27 : pm_cod 27 364 = true := by decide +kernel
theorem pm_codA28 : pm_cod 28 315 = true := by decide +kernel
theorem pm_codA29 : pm_cod 29 348 = true := by decide +kernel
theorem pm_codA30 : pm_cod 30 352 = true := by decide +kernel
theorem pm_codA31 : pm_cod 31 425 = true := by decide +kernel
theorem pm_codA32 : pm_cod 32 429 = true := by decide +kernel
theorem pm_codA33 : pm_cod 33 278 = true := by decide +kernel
theorem pm_codA34 : pm_cod 34 433 = true := by decide +kernel
theorem pm_codA35 : pm_cod 35 323 = true := by decide +kernel
theorem pm_codA36 : pm_cod 36 274 = true := by decide +kernel
theorem pm_codA37 : pm_cod 37 294 = true := by decide +kernel
theorem pm_codA38 : pm_cod 38 311 = true := by decide +kernel
theorem pm_codA39 : pm_cod 39 262 = true := by decide +kernel
end
section
theorem pm_codA40 : pm_cod 40 266 = true := by decide +kernel
theorem pm_codA41 : pm_cod 41 319 = true := by decide +kernel
theorem pm_codA42 : pm_cod 42 340 = true := by decide +kernel
theorem pm_codA43 : pm_cod 43 481 = true := by decide +kernel
theorem pm_codA44 : pm_cod 44 489 = true := by decide +kernel
theorem pm_codA45 : pm_cod 45 485 = true := by decide +kernel
theorem pm_codA46 : pm_cod 46 493 = true := by decide +kernel
theorem pm_codA47 : pm_cod 47 510 = true := by decide +kernel
theorem pm_codA48 : pm_cod 48 518 = true := by decide +kernel
theorem pm_codA49 : pm_cod 49 527 = true := by decide +kernel
theorem pm_codA50 : pm_cod 50 537 = true := by decide +kernel
theorem pm_codA51 : pm_cod 51 68 = true := by decide +kernel
theorem pm_codA52 : pm_cod 52 395 = true := by decide +kernel
theorem pm_codA53 : pm_cod 53 413 = true := by decide +kernel
theorem pm_codA54 : pm_cod 54 371 = true := by decide +kernel
theorem pm_codA55 : pm_cod 55 306 = true := by decide +kernel
theorem pm_codA56 : pm_cod 56 382 = true := by decide +kernel
theorem pm_codA57 : pm_cod 57 403 = true := by decide +kernel
theorem pm_codA58 : pm_cod 58 446 = true := by decide +kernel
theorem pm_codA59 : pm_cod 59 335 = true := by decide +kernel
theorem pm_codA60 : pm_cod 60 160 = true := by decide +kernel
theorem pm_codA61 : pm_cod 61 356 = true := by decide +kernel
theorem pm_codA62 : pm_cod 62 175 = true := by decide +kernel
theorem pm_codA63 : pm_cod 63 497 = true := by decide +kernel
theorem pm_codA64 : pm_cod 64 522 = true := by decide +kernel
theorem pm_codA65 : pm_cod 65 79 = true := by decide +kernel
theorem pm_codA66 : pm_cod 66 386 = true := by decide +kernel
theorem pm_codA67 : pm_cod 67 290 = true := by decide +kernel
theorem pm_codA68 : pm_cod 68 302 = true := by decide +kernel
theorem pm_codA69 : pm_cod 69 298 = true := by decide +kernel
theorem pm_codA70 : pm_cod 70 102 = true := by decide +kernel
theorem pm_codA71 : pm_cod 71 270 = true := by decide +kernel
theorem pm_codA72 : pm_cod 72 286 = true := by decide +kernel
theorem pm_codA73 : pm_cod 73 282 = true := by decide +kernel
theorem pm_codA74 : pm_cod 74 120 = true := by decide +kernel
theorem pm_codA75 : pm_cod 75 461 = true := by decide +kernel
theorem pm_codA76 : pm_cod 76 450 = true := by decide +kernel
theorem pm_codA77 : pm_cod 77 465 = true := by decide +kernel
theorem pm_codA78 : pm_cod 78 327 = true := by decide +kernel
theorem pm_codA79 : pm_cod 79 331 = true := by decide +kernel
end
section
theorem pm_codA80 : pm_cod 80 558 = true := by decide +kernel
theorem pm_codA81 : pm_cod 81 645 = true := by decide +kernel
theorem pm_codA82 : pm_cod 82 669 = true := by decide +kernel
theorem pm_codA83 : pm_cod 83 661 = true := by decide +kernel
theorem pm_codA84 : pm_cod 84 677 = true := by decide +kernel
theorem pm_codA85 : pm_cod 85 689 = true := by decide +kernel
theorem pm_codA86 : pm_cod 86 705 = true := by decide +kernel
theorem pm_codA87 : pm_cod 87 741 = true := by decide +kernel
theorem pm_codA88 : pm_cod 88 653 = true := by decide +kernel
theorem pm_codA89 : pm_cod 89 657 = true := by decide +kernel
theorem pm_codA90 : pm_cod 90 637 = true := by decide +kernel
theorem pm_codA91 : pm_cod 91 649 = true := by decide +kernel
theorem pm_codA92 : pm_cod 92 665 = true := by decide +kernel
theorem pm_codA93 : pm_cod 93 641 = true := by decide +kernel
theorem pm_codA94 : pm_cod 94 673 = true := by decide +kernel
theorem pm_codA95 : pm_cod 95 681 = true := by decide +kernel
theorem pm_codA96 : pm_cod 96 685 = true := by decide +kernel
theorem pm_codA97 : pm_cod 97 697 = true := by decide +kernel
theorem pm_codA98 : pm_cod 98 693 = true := by decide +kernel
theorem pm_codA99 : pm_cod 99 701 = true := by decide +kernel
theorem pm_codA100 : pm_cod 100 709 = true := by decide +kernel
theorem pm_codA101 : pm_cod 101 713 = true := by decide +kernel
theorem pm_codA102 : pm_cod 102 725 = true := by decide +kernel
theorem pm_codA103 : pm_cod 103 721 = true := by decide +kernel
theorem pm_codA104 : pm_cod 104 717 = true := by decide +kernel
theorem pm_codA105 : pm_cod 105 732 = true := by decide +kernel
theorem pm_codA106 : pm_cod 106 729 = true := by decide +kernel
theorem pm_codA107 : pm_cod 107 737 = true := by decide +kernel
theorem pm_codA108 : pm_cod 108 745 = true := by decide +kernel
theorem pm_codA109 : pm_cod 109 749 = true := by decide +kernel
theorem pm_codA110 : pm_cod 110 753 = true := by decide +kernel
theorem pm_codA111 : pm_cod 111 757 = true := by decide +kernel
theorem pm_codA112 : pm_cod 112 770 = true := by decide +kernel
theorem pm_codA113 : pm_cod 113 766 = true := by decide +kernel
theorem pm_codA114 : pm_cod 114 775 = true := by decide +kernel
theorem pm_codA115 : pm_cod 115 780 = true := by decide +kernel
theorem pm_codA116 : pm_cod 116 790 = true := by decide +kernel
end
section
theorem pm_hasc_ok : ∀ {y : Nat}, pm_hasc y = true → Cond.code (pm_y y) (pm_code y) (pm_maxL y) (pm_ret y) ∈ pm_T
  | 0, _ => pm_in_mem pm_codA0
  | 1, _ => pm_in_mem pm_codA1
  | 2, _ => pm_in_mem pm_codA2
  | 3, _ => pm_in_mem pm_codA3
  | 4, _ => pm_in_mem pm_codA4
  | 5, _ => pm_in_mem pm_codA5
  | 6, _ => pm_in_mem pm_codA6
  | 7, _ => pm_in_mem pm_codA7
  | 8, _ => pm_in_mem pm_codA8
  | 9, _ => pm_in_mem pm_codA9
  | 10, _ => pm_in_mem pm_codA10
  | 11, _ => pm_in_mem pm_codA11
  | 12, _ => pm_in_mem pm_codA12
  | 13, _ => pm_in_mem pm_codA13
  | 14, _ => pm_in_mem pm_codA14
  | 15, _ => pm_in_mem pm_codA15
  | 16, _ => pm_in_mem pm_codA16
  | 17, _ => pm_in_mem pm_codA17
  | 18, _ => pm_in_mem pm_codA18
  | 19, _ => pm_in_mem pm_codA19
  | 20, _ => pm_in_mem pm_codA20
  | 21, _ => pm_in_mem pm_codA21
  | 22, _ => pm_in_mem pm_codA22
  | 23, _ => pm_in_mem pm_codA23
  | 24, _ => pm_in_mem pm_codA24
  | 25, _ => pm_in_mem pm_codA25
  | 26, _ => pm_in_mem pm_codA26
  | 27, _ => pm_in_mem pm_codA27
  | 28, _ => pm_in_mem pm_codA28
  | 29, _ => pm_in_mem pm_codA29
  | 30, _ => pm_in_mem pm_codA30
  | 31, _ => pm_in_mem pm_codA31
  | 32, _ => pm_in_mem pm_codA32
  | 33, _ => pm_in_mem pm_codA33
  | 34, _ => pm_in_mem pm_codA34
  | 35, _ => pm_in_mem pm_codA35
  | 36, _ => pm_in_mem pm_codA36
  | 37, _ => pm_in_mem pm_codA37
  | 38, _ => pm_in_mem pm_codA38
  | 39, _ => pm_in_mem pm_codA39
  | 40, _ => pm_in_mem pm_codA40
  | 41, _ => pm_in_mem pm_codA41
  | 42, _ => pm_in_mem pm_codA42
  | 43, _ => pm_in_mem pm_codA43
  | 44, _ => pm_in_mem pm_codA44
  | 45, _ => pm_in_mem pm_codA45
  | 46, _ => pm_in_mem pm_codA46
  | 47, _ => pm_in_mem pm_codA47
  | 48, _ => pm_in_mem pm_codA48
  | 49, _ => pm_in_mem pm_codA49
  | 50, _ => pm_in_mem pm_codA50
  | 51, _ => pm_in_mem pm_codA51
  | 52, _ => pm_in_mem pm_codA52
  | 53, _ => pm_in_mem pm_codA53
  | 54, _ => pm_in_mem pm_codA54
  | 55, _ => pm_in_mem pm_codA55
  | 56, _ => pm_in_mem pm_codA56
  | 57, _ => pm_in_mem pm_codA57
  | 58, _ => pm_in_mem pm_codA58
  | 59, _ => pm_in_mem pm_codA59
  | 60, _ => pm_in_mem pm_codA60
  | 61, _ => pm_in_mem pm_codA61
  | 62, _ => pm_in_mem pm_codA62
  | 63, _ => pm_in_mem pm_codA63
  | 64, _ => pm_in_mem pm_codA64
  | 65, _ => pm_in_mem pm_codA65
  | 66, _ => pm_in_mem pm_codA66
  | 67, _ => pm_in_mem pm_codA67
  | 68, _ => pm_in_mem pm_codA68
  | 69, _ => pm_in_mem pm_codA69
  | 70, _ => pm_in_mem pm_codA70
  | 71, _ => pm_in_mem pm_codA71
  | 72, _ => pm_in_mem pm_codA72
  | 73, _ => pm_in_mem pm_codA73
  | 74, _ => pm_in_mem pm_codA74
  | 75, _ => pm_in_mem pm_codA75
  | 76, _ => pm_in_mem pm_codA76
  | 77, _ => pm_in_mem pm_codA77
  | 78, _ => pm_in_mem pm_codA78
  | 79, _ => pm_in_mem pm_codA79
  | 80, _ => pm_in_mem pm_codA80
  | 81, _ => pm_in_mem pm_codA81
  | 82, _ => pm_in_mem pm_codA82
  | 83, _ => pm_in_mem pm_codA83
  | 84, _ => pm_in_mem pm_codA84
  | 85, _ => pm_in_mem pm_codA85
  | 86, _ => pm_in_mem pm_codA86
  | 87, _ => pm_in_mem pm_codA87
  | 88, _ => pm_in_mem pm_codA88
  | 89, _ => pm_in_mem pm_codA89
  | 90, _ => pm_in_mem pm_codA90
  | 91, _ => pm_in_mem pm_codA91
  | 92, _ => pm_in_mem pm_codA92
  | 93, _ => pm_in_mem pm_codA93
  | 94, _ => pm_in_mem pm_codA94
  | 95, _ => pm_in_mem pm_codA95
  | 96, _ => pm_in_mem pm_codA96
  | 97, _ => pm_in_mem pm_codA97
  | 98, _ => pm_in_mem pm_codA98
  | 99, _ => pm_in_mem pm_codA99
  | 100, _ => pm_in_mem pm_codA100
  | 101, _ => pm_in_mem pm_codA101
  | 102, _ => pm_in_mem pm_codA102
  | 103, _ => pm_in_mem pm_codA103
  | 104, _ => pm_in_mem pm_codA104
  | 105, _ => pm_in_mem pm_codA105
  | 106, _ => pm_in_mem pm_codA106
  | 107, _ => pm_in_mem pm_codA107
  | 108, _ => pm_in_mem pm_codA108
  | 109, _ => pm_in_mem pm_codA109
  | 110, _ => pm_in_mem pm_codA110
  | 111, _ => pm_in_mem pm_codA111
  | 112, _ => pm_in_mem pm_codA112
  | 113, _ => pm_in_mem pm_codA113
  | 114, _ => pm_in_mem pm_codA114
  | 115, _ => pm_in_mem pm_codA115
  | 116, _ => pm_in_mem pm_codA116
  | n + 117, h => absurd h (by simp [pm_hasc])
theorem pm_cal_chk {o x : Nat} {q : pm_C} (h : (pm_cals.getD o []).lookup x = some q) : pm_calchk o x q = true := by
  obtain ⟨r, h1, h2⟩ := pm_look h
  have hg : pm_cals.getD o [] = r := by rw [List.getD_eq_getElem?_getD, h1]; rfl
  have hlt : o < 9 := (List.getElem?_eq_some_iff.mp h1).1
  have h3 : ((pm_cals.getD o []).all fun z => pm_calchk o z.1 z.2) = true := by
    match o, hlt with
    | 0, _ => exact pm_calA0
    | 1, _ => exact pm_calA1
    | 2, _ => exact pm_calA2
    | 3, _ => exact pm_calA3
    | 4, _ => exact pm_calA4
    | 5, _ => exact pm_calA5
    | 6, _ => exact pm_calA6
    | 7, _ => exact pm_calA7
    | 8, _ => exact pm_calA8
  rw [hg] at h3
  exact List.all_eq_true.mp h3 (x, q) h2
theorem pm_cl_nm : ∀ o, o < 8 → ∃ r0 : vw_C, pm_cl[o]? = some r0 ∧ r0.1 = pm_onm o
  | 0, _ => ⟨_, rfl, rfl⟩
  | 1, _ => ⟨_, rfl, rfl⟩
  | 2, _ => ⟨_, rfl, rfl⟩
  | 3, _ => ⟨_, rfl, rfl⟩
  | 4, _ => ⟨_, rfl, rfl⟩
  | 5, _ => ⟨_, rfl, rfl⟩
  | 6, _ => ⟨_, rfl, rfl⟩
  | 7, _ => ⟨_, rfl, rfl⟩
  | n + 8, h => absurd h (by omega)
theorem pm_cal_ok0 {o x y a : Nat} (h : pm_cal o x = some (0, y, a)) : Cond.code (pm_y y) (pm_code y) (pm_maxL y) (pm_ret y) ∈ pm_T ∧ Cond.initialized (pm_y y).cls ∈ pm_T ∧ ((pm_y y).cls ≠ "java/lang/invoke/MethodHandle" ∧ (pm_y y).cls ≠ "java/lang/invoke/VarHandle" ∧ (parseMethodDescriptor (pm_y y).desc).map (fun d => d.parameters.length) = some (a - 1)) ∧ Cond.methodLink (pm_onm o) x (pm_y y) ∈ pm_T ∧ Cond.instanceMethod (pm_y y) ∈ pm_T ∧ Cond.selects (pm_y y).cls (pm_y y) (pm_y y) ∈ pm_T ∧ pm_oc y < 100 ∧ ∃ r0 : vw_C, pm_cl[pm_oc y]? = some r0 ∧ r0.1 = (pm_y y).cls := by
  obtain ⟨⟨k', y', a', n1, n2, n3, n4⟩, h1, h2⟩ := Option.map_eq_some_iff.mp h
  cases h2
  have h3 := pm_cal_chk h1
  simp only [pm_calchk, pm_d3, Bool.and_eq_true, decide_eq_true_eq, if_neg (show ¬ (0 : Nat) = 4 by decide), if_neg (show ¬ (0 : Nat) = 1 by decide), if_true] at h3
  obtain ⟨⟨c1, c2⟩, ⟨⟨⟨d1, d2⟩, d3⟩, c3⟩, ⟨c4, c5⟩, c6⟩ := h3
  refine ⟨pm_hasc_ok c1, pm_in_mem c2, ⟨d1, d2, d3⟩, pm_in_mem c4, pm_in_mem c3, pm_in_mem c5, Nat.lt_of_lt_of_le c6 (by decide), ?_⟩
  rw [pm_y_cls]
  exact pm_cl_nm _ c6
theorem pm_cal_ok1 {o x y a : Nat} (h : pm_cal o x = some (1, y, a)) : Cond.code (pm_y y) (pm_code y) (pm_maxL y) (pm_ret y) ∈ pm_T ∧ Cond.initialized (pm_y y).cls ∈ pm_T ∧ ((pm_y y).cls ≠ "java/lang/invoke/MethodHandle" ∧ (pm_y y).cls ≠ "java/lang/invoke/VarHandle" ∧ (parseMethodDescriptor (pm_y y).desc).map (fun d => d.parameters.length) = some a) ∧ Cond.methodLink (pm_onm o) x (pm_y y) ∈ pm_T ∧ Cond.static (pm_y y) ∈ pm_T := by
  obtain ⟨⟨k', y', a', n1, n2, n3, n4⟩, h1, h2⟩ := Option.map_eq_some_iff.mp h
  cases h2
  have h3 := pm_cal_chk h1
  simp only [pm_calchk, pm_d3, Bool.and_eq_true, decide_eq_true_eq, if_neg (show ¬ (1 : Nat) = 4 by decide), if_true] at h3
  obtain ⟨⟨c1, c2⟩, ⟨⟨⟨d1, d2⟩, d3⟩, c3⟩, c4⟩ := h3
  exact ⟨pm_hasc_ok c1, pm_in_mem c2, ⟨d1, d2, d3⟩, pm_in_mem c3, pm_in_mem c4⟩
theorem pm_cal_ok2 {o x y a : Nat} (h : pm_cal o x = some (2, y, a)) : (Cond.code (pm_y y) (pm_code y) (pm_maxL y) (pm_ret y) ∈ pm_T ∧ pm_ret y = none) ∧ Cond.initialized (pm_y y).cls ∈ pm_T ∧ ((pm_y y).cls ≠ "java/lang/invoke/MethodHandle" ∧ (pm_y y).cls ≠ "java/lang/invoke/VarHandle" ∧ (parseMethodDescriptor (pm_y y).desc).map (fun d => d.parameters.length) = some (a - 1)) ∧ Cond.methodLink (pm_onm o) x (pm_y y) ∈ pm_T ∧ Cond.instanceMethod (pm_y y) ∈ pm_T ∧ (pm_y y).name = "<init>" := by
  obtain ⟨⟨k', y', a', n1, n2, n3, n4⟩, h1, h2⟩ := Option.map_eq_some_iff.mp h
  cases h2
  have h3 := pm_cal_chk h1
  simp only [pm_calchk, pm_d3, Bool.and_eq_true, decide_eq_true_eq, if_neg (show ¬ (2 : Nat) = 4 by decide), if_neg (show ¬ (2 : Nat) = 1 by decide), if_neg (show ¬ (2 : Nat) = 0 by decide), if_true] at h3
  obtain ⟨⟨c1, c2⟩, ⟨⟨⟨d1, d2⟩, d3⟩, c3⟩, ⟨c4, c5⟩, c6⟩ := h3
  exact ⟨⟨pm_hasc_ok c1, c5⟩, pm_in_mem c2, ⟨d1, d2, d3⟩, pm_in_mem c6, pm_in_mem c3, c4⟩
theorem pm_cal_ok3 {o x y a : Nat} (h : pm_cal o x = some (3, y, a)) : (Cond.code (pm_y y) (pm_code y) (pm_maxL y) (pm_ret y) ∈ pm_T ∧ pm_ret y = none) ∧ Cond.initialized (pm_y y).cls ∈ pm_T ∧ ((pm_y y).cls ≠ "java/lang/invoke/MethodHandle" ∧ (pm_y y).cls ≠ "java/lang/invoke/VarHandle" ∧ (parseMethodDescriptor (pm_y y).desc).map (fun d => d.parameters.length) = some (a - 1)) ∧ ∃ host, Cond.methodLinkNest (pm_onm o) x (pm_y y) host ∈ pm_nest ∧ Cond.instanceMethod (pm_y y) ∈ pm_T ∧ (pm_y y).name = "<init>" := by
  obtain ⟨⟨k', y', a', n1, n2, n3, n4⟩, h1, h2⟩ := Option.map_eq_some_iff.mp h
  cases h2
  have h3 := pm_cal_chk h1
  simp only [pm_calchk, pm_d3, Bool.and_eq_true, decide_eq_true_eq, if_neg (show ¬ (3 : Nat) = 4 by decide), if_neg (show ¬ (3 : Nat) = 1 by decide), if_neg (show ¬ (3 : Nat) = 0 by decide), if_neg (show ¬ (3 : Nat) = 2 by decide), if_true] at h3
  obtain ⟨⟨c1, c2⟩, ⟨⟨⟨d1, d2⟩, d3⟩, c3⟩, ⟨c4, c5⟩, -, c6⟩ := h3
  obtain ⟨⟨z1, z2, z3, z4⟩, hz, hz2⟩ := List.any_eq_true.mp c6
  simp only [decide_eq_true_eq] at hz2
  obtain ⟨rfl, rfl, rfl⟩ := hz2
  exact ⟨⟨pm_hasc_ok c1, c5⟩, pm_in_mem c2, ⟨d1, d2, d3⟩, z4, List.mem_map.mpr ⟨_, hz, rfl⟩, pm_in_mem c3, c4⟩
theorem pm_obj1 : Cond.instanceMethod Lib.objectInit ∈ pm_T := pm_in_mem (n := 57) (by decide +kernel)
theorem pm_obj2 : Cond.code Lib.objectInit ⟨#[0xb1]⟩ 1 none ∈ pm_T := pm_in_mem (n := 58) (by decide +kernel)
theorem pm_cal_ok4 {o x : Nat} {q : Nat × Nat} (h : pm_cal o x = some (4, q)) : Cond.methodLink (pm_onm o) x Lib.objectInit ∈ pm_T ∧ Cond.instanceMethod Lib.objectInit ∈ pm_T ∧ Cond.code Lib.objectInit ⟨#[0xb1]⟩ 1 none ∈ pm_T := by
  obtain ⟨⟨k', y', a', n1, n2, n3, n4⟩, h1, h2⟩ := Option.map_eq_some_iff.mp h
  cases h2
  have h3 := pm_cal_chk h1
  simp only [pm_calchk, if_true] at h3
  exact ⟨pm_in_mem h3, pm_obj1, pm_obj2⟩
theorem pm_nest_form (w : Cond) (h : w ∈ pm_nest) : ∃ a i y hh, w = Cond.methodLinkNest a i y hh := by
  obtain ⟨q, -, rfl⟩ := List.mem_map.mp h
  exact ⟨_, _, _, _, rfl⟩
theorem pm_nest_tab (w : Cond) (h : w ∈ pm_nest) : w.onTables = true := by
  obtain ⟨a, i, y, hh, rfl⟩ := pm_nest_form w h
  rfl
end
section
abbrev pm_H : Type := List (Nat × List Value)
abbrev pm_L : Type := List (Option Value)
abbrev pm_R : Type := Option Value × pm_H
abbrev pm_X : Type := Option (Nat × (Nat → Int32))
abbrev pm_O : Type := (Nat × pm_L × List Value × pm_H) ⊕ ((Nat × List Value × Nat × List Value) ⊕ Option Value)
def pm_ins (mid pc : Nat) : Option (Instr × Nat) := match decode (pm_code mid) pc with
  | .ok q => some q
  | _ => none
def pm_ldi (ls : pm_L) (i : Nat) : Option Int32 := match ls[i]? with
  | some (some (.int x)) => some x
  | _ => none
def pm_ldl (ls : pm_L) (i : Nat) : Option Int64 := match ls[i]? with
  | some (some (.long x)) => some x
  | _ => none
def pm_lda (ls : pm_L) (i : Nat) : Option Nat := match ls[i]? with
  | some (some (.ref x)) => some x
  | _ => none
def pm_kill (ls : pm_L) (i : Nat) : pm_L := match i with
  | 0 => ls
  | j + 1 => match ls[j]? with
    | some (some w) => if w.category = 2 then ls.set j none else ls
    | _ => ls
def pm_st1 (ls : pm_L) (i : Nat) (v : Value) : Option pm_L := if i < ls.length then some ((pm_kill ls i).set i (some v)) else none
def pm_st2 (ls : pm_L) (i : Nat) (v : Value) : Option pm_L := if i + 1 < ls.length then some (((pm_kill ls i).set i (some v)).set (i + 1) none) else none
def pm_f1 (mid : Nat) (i : Instr) (n : Nat) (ls : pm_L) (st : List Value) : Option (pm_L × List Value) := match i, n, st with
  | .iconst k, 1, st => some (ls, .int (Int32.ofInt k) :: st)
  | .bipush k, 2, st => some (ls, .int (Int8.ofInt k).toInt32 :: st)
  | .sipush k, 3, st => some (ls, .int (Int16.ofInt k).toInt32 :: st)
  | .lconst k, 1, st => some (ls, .long (Int64.ofNat (k : Nat)) :: st)
  | .ldc2_w k, 3, st => (pm_l2 (pm_oc mid) k).map fun v => (ls, .long v :: st)
  | .iload_n k, 1, st => (pm_ldi ls (k : Nat)).map fun x => (ls, .int x :: st)
  | .iload k, 2, st => (pm_ldi ls k).map fun x => (ls, .int x :: st)
  | .lload_n k, 1, st => (pm_ldl ls (k : Nat)).map fun x => (ls, .long x :: st)
  | .lload k, 2, st => (pm_ldl ls k).map fun x => (ls, .long x :: st)
  | .aload_n k, 1, st => (pm_lda ls (k : Nat)).map fun x => (ls, .ref x :: st)
  | .aload k, 2, st => (pm_lda ls k).map fun x => (ls, .ref x :: st)
  | .istore_n k, 1, .int x :: st => (pm_st1 ls (k : Nat) (.int x)).map fun l => (l, st)
  | .istore k, 2, .int x :: st => (pm_st1 ls k (.int x)).map fun l => (l, st)
  | .lstore_n k, 1, .long x :: st => (pm_st2 ls (k : Nat) (.long x)).map fun l => (l, st)
  | .lstore k, 2, .long x :: st => (pm_st2 ls k (.long x)).map fun l => (l, st)
  | .astore_n k, 1, .ref x :: st => (pm_st1 ls (k : Nat) (.ref x)).map fun l => (l, st)
  | .astore k, 2, .ref x :: st => (pm_st1 ls k (.ref x)).map fun l => (l, st)
  | .iinc k z, 3, st => match pm_ldi ls k with
    | some x => (pm_st1 ls k (.int (x + Int32.ofInt z))).map fun l => (l, st)
    | none => none
  | .iadd, 1, .int y :: .int x :: st => some (ls, .int (x + y) :: st)
  | .isub, 1, .int y :: .int x :: st => some (ls, .int (x - y) :: st)
  | .imul, 1, .int y :: .int x :: st => some (ls, .int (x * y) :: st)
  | .iand, 1, .int y :: .int x :: st => some (ls, .int (x &&& y) :: st)
  | .ior, 1, .int y :: .int x :: st => some (ls, .int (x ||| y) :: st)
  | .ixor, 1, .int y :: .int x :: st => some (ls, .int (x ^^^ y) :: st)
  | .idiv, 1, .int y :: .int x :: st => if y = 0 then none else some (ls, .int (x / y) :: st)
  | .irem, 1, .int y :: .int x :: st => if y = 0 then none else some (ls, .int (x - x / y * y) :: st)
  | .ineg, 1, .int x :: st => some (ls, .int (-x) :: st)
  | .ishl, 1, .int y :: .int x :: st => some (ls, .int (x <<< (y &&& 31)) :: st)
  | .ishr, 1, .int y :: .int x :: st => some (ls, .int (x >>> (y &&& 31)) :: st)
  | .ladd, 1, .long y :: .long x :: st => some (ls, .long (x + y) :: st)
  | .lsub, 1, .long y :: .long x :: st => some (ls, .long (x - y) :: st)
  | .land, 1, .long y :: .long x :: st => some (ls, .long (x &&& y) :: st)
  | .i2l, 1, .int x :: st => some (ls, .long x.toInt64 :: st)
  | .l2i, 1, .long x :: st => some (ls, .int x.toInt32 :: st)
  | .lcmp, 1, .long y :: .long x :: st => some (ls, .int (lg_cmp x y) :: st)
  | .dup, 1, v :: st => if v.category = 1 then some (ls, v :: v :: st) else none
  | .pop, 1, v :: st => if v.category = 1 then some (ls, st) else none
  | .pop2, 1, v :: st => if v.category = 2 then some (ls, st) else none
  | .dup_x1, 1, v :: w :: st => if v.category = 1 ∧ w.category = 1 then some (ls, v :: w :: v :: st) else none
  | .dup_x2, 1, v :: w :: z :: st => if v.category = 1 ∧ w.category = 1 ∧ z.category = 1 then some (ls, v :: w :: z :: v :: st) else none
  | .dup2, 1, v :: w :: st => if v.category = 1 ∧ w.category = 1 then some (ls, v :: w :: v :: w :: st) else none
  | _, _, _ => none
def pm_c (c : ClassFile.Cond) (x y : Int32) : Bool := match c with
  | .eq => decide (x = y)
  | .ne => decide (¬ x = y)
  | .lt => decide (x < y)
  | .ge => decide (y ≤ x)
  | .gt => decide (y < x)
  | .le => decide (x ≤ y)
def pm_to (pc : Nat) (off : Int) (st : List Value) : Option (Nat × List Value) := if 0 ≤ (pc : Int) + off then some (((pc : Int) + off).toNat, st) else none
def pm_f2 (i : Instr) (n pc : Nat) (st : List Value) : Option (Nat × List Value) := match i, n, st with
  | .goto off, 3, st => pm_to pc off st
  | .ifCond c off, 3, .int x :: st => (pm_to pc off st).map fun q => if pm_c c x 0 = true then q else (pc + 3, st)
  | .if_icmp c off, 3, .int y :: .int x :: st => (pm_to pc off st).map fun q => if pm_c c x y = true then q else (pc + 3, st)
  | .tableswitch d lo hi offs, _, .int x :: st => if x.toInt < lo ∨ hi < x.toInt then pm_to pc d st else (match offs[(x.toInt - lo).toNat]? with
    | some off => pm_to pc off st
    | none => none)
  | .lookupswitch d ps, _, .int x :: st => if (ps.toList.zip (ps.toList.drop 1)).all (fun (a, next) => a.1 < next.1) = true then pm_to pc (Op.lookupswitch.offset ps.toList d x.toInt) st else none
  | _, _, _ => none
def pm_N (t : Nat) : Nat := match pm_cl[t]? with
  | some r => r.2.2
  | none => 0
def pm_F (t j : Nat) : String × String × String × Bool := match pm_cl[t]? with
  | some r => r.2.1 j
  | none => ("", "", "", false)
def pm_nm (t : Nat) : String := match pm_cl[t]? with
  | some r => r.1
  | none => ""
def pm_rd (P : pm_H) (k t j : Nat) : Option Value := match P[k]? with
  | some q => if q.1 = t then q.2[j]? else none
  | none => none
def pm_wr (P : pm_H) (k t j : Nat) (v : Value) : Option pm_H := match P[k]? with
  | some q => if q.1 = t ∧ j < q.2.length then some (P.set k (t, q.2.set j v)) else none
  | none => none
def pm_tg (P : pm_H) (k : Nat) : Option Nat := (P[k]?).map fun q => q.1
def pm_f3 (X : pm_X) (mid : Nat) (i : Instr) (n : Nat) (st : List Value) (P : pm_H) : Option (List Value × pm_H) := match i, n, st with
  | .getfield x, 3, .ref (k + 1) :: st => match pm_fl (pm_oc mid) x with
    | some (t, j) => if t < 100 then (pm_rd P k t j).map fun v => (v :: st, P) else none
    | none => none
  | .putfield x, 3, v :: .ref (k + 1) :: st => match pm_fl (pm_oc mid) x with
    | some (t, j) => if t < 100 ∧ narrow (pm_ft t j) v = v ∧ fits (pm_ft t j) v = true ∧ (pm_fin t j = false ∨ (pm_ini mid = true ∧ pm_oc mid = t)) then (pm_wr P k t j v).map fun Q => (st, Q) else none
    | none => none
  | .iaload, 1, .int z :: .ref 0 :: st => match X with
    | some (L, f) => if z < 0 ∨ L ≤ z.toNatClampNeg then none else some (.int (f z.toNatClampNeg) :: st, P)
    | none => none
  | .iaload, 1, .int z :: .ref (k + 1) :: st => if z < 0 then none else (pm_rd P k 100 z.toNatClampNeg).map fun v => (v :: st, P)
  | .iastore, 1, .int v :: .int z :: .ref (k + 1) :: st => if z < 0 then none else (pm_wr P k 100 z.toNatClampNeg (.int v)).map fun Q => (st, Q)
  | .baload, 1, .int z :: .ref (k + 1) :: st => if z < 0 then none else (pm_rd P k 101 z.toNatClampNeg).map fun v => (v :: st, P)
  | .bastore, 1, .int v :: .int z :: .ref (k + 1) :: st => if z < 0 ∨ ¬ narrow .boolean (.int v) = .int v then none else (pm_wr P k 101 z.toNatClampNeg (.int v)).map fun Q => (st, Q)
  | .aaload, 1, .int z :: .ref (k + 1) :: st => match pm_tg P k with
    | some t => if z < 0 ∨ t < 102 then none else (match pm_ae (t - 100) with
      | some _ => (pm_rd P k t z.toNatClampNeg).map fun v => (v :: st, P)
      | none => none)
    | none => none
  | .aastore, 1, .ref (v + 1) :: .int z :: .ref (k + 1) :: st => match pm_tg P k, pm_tg P v with
    | some t, some u => if z < 0 ∨ t < 102 ∨ 100 ≤ u then none else (if pm_ae (t - 100) = some u then (pm_wr P k t z.toNatClampNeg (.ref (v + 1))).map fun Q => (st, Q) else none)
    | _, _ => none
  | .arraylength, 1, .ref 0 :: st => match X with
    | some (L, _) => some (.int (Int32.ofNat L) :: st, P)
    | none => none
  | .arraylength, 1, .ref (k + 1) :: st => match P[k]? with
    | some q => if q.1 < 100 then none else (match pm_at (q.1 - 100) with
      | some _ => some (.int (Int32.ofNat q.2.length) :: st, P)
      | none => none)
    | none => none
  | .new x, 3, st => (pm_nw (pm_oc mid) x).map fun t => (.ref (P.length + 1) :: st, P ++ [(t, (List.range (pm_N t)).map fun j => defaultValue (pm_ft t j))])
  | .newarray a, 2, .int z :: st => if z < 0 ∨ 1000 < z.toNatClampNeg then none else (match a with
    | .int => some (.ref (P.length + 1) :: st, P ++ [(100, List.replicate z.toNatClampNeg (.int 0))])
    | .boolean => some (.ref (P.length + 1) :: st, P ++ [(101, List.replicate z.toNatClampNeg (.int 0))])
    | _ => none)
  | .anewarray x, 3, .int z :: st => if z < 0 ∨ 1000 < z.toNatClampNeg then none else (pm_an (pm_oc mid) x).map fun k => (.ref (P.length + 1) :: st, P ++ [(100 + k, List.replicate z.toNatClampNeg .null)])
  | _, _, _ => none
def pm_f4 (mid : Nat) (i : Instr) (n pc : Nat) (ls : pm_L) (st : List Value) (P : pm_H) : Option pm_O := match i, n, st with
  | .invokevirtual x, 3, st => match pm_cal (pm_oc mid) x with
    | some (0, y, a) => match (st.take a).reverse with
      | .ref (k + 1) :: _ => if (st.take a).length = a ∧ ((st.drop a).map fun v => v.category).sum ≤ 8 ∧ pm_tg P k = some (pm_oc y) then some (.inr (.inl (y, (st.take a).reverse, pc + 3, st.drop a))) else none
      | _ => none
    | _ => none
  | .invokestatic x, 3, st => match pm_cal (pm_oc mid) x with
    | some (1, y, a) => if (st.take a).length = a ∧ ((st.drop a).map fun v => v.category).sum ≤ 8 then some (.inr (.inl (y, (st.take a).reverse, pc + 3, st.drop a))) else none
    | _ => none
  | .invokespecial x, 3, st => match pm_cal (pm_oc mid) x with
    | some (4, _, _) => match st with
      | .ref _ :: st => if (st.map fun v => v.category).sum ≤ 8 then some (.inl (pc + 3, ls, st, P)) else none
      | _ => none
    | some (kd, y, a) => if kd = 2 ∨ kd = 3 then (match (st.take a).reverse with
      | .ref (k + 1) :: _ => if (st.take a).length = a ∧ ((st.drop a).map fun v => v.category).sum ≤ 8 then some (.inr (.inl (y, (st.take a).reverse, pc + 3, st.drop a))) else none
      | _ => none) else none
    | _ => none
  | .ireturn, 1, [.int v] => match pm_ret mid with
    | some ty => if narrow ty (.int v) = .int v then some (.inr (.inr (some (.int v)))) else none
    | none => none
  | .lreturn, 1, [.long v] => if pm_ret mid = some .long then some (.inr (.inr (some (.long v)))) else none
  | .areturn, 1, [.ref v] => match pm_ret mid with
    | some (.object _) => some (.inr (.inr (some (.ref v))))
    | some (.array _) => some (.inr (.inr (some (.ref v))))
    | _ => none
  | .return_, 1, [] => if pm_ret mid = none then some (.inr (.inr none)) else none
  | _, _, _ => none
def pm_step (X : pm_X) (mid pc : Nat) (ls : pm_L) (st : List Value) (P : pm_H) : Option pm_O := match pm_ins mid pc with
  | none => none
  | some (i, n) => match pm_f1 mid i n ls st with
    | some (l, s) => some (.inl (pc + n, l, s, P))
    | none => match pm_f2 i n pc st with
      | some (t, s) => some (.inl (t, ls, s, P))
      | none => match pm_f3 X mid i n st P with
        | some (s, Q) => some (.inl (pc + n, ls, s, Q))
        | none => pm_f4 mid i n pc ls st P
def pm_Ex (X : pm_X) (C : Nat → List Value → pm_H → pm_R → Prop) (mid : Nat) : Nat → Nat → pm_L → List Value → pm_H → pm_R → Prop
  | 0, _, _, _, _, _ => False
  | n + 1, pc, ls, st, P, r => match pm_step X mid pc ls st P with
    | some (.inl (pc', l, s, Q)) => pm_Ex X C mid n pc' l s Q r
    | some (.inr (.inl (y, as, pc', s))) => ∃ (v : Option Value) (Q : pm_H), C y as P (v, Q) ∧ pm_Ex X C mid n pc' ls (v.toList ++ s) Q r
    | some (.inr (.inr v)) => r = (v, P)
    | none => False
def pm_en (n : Nat) (as : List Value) : pm_L := (as.flatMap fun v => if v.category = 2 then [some v, none] else [some v]) ++ List.replicate (n - (as.flatMap fun v => if v.category = 2 then [some v, none] else [some v]).length) none
def pm_Call : Nat → Nat → List Value → pm_H → pm_R → Prop
  | 0, _, _, _, _ => False
  | d + 1, mid, as, P, r => (lg_sl as).length ≤ pm_maxL mid ∧ ∃ n, pm_Ex none (pm_Call d) mid n 0 (pm_en (pm_maxL mid) as) [] P r
def pm_ex (C : Nat → List Value → pm_H → Option pm_R) (mid : Nat) : Nat → Nat → pm_L → List Value → pm_H → Option pm_R
  | 0, _, _, _, _ => none
  | n + 1, pc, ls, st, P => match pm_step none mid pc ls st P with
    | some (.inl (pc', l, s, Q)) => pm_ex C mid n pc' l s Q
    | some (.inr (.inl (y, as, pc', s))) => match C y as P with
      | some (v, Q) => pm_ex C mid n pc' ls (v.toList ++ s) Q
      | none => none
    | some (.inr (.inr v)) => some (v, P)
    | none => none
def pm_run (f : Nat) : Nat → Nat → List Value → pm_H → Option pm_R
  | 0, _, _, _ => none
  | d + 1, mid, as, P => if (lg_sl as).length ≤ pm_maxL mid then pm_ex (pm_run f d) mid f 0 (pm_en (pm_maxL mid) as) [] P else none
theorem pm_ex_Ex {c : Nat → List Value → pm_H → Option pm_R} {C : Nat → List Value → pm_H → pm_R → Prop} (hc : ∀ y as P r, c y as P = some r → C y as P r) (mid : Nat) : ∀ n pc ls st P r, pm_ex c mid n pc ls st P = some r → pm_Ex none C mid n pc ls st P r := by
  intro n
  induction n with
  | zero => intro pc ls st P r h; cases h
  | succ n ih =>
    intro pc ls st P r h
    simp only [pm_ex] at h
    simp only [pm_Ex]
    cases hs : pm_step none mid pc ls st P with
    | none => rw [hs] at h; cases h
    | some o =>
      rw [hs] at h
      match o, h with
      | .inl (pc', l, s, Q), h => exact ih _ _ _ _ _ h
      | .inr (.inl (y, as, pc', s)), h =>
        cases hcall : c y as P with
        | none => simp only [hcall] at h; cases h
        | some q =>
          obtain ⟨v, Q⟩ := q
          simp only [hcall] at h
          exact ⟨v, Q, hc _ _ _ _ hcall, ih _ _ _ _ _ h⟩
      | .inr (.inr v), h => exact (Option.some.inj h).symm
theorem pm_run_Call (f : Nat) : ∀ d mid as P r, pm_run f d mid as P = some r → pm_Call d mid as P r := by
  intro d
  induction d with
  | zero => intro mid as P r h; cases h
  | succ d ih =>
    intro mid as P r h
    simp only [pm_run] at h
    split at h
    · next hl => exact ⟨hl, f, pm_ex_Ex (fun y as P r h => ih y as P r h) mid _ _ _ _ _ _ h⟩
    · cases h
end
section
def pm_ad (sa b k : Nat) : Nat := match k with
  | 0 => sa
  | j + 1 => b + j
def pm_tv (sa b : Nat) (v : Value) : Value := match v with
  | .ref k => .ref (pm_ad sa b k)
  | w => w
theorem pm_tv_cat (sa b : Nat) (v : Value) : (pm_tv sa b v).category = v.category := by cases v <;> rfl
theorem pm_tv_cats (sa b : Nat) (l : List Value) : ((l.map (pm_tv sa b)).map fun v => v.category) = l.map fun v => v.category := by
  rw [List.map_map]
  exact List.map_congr_left fun v _ => pm_tv_cat sa b v
def pm_lok (sa b : Nat) (ar : Array Slot) (nL : Nat) (ls : pm_L) : Prop := ls.length = nL ∧ ar.size = nL ∧ lv_wf ar ∧ ∀ (i : Nat) (v : Value), ls[i]? = some (some v) → ar[i]? = some (.val (pm_tv sa b v))
theorem pm_lok_has {sa b : Nat} {ar : Array Slot} {nL : Nat} {ls : pm_L} (h : pm_lok sa b ar nL ls) : ∃ l, lv_has ar nL l ∧ ∀ (i : Nat) (v : Value), ls[i]? = some (some v) → (i, pm_tv sa b v) ∈ l := by
  refine ⟨(List.range ls.length).filterMap (fun i => match ls[i]? with
    | some (some v) => some (i, pm_tv sa b v)
    | _ => none), ⟨h.2.1, h.2.2.1, fun q hq => ?_⟩, fun i v hi => ?_⟩
  · obtain ⟨i, -, hi⟩ := List.mem_filterMap.mp hq
    split at hi
    · next v hv =>
      cases hi
      exact h.2.2.2 i v hv
    · cases hi
  · refine List.mem_filterMap.mpr ⟨i, List.mem_range.mpr (List.getElem?_eq_some_iff.mp hi).1, ?_⟩
    rw [hi]
theorem pm_kill_len (ls : pm_L) (i : Nat) : (pm_kill ls i).length = ls.length := by
  unfold pm_kill
  split
  · rfl
  · split
    · split
      · simp
      · rfl
    · rfl
theorem pm_kill_get {ls : pm_L} {i j : Nat} {w : Value} (h : (pm_kill ls i)[j]? = some (some w)) : ls[j]? = some (some w) ∧ ¬ (j + 1 = i ∧ w.category = 2) := by
  unfold pm_kill at h
  split at h
  · exact ⟨h, fun q => by omega⟩
  · next k =>
    split at h
    · next u hu =>
      split at h
      · next hc =>
        by_cases hj : j = k
        · subst hj
          rw [List.getElem?_set_self (List.getElem?_eq_some_iff.mp hu).1] at h
          cases h
        · rw [List.getElem?_set_ne (Ne.symm hj)] at h
          exact ⟨h, fun q => hj (by omega)⟩
      · next hc =>
        refine ⟨h, fun q => ?_⟩
        have hj : j = k := by omega
        subst hj
        rw [hu] at h
        cases h
        exact hc q.2
    · next hu =>
      refine ⟨h, fun q => ?_⟩
      have hj : j = k := by omega
      subst hj
      exact hu w h
theorem pm_lok_st1 {sa b : Nat} {ar : Array Slot} {nL i : Nat} {ls ls' : pm_L} {v : Value} {l : List (Nat × Value)} (hlen : ls.length = nL) (hl : ∀ (j : Nat) (w : Value), ls[j]? = some (some w) → (j, pm_tv sa b w) ∈ l)
    (hs : pm_st1 ls i v = some ls') (h : lv_has ar nL ((i, pm_tv sa b v) :: l.filter (fun q => !(q.1 == i) && !(q.1 + 1 == i && q.2.category == 2)))) : i < nL ∧ pm_lok sa b ar nL ls' := by
  unfold pm_st1 at hs
  split at hs
  · next hi =>
    cases hs
    refine ⟨by omega, by simp [pm_kill_len, hlen], h.1, h.2.1, fun j w hj => h.2.2 (j, pm_tv sa b w) ?_⟩
    by_cases hji : j = i
    · subst hji
      rw [List.getElem?_set_self (by rw [pm_kill_len]; exact hi)] at hj
      cases hj
      exact List.mem_cons_self
    · rw [List.getElem?_set_ne (Ne.symm hji)] at hj
      obtain ⟨h1, h2⟩ := pm_kill_get hj
      refine List.mem_cons_of_mem _ (List.mem_filter.mpr ⟨hl j w h1, ?_⟩)
      simp only [Bool.and_eq_true, Bool.not_eq_true', beq_eq_false_iff_ne, ne_eq, Bool.and_eq_false_iff]
      refine ⟨hji, ?_⟩
      by_cases h3 : j + 1 = i
      · exact Or.inr fun q => h2 ⟨h3, by rw [← pm_tv_cat sa b w]; exact q⟩
      · exact Or.inl h3
  · cases hs
theorem pm_lok_st2 {sa b : Nat} {ar : Array Slot} {nL i : Nat} {ls ls' : pm_L} {v : Value} {l : List (Nat × Value)} (hlen : ls.length = nL) (hl : ∀ (j : Nat) (w : Value), ls[j]? = some (some w) → (j, pm_tv sa b w) ∈ l)
    (hs : pm_st2 ls i v = some ls') (h : lv_has ar nL ((i, pm_tv sa b v) :: l.filter (fun q => !(q.1 == i) && (!(q.1 == i + 1) && !(q.1 + 1 == i && q.2.category == 2))))) : i + 1 < nL ∧ pm_lok sa b ar nL ls' := by
  unfold pm_st2 at hs
  split at hs
  · next hi =>
    cases hs
    refine ⟨by omega, by simp [pm_kill_len, hlen], h.1, h.2.1, fun j w hj => h.2.2 (j, pm_tv sa b w) ?_⟩
    by_cases hj1 : j = i + 1
    · subst hj1
      rw [List.getElem?_set_self (by simp [pm_kill_len]; exact hi)] at hj
      cases hj
    · rw [List.getElem?_set_ne (Ne.symm hj1)] at hj
      by_cases hji : j = i
      · subst hji
        rw [List.getElem?_set_self (by rw [pm_kill_len]; omega)] at hj
        cases hj
        exact List.mem_cons_self
      · rw [List.getElem?_set_ne (Ne.symm hji)] at hj
        obtain ⟨h1, h2⟩ := pm_kill_get hj
        refine List.mem_cons_of_mem _ (List.mem_filter.mpr ⟨hl j w h1, ?_⟩)
        simp only [Bool.and_eq_true, Bool.not_eq_true', beq_eq_false_iff_ne, ne_eq, Bool.and_eq_false_iff]
        refine ⟨hji, hj1, ?_⟩
        by_cases h3 : j + 1 = i
        · exact Or.inr fun q => h2 ⟨h3, by rw [← pm_tv_cat sa b w]; exact q⟩
        · exact Or.inl h3
  · cases hs
theorem pm_st1_lt {ls ls' : pm_L} {i : Nat} {v : Value} (h : pm_st1 ls i v = some ls') : i < ls.length := by
  unfold pm_st1 at h
  split at h
  · assumption
  · cases h
theorem pm_st2_lt {ls ls' : pm_L} {i : Nat} {v : Value} (h : pm_st2 ls i v = some ls') : i + 1 < ls.length := by
  unfold pm_st2 at h
  split at h
  · assumption
  · cases h
theorem pm_ldi_spec {ls : pm_L} {i : Nat} {x : Int32} (h : pm_ldi ls i = some x) : ls[i]? = some (some (.int x)) := by
  unfold pm_ldi at h
  split at h
  · next y hy => cases h; exact hy
  · cases h
theorem pm_ldl_spec {ls : pm_L} {i : Nat} {x : Int64} (h : pm_ldl ls i = some x) : ls[i]? = some (some (.long x)) := by
  unfold pm_ldl at h
  split at h
  · next y hy => cases h; exact hy
  · cases h
theorem pm_lda_spec {ls : pm_L} {i : Nat} {x : Nat} (h : pm_lda ls i = some x) : ls[i]? = some (some (.ref x)) := by
  unfold pm_lda at h
  split at h
  · next y hy => cases h; exact hy
  · cases h
section PM1
variable {p : Program} {l : Launch} {e : Env} {R : Room} {s : State} {m : MethodId} {args : Array Value} {below : List Frame} {meth : Method} {c : Code} {H : Heap} {locs : List Loc} {cells slots : Nat} {Q : State → Prop}
theorem pm_f1_ok {sa b mid nL pc n : Nat} {i : Instr} {ls ls' : pm_L} {st st' : List Value} {ar : Array Slot} (hx : p.tables.exec = Jvm.exec) (hb : c.code = pm_code mid) (hown : s.vm.findClass (pm_own mid) = some m.cls) (hts : ∀ w ∈ pm_T, w.before args s = true)
    (hd : decode (pm_code mid) pc = .ok (i, n)) (hl : pm_lok sa b ar nL ls) (h : pm_f1 mid i n ls st = some (ls', st'))
    (kk : ∀ ar' : Array Slot, pm_lok sa b ar' nL ls' → W p l e R s m args below meth c H locs cells slots Q (F0 m (pc + n) ar' (st'.map (pm_tv sa b)))) : W p l e R s m args below meth c H locs cells slots Q (F0 m pc ar (st.map (pm_tv sa b))) := by
  obtain ⟨lv, hv, hin⟩ := pm_lok_has hl
  unfold pm_f1 at h
  split at h
  · cases h; exact lv_iconst hx hb hd rfl (kk ar hl)
  · cases h; exact lv_bipush hx hb hd rfl (kk ar hl)
  · cases h; exact lv_sipush hx hb hd rfl (kk ar hl)
  · cases h; exact lv_lconst hx hb hd rfl (kk ar hl)
  · obtain ⟨v, h1, h2⟩ := Option.map_eq_some_iff.mp h
    cases h2
    exact lv_ldc2 hx hb hown (hts _ (pm_l2_ok h1)) hd (kk ar hl)
  · obtain ⟨v, h1, h2⟩ := Option.map_eq_some_iff.mp h
    cases h2
    exact lv_iload_n hx hb hd rfl (hl.2.2.2 _ _ (pm_ldi_spec h1)) (kk ar hl)
  · obtain ⟨v, h1, h2⟩ := Option.map_eq_some_iff.mp h
    cases h2
    exact lv_iload hx hb hd (hl.2.2.2 _ _ (pm_ldi_spec h1)) (kk ar hl)
  · obtain ⟨v, h1, h2⟩ := Option.map_eq_some_iff.mp h
    cases h2
    exact lv_lload_n hx hb hd rfl (hl.2.2.2 _ _ (pm_ldl_spec h1)) (kk ar hl)
  · obtain ⟨v, h1, h2⟩ := Option.map_eq_some_iff.mp h
    cases h2
    exact lv_lload hx hb hd (hl.2.2.2 _ _ (pm_ldl_spec h1)) (kk ar hl)
  · obtain ⟨v, h1, h2⟩ := Option.map_eq_some_iff.mp h
    cases h2
    exact lv_aload_n hx hb hd rfl (hl.2.2.2 _ _ (pm_lda_spec h1)) (kk ar hl)
  · obtain ⟨v, h1, h2⟩ := Option.map_eq_some_iff.mp h
    cases h2
    exact lv_aload hx hb hd (hl.2.2.2 _ _ (pm_lda_spec h1)) (kk ar hl)
  · obtain ⟨v, h1, h2⟩ := Option.map_eq_some_iff.mp h
    cases h2
    exact lv_istore_n hx hb hd rfl hv (by have := pm_st1_lt h1; have := hl.1; omega) rfl fun ar' h' => kk ar' (pm_lok_st1 hl.1 hin h1 h').2
  · obtain ⟨v, h1, h2⟩ := Option.map_eq_some_iff.mp h
    cases h2
    exact lv_istore hx hb hd hv (by have := pm_st1_lt h1; have := hl.1; omega) rfl fun ar' h' => kk ar' (pm_lok_st1 hl.1 hin h1 h').2
  · obtain ⟨v, h1, h2⟩ := Option.map_eq_some_iff.mp h
    cases h2
    exact lv_lstore_n hx hb hd rfl hv (by have := pm_st2_lt h1; have := hl.1; omega) rfl fun ar' h' => kk ar' (pm_lok_st2 hl.1 hin h1 h').2
  · obtain ⟨v, h1, h2⟩ := Option.map_eq_some_iff.mp h
    cases h2
    exact lv_lstore hx hb hd hv (by have := pm_st2_lt h1; have := hl.1; omega) rfl fun ar' h' => kk ar' (pm_lok_st2 hl.1 hin h1 h').2
  · obtain ⟨v, h1, h2⟩ := Option.map_eq_some_iff.mp h
    cases h2
    exact lv_astore_n hx hb hd rfl hv (by have := pm_st1_lt h1; have := hl.1; omega) rfl fun ar' h' => kk ar' (pm_lok_st1 hl.1 hin h1 h').2
  · obtain ⟨v, h1, h2⟩ := Option.map_eq_some_iff.mp h
    cases h2
    exact lv_astore hx hb hd hv (by have := pm_st1_lt h1; have := hl.1; omega) rfl fun ar' h' => kk ar' (pm_lok_st1 hl.1 hin h1 h').2
  · split at h
    · next x hx1 =>
      obtain ⟨v, h1, h2⟩ := Option.map_eq_some_iff.mp h
      cases h2
      obtain ⟨k, hk⟩ := List.getElem?_of_mem (hin _ _ (pm_ldi_spec hx1))
      exact lv_iinc hx hb hd hv hk rfl (by have := pm_st1_lt h1; have := hl.1; omega) rfl fun ar' h' => kk ar' (pm_lok_st1 hl.1 hin h1 h').2
    · cases h
  · cases h; exact lv_iadd hx hb hd (kk ar hl)
  · cases h; exact lv_isub hx hb hd (kk ar hl)
  · cases h; exact lv_imul hx hb hd (kk ar hl)
  · cases h; exact lv_iand hx hb hd (kk ar hl)
  · cases h; exact lv_ior hx hb hd (kk ar hl)
  · cases h; exact lv_ixor hx hb hd (kk ar hl)
  · split at h
    · cases h
    · next hz => cases h; exact lv_idiv hx hb hd hz (kk ar hl)
  · split at h
    · cases h
    · next hz => cases h; exact lv_irem hx hb hd hz (kk ar hl)
  · cases h; exact lv_ineg hx hb hd (kk ar hl)
  · cases h; exact lv_ishl hx hb hd (kk ar hl)
  · cases h; exact lv_ishr hx hb hd (kk ar hl)
  · cases h; exact lv_ladd hx hb hd (kk ar hl)
  · cases h; exact lv_lsub hx hb hd (kk ar hl)
  · cases h; exact lv_land hx hb hd (kk ar hl)
  · cases h; exact lv_i2l hx hb hd rfl (kk ar hl)
  · cases h; exact lv_l2i hx hb hd rfl (kk ar hl)
  · cases h; exact W.lcmp hx hb hd (kk ar hl)
  · split at h
    · next hz => cases h; exact lv_dup hx hb hd (by rw [pm_tv_cat]; exact hz) (kk ar hl)
    · cases h
  · split at h
    · next hz => cases h; exact lv_pop hx hb hd (by rw [pm_tv_cat]; exact hz) (kk ar hl)
    · cases h
  · split at h
    · next hz => cases h; exact lv_pop2_2 hx hb hd (by rw [pm_tv_cat]; exact hz) (kk ar hl)
    · cases h
  · split at h
    · next hz => cases h; exact lv_dup_x1 hx hb hd (by rw [pm_tv_cat]; exact hz.1) (by rw [pm_tv_cat]; exact hz.2) (kk ar hl)
    · cases h
  · split at h
    · next hz => cases h; exact lv_dup_x2 hx hb hd (by rw [pm_tv_cat]; exact hz.1) (by rw [pm_tv_cat]; exact hz.2.1) (by rw [pm_tv_cat]; exact hz.2.2) (kk ar hl)
    · cases h
  · split at h
    · next hz => cases h; exact lv_dup2_11 hx hb hd (by rw [pm_tv_cat]; exact hz.1) (by rw [pm_tv_cat]; exact hz.2) (kk ar hl)
    · cases h
  · cases h
theorem pm_to_ok {pc t : Nat} {off : Int} {st st' : List Value} (h : pm_to pc off st = some (t, st')) : (pc : Int) + off = (t : Int) ∧ st' = st := by
  unfold pm_to at h
  split at h
  · cases h; exact ⟨by omega, rfl⟩
  · cases h
theorem pm_f2_ok {sa b mid pc n t : Nat} {i : Instr} {st st' : List Value} {ar : Array Slot} (hx : p.tables.exec = Jvm.exec) (hb : c.code = pm_code mid)
    (hd : decode (pm_code mid) pc = .ok (i, n)) (h : pm_f2 i n pc st = some (t, st'))
    (kk : W p l e R s m args below meth c H locs cells slots Q (F0 m t ar (st'.map (pm_tv sa b)))) : W p l e R s m args below meth c H locs cells slots Q (F0 m pc ar (st.map (pm_tv sa b))) := by
  unfold pm_f2 at h
  split at h
  · obtain ⟨h1, rfl⟩ := pm_to_ok h
    exact lv_goto hx hb hd h1 kk
  · next cd off x st0 =>
    obtain ⟨⟨t1, s1⟩, h1, h2⟩ := Option.map_eq_some_iff.mp h
    obtain ⟨hto, rfl⟩ := pm_to_ok h1
    cases cd
    · refine lv_if_eq hx hb hd hto (fun hc => ?_) (fun hc => ?_)
      · rw [if_pos (show pm_c .eq x 0 = true by simp [pm_c, hc])] at h2
        cases h2; exact kk
      · rw [if_neg (show ¬ pm_c .eq x 0 = true by simp [pm_c, hc])] at h2
        cases h2; exact kk
    · refine lv_if_ne hx hb hd hto (fun hc => ?_) (fun hc => ?_)
      · rw [if_pos (show pm_c .ne x 0 = true by simp [pm_c, hc])] at h2
        cases h2; exact kk
      · rw [if_neg (show ¬ pm_c .ne x 0 = true by simp [pm_c, hc])] at h2
        cases h2; exact kk
    · refine lv_if_lt hx hb hd hto (fun hc => ?_) (fun hc => ?_)
      · rw [if_pos (show pm_c .lt x 0 = true by simp [pm_c, hc])] at h2
        cases h2; exact kk
      · rw [if_neg (show ¬ pm_c .lt x 0 = true by simp [pm_c, hc])] at h2
        cases h2; exact kk
    · refine lv_if_ge hx hb hd hto (fun hc => ?_) (fun hc => ?_)
      · rw [if_pos (show pm_c .ge x 0 = true by simp [pm_c, hc])] at h2
        cases h2; exact kk
      · rw [if_neg (show ¬ pm_c .ge x 0 = true by simp [pm_c, hc])] at h2
        cases h2; exact kk
    · refine lv_if_gt hx hb hd hto (fun hc => ?_) (fun hc => ?_)
      · rw [if_pos (show pm_c .gt x 0 = true by simp [pm_c, hc])] at h2
        cases h2; exact kk
      · rw [if_neg (show ¬ pm_c .gt x 0 = true by simp [pm_c, hc])] at h2
        cases h2; exact kk
    · refine lv_if_le hx hb hd hto (fun hc => ?_) (fun hc => ?_)
      · rw [if_pos (show pm_c .le x 0 = true by simp [pm_c, hc])] at h2
        cases h2; exact kk
      · rw [if_neg (show ¬ pm_c .le x 0 = true by simp [pm_c, hc])] at h2
        cases h2; exact kk
  · next cd off y x st0 =>
    obtain ⟨⟨t1, s1⟩, h1, h2⟩ := Option.map_eq_some_iff.mp h
    obtain ⟨hto, rfl⟩ := pm_to_ok h1
    cases cd
    · refine lv_icmp_eq hx hb hd hto (fun hc => ?_) (fun hc => ?_)
      · rw [if_pos (show pm_c .eq x y = true by simp [pm_c, hc])] at h2
        cases h2; exact kk
      · rw [if_neg (show ¬ pm_c .eq x y = true by simp [pm_c, hc])] at h2
        cases h2; exact kk
    · refine lv_icmp_ne hx hb hd hto (fun hc => ?_) (fun hc => ?_)
      · rw [if_pos (show pm_c .ne x y = true by simp [pm_c, hc])] at h2
        cases h2; exact kk
      · rw [if_neg (show ¬ pm_c .ne x y = true by simp [pm_c, hc])] at h2
        cases h2; exact kk
    · refine lv_icmp_lt hx hb hd hto (fun hc => ?_) (fun hc => ?_)
      · rw [if_pos (show pm_c .lt x y = true by simp [pm_c, hc])] at h2
        cases h2; exact kk
      · rw [if_neg (show ¬ pm_c .lt x y = true by simp [pm_c, hc])] at h2
        cases h2; exact kk
    · refine lv_icmp_ge hx hb hd hto (fun hc => ?_) (fun hc => ?_)
      · rw [if_pos (show pm_c .ge x y = true by simp [pm_c, hc])] at h2
        cases h2; exact kk
      · rw [if_neg (show ¬ pm_c .ge x y = true by simp [pm_c, hc])] at h2
        cases h2; exact kk
    · refine lv_icmp_gt hx hb hd hto (fun hc => ?_) (fun hc => ?_)
      · rw [if_pos (show pm_c .gt x y = true by simp [pm_c, hc])] at h2
        cases h2; exact kk
      · rw [if_neg (show ¬ pm_c .gt x y = true by simp [pm_c, hc])] at h2
        cases h2; exact kk
    · refine lv_icmp_le hx hb hd hto (fun hc => ?_) (fun hc => ?_)
      · rw [if_pos (show pm_c .le x y = true by simp [pm_c, hc])] at h2
        cases h2; exact kk
      · rw [if_neg (show ¬ pm_c .le x y = true by simp [pm_c, hc])] at h2
        cases h2; exact kk
  · next d lo hi offs x st0 =>
    split at h
    · next hc =>
      obtain ⟨h1, rfl⟩ := pm_to_ok h
      exact lv_tableOut hx hb hd hc h1 kk
    · next hc =>
      split at h
      · next off ho =>
        obtain ⟨h1, rfl⟩ := pm_to_ok h
        exact lv_tableIn hx hb hd (fun q => hc (Or.inl q)) (fun q => hc (Or.inr q)) ho h1 kk
      · cases h
  · next d ps x st0 =>
    split at h
    · next hc =>
      obtain ⟨h1, rfl⟩ := pm_to_ok h
      exact lv_lookup hx hb hd hc rfl h1 kk
    · cases h
  · cases h
end PM1
end
section
def pm_at1 (dC : Nat → ClassId) (dI : Nat → Nat → Nat) (dA : Nat → ClassId) (sa b k : Nat) (q : Nat × List Value) (H : Heap) : Prop :=
  (q.1 < 100 ∧ ∃ r : vw_C, pm_cl[q.1]? = some r ∧ q.2.length = r.2.2 ∧ t_OB (b + k) (dC q.1) r.2.2 (dI q.1) H (vp_V (q.2.map (pm_tv sa b)))) ∨
  (100 ≤ q.1 ∧ H[b + k]? = some (arrV (dA (q.1 - 100)) q.2.length (vp_V (q.2.map (pm_tv sa b)))))
def pm_rel (dC : Nat → ClassId) (dI : Nat → Nat → Nat) (dA : Nat → ClassId) (sa b : Nat) (P : pm_H) (H : Heap) : Prop := H.size = b + P.length ∧ ∀ (k : Nat) (q : Nat × List Value), P[k]? = some q → pm_at1 dC dI dA sa b k q H
def pm_K (dC : Nat → ClassId) (dI : Nat → Nat → Nat) (dA : Nat → ClassId) (U : State) : Prop :=
  va_K (dC, dI) pm_cl [] U ∧ (∀ (k : Nat) (ty : FieldType), pm_at k = some ty → ArrOfT U (dA k) ty ∧ va_RA U (dA k) ty) ∧
  (∀ w ∈ pm_nest, va_Nw w U) ∧ ∀ C ∈ pm_over, va_AO C U
theorem pm_at1.kept {dC : Nat → ClassId} {dI : Nat → Nat → Nat} {dA : Nat → ClassId} {sa b k : Nat} {q : Nat × List Value} {H H1 : Heap} (h : pm_at1 dC dI dA sa b k q H) (hq : H1[b + k]? = H[b + k]?) : pm_at1 dC dI dA sa b k q H1 := by
  rcases h with ⟨h0, r, h1, h2, h3⟩ | ⟨h0, h1⟩
  · exact Or.inl ⟨h0, r, h1, h2, h3.kept hq⟩
  · exact Or.inr ⟨h0, by rw [hq]; exact h1⟩
theorem pm_rd_spec {P : pm_H} {k t j : Nat} {v : Value} (h : pm_rd P k t j = some v) : ∃ vs, P[k]? = some (t, vs) ∧ vs[j]? = some v := by
  unfold pm_rd at h
  split at h
  · next q hq =>
    split at h
    · next ht =>
      obtain ⟨t', vs⟩ := q
      cases ht
      exact ⟨vs, hq, h⟩
    · cases h
  · cases h
theorem pm_wr_spec {P P' : pm_H} {k t j : Nat} {v : Value} (h : pm_wr P k t j v = some P') : ∃ vs, P[k]? = some (t, vs) ∧ j < vs.length ∧ P' = P.set k (t, vs.set j v) := by
  unfold pm_wr at h
  split at h
  · next q hq =>
    split at h
    · next ht =>
      obtain ⟨t', vs⟩ := q
      obtain ⟨rfl, hj⟩ := ht
      cases h
      exact ⟨vs, hq, hj, rfl⟩
    · cases h
  · cases h
theorem pm_rel_set {dC : Nat → ClassId} {dI : Nat → Nat → Nat} {dA : Nat → ClassId} {sa b k : Nat} {P : pm_H} {q0 q : Nat × List Value} {H H1 : Heap} (h : pm_rel dC dI dA sa b P H) (hk : P[k]? = some q0) (z : H1.size = H.size) (oq : ∀ x : Nat, x ≠ b + k → H1[x]? = H[x]?) (hq : pm_at1 dC dI dA sa b k q H1) : pm_rel dC dI dA sa b (P.set k q) H1 := by
  have hl := (List.getElem?_eq_some_iff.mp hk).1
  refine ⟨by rw [z, h.1, List.length_set], fun j y hj => ?_⟩
  by_cases hjk : j = k
  · subst hjk
    rw [List.getElem?_set_self hl] at hj
    cases hj
    exact hq
  · rw [List.getElem?_set_ne (Ne.symm hjk)] at hj
    exact (h.2 j y hj).kept (oq (b + j) (by omega))
theorem pm_rel_push {dC : Nat → ClassId} {dI : Nat → Nat → Nat} {dA : Nat → ClassId} {sa b : Nat} {P : pm_H} {q : Nat × List Value} {H H1 : Heap} (h : pm_rel dC dI dA sa b P H) (z : H1.size = H.size + 1) (oq : ∀ x : Nat, x < H.size → H1[x]? = H[x]?) (hq : pm_at1 dC dI dA sa b P.length q H1) : pm_rel dC dI dA sa b (P ++ [q]) H1 := by
  refine ⟨by rw [z, h.1]; simp; omega, fun j y hj => ?_⟩
  by_cases hl : j < P.length
  · rw [List.getElem?_append_left hl] at hj
    exact (h.2 j y hj).kept (oq (b + j) (by have := h.1; omega))
  · rw [List.getElem?_append_right (by omega)] at hj
    have hz : j - P.length < 1 := (List.getElem?_eq_some_iff.mp hj).1
    have hj2 : j = P.length := by omega
    subst hj2
    rw [Nat.sub_self] at hj
    cases hj
    exact hq
theorem pm_V_set {sa b j : Nat} {vs : List Value} {v : Value} (hj : j < vs.length) (i : Nat) : updV (vp_V (vs.map (pm_tv sa b))) j (pm_tv sa b v) i = vp_V ((vs.set j v).map (pm_tv sa b)) i := by
  rw [List.map_set]
  exact vp_updV_set (by rw [List.length_map]; exact hj) _ i
theorem pm_V_get {sa b j : Nat} {vs : List Value} {v : Value} (hj : vs[j]? = some v) : vp_V (vs.map (pm_tv sa b)) j = pm_tv sa b v := by
  simp [vp_V, List.getElem?_map, hj]
theorem pm_nar {sa b : Nat} {ty : FieldType} {v : Value} (h : narrow ty v = v) : narrow ty (pm_tv sa b v) = pm_tv sa b v := by
  cases v with
  | ref k => cases ty <;> rfl
  | _ => exact h
theorem pm_fit {sa b : Nat} {ty : FieldType} {v : Value} (h : fits ty v = true) : fits ty (pm_tv sa b v) = true := by
  cases v with
  | ref k => cases ty <;> first | rfl | exact h
  | _ => exact h
section PM2
variable {p : Program} {l : Launch} {e : Env} {R : Room} {s : State} {m : MethodId} {args : Array Value} {below : List Frame} {meth : Method} {c : Code} {H : Heap} {locs : List Loc} {cells slots : Nat} {Q : State → Prop}
variable {dC : Nat → ClassId} {dI : Nat → Nat → Nat} {dA : Nat → ClassId} {sa b mid pc : Nat} {P : pm_H} {ar : Array Slot} {rest : List Value} {H0 : Heap}
theorem pm_getf {x k t j : Nat} {v : Value} (hx : p.tables.exec = Jvm.exec) (hb : c.code = pm_code mid) (hown : s.vm.findClass (pm_own mid) = some m.cls) (hts : ∀ w ∈ pm_T, w.before args s = true) (hK : pm_K dC dI dA s) (hP : pm_rel dC dI dA sa b P H)
    (hfl : pm_fl (pm_oc mid) x = some (t, j)) (ht : t < 100) (hrd : pm_rd P k t j = some v) (hd : decode (pm_code mid) pc = .ok (.getfield x, 3))
    (kk : W p l e R s m args below meth c H locs cells slots Q (F0 m (pc + 3) ar (pm_tv sa b v :: rest))) : W p l e R s m args below meth c H locs cells slots Q (F0 m pc ar (.ref (b + k) :: rest)) := by
  obtain ⟨r0, hc, hj, hlink, hin⟩ := pm_fl_ok hfl
  obtain ⟨vs, h1, h2⟩ := pm_rd_spec hrd
  rcases hP.2 k _ h1 with ⟨-, r, g1, g2, cell, q1, q2, q3, q4⟩ | ⟨g0, -⟩
  · cases hc.symm.trans g1
    have hw : va_P (dC, dI) pm_cl [(b + k, .inr (t, vs.map (pm_tv sa b)))] H := fun i q hq => by
      have hz : i < 1 := (List.getElem?_eq_some_iff.mp hq).1
      rw [show i = 0 by omega] at hq
      cases hq
      exact ⟨r0, hc, cell, q1, q2, q3, q4⟩
    exact va_get (C := r0.1) (T := r0.2.1) (N := r0.2.2) (ref := (r0.2.1 j).1) hx hb hts hin hown hK.1 hw 0 rfl hc j hj (hts _ hlink) (fun _ h => h) (by rw [List.getElem?_map, h2]; rfl) hd kk
  · exact absurd g0 (by show ¬ 100 ≤ t; omega)
theorem pm_putf {x k t j : Nat} {v : Value} {P' : pm_H} (hx : p.tables.exec = Jvm.exec) (hb : c.code = pm_code mid) (hown : s.vm.findClass (pm_own mid) = some m.cls) (hts : ∀ w ∈ pm_T, w.before args s = true) (hK : pm_K dC dI dA s) (hP : pm_rel dC dI dA sa b P H) (hS0 : va_S (fun q => b ≤ q) H0 H locs) (hini : pm_ini mid = true → meth.name = "<init>")
    (hfl : pm_fl (pm_oc mid) x = some (t, j)) (hc0 : t < 100 ∧ narrow (pm_ft t j) v = v ∧ fits (pm_ft t j) v = true ∧ (pm_fin t j = false ∨ (pm_ini mid = true ∧ pm_oc mid = t))) (hwr : pm_wr P k t j v = some P') (hd : decode (pm_code mid) pc = .ok (.putfield x, 3))
    (kk : ∀ (H1 : Heap) (locs1 : List Loc), pm_rel dC dI dA sa b P' H1 → va_S (fun q => b ≤ q) H0 H1 locs1 → W p l e R s m args below meth c H1 locs1 cells slots Q (F0 m (pc + 3) ar rest)) : W p l e R s m args below meth c H locs cells slots Q (F0 m pc ar (pm_tv sa b v :: .ref (b + k) :: rest)) := by
  obtain ⟨ht, hn, hf, hfin⟩ := hc0
  obtain ⟨r0, hc, hj, hlink, hin⟩ := pm_fl_ok hfl
  obtain ⟨vs, h1, h2, rfl⟩ := pm_wr_spec hwr
  obtain ⟨hF1, hF2⟩ := pm_fin_ok hc hj
  obtain ⟨htyk, hnm⟩ := pm_ft_ok hc
  have hty := htyk j hj
  have hn' := pm_nar (sa := sa) (b := b) hn
  have hf' := pm_fit (sa := sa) (b := b) hf
  rcases hP.2 k _ h1 with ⟨-, r, g1, g2, cell, q1, q2, q3, q4⟩ | ⟨g0, -⟩
  · cases hc.symm.trans g1
    have hKt := hK.1.1 t _ hc
    obtain ⟨hS, hfc, kC, hkC, hkind⟩ := hKt
    have hap := va_apart (own := pm_own mid) hts hin (pm_ft t) htyk hnm hK.1 hc
    obtain ⟨cf, kf, fi, f, hi, hsl⟩ := hS j hj
    have hst := (u_facts hfc hkC (u_lays hts hin hj) hi).1
    have hlay := hts _ (hin _ (u_in_lay hj))
    have fin : ∀ H' : Heap, H'[b + k]? = some (cell.setSlot f.slot (pm_tv sa b v)) → H'.size = H.size → (∀ q, q ≠ b + k → H'[q]? = H[q]?) → W p l e R s m args below meth c H' (locs ++ [⟨b + k, f.slot⟩]) cells slots Q (F0 m (pc + 3) ar rest) := by
      intro H' e1 e2 e3
      refine kk H' _ (pm_rel_set hP h1 e2 e3 (Or.inl ⟨ht, r0, hc, by rw [List.length_set]; exact g2, ?_⟩)) (hS0.put e2 e3 (Nat.le_add_right _ _))
      rw [hsl] at e1
      exact t_OB.to (V := updV (vp_V (vs.map (pm_tv sa b))) j (pm_tv sa b v)) ⟨_, e1, q2, q3, t_set q4 hap hj _⟩ (fun i _ => pm_V_set h2 i)
    by_cases hfl0 : (r0.2.1 j).2.2.2 = true
    · rcases hfin with hq | ⟨hi0, hdecl⟩
      · rw [hF1, hfl0] at hq; cases hq
      · unfold u_lay at hlay
        rw [if_pos hfl0] at hlay
        have hcf : m.cls = cf := by
          obtain ⟨_, _, c', _, _, _, -, -, hf', -, -, -, hown2, -⟩ := Cond.laysFinal_spec hlay
          have e1 : c' = cf := by have := hi.symm.trans hf'; simp at this; exact this.1.symm
          rw [hF2, ← hdecl] at hown2
          rw [← e1]; exact Option.some.inj (hown.symm.trans hown2)
        have h6 := u_fits hfc hkC hkind (Or.inr hlay) hi hty hn' hf'
        exact W.putFinK hx hb hown (hts _ hlink) hi hst hcf (hini hi0) (by rw [q2]; exact h6) q1 q3 (by rw [hsl]; exact k2_hasslot (q4 j hj)) rfl rfl hd fin
    · unfold u_lay at hlay
      rw [if_neg hfl0] at hlay
      have h6 := u_store hfc hkC hkind hlay hi hty hn' hf'
      exact W.putK hx hb (f := f) ⟨hown, hts _ hlink, ⟨_, _, _, hi⟩, hst⟩ (by rw [q2]; exact h6) q1 q3 (by rw [hsl]; exact k2_hasslot (q4 j hj)) rfl rfl hd fin
  · exact absurd g0 (by show ¬ 100 ≤ t; omega)
theorem pm_arr {k t : Nat} {vs : List Value} (hP : pm_rel dC dI dA sa b P H) (h : P[k]? = some (t, vs)) (ht : 100 ≤ t) : H[b + k]? = some (arrV (dA (t - 100)) vs.length (vp_V (vs.map (pm_tv sa b)))) := by
  rcases hP.2 k _ h with ⟨g0, -⟩ | ⟨-, g⟩
  · exact absurd g0 (by show ¬ t < 100; omega)
  · exact g
theorem pm_arr_set {k t j : Nat} {vs : List Value} {v : Value} {H1 : Heap} (hP : pm_rel dC dI dA sa b P H) (h : P[k]? = some (t, vs)) (ht : 100 ≤ t) (hj : j < vs.length)
    (e1 : H1[b + k]? = some ((arrV (dA (t - 100)) vs.length (vp_V (vs.map (pm_tv sa b)))).setSlot j (pm_tv sa b v))) (z : H1.size = H.size) (oq : ∀ q : Nat, q ≠ b + k → H1[q]? = H[q]?) : pm_rel dC dI dA sa b (P.set k (t, vs.set j v)) H1 := by
  refine pm_rel_set hP h z oq (Or.inr ⟨ht, ?_⟩)
  show H1[b + k]? = some (arrV (dA (t - 100)) (vs.set j v).length _)
  rw [e1, arrV_store, List.length_set, show updV (vp_V (vs.map (pm_tv sa b))) j (pm_tv sa b v) = vp_V ((vs.set j v).map (pm_tv sa b)) from funext fun i => pm_V_set hj i]
end PM2
end
section
def pm_sl (P : pm_H) : Nat := (P.map fun q => q.2.length).sum
theorem pm_sl_app (P : pm_H) (q : Nat × List Value) : pm_sl (P ++ [q]) = pm_sl P + q.2.length := by simp [pm_sl]
theorem pm_sl_set {P : pm_H} {k t j : Nat} {vs : List Value} {v : Value} (h : P[k]? = some (t, vs)) : pm_sl (P.set k (t, vs.set j v)) = pm_sl P := by
  unfold pm_sl
  rw [List.map_set]
  have hl := (List.getElem?_eq_some_iff.mp h).1
  have e : (P.map fun q => q.2.length)[k]? = some vs.length := by rw [List.getElem?_map, h]; rfl
  have e2 : (P.map fun q => q.2.length).set k ((t, vs.set j v).2.length) = P.map fun q => q.2.length := by
    apply List.ext_getElem?
    intro i
    by_cases hi : i = k
    · subst hi
      rw [List.getElem?_set_self (by rw [List.length_map]; exact hl), e]
      simp
    · rw [List.getElem?_set_ne (Ne.symm hi)]
  rw [e2]
section PM3
variable {p : Program} {l : Launch} {e : Env} {R : Room} {s : State} {m : MethodId} {args : Array Value} {below : List Frame} {meth : Method} {c : Code} {H : Heap} {locs : List Loc} {cells slots : Nat} {Q : State → Prop}
variable {dC : Nat → ClassId} {dI : Nat → Nat → Nat} {dA : Nat → ClassId} {sa b mid pc : Nat} {P : pm_H} {ar : Array Slot} {rest : List Value} {H0 : Heap}
theorem pm_clamp {z : Int32} {n : Nat} (h0 : ¬ z < 0) (h : z.toNatClampNeg < n) : ¬ (z < 0 ∨ n ≤ z.toNatClampNeg) := fun q => q.elim h0 (fun q => by omega)
theorem pm_arrV_congr {cA : ClassId} {N : Nat} {f g : Nat → Value} (h : ∀ j, j < N → f j = g j) : arrV cA N f = arrV cA N g := by
  unfold arrV
  congr 2
  funext j
  exact h j.1 j.2
theorem pm_rep {sa b N : Nat} {cA : ClassId} {v : Value} (hv : pm_tv sa b v = v) : arrV cA N (fun _ => v) = arrV cA (List.replicate N v).length (vp_V ((List.replicate N v).map (pm_tv sa b))) := by
  rw [List.length_replicate]
  refine pm_arrV_congr fun j hj => ?_
  rw [pm_V_get (v := v) (by rw [List.getElem?_replicate, if_pos hj]), hv]
theorem pm_new {x t : Nat} (hx : p.tables.exec = Jvm.exec) (hb : c.code = pm_code mid) (hown : s.vm.findClass (pm_own mid) = some m.cls) (hts : ∀ w ∈ pm_T, w.before args s = true) (hK : pm_K dC dI dA s) (hP : pm_rel dC dI dA sa b P H) (hS0 : va_S (fun q => b ≤ q) H0 H locs)
    (hnw : pm_nw (pm_oc mid) x = some t) (hcells : cells + 1 ≤ R.cells) (hslots : slots + pm_N t ≤ R.slots) (hd : decode (pm_code mid) pc = .ok (.new x, 3))
    (kk : ∀ H1 : Heap, pm_rel dC dI dA sa b (P ++ [(t, (List.range (pm_N t)).map fun j => defaultValue (pm_ft t j))]) H1 → va_S (fun q => b ≤ q) H0 H1 locs → W p l e R s m args below meth c H1 locs (cells + 1) (slots + pm_N t) Q (F0 m (pc + 3) ar (.ref (b + P.length) :: rest))) : W p l e R s m args below meth c H locs cells slots Q (F0 m pc ar rest) := by
  obtain ⟨r0, hc, ht, hlink, hinst, hini, hin⟩ := pm_nw_ok hnw
  obtain ⟨htyk, hnm⟩ := pm_ft_ok hc
  have hN : pm_N t = r0.2.2 := by simp [pm_N, hc]
  have hKn := hK.1.1 t _ hc
  rw [hN] at hslots kk
  refine W.newcK hx hb hown (hts _ hlink) (hts _ hinst) (hts _ hini) rfl hd hcells hslots hKn.2.1 hP.1 fun H1 kC hkC e1 z1 o1 => ?_
  refine kk H1 (pm_rel_push hP (by rw [z1, hP.1]) (fun q hq => o1 q (by rw [← hP.1]; exact hq)) (Or.inl ⟨ht, r0, hc, by simp, ?_⟩)) ⟨Nat.le_trans hS0.1 (by rw [z1, hP.1]; omega), fun q h1 h2 => (o1 q (by rw [← hP.1]; exact Nat.lt_of_lt_of_le h1 hS0.1)).trans (hS0.2.1 q h1 h2), hS0.2.2⟩
  refine (u_born (pm_ft t) hts hin hKn hkC e1 htyk).to fun j hj => ?_
  rw [pm_V_get (v := defaultValue (pm_ft t j)) (by simp [hj])]
  cases pm_ft t j <;> rfl
theorem pm_newa {a : ArrayType} {k : Nat} {z : Int32} (hx : p.tables.exec = Jvm.exec) (hb : c.code = pm_code mid) (hts : ∀ w ∈ pm_T, w.before args s = true) (hK : pm_K dC dI dA s) (hP : pm_rel dC dI dA sa b P H) (hS0 : va_S (fun q => b ≤ q) H0 H locs)
    (hk : pm_at k = some (newarray.typeOf a)) (hA : Cond.arrayClass (newarray.typeOf a) ∈ pm_T) (hv : defaultValue (newarray.typeOf a) = .int 0) (hra : ∀ (U : State) (cA : ClassId), va_RA U cA (newarray.typeOf a) → U.vm.findClass ("[" ++ (newarray.typeOf a).toString) = some cA) (h0 : ¬ z < 0) (hz : z.toNatClampNeg * componentBytes (newarray.typeOf a) ≤ 536870912) (hcells : cells + 1 ≤ R.cells) (hslots : slots + z.toNatClampNeg ≤ R.slots) (hd : decode (pm_code mid) pc = .ok (.newarray a, 2))
    (kk : ∀ H1 : Heap, pm_rel dC dI dA sa b (P ++ [(100 + k, List.replicate z.toNatClampNeg (.int 0))]) H1 → va_S (fun q => b ≤ q) H0 H1 locs → W p l e R s m args below meth c H1 locs (cells + 1) (slots + z.toNatClampNeg) Q (F0 m (pc + 2) ar (.ref (b + P.length) :: rest))) : W p l e R s m args below meth c H locs cells slots Q (F0 m pc ar (.int z :: rest)) := by
  refine va_newaK hx hb (hts _ hA) rfl hd rfl h0 rfl hz hcells hslots hP.1 fun H1 cA e1 z1 o1 hAr hNm => ?_
  have hcA : cA = dA k := Option.some.inj (hNm.symm.trans (hra s _ (hK.2.1 k _ hk).2))
  subst hcA
  refine kk H1 (pm_rel_push hP (by rw [z1, hP.1]) (fun q hq => o1 q (by rw [← hP.1]; exact hq)) (Or.inr ⟨by show 100 ≤ 100 + k; omega, ?_⟩)) ⟨Nat.le_trans hS0.1 (by rw [z1, hP.1]; omega), fun q h1 h2 => (o1 q (by rw [← hP.1]; exact Nat.lt_of_lt_of_le h1 hS0.1)).trans (hS0.2.1 q h1 h2), hS0.2.2⟩
  show H1[b + P.length]? = some (arrV (dA (100 + k - 100)) _ _)
  rw [e1, hv, Nat.add_sub_cancel_left, pm_rep (sa := sa) (b := b) rfl]
theorem pm_anew {x k : Nat} {z : Int32} (hx : p.tables.exec = Jvm.exec) (hb : c.code = pm_code mid) (hown : s.vm.findClass (pm_own mid) = some m.cls) (hts : ∀ w ∈ pm_T, w.before args s = true) (hK : pm_K dC dI dA s) (hP : pm_rel dC dI dA sa b P H) (hS0 : va_S (fun q => b ≤ q) H0 H locs)
    (hk : pm_an (pm_oc mid) x = some k) (h0 : ¬ z < 0) (hz : z.toNatClampNeg * 4 ≤ 536870912) (hcells : cells + 1 ≤ R.cells) (hslots : slots + z.toNatClampNeg ≤ R.slots) (hd : decode (pm_code mid) pc = .ok (.anewarray x, 3))
    (kk : ∀ H1 : Heap, pm_rel dC dI dA sa b (P ++ [(100 + k, List.replicate z.toNatClampNeg .null)]) H1 → va_S (fun q => b ≤ q) H0 H1 locs → W p l e R s m args below meth c H1 locs (cells + 1) (slots + z.toNatClampNeg) Q (F0 m (pc + 3) ar (.ref (b + P.length) :: rest))) : W p l e R s m args below meth c H locs cells slots Q (F0 m pc ar (.int z :: rest)) := by
  obtain ⟨C, hat, hlink, hov⟩ := pm_an_ok hk
  refine W.anew hx hb hown (hts _ hlink) (va_AO.use (hK.2.2.2 C hov)) rfl hd rfl h0 hz hcells hslots fun cA kA comp f1 f2 f3 f4 => ?_
  obtain ⟨kA', comp', -, -, -, k4⟩ := (hK.2.1 k _ hat).2
  have hcA : cA = dA k := Option.some.inj (f1.symm.trans k4)
  subst hcA
  generalize hH1 : H.push ({ cls := dA k, slots := Array.replicate z.toNatClampNeg .null, vm := .none } : Cell) = H1
  have z1 : H1.size = H.size + 1 := by rw [← hH1, Array.size_push]
  have e1 : H1[H.size]? = some (arrV (dA k) z.toNatClampNeg (fun _ => .null)) := by rw [← hH1, Array.getElem?_push_size, ← arrV_new]
  have o1 : ∀ q : Nat, q < H.size → H1[q]? = H[q]? := fun q hq => by rw [← hH1, Array.getElem?_push, if_neg (Nat.ne_of_lt hq)]
  rw [hP.1] at e1 ⊢
  refine kk H1 (pm_rel_push hP z1 o1 (Or.inr ⟨by show 100 ≤ 100 + k; omega, ?_⟩)) ⟨Nat.le_trans hS0.1 (by rw [z1]; omega), fun q h1 h2 => (o1 q (Nat.lt_of_lt_of_le h1 hS0.1)).trans (hS0.2.1 q h1 h2), hS0.2.2⟩
  show H1[b + P.length]? = some (arrV (dA (100 + k - 100)) _ _)
  rw [e1, Nat.add_sub_cancel_left, pm_rep (sa := sa) (b := b) rfl]
theorem pm_f3_ok {X : pm_X} {i : Instr} {n : Nat} {st st' : List Value} {P' : pm_H} (hx : p.tables.exec = Jvm.exec) (hb : c.code = pm_code mid) (hown : s.vm.findClass (pm_own mid) = some m.cls) (hts : ∀ w ∈ pm_T, w.before args s = true) (hK : pm_K dC dI dA s) (hini : pm_ini mid = true → meth.name = "<init>")
    (hX : ∀ L f, X = some (L, f) → va_X sa L f s H0 ∧ sa < H0.size ∧ sa < b) (hP : pm_rel dC dI dA sa b P H) (hS0 : va_S (fun q => b ≤ q) H0 H locs) (hd : decode (pm_code mid) pc = .ok (i, n)) (h : pm_f3 X mid i n st P = some (st', P'))
    (hRc : cells + (P'.length - P.length) ≤ R.cells) (hRs : slots + (pm_sl P' - pm_sl P) ≤ R.slots)
    (kk : ∀ (H1 : Heap) (locs1 : List Loc) (cells1 slots1 : Nat), cells1 = cells + (P'.length - P.length) → slots1 = slots + (pm_sl P' - pm_sl P) → pm_rel dC dI dA sa b P' H1 → va_S (fun q => b ≤ q) H0 H1 locs1 → W p l e R s m args below meth c H1 locs1 cells1 slots1 Q (F0 m (pc + n) ar (st'.map (pm_tv sa b)))) : W p l e R s m args below meth c H locs cells slots Q (F0 m pc ar (st.map (pm_tv sa b))) := by
  unfold pm_f3 at h
  split at h
  · next x k st0 =>
    split at h
    · next t j hfl =>
      split at h
      · next ht =>
        obtain ⟨v, h1, h2⟩ := Option.map_eq_some_iff.mp h
        cases h2
        exact pm_getf hx hb hown hts hK hP hfl ht h1 hd (kk H locs cells slots (by simp) (by simp) hP hS0)
      · cases h
    · cases h
  · next x v k st0 =>
    split at h
    · next t j hfl =>
      split at h
      · next ht =>
        obtain ⟨Q1, h1, h2⟩ := Option.map_eq_some_iff.mp h
        cases h2
        obtain ⟨vs, w1, w2, w3⟩ := pm_wr_spec h1
        have e1 : P'.length = P.length := by rw [w3, List.length_set]
        have e2 : pm_sl P' = pm_sl P := by rw [w3, pm_sl_set w1]
        exact pm_putf hx hb hown hts hK hP hS0 hini hfl ht h1 hd fun H1 locs1 g1 g2 => kk H1 locs1 cells slots (by rw [e1]; simp) (by rw [e2]; simp) g1 g2
      · cases h
    · cases h
  · next z st0 =>
    split at h
    · next L f =>
      split at h
      · cases h
      · next hz =>
        cases h
        obtain ⟨g1, g2, g3⟩ := hX L f rfl
        exact va_sld hx hb g1 g2 (by show ¬ b ≤ sa; omega) hS0 hz hd (kk H locs cells slots (by simp) (by simp) hP hS0)
    · cases h
  · next z k st0 =>
    split at h
    · cases h
    · next hz =>
      obtain ⟨v, h1, h2⟩ := Option.map_eq_some_iff.mp h
      cases h2
      obtain ⟨vs, w1, w2⟩ := pm_rd_spec h1
      have hlt := (List.getElem?_eq_some_iff.mp w2).1
      exact W.iald (v := pm_tv sa b v) hx hb (pm_arr hP w1 (Nat.le_refl _)) ((hK.2.1 0 .int rfl).1 _ _) (fun q => by cases q) (by rw [arrV_size]; exact pm_clamp hz hlt) (by rw [arrV_read _ _ hlt, pm_V_get w2]) rfl rfl hd (kk H locs cells slots (by simp) (by simp) hP hS0)
  · next v z k st0 =>
    split at h
    · cases h
    · next hz =>
      obtain ⟨Q1, h1, h2⟩ := Option.map_eq_some_iff.mp h
      cases h2
      obtain ⟨vs, w1, w2, w3⟩ := pm_wr_spec h1
      have e1 : P'.length = P.length := by rw [w3, List.length_set]
      have e2 : pm_sl P' = pm_sl P := by rw [w3, pm_sl_set w1]
      refine W.iast hx hb (pm_arr hP w1 (Nat.le_refl _)) ((hK.2.1 0 .int rfl).1 _ _) (fun q => by cases q) (by rw [arrV_size]; exact pm_clamp hz w2) rfl rfl hd fun H1 g1 g2 g3 => ?_
      exact kk H1 _ cells slots (by rw [e1]; simp) (by rw [e2]; simp) (by rw [w3]; exact pm_arr_set hP w1 (Nat.le_refl _) w2 g1 g2 g3) (hS0.put g2 g3 (Nat.le_add_right _ _))
  · next z k st0 =>
    split at h
    · cases h
    · next hz =>
      obtain ⟨v, h1, h2⟩ := Option.map_eq_some_iff.mp h
      cases h2
      obtain ⟨vs, w1, w2⟩ := pm_rd_spec h1
      have hlt := (List.getElem?_eq_some_iff.mp w2).1
      exact W.zald (v := pm_tv sa b v) hx hb (pm_arr hP w1 (by decide)) ((hK.2.1 1 .boolean rfl).1 _ _) (fun q => by cases q) (by rw [arrV_size]; exact pm_clamp hz hlt) (by rw [arrV_read _ _ hlt, pm_V_get w2]) rfl rfl hd (kk H locs cells slots (by simp) (by simp) hP hS0)
  · next v z k st0 =>
    split at h
    · cases h
    · next hz =>
      obtain ⟨Q1, h1, h2⟩ := Option.map_eq_some_iff.mp h
      cases h2
      obtain ⟨vs, w1, w2, w3⟩ := pm_wr_spec h1
      have e1 : P'.length = P.length := by rw [w3, List.length_set]
      have e2 : pm_sl P' = pm_sl P := by rw [w3, pm_sl_set w1]
      have hnb : narrow .boolean (.int v) = .int v := Classical.byContradiction fun q => hz (Or.inr q)
      refine W.zast hx hb (pm_arr hP w1 (by decide)) ((hK.2.1 1 .boolean rfl).1 _ _) (fun q => by cases q) (by rw [arrV_size]; exact pm_clamp (fun q => hz (Or.inl q)) w2) rfl rfl hd fun H1 g1 g2 g3 => ?_
      rw [hnb] at g1
      exact kk H1 _ cells slots (by rw [e1]; simp) (by rw [e2]; simp) (by rw [w3]; exact pm_arr_set hP w1 (by decide) w2 g1 g2 g3) (hS0.put g2 g3 (Nat.le_add_right _ _))
  · next z k st0 =>
    split at h
    · next t htg =>
      split at h
      · cases h
      · next hz =>
        split at h
        · next u hae =>
          obtain ⟨r, hr1, hr2, hr3⟩ := pm_ae_ok hae
          obtain ⟨v, h1, h2⟩ := Option.map_eq_some_iff.mp h
          cases h2
          obtain ⟨vs, w1, w2⟩ := pm_rd_spec h1
          have hlt := (List.getElem?_eq_some_iff.mp w2).1
          exact W.aald (v := pm_tv sa b v) (ty := .object r.1) hx hb (pm_arr hP w1 (by omega)) ((hK.2.1 _ _ hr2).1 _ _) rfl (fun q => by cases q) (by rw [arrV_size]; exact pm_clamp (fun q => hz (Or.inl q)) hlt) (by rw [arrV_read _ _ hlt, pm_V_get w2]) rfl rfl hd (kk H locs cells slots (by simp) (by simp) hP hS0)
        · cases h
    · cases h
  · next v z k st0 =>
    split at h
    · next t u htg hug =>
      split at h
      · cases h
      · next hz =>
        split at h
        · next hat =>
          obtain ⟨r0, hr1, hr2, hr3⟩ := pm_ae_ok hat
          obtain ⟨Q1, h1, h2⟩ := Option.map_eq_some_iff.mp h
          cases h2
          obtain ⟨vs, w1, w2, w3⟩ := pm_wr_spec h1
          have e1 : P'.length = P.length := by rw [w3, List.length_set]
          have e2 : pm_sl P' = pm_sl P := by rw [w3, pm_sl_set w1]
          obtain ⟨⟨u', us⟩, hu1, hu2⟩ := Option.map_eq_some_iff.mp hug
          cases hu2
          rcases hP.2 v _ hu1 with ⟨-, r, g1, g2, cellV, q1, q2, q3, q4⟩ | ⟨g0, -⟩
          · cases hr1.symm.trans g1
            have hcls := (hK.1.1 u' r0 g1).2
            obtain ⟨kA, comp, k1, k2, k3, -⟩ := (hK.2.1 _ _ hr2).2
            have hcomp : comp = dC u' := Option.some.inj (k3.symm.trans hcls.1)
            subst hcomp
            obtain ⟨kC, hkC, -⟩ := hcls.2
            refine W.aast hx hb (pm_arr hP w1 (by omega)) (fun q h => by cases h) (fun h => by cases h) k1 k2 rfl hkC ⟨fun q => hz (Or.inl q), by rw [arrV_size]; exact w2⟩ q1 (fun q h => by rw [q3] at h; cases h) (by rw [q2]; exact hkC) (by rw [q2]; exact va_assign hcls) rfl rfl hd fun H1 f1 f2 f3 => ?_
            exact kk H1 _ cells slots (by rw [e1]; simp) (by rw [e2]; simp) (by rw [w3]; exact pm_arr_set hP w1 (by omega) w2 f1 f2 f3) (hS0.put f2 f3 (Nat.le_add_right _ _))
          · exact absurd g0 (by show ¬ 100 ≤ u'; omega)
        · cases h
    · cases h
  · next st0 =>
    split at h
    · next L f =>
      cases h
      obtain ⟨g1, g2, g3⟩ := hX L f rfl
      exact va_slen hx hb g1 g2 (by show ¬ b ≤ sa; omega) hS0 hd (kk H locs cells slots (by simp) (by simp) hP hS0)
    · cases h
  · next k st0 =>
    split at h
    · next q hq =>
      split at h
      · cases h
      · next hz =>
        split at h
        · next ty hty =>
          cases h
          exact W.alen hx hb (pm_arr hP hq (by omega)) ((hK.2.1 _ ty hty).1 _ _) (by rw [arrV_size]) rfl rfl hd (kk H locs cells slots (by simp) (by simp) hP hS0)
        · cases h
    · cases h
  · next x st0 =>
    obtain ⟨t, h1, h2⟩ := Option.map_eq_some_iff.mp h
    cases h2
    have e1 : (P ++ [(t, (List.range (pm_N t)).map fun j => defaultValue (pm_ft t j))]).length - P.length = 1 := by simp
    have e2 : pm_sl (P ++ [(t, (List.range (pm_N t)).map fun j => defaultValue (pm_ft t j))]) - pm_sl P = pm_N t := by rw [pm_sl_app]; simp
    rw [e1] at hRc kk; rw [e2] at hRs kk
    exact pm_new hx hb hown hts hK hP hS0 h1 hRc hRs hd fun H1 g1 g2 => kk H1 locs _ _ rfl rfl g1 g2
  · next a z st0 =>
    split at h
    · cases h
    · next hz =>
      have hz1 : ¬ z < 0 := fun q => hz (Or.inl q)
      have hz2 : z.toNatClampNeg ≤ 1000 := by omega
      split at h
      · cases h
        have e1 : (P ++ [(100, List.replicate z.toNatClampNeg (Value.int 0))]).length - P.length = 1 := by simp
        have e2 : pm_sl (P ++ [(100, List.replicate z.toNatClampNeg (Value.int 0))]) - pm_sl P = z.toNatClampNeg := by rw [pm_sl_app]; simp
        rw [e1] at hRc kk; rw [e2] at hRs kk
        exact pm_newa (a := .int) (k := 0) hx hb hts hK hP hS0 rfl pm_T_ints rfl (fun _ _ h => h) hz1 (by show _ * 4 ≤ _; omega) hRc hRs hd fun H1 g1 g2 => kk H1 locs _ _ rfl rfl g1 g2
      · cases h
        have e1 : (P ++ [(101, List.replicate z.toNatClampNeg (Value.int 0))]).length - P.length = 1 := by simp
        have e2 : pm_sl (P ++ [(101, List.replicate z.toNatClampNeg (Value.int 0))]) - pm_sl P = z.toNatClampNeg := by rw [pm_sl_app]; simp
        rw [e1] at hRc kk; rw [e2] at hRs kk
        exact pm_newa (a := .boolean) (k := 1) hx hb hts hK hP hS0 rfl pm_T_booleans rfl (fun _ _ h => h) hz1 (by show _ * 1 ≤ _; omega) hRc hRs hd fun H1 g1 g2 => kk H1 locs _ _ rfl rfl g1 g2
      · cases h
  · next x z st0 =>
    split at h
    · cases h
    · next hz =>
      have hz1 : ¬ z < 0 := fun q => hz (Or.inl q)
      have hz2 : z.toNatClampNeg ≤ 1000 := by omega
      obtain ⟨k, h1, h2⟩ := Option.map_eq_some_iff.mp h
      cases h2
      have e1 : (P ++ [(100 + k, List.replicate z.toNatClampNeg Value.null)]).length - P.length = 1 := by simp
      have e2 : pm_sl (P ++ [(100 + k, List.replicate z.toNatClampNeg Value.null)]) - pm_sl P = z.toNatClampNeg := by rw [pm_sl_app]; simp
      rw [e1] at hRc kk; rw [e2] at hRs kk
      exact pm_anew hx hb hown hts hK hP hS0 h1 hz1 (by omega) hRc hRs hd fun H1 g1 g2 => kk H1 locs _ _ rfl rfl g1 g2
  · cases h
end PM3
end
section
theorem pm_wr_len {P P' : pm_H} {k t j : Nat} {v : Value} (h : pm_wr P k t j v = some P') : P'.length = P.length ∧ pm_sl P' = pm_sl P := by
  obtain ⟨vs, w1, w2, w3⟩ := pm_wr_spec h
  exact ⟨by rw [w3, List.length_set], by rw [w3, pm_sl_set w1]⟩
def pm_le (P P' : pm_H) : Prop := P.length ≤ P'.length ∧ pm_sl P ≤ pm_sl P'
theorem pm_le_rf (P : pm_H) : pm_le P P := ⟨Nat.le_refl _, Nat.le_refl _⟩
theorem pm_le_tr {P P' P'' : pm_H} (h : pm_le P P') (h' : pm_le P' P'') : pm_le P P'' := ⟨Nat.le_trans h.1 h'.1, Nat.le_trans h.2 h'.2⟩
theorem pm_le_app (P : pm_H) (q : Nat × List Value) : pm_le P (P ++ [q]) := ⟨by simp, by rw [pm_sl_app]; omega⟩
theorem pm_le_wr {P P' : pm_H} {k t j : Nat} {v : Value} (h : pm_wr P k t j v = some P') : pm_le P P' := ⟨by rw [(pm_wr_len h).1]; exact Nat.le_refl _, by rw [(pm_wr_len h).2]; exact Nat.le_refl _⟩
theorem pm_f3_le {X : pm_X} {mid n : Nat} {i : Instr} {st st' : List Value} {P P' : pm_H} (h : pm_f3 X mid i n st P = some (st', P')) : pm_le P P' := by
  unfold pm_f3 at h
  split at h
  all_goals first
    | (cases h; done)
    | (repeat' (split at h)
       all_goals first
         | (cases h; done)
         | (cases h; exact pm_le_rf _)
         | (cases h; exact pm_le_app _ _)
         | (obtain ⟨v, h1, h2⟩ := Option.map_eq_some_iff.mp h; cases h2; first | exact pm_le_rf _ | exact pm_le_app _ _ | exact pm_le_wr h1))
theorem pm_f4_le {mid n pc pc' : Nat} {i : Instr} {ls l : pm_L} {st st' : List Value} {P P' : pm_H} (h : pm_f4 mid i n pc ls st P = some (.inl (pc', l, st', P'))) : P' = P := by
  unfold pm_f4 at h
  repeat' (split at h)
  all_goals first
    | (cases h; done)
    | (cases h; rfl)
theorem pm_f4_inl {mid n pc pc' : Nat} {i : Instr} {ls l : pm_L} {st st' : List Value} {P P' : pm_H} (h : pm_f4 mid i n pc ls st P = some (.inl (pc', l, st', P'))) :
    ∃ (x a0 : Nat) (q : Nat × Nat), i = .invokespecial x ∧ n = 3 ∧ st = .ref a0 :: st' ∧ pc' = pc + 3 ∧ l = ls ∧ P' = P ∧ (st'.map fun v => v.category).sum ≤ 8 ∧ pm_cal (pm_oc mid) x = some (4, q) := by
  unfold pm_f4 at h
  split at h
  · (repeat' (split at h)) <;> cases h
  · (repeat' (split at h)) <;> cases h
  · next st0 x =>
    split at h
    · next q1 q2 hcal =>
      split at h
      · next a0 st1 =>
        split at h
        · next hs =>
          cases h
          exact ⟨x, a0, (q1, q2), rfl, rfl, rfl, rfl, rfl, rfl, hs, hcal⟩
        · cases h
      · cases h
    · (repeat' (split at h)) <;> cases h
    · cases h
  all_goals ((repeat' (split at h)) <;> cases h)
theorem pm_step_le {X : pm_X} {mid pc pc' : Nat} {ls l : pm_L} {st st' : List Value} {P P' : pm_H} (h : pm_step X mid pc ls st P = some (.inl (pc', l, st', P'))) : pm_le P P' := by
  unfold pm_step at h
  split at h
  · cases h
  · split at h
    · cases h; exact pm_le_rf _
    · split at h
      · cases h; exact pm_le_rf _
      · split at h
        · next hq => cases h; exact pm_f3_le hq
        · rw [pm_f4_le h]; exact pm_le_rf _
theorem pm_Ex_le {X : pm_X} {C : Nat → List Value → pm_H → pm_R → Prop} (hC : ∀ y as P r, C y as P r → pm_le P r.2) (mid : Nat) : ∀ n pc ls st P r, pm_Ex X C mid n pc ls st P r → pm_le P r.2 := by
  intro n
  induction n with
  | zero => intro pc ls st P r h; cases h
  | succ n ih =>
    intro pc ls st P r h
    simp only [pm_Ex] at h
    split at h
    · next hs => exact pm_le_tr (pm_step_le hs) (ih _ _ _ _ _ h)
    · next hs =>
      obtain ⟨v, Q, h1, h2⟩ := h
      exact pm_le_tr (hC _ _ _ _ h1) (ih _ _ _ _ _ h2)
    · next hs => subst h; exact pm_le_rf _
    · cases h
theorem pm_Call_le : ∀ d y as P r, pm_Call d y as P r → pm_le P r.2 := by
  intro d
  induction d with
  | zero => intro y as P r h; cases h
  | succ d ih =>
    intro y as P r h
    obtain ⟨-, n, h⟩ := h
    exact pm_Ex_le ih y n _ _ _ _ _ h
theorem pm_K_same {dC : Nat → ClassId} {dI : Nat → Nat → Nat} {dA : Nat → ClassId} {u U : State} (hvm : u.vm = U.vm) (h : pm_K dC dI dA u) : pm_K dC dI dA U := by
  have ha : u.vm.Alike U.vm := by rw [hvm]; exact Vm.Alike.refl _
  exact ⟨va_K.moved ha h.1, fun k ty hk => ⟨arrOfT_moved ha (h.2.1 k ty hk).1, (h.2.1 k ty hk).2.moved ha⟩, fun w hw => va_Nw.same (pm_nest_tab w hw) hvm (h.2.2.1 w hw), fun C hC => (h.2.2.2 C hC).moved ha⟩
theorem pm_K_warm {dC : Nat → ClassId} {dI : Nat → Nat → Nat} {dA : Nat → ClassId} {s U : State} (hW : s.WarmedH U.vm) (h : pm_K dC dI dA s) : pm_K dC dI dA U :=
  ⟨va_K.moved hW.alike h.1, fun k ty hk => ⟨arrOfT_moved hW.alike (h.2.1 k ty hk).1, (h.2.1 k ty hk).2.moved hW.alike⟩, fun w hw => by
    obtain ⟨a, i, y, hh, rfl⟩ := pm_nest_form w hw
    exact va_Nw.warmM hW (h.2.2.1 _ hw), fun C hC => (h.2.2.2 C hC).moved hW.alike⟩
def pm_ws (y : Nat) : List Cond := .code (pm_y y) (pm_code y) (pm_maxL y) (pm_ret y) :: pm_T
def pm_rm (d : Nat) (P P' : pm_H) : Room := { frames := d, cells := P'.length - P.length, slots := pm_sl P' - pm_sl P, locals := d * 33 }
def pm_Pc (dC : Nat → ClassId) (dI : Nat → Nat → Nat) (dA : Nat → ClassId) (sa b : Nat) (as : List Value) (P : pm_H) : Array Value → State → Prop := fun a U => a = (as.map (pm_tv sa b)).toArray ∧ pm_rel dC dI dA sa b P U.heap ∧ pm_K dC dI dA U
def pm_Qc (dC : Nat → ClassId) (dI : Nat → Nat → Nat) (dA : Nat → ClassId) (sa b : Nat) (r : pm_R) : Array Value → State → Outcome → State → Prop := fun _ st o t => o = .returned (r.1.map (pm_tv sa b)) ∧ pm_rel dC dI dA sa b r.2 t.heap ∧ ∀ q : Nat, q < b → t.heap[q]? = st.heap[q]?
def pm_Met (l : Launch) (d y : Nat) (as : List Value) (P : pm_H) (r : pm_R) : Prop := ∀ (dC : Nat → ClassId) (dI : Nat → Nat → Nat) (dA : Nat → ClassId) (sa b : Nat),
  Met l (pm_y y) (pm_ws y) (pm_rm d P r.2) (pm_Pc dC dI dA sa b as P) (pm_Qc dC dI dA sa b r) (r.2.length - P.length) (pm_sl r.2 - pm_sl P) (fun q => b ≤ q)
theorem pm_blind (dC : Nat → ClassId) (dI : Nat → Nat → Nat) (dA : Nat → ClassId) (sa b : Nat) (as : List Value) (P : pm_H) : FrameBlind (pm_Pc dC dI dA sa b as P) := fun a U g mk h => ⟨h.1, h.2.1, pm_K_same (u := U) (U := U.calling g mk a) rfl h.2.2⟩
section PM4
variable {p : Program} {l : Launch} {e : Env} {R : Room} {s : State} {m : MethodId} {args : Array Value} {below : List Frame} {meth : Method} {c : Code} {H : Heap} {locs : List Loc} {cells slots : Nat} {Q : State → Prop}
variable {dC : Nat → ClassId} {dI : Nat → Nat → Nat} {dA : Nat → ClassId} {sa b mid pc d : Nat} {P : pm_H} {ar : Array Slot} {H0 : Heap}
theorem pm_after {a : Array Value} {st0 rest : List Value} {r : pm_R} {mc ms : Nat} (hr : va_Run p l e R s m args below meth c H locs cells slots mc ms (F0 m pc ar st0) rest (pm_Qc dC dI dA sa b r a) (fun q => b ≤ q)) (hP : pm_rel dC dI dA sa b P H) (hle : pm_le P r.2) (hS0 : va_S (fun q => b ≤ q) H0 H locs)
    (kk : ∀ (H1 : Heap) (locs1 : List Loc), pm_rel dC dI dA sa b r.2 H1 → va_S (fun q => b ≤ q) H0 H1 locs1 → W p l e R s m args below meth c H1 locs1 (cells + mc) (slots + ms) Q (F0 m (pc + 3) ar ((r.1.map (pm_tv sa b)).toList ++ rest))) : W p l e R s m args below meth c H locs cells slots Q (F0 m pc ar st0) := by
  intro T hT X
  obtain ⟨v, st₀, t, T', L, h0, X', hL, e1, e2, ⟨hv, hrel, hk⟩, st⟩ := hr T hT X
  cases hv
  rw [h0] at hk
  rw [← e1] at hrel hk
  obtain ⟨t2, a1, b1⟩ := kk T'.heap (locs ++ L) hrel ⟨Nat.le_trans hS0.1 (by rw [hrel.1, hP.1]; have := hle.1; omega), fun q h1 h2 => (hk q (by have : ¬ b ≤ q := h2; omega)).trans (hS0.2.1 q h1 h2), fun q hq => by
    rcases List.mem_append.mp hq with h | h
    · exact hS0.2.2 q h
    · exact hL q h⟩ T' rfl X'
  exact ⟨t2, st t2 a1, b1⟩
theorem pm_good (y : Nat) (hc : Cond.code (pm_y y) (pm_code y) (pm_maxL y) (pm_ret y) ∈ pm_T) : GoodIn pm_T (pm_ws y) := by
  intro w hw
  rcases List.mem_cons.mp hw with rfl | h
  · exact ⟨hc, pm_T_good _ hc⟩
  · exact ⟨h, pm_T_good _ h⟩
theorem pm_split {st as0 : List Value} {a k : Nat} (hlen : (st.take a).length = a) (has : (st.take a).reverse = .ref (k + 1) :: as0) :
    st.map (pm_tv sa b) = (as0.map (pm_tv sa b)).reverse ++ .ref (b + k) :: (st.drop a).map (pm_tv sa b) ∧ as0.length = a - 1 := by
  have h1 : st.take a = as0.reverse ++ [Value.ref (k + 1)] := by
    have h2 := congrArg List.reverse has
    rw [List.reverse_reverse, List.reverse_cons] at h2
    exact h2
  constructor
  · have h3 : st = (as0.reverse ++ [Value.ref (k + 1)]) ++ st.drop a := by rw [← h1, List.take_append_drop]
    have h4 : st.map (pm_tv sa b) = ((as0.reverse ++ [Value.ref (k + 1)]) ++ st.drop a).map (pm_tv sa b) := congrArg (List.map (pm_tv sa b)) h3
    rw [h4, List.map_append, List.map_append, List.map_reverse, List.append_assoc]
    rfl
  · have h2 := congrArg List.length has
    rw [List.length_reverse, hlen, List.length_cons] at h2
    omega
theorem pm_split0 {st : List Value} {a : Nat} : st.map (pm_tv sa b) = (((st.take a).reverse).map (pm_tv sa b)).reverse ++ (st.drop a).map (pm_tv sa b) := by
  have h3 : st.map (pm_tv sa b) = (st.take a ++ st.drop a).map (pm_tv sa b) := by rw [List.take_append_drop]
  rw [h3, List.map_append, List.map_reverse, List.reverse_reverse]
theorem pm_sum {st : List Value} (h : (st.map fun v => v.category).sum ≤ 8) {ar : Array Slot} {x : List Value} : 2 * (F0 m pc ar x).monitorRoom + ((st.map (pm_tv sa b)).map fun v => v.category).sum ≤ 8 := by
  rw [pm_tv_cats]
  exact lv_room h
theorem pm_call_ok {i : Instr} {n pc' y : Nat} {ls : pm_L} {as st st' : List Value} {r : pm_R} (hx : p.tables.exec = Jvm.exec) (hb : c.code = pm_code mid) (hml : c.maxLocals = pm_maxL mid) (hown : s.vm.findClass (pm_own mid) = some m.cls) (hts : ∀ w ∈ pm_T, w.before args s = true) (hK : pm_K dC dI dA s)
    (hl : pm_lok sa b ar (pm_maxL mid) ls) (hP : pm_rel dC dI dA sa b P H) (hS0 : va_S (fun q => b ≤ q) H0 H locs) (hd : decode (pm_code mid) pc = .ok (i, n)) (h : pm_f4 mid i n pc ls st P = some (.inr (.inl (y, as, pc', st')))) (hM : pm_Met l d y as P r) (hle : pm_le P r.2)
    (hR : d + 1 ≤ R.frames ∧ (d + 1) * 33 ≤ R.locals) (hRc : cells + (r.2.length - P.length) ≤ R.cells) (hRs : slots + (pm_sl r.2 - pm_sl P) ≤ R.slots)
    (kk : ∀ (H1 : Heap) (locs1 : List Loc), pm_rel dC dI dA sa b r.2 H1 → va_S (fun q => b ≤ q) H0 H1 locs1 → W p l e R s m args below meth c H1 locs1 (cells + (r.2.length - P.length)) (slots + (pm_sl r.2 - pm_sl P)) Q (F0 m pc' ar ((r.1.toList ++ st').map (pm_tv sa b)))) : W p l e R s m args below meth c H locs cells slots Q (F0 m pc ar (st.map (pm_tv sa b))) := by
  have hres : (r.1.map (pm_tv sa b)).toList ++ st'.map (pm_tv sa b) = (r.1.toList ++ st').map (pm_tv sa b) := by cases r.1 <;> simp
  have hroom : ∀ y : Nat, (pm_rm d P r.2).frames + 1 ≤ R.frames ∧ 8 + (pm_maxL y + 11) + (pm_rm d P r.2).locals ≤ R.locals := fun y => ⟨hR.1, by have := hR.2; have := pm_maxL_le y; show 8 + (pm_maxL y + 11) + d * 33 ≤ R.locals; omega⟩
  have hpre : ∀ U : State, U.heap = H → s.WarmedH U.vm → pm_Pc dC dI dA sa b as P (as.map (pm_tv sa b)).toArray U := fun U hU hW => ⟨rfl, by rw [hU]; exact hP, pm_K_warm hW hK⟩
  unfold pm_f4 at h
  split at h
  · next st0 x =>
    split at h
    · next y0 a hcal =>
      split at h
      · next k as0 has =>
        split at h
        · next hcond =>
          obtain ⟨hlen, hsum, htag⟩ := hcond
          rw [has] at h
          cases h
          obtain ⟨hcode, hini, hd3, hlink, hinst, hsel, hoc, r0, hr0, hrn⟩ := pm_cal_ok0 hcal
          obtain ⟨e1, e2⟩ := pm_split (sa := sa) (b := b) hlen has
          obtain ⟨⟨t, vs⟩, ht1, ht2⟩ := Option.map_eq_some_iff.mp htag
          cases ht2
          rw [e1]
          refine pm_after (r := r) (va_runV (C := (pm_y y).cls) (own := pm_own mid) (index := x) (bytes := pm_code y) (maxL := pm_maxL y) (ret := pm_ret y) (n := a - 1) (Ts := pm_T) ⟨hx, hb, hml, hown, hts⟩ (hM dC dI dA sa b) ⟨callB_of (a - 1) hts (pm_good y hcode) rfl rfl rfl (hts _ hini) (hts _ hlink) hd3 (hroom y), hts _ hinst, hts _ hsel⟩ ⟨pm_blind _ _ _ _ _ _ _, ?_, hpre⟩ rfl (by rw [List.length_map]; exact e2) hl.2.1 rfl (pm_sum hsum) hd ⟨hRc, hRs⟩) hP hle hS0 fun H1 locs1 g1 g2 => by rw [hres]; exact kk H1 locs1 g1 g2
          rcases hP.2 k _ ht1 with ⟨-, r1, g1, g2, cell, q1, q2, q3, q4⟩ | ⟨g0, -⟩
          · cases hr0.symm.trans g1
            exact ⟨cell, q1, by rw [q3]; rfl, by rw [q2, ← hrn]; exact (hK.1.1 _ _ hr0).2.1⟩
          · exact absurd g0 (by show ¬ 100 ≤ pm_oc y; omega)
        · cases h
      · cases h
    · cases h
  · next st0 x =>
    split at h
    · next y0 a hcal =>
      split at h
      · next hcond =>
        obtain ⟨hlen, hsum⟩ := hcond
        cases h
        obtain ⟨hcode, hini, hd3, hlink, hst⟩ := pm_cal_ok1 hcal
        rw [pm_split0 (st := st) (a := a)]
        refine pm_after (r := r) (va_runS (own := pm_own mid) (index := x) (bytes := pm_code y) (maxL := pm_maxL y) (ret := pm_ret y) (n := a) (Ts := pm_T) ⟨hx, hb, hml, hown, hts⟩ (hM dC dI dA sa b) ⟨callB_of a hts (pm_good y hcode) rfl rfl rfl (hts _ hini) (hts _ hlink) hd3 (hroom y), hts _ hst⟩ ⟨pm_blind _ _ _ _ _ _ _, hpre⟩ rfl (by rw [List.length_map, List.length_reverse]; exact hlen) hl.2.1 rfl (pm_sum hsum) hd ⟨hRc, hRs⟩) hP hle hS0 fun H1 locs1 g1 g2 => by rw [hres]; exact kk H1 locs1 g1 g2
      · cases h
    · cases h
  · next st0 x =>
    split at h
    · split at h
      · split at h
        · cases h
        · cases h
      · cases h
    · next kd y0 a hne hcal =>
      split at h
      · next hkd =>
        split at h
        · next k as0 has =>
          split at h
          · next hcond =>
            obtain ⟨hlen, hsum⟩ := hcond
            rw [has] at h
            cases h
            obtain ⟨e1, e2⟩ := pm_split (sa := sa) (b := b) hlen has
            rw [e1]
            rcases hkd with rfl | rfl
            · obtain ⟨hcode, hini, hd3, hlink, hinst, hnm⟩ := pm_cal_ok2 hcal
              exact pm_after (r := r) (va_runI (own := pm_own mid) (index := x) (bytes := pm_code y) (maxL := pm_maxL y) (n := a - 1) (Ts := pm_T) ⟨hx, hb, hml, hown, hts⟩ (hM dC dI dA sa b) ⟨callB_of (a - 1) hts (pm_good y hcode.1) (by rw [pm_ws, hcode.2]) rfl rfl (hts _ hini) (hts _ hlink) hd3 (hroom y), hnm, hts _ hinst⟩ ⟨pm_blind _ _ _ _ _ _ _, hpre⟩ rfl (by rw [List.length_map]; exact e2) hl.2.1 rfl (pm_sum hsum) hd ⟨hRc, hRs⟩) hP hle hS0 fun H1 locs1 g1 g2 => by rw [hres]; exact kk H1 locs1 g1 g2
            · obtain ⟨hcode, hini, hd3, host, hlink, hinst, hnm⟩ := pm_cal_ok3 hcal
              exact pm_after (r := r) (va_runIN (own := pm_own mid) (host := host) (index := x) (bytes := pm_code y) (maxL := pm_maxL y) (n := a - 1) (Ts := pm_T) ⟨hx, hb, hml, hown, hts⟩ (hM dC dI dA sa b) ⟨va_cnB (a - 1) hts (pm_good y hcode.1) (by rw [pm_ws, hcode.2]) rfl rfl (hK.2.2.1 _ hlink) (hts _ hini) hd3 (hroom y), hnm, hts _ hinst⟩ ⟨pm_blind _ _ _ _ _ _ _, hpre⟩ rfl (by rw [List.length_map]; exact e2) hl.2.1 rfl (pm_sum hsum) hd ⟨hRc, hRs⟩) hP hle hS0 fun H1 locs1 g1 g2 => by rw [hres]; exact kk H1 locs1 g1 g2
          · cases h
        · cases h
      · cases h
    · cases h
  all_goals (repeat' (split at h)) <;> cases h
end PM4
end
section
section PM5
variable {p : Program} {l : Launch} {e : Env} {R : Room} {s : State} {m : MethodId} {args : Array Value} {below : List Frame} {meth : Method} {c : Code} {Q : State → Prop}
variable {dC : Nat → ClassId} {dI : Nat → Nat → Nat} {dA : Nat → ClassId} {sa b mid d : Nat}
theorem pm_Ex_ok {X : pm_X} {n0 s0 : Nat} {r : pm_R} (IH : ∀ y as P r, pm_Call d y as P r → pm_Met l d y as P r) (hx : p.tables.exec = Jvm.exec) (hb : c.code = pm_code mid) (hml : c.maxLocals = pm_maxL mid) (hown : s.vm.findClass (pm_own mid) = some m.cls) (hts : ∀ w ∈ pm_T, w.before args s = true) (hK : pm_K dC dI dA s) (hini : pm_ini mid = true → meth.name = "<init>")
    (hX : ∀ L f, X = some (L, f) → va_X sa L f s s.heap ∧ sa < s.heap.size ∧ sa < b) (hR : d + 1 ≤ R.frames ∧ (d + 1) * 33 ≤ R.locals) (hRc : r.2.length - n0 ≤ R.cells) (hRs : pm_sl r.2 - s0 ≤ R.slots)
    (hq : ∀ (H : Heap) (locs : List Loc) (ar : Array Slot) (pc n : Nat) (i : Instr) (ls : pm_L) (st : List Value), pm_rel dC dI dA sa b r.2 H → va_S (fun q => b ≤ q) s.heap H locs → decode (pm_code mid) pc = .ok (i, n) → pm_f4 mid i n pc ls st r.2 = some (.inr (.inr r.1)) → W p l e R s m args below meth c H locs (r.2.length - n0) (pm_sl r.2 - s0) Q (F0 m pc ar (st.map (pm_tv sa b)))) :
    ∀ (n pc : Nat) (ls : pm_L) (st : List Value) (P : pm_H), pm_Ex X (pm_Call d) mid n pc ls st P r → n0 ≤ P.length → s0 ≤ pm_sl P → ∀ (H : Heap) (locs : List Loc) (ar : Array Slot), pm_lok sa b ar (pm_maxL mid) ls → pm_rel dC dI dA sa b P H → va_S (fun q => b ≤ q) s.heap H locs →
      W p l e R s m args below meth c H locs (P.length - n0) (pm_sl P - s0) Q (F0 m pc ar (st.map (pm_tv sa b))) := by
  intro n
  induction n with
  | zero => intro pc ls st P h; cases h
  | succ n ih =>
    intro pc ls st P h hn0 hs0 H locs ar hl hP hS
    simp only [pm_Ex] at h
    unfold pm_step pm_ins at h
    cases hdec : decode (pm_code mid) pc with
    | error _ => rw [hdec] at h; cases h
    | ok q =>
      obtain ⟨i, k⟩ := q
      simp only [hdec] at h
      cases h1 : pm_f1 mid i k ls st with
      | some q1 =>
        obtain ⟨l1, st1⟩ := q1
        simp only [h1] at h
        exact pm_f1_ok hx hb hown hts hdec hl h1 fun ar' hl' => ih _ _ _ _ h hn0 hs0 H locs ar' hl' hP hS
      | none =>
        simp only [h1] at h
        cases h2 : pm_f2 i k pc st with
        | some q2 =>
          obtain ⟨t2, st2⟩ := q2
          simp only [h2] at h
          exact pm_f2_ok hx hb hdec h2 (ih _ _ _ _ h hn0 hs0 H locs ar hl hP hS)
        | none =>
          simp only [h2] at h
          cases h3 : pm_f3 X mid i k st P with
          | some q3 =>
            obtain ⟨st3, P3⟩ := q3
            simp only [h3] at h
            have g1 := pm_f3_le h3
            have g2 := pm_Ex_le (pm_Call_le d) mid _ _ _ _ _ _ h
            refine pm_f3_ok hx hb hown hts hK hini hX hP hS hdec h3 (by have := g1.1; have := g2.1; omega) (by have := g1.2; have := g2.2; omega) fun H1 locs1 c1 s1 e1 e2 hP1 hS1 => ?_
            have e3 : c1 = P3.length - n0 := by rw [e1]; have := g1.1; omega
            have e4 : s1 = pm_sl P3 - s0 := by rw [e2]; have := g1.2; omega
            rw [e3, e4]
            exact ih _ _ _ _ h (Nat.le_trans hn0 g1.1) (Nat.le_trans hs0 g1.2) H1 locs1 ar hl hP1 hS1
          | none =>
            simp only [h3] at h
            cases h4 : pm_f4 mid i k pc ls st P with
            | none => simp only [h4] at h
            | some q4 =>
              simp only [h4] at h
              match q4, h4, h with
              | .inl (pc', l4, st4, P4), h4, h =>
                obtain ⟨x, a0, q0, rfl, rfl, rfl, rfl, rfl, rfl, hsum, hlk⟩ := pm_f4_inl h4
                obtain ⟨w1, w2, w3⟩ := pm_cal_ok4 hlk
                exact W.objInit hx hb hown (hts _ w1) (hts _ w2) (hts _ w3) rfl (hl.2.1.trans hml.symm) rfl hdec (by have := hR.1; omega) (Nat.le_trans (Nat.add_le_add_right (pm_sum (m := m) (pc := pc) hsum) 12) (by have := hR.2; omega)) (ih _ _ _ _ h hn0 hs0 H locs ar hl hP hS)
              | .inr (.inl (y, as, pc', st4)), h4, h =>
                obtain ⟨v, P4, hc, h⟩ := h
                have g1 := pm_Call_le d _ _ _ _ hc
                have g2 := pm_Ex_le (pm_Call_le d) mid _ _ _ _ _ _ h
                have g3 : P.length ≤ P4.length ∧ pm_sl P ≤ pm_sl P4 := g1
                have g4 : P4.length ≤ r.2.length ∧ pm_sl P4 ≤ pm_sl r.2 := g2
                refine pm_call_ok (r := (v, P4)) hx hb hml hown hts hK hl hP hS hdec h4 (IH _ _ _ _ hc) g1 hR (by show _ + (P4.length - P.length) ≤ _; omega) (by show _ + (pm_sl P4 - pm_sl P) ≤ _; omega) fun H1 locs1 hP1 hS1 => ?_
                have e3 : P.length - n0 + (P4.length - P.length) = P4.length - n0 := by omega
                have e4 : pm_sl P - s0 + (pm_sl P4 - pm_sl P) = pm_sl P4 - s0 := by omega
                show W p l e R s m args below meth c H1 locs1 (P.length - n0 + (P4.length - P.length)) (pm_sl P - s0 + (pm_sl P4 - pm_sl P)) Q _
                rw [e3, e4]
                exact ih _ _ _ _ h (by omega) (by omega) H1 locs1 ar hl hP1 hS1
              | .inr (.inr v), h4, h =>
                subst h
                exact hq H locs ar pc k i ls st hP hS hdec h4
end PM5
theorem pm_en_get (as : List Value) : ∀ (n : Nat), (lg_sl as).length ≤ n → (pm_en n as).length = n := by
  intro n h
  have e : ∀ as : List Value, (as.flatMap fun v => if v.category = 2 then [some v, none] else [some v]).length = (lg_sl as).length := by
    intro as
    induction as with
    | nil => rfl
    | cons v t ih =>
      simp only [lg_sl, List.flatMap_cons, List.length_append] at ih ⊢
      rw [ih]
      by_cases hv : v.category = 2 <;> simp [hv]
  unfold pm_en
  rw [List.length_append, List.length_replicate, e]
  omega
theorem pm_en_at (sa b : Nat) (as : List Value) : ∀ (i : Nat) (v : Value) (k : Nat), (as.flatMap fun v => if v.category = 2 then [some v, none] else [some v])[i]? = some (some v) → (i + k, pm_tv sa b v) ∈ lv_args k (as.map (pm_tv sa b)) := by
  induction as with
  | nil => intro i v k h; simp at h
  | cons w t ih =>
    intro i v k h
    simp only [List.flatMap_cons] at h
    simp only [List.map_cons, lv_args, pm_tv_cat]
    by_cases hw : w.category = 2
    · simp only [hw, if_true] at h ⊢
      match i, h with
      | 0, h => simp at h; subst h; simp
      | 1, h => simp at h
      | j + 2, h =>
        have h' : (t.flatMap fun v => if v.category = 2 then [some v, none] else [some v])[j]? = some (some v) := by simpa using h
        have := ih j v (k + 2) h'
        rw [show j + 2 + k = j + (k + 2) by omega]
        exact List.mem_cons_of_mem _ this
    · simp only [hw, if_false] at h ⊢
      match i, h with
      | 0, h => simp at h; subst h; simp
      | j + 1, h =>
        have h' : (t.flatMap fun v => if v.category = 2 then [some v, none] else [some v])[j]? = some (some v) := by simpa using h
        have := ih j v (k + 1) h'
        rw [show j + 1 + k = j + (k + 1) by omega]
        exact List.mem_cons_of_mem _ this
theorem pm_sl_tv (sa b : Nat) (as : List Value) : (lg_sl (as.map (pm_tv sa b))).length = (lg_sl as).length := by
  induction as with
  | nil => rfl
  | cons v t ih =>
    simp only [lg_sl, List.map_cons, List.flatMap_cons, List.length_append, pm_tv_cat] at ih ⊢
    rw [ih]
    by_cases hv : v.category = 2 <;> simp [hv]
theorem pm_entry (sa b : Nat) (as : List Value) {n : Nat} (h : (lg_sl as).length ≤ n) : pm_lok sa b ((lg_sl (as.map (pm_tv sa b)) ++ List.replicate (n - (lg_sl (as.map (pm_tv sa b))).length) Slot.unset).toArray) n (pm_en n as) := by
  have hv := lv_entry (as.map (pm_tv sa b)) (n := n) (by rw [pm_sl_tv]; exact h)
  refine ⟨pm_en_get as n h, hv.1, hv.2.1, fun i v hi => ?_⟩
  unfold pm_en at hi
  have h1 : (as.flatMap fun v => if v.category = 2 then [some v, none] else [some v])[i]? = some (some v) := by
    by_cases hlt : i < (as.flatMap fun v => if v.category = 2 then [some v, none] else [some v]).length
    · rwa [List.getElem?_append_left hlt] at hi
    · rw [List.getElem?_append_right (by omega), List.getElem?_replicate] at hi
      split at hi <;> cases hi
  exact hv.2.2 (i, pm_tv sa b v) (pm_en_at sa b as i v 0 h1)
theorem pm_ret_ok {p : Program} {l : Launch} {e : Env} {R : Room} {s : State} {m : MethodId} {args : Array Value} {below : List Frame} {meth : Method} {c : Code} {H : Heap} {locs : List Loc} {cells slots : Nat} {dC : Nat → ClassId} {dI : Nat → Nat → Nat} {dA : Nat → ClassId} {sa b mid pc n : Nat} {r : pm_R} {i : Instr} {ls : pm_L} {st : List Value} {ar : Array Slot}
    (hx : p.tables.exec = Jvm.exec) (hb : c.code = pm_code mid) (hret : meth.sig.returnType = pm_ret mid) (hlk : meth.locks = false) (hsz : b ≤ s.heap.size) (hP : pm_rel dC dI dA sa b r.2 H) (hS : va_S (fun q => b ≤ q) s.heap H locs) (hd : decode (pm_code mid) pc = .ok (i, n)) (h : pm_f4 mid i n pc ls st r.2 = some (.inr (.inr r.1))) :
    W p l e R s m args below meth c H locs cells slots (MQ below (pm_Qc dC dI dA sa b r) args s cells slots (fun q => b ≤ q)) (F0 m pc ar (st.map (pm_tv sa b))) := by
  have hq : ∀ t : State, t.heap = H → s.WarmedH t.vm → pm_Qc dC dI dA sa b r args s (.returned (r.1.map (pm_tv sa b))) t := fun t ht _ => ⟨rfl, by rw [ht]; exact hP, fun q hq => by rw [ht]; exact hS.2.1 q (by omega) (by show ¬ b ≤ q; omega)⟩
  unfold pm_f4 at h
  split at h
  · (repeat' (split at h)) <;> cases h
  · (repeat' (split at h)) <;> cases h
  · (repeat' (split at h)) <;> cases h
  · next v =>
    split at h
    · next ty hty =>
      split at h
      · next hn =>
        have hr : r.1 = some (.int v) := (Sum.inr.inj (Sum.inr.inj (Option.some.inj h))).symm
        rw [hr] at hq
        exact W.zret hx hb (by rw [hret]; exact hty) hn hq hS.2.2 hd hlk
      · cases h
    · cases h
  · next v =>
    split at h
    · next hty =>
      have hr : r.1 = some (.long v) := (Sum.inr.inj (Sum.inr.inj (Option.some.inj h))).symm
      rw [hr] at hq
      exact W.lret hx hb (by rw [hret]; exact hty) hq hS.2.2 hd hlk
    · cases h
  · next v =>
    split at h
    · next o hty =>
      have hr : r.1 = some (.ref v) := (Sum.inr.inj (Sum.inr.inj (Option.some.inj h))).symm
      rw [hr] at hq
      exact W.aret hx hb (by rw [hret]; exact hty) (Or.inl ⟨_, rfl⟩) (Or.inr ⟨_, rfl⟩) hq hS.2.2 hd hlk
    · next o hty =>
      have hr : r.1 = some (.ref v) := (Sum.inr.inj (Sum.inr.inj (Option.some.inj h))).symm
      rw [hr] at hq
      exact W.aret hx hb (by rw [hret]; exact hty) (Or.inr ⟨_, rfl⟩) (Or.inr ⟨_, rfl⟩) hq hS.2.2 hd hlk
    · cases h
  · split at h
    · next hty =>
      have hr : r.1 = none := (Sum.inr.inj (Sum.inr.inj (Option.some.inj h))).symm
      rw [hr] at hq
      exact W.vret hx hb (by rw [hret]; exact hty) hq hS.2.2 hd hlk
    · cases h
  · cases h
theorem pm_sound (l : Launch) : ∀ (d y : Nat) (as : List Value) (P : pm_H) (r : pm_R), pm_Call d y as P r → pm_Met l d y as P r := by
  intro d
  induction d with
  | zero => intro y as P r h; cases h
  | succ d ih =>
    intro y as P r h dC dI dA sa b
    obtain ⟨hlen, n, h⟩ := h
    refine Met.ofW (cc := pm_code y) (maxL := pm_maxL y) (ret := pm_ret y) (ws' := pm_T) (pm_plain y) rfl ?_
    intro p e s m args below meth c s₁ B hml hpc
    obtain ⟨rfl, hP, hK⟩ := hpc
    have hts : ∀ w ∈ pm_T, w.before (as.map (pm_tv sa b)).toArray s = true := fun w hw => atoms_spec (ws := pm_ws y) B.pre w (List.mem_cons_of_mem _ hw)
    have hown : s.vm.findClass (pm_own y) = some m.cls := pm_y_cls y ▸ findClass_of_methodNamed B.named
    rw [lg_entry_eq]
    have hw := pm_Ex_ok (X := none) (n0 := P.length) (s0 := pm_sl P) (R := (headSpec (pm_ws y) (pm_rm (d + 1) P r.2)).room) (Q := MQ below (pm_Qc dC dI dA sa b r) (as.map (pm_tv sa b)).toArray s (r.2.length - P.length) (pm_sl r.2 - pm_sl P) (fun q => b ≤ q)) (below := below) (e := e) (meth := meth) ih B.exec B.bytes hml hown hts hK (fun hi => by rw [(name_of_methodNamed B.named B.method).1]; exact pm_ini_ok hi) (fun L f hX => by cases hX) ⟨Nat.le_refl _, Nat.le_refl _⟩ (Nat.le_refl _) (Nat.le_refl _)
      (fun H locs ar pc k i ls st hP1 hS1 hd h4 => pm_ret_ok B.exec B.bytes B.returns B.notSynchronized (by rw [hP.1]; omega) hP1 hS1 hd h4) n 0 _ [] P h (Nat.le_refl _) (Nat.le_refl _) s.heap [] _ (pm_entry sa b as hlen) hP va_S.rf
    rw [Nat.sub_self, Nat.sub_self] at hw
    exact hw
end
section
def pw (X : pm_X) (d mid pc : Nat) (ls : pm_L) (st : List Value) (P : pm_H) (r : pm_R) : Prop := ∃ n, pm_Ex X (pm_Call d) mid n pc ls st P r
section PW
variable {X : pm_X} {d mid pc q n : Nat} {i : Instr} {ls : pm_L} {st : List Value} {P : pm_H} {r : pm_R}
theorem pw_in {l : pm_L} {s : List Value} {Q : pm_H} (h : pm_step X mid pc ls st P = some (.inl (q, l, s, Q))) (k : pw X d mid q l s Q r) : pw X d mid pc ls st P r := by
  obtain ⟨n, hn⟩ := k
  exact ⟨n + 1, by simp only [pm_Ex, h]; exact hn⟩
theorem pw_inC {y : Nat} {as s : List Value} {v : Option Value} {Q : pm_H} (h : pm_step X mid pc ls st P = some (.inr (.inl (y, as, q, s)))) (hc : pm_Call d y as P (v, Q)) (k : pw X d mid q ls (v.toList ++ s) Q r) : pw X d mid pc ls st P r := by
  obtain ⟨n, hn⟩ := k
  exact ⟨n + 1, by simp only [pm_Ex, h]; exact ⟨v, Q, hc, hn⟩⟩
theorem pw_inR {v : Option Value} (h : pm_step X mid pc ls st P = some (.inr (.inr v))) (hr : r = (v, P)) : pw X d mid pc ls st P r := ⟨1, by simp only [pm_Ex, h]; exact hr⟩
theorem pw_f1 {l : pm_L} {s : List Value} (hd : pm_ins mid pc = some (i, n)) (h : pm_f1 mid i n ls st = some (l, s)) (hq : pc + n = q) (k : pw X d mid q l s P r) : pw X d mid pc ls st P r := by
  subst hq
  exact pw_in (by simp only [pm_step, hd, h]) k
theorem pw_f2 {s : List Value} (hd : pm_ins mid pc = some (i, n)) (h1 : pm_f1 mid i n ls st = none) (h : pm_f2 i n pc st = some (q, s)) (k : pw X d mid q ls s P r) : pw X d mid pc ls st P r := pw_in (by simp only [pm_step, hd, h1, h]) k
theorem pw_f3 {s : List Value} {Q : pm_H} (hd : pm_ins mid pc = some (i, n)) (h1 : pm_f1 mid i n ls st = none) (h2 : pm_f2 i n pc st = none) (h : pm_f3 X mid i n st P = some (s, Q)) (hq : pc + n = q) (k : pw X d mid q ls s Q r) : pw X d mid pc ls st P r := by
  subst hq
  exact pw_in (by simp only [pm_step, hd, h1, h2, h]) k
theorem pw_f4 {o : pm_O} (hd : pm_ins mid pc = some (i, n)) (h1 : pm_f1 mid i n ls st = none) (h2 : pm_f2 i n pc st = none) (h3 : pm_f3 X mid i n st P = none) (h : pm_f4 mid i n pc ls st P = some o) : pm_step X mid pc ls st P = some o := by simp only [pm_step, hd, h1, h2, h3, h]
theorem pw_start {as : List Value} (h : (lg_sl as).length ≤ pm_maxL mid) {l : pm_L} (hl : pm_en (pm_maxL mid) as = l) (k : pw none d mid 0 l [] P r) : pm_Call (d + 1) mid as P r := by
  subst hl
  exact ⟨h, k⟩
theorem pw_iconst {z : Int} {v : Int32} (hd : pm_ins mid pc = some (.iconst z, 1)) (hv : Int32.ofInt z = v) (hq : pc + 1 = q) (k : pw X d mid q ls (.int v :: st) P r) : pw X d mid pc ls (st) P r := pw_f1 hd (by simp [pm_f1, hv]) hq k
theorem pw_bipush {z : Int} {v : Int32} (hd : pm_ins mid pc = some (.bipush z, 2)) (hv : (Int8.ofInt z).toInt32 = v) (hq : pc + 2 = q) (k : pw X d mid q ls (.int v :: st) P r) : pw X d mid pc ls (st) P r := pw_f1 hd (by simp [pm_f1, hv]) hq k
theorem pw_sipush {z : Int} {v : Int32} (hd : pm_ins mid pc = some (.sipush z, 3)) (hv : (Int16.ofInt z).toInt32 = v) (hq : pc + 3 = q) (k : pw X d mid q ls (.int v :: st) P r) : pw X d mid pc ls (st) P r := pw_f1 hd (by simp [pm_f1, hv]) hq k
theorem pw_lconst {z : Fin 2} {v : Int64} (hd : pm_ins mid pc = some (.lconst z, 1)) (hv : Int64.ofNat (z : Nat) = v) (hq : pc + 1 = q) (k : pw X d mid q ls (.long v :: st) P r) : pw X d mid pc ls (st) P r := pw_f1 hd (by simp [pm_f1, hv]) hq k
theorem pw_ldc2 {z : Nat} {v : Int64} (hd : pm_ins mid pc = some (.ldc2_w z, 3)) (hv : pm_l2 (pm_oc mid) z = some v) (hq : pc + 3 = q) (k : pw X d mid q ls (.long v :: st) P r) : pw X d mid pc ls (st) P r := pw_f1 hd (by simp [pm_f1, hv]) hq k
theorem pw_iload_n {z : Fin 4} {x : Int32} (hd : pm_ins mid pc = some (.iload_n z, 1)) (hv : pm_ldi ls (z : Nat) = some x) (hq : pc + 1 = q) (k : pw X d mid q ls (.int x :: st) P r) : pw X d mid pc ls (st) P r := pw_f1 hd (by simp [pm_f1, hv]) hq k
theorem pw_iload {z : Nat} {x : Int32} (hd : pm_ins mid pc = some (.iload z, 2)) (hv : pm_ldi ls z = some x) (hq : pc + 2 = q) (k : pw X d mid q ls (.int x :: st) P r) : pw X d mid pc ls (st) P r := pw_f1 hd (by simp [pm_f1, hv]) hq k
theorem pw_istore_n {z : Fin 4} {x : Int32} {l : pm_L} (hd : pm_ins mid pc = some (.istore_n z, 1)) (hv : pm_st1 ls (z : Nat) (.int x) = some l) (hq : pc + 1 = q) (k : pw X d mid q l (st) P r) : pw X d mid pc ls (.int x :: st) P r := pw_f1 hd (by simp [pm_f1, hv]) hq k
theorem pw_istore {z : Nat} {x : Int32} {l : pm_L} (hd : pm_ins mid pc = some (.istore z, 2)) (hv : pm_st1 ls z (.int x) = some l) (hq : pc + 2 = q) (k : pw X d mid q l (st) P r) : pw X d mid pc ls (.int x :: st) P r := pw_f1 hd (by simp [pm_f1, hv]) hq k
theorem pw_lload_n {z : Fin 4} {x : Int64} (hd : pm_ins mid pc = some (.lload_n z, 1)) (hv : pm_ldl ls (z : Nat) = some x) (hq : pc + 1 = q) (k : pw X d mid q ls (.long x :: st) P r) : pw X d mid pc ls (st) P r := pw_f1 hd (by simp [pm_f1, hv]) hq k
theorem pw_lload {z : Nat} {x : Int64} (hd : pm_ins mid pc = some (.lload z, 2)) (hv : pm_ldl ls z = some x) (hq : pc + 2 = q) (k : pw X d mid q ls (.long x :: st) P r) : pw X d mid pc ls (st) P r := pw_f1 hd (by simp [pm_f1, hv]) hq k
theorem pw_lstore_n {z : Fin 4} {x : Int64} {l : pm_L} (hd : pm_ins mid pc = some (.lstore_n z, 1)) (hv : pm_st2 ls (z : Nat) (.long x) = some l) (hq : pc + 1 = q) (k : pw X d mid q l (st) P r) : pw X d mid pc ls (.long x :: st) P r := pw_f1 hd (by simp [pm_f1, hv]) hq k
theorem pw_lstore {z : Nat} {x : Int64} {l : pm_L} (hd : pm_ins mid pc = some (.lstore z, 2)) (hv : pm_st2 ls z (.long x) = some l) (hq : pc + 2 = q) (k : pw X d mid q l (st) P r) : pw X d mid pc ls (.long x :: st) P r := pw_f1 hd (by simp [pm_f1, hv]) hq k
theorem pw_aload_n {z : Fin 4} {x : Nat} (hd : pm_ins mid pc = some (.aload_n z, 1)) (hv : pm_lda ls (z : Nat) = some x) (hq : pc + 1 = q) (k : pw X d mid q ls (.ref x :: st) P r) : pw X d mid pc ls (st) P r := pw_f1 hd (by simp [pm_f1, hv]) hq k
theorem pw_aload {z : Nat} {x : Nat} (hd : pm_ins mid pc = some (.aload z, 2)) (hv : pm_lda ls z = some x) (hq : pc + 2 = q) (k : pw X d mid q ls (.ref x :: st) P r) : pw X d mid pc ls (st) P r := pw_f1 hd (by simp [pm_f1, hv]) hq k
theorem pw_astore_n {z : Fin 4} {x : Nat} {l : pm_L} (hd : pm_ins mid pc = some (.astore_n z, 1)) (hv : pm_st1 ls (z : Nat) (.ref x) = some l) (hq : pc + 1 = q) (k : pw X d mid q l (st) P r) : pw X d mid pc ls (.ref x :: st) P r := pw_f1 hd (by simp [pm_f1, hv]) hq k
theorem pw_astore {z : Nat} {x : Nat} {l : pm_L} (hd : pm_ins mid pc = some (.astore z, 2)) (hv : pm_st1 ls z (.ref x) = some l) (hq : pc + 2 = q) (k : pw X d mid q l (st) P r) : pw X d mid pc ls (.ref x :: st) P r := pw_f1 hd (by simp [pm_f1, hv]) hq k
theorem pw_iinc {z : Nat} {w : Int} {x v : Int32} {l : pm_L} (hd : pm_ins mid pc = some (.iinc z w, 3)) (hx : pm_ldi ls z = some x) (hv : x + Int32.ofInt w = v) (hs : pm_st1 ls z (.int v) = some l) (hq : pc + 3 = q) (k : pw X d mid q l (st) P r) : pw X d mid pc ls (st) P r := pw_f1 hd (by simp [pm_f1, hx, hv, hs]) hq k
theorem pw_iadd {x y : Int32} (hd : pm_ins mid pc = some (.iadd, 1)) (hq : pc + 1 = q) (k : pw X d mid q ls (.int (x + y) :: st) P r) : pw X d mid pc ls (.int y :: .int x :: st) P r := pw_f1 hd (by simp [pm_f1]) hq k
theorem pw_isub {x y : Int32} (hd : pm_ins mid pc = some (.isub, 1)) (hq : pc + 1 = q) (k : pw X d mid q ls (.int (x - y) :: st) P r) : pw X d mid pc ls (.int y :: .int x :: st) P r := pw_f1 hd (by simp [pm_f1]) hq k
theorem pw_imul {x y : Int32} (hd : pm_ins mid pc = some (.imul, 1)) (hq : pc + 1 = q) (k : pw X d mid q ls (.int (x * y) :: st) P r) : pw X d mid pc ls (.int y :: .int x :: st) P r := pw_f1 hd (by simp [pm_f1]) hq k
theorem pw_iand {x y : Int32} (hd : pm_ins mid pc = some (.iand, 1)) (hq : pc + 1 = q) (k : pw X d mid q ls (.int (x &&& y) :: st) P r) : pw X d mid pc ls (.int y :: .int x :: st) P r := pw_f1 hd (by simp [pm_f1]) hq k
theorem pw_ishl {x y : Int32} (hd : pm_ins mid pc = some (.ishl, 1)) (hq : pc + 1 = q) (k : pw X d mid q ls (.int (x <<< (y &&& 31)) :: st) P r) : pw X d mid pc ls (.int y :: .int x :: st) P r := pw_f1 hd (by simp [pm_f1]) hq k
theorem pw_ishr {x y : Int32} (hd : pm_ins mid pc = some (.ishr, 1)) (hq : pc + 1 = q) (k : pw X d mid q ls (.int (x >>> (y &&& 31)) :: st) P r) : pw X d mid pc ls (.int y :: .int x :: st) P r := pw_f1 hd (by simp [pm_f1]) hq k
theorem pw_idiv {x y : Int32} (hd : pm_ins mid pc = some (.idiv, 1)) (h0 : ¬ y = 0) (hq : pc + 1 = q) (k : pw X d mid q ls (.int (x / y) :: st) P r) : pw X d mid pc ls (.int y :: .int x :: st) P r := pw_f1 hd (by simp [pm_f1, h0]) hq k
theorem pw_irem {x y : Int32} (hd : pm_ins mid pc = some (.irem, 1)) (h0 : ¬ y = 0) (hq : pc + 1 = q) (k : pw X d mid q ls (.int (x - x / y * y) :: st) P r) : pw X d mid pc ls (.int y :: .int x :: st) P r := pw_f1 hd (by simp [pm_f1, h0]) hq k
theorem pw_ladd {x y : Int64} (hd : pm_ins mid pc = some (.ladd, 1)) (hq : pc + 1 = q) (k : pw X d mid q ls (.long (x + y) :: st) P r) : pw X d mid pc ls (.long y :: .long x :: st) P r := pw_f1 hd (by simp [pm_f1]) hq k
theorem pw_lsub {x y : Int64} (hd : pm_ins mid pc = some (.lsub, 1)) (hq : pc + 1 = q) (k : pw X d mid q ls (.long (x - y) :: st) P r) : pw X d mid pc ls (.long y :: .long x :: st) P r := pw_f1 hd (by simp [pm_f1]) hq k
theorem pw_land {x y : Int64} (hd : pm_ins mid pc = some (.land, 1)) (hq : pc + 1 = q) (k : pw X d mid q ls (.long (x &&& y) :: st) P r) : pw X d mid pc ls (.long y :: .long x :: st) P r := pw_f1 hd (by simp [pm_f1]) hq k
theorem pw_lcmp {x y : Int64} (hd : pm_ins mid pc = some (.lcmp, 1)) (hq : pc + 1 = q) (k : pw X d mid q ls (.int (lg_cmp x y) :: st) P r) : pw X d mid pc ls (.long y :: .long x :: st) P r := pw_f1 hd (by simp [pm_f1]) hq k
theorem pw_i2l {x : Int32} (hd : pm_ins mid pc = some (.i2l, 1)) (hq : pc + 1 = q) (k : pw X d mid q ls (.long x.toInt64 :: st) P r) : pw X d mid pc ls (.int x :: st) P r := pw_f1 hd (by simp [pm_f1]) hq k
theorem pw_dup {v : Value} (hd : pm_ins mid pc = some (.dup, 1)) (h1 : v.category = 1) (hq : pc + 1 = q) (k : pw X d mid q ls (v :: v :: st) P r) : pw X d mid pc ls (v :: st) P r := pw_f1 hd (by simp [pm_f1, h1]) hq k
theorem pw_pop {v : Value} (hd : pm_ins mid pc = some (.pop, 1)) (h1 : v.category = 1) (hq : pc + 1 = q) (k : pw X d mid q ls (st) P r) : pw X d mid pc ls (v :: st) P r := pw_f1 hd (by simp [pm_f1, h1]) hq k
theorem pw_goto {off : Int} (hd : pm_ins mid pc = some (.goto off, 3)) (ht : (pc : Int) + off = (q : Int)) (k : pw X d mid q ls st P r) : pw X d mid pc ls st P r :=
  pw_f2 hd (by simp [pm_f1]) (by simp only [pm_f2, pm_to, ht]; simp) k
theorem pw_if_eq_t {x : Int32} {off : Int} (hd : pm_ins mid pc = some (.ifCond .eq off, 3)) (ht : (pc : Int) + off = (q : Int)) (h : x = 0) (k : pw X d mid q ls st P r) : pw X d mid pc ls (.int x :: st) P r := pw_f2 hd (by simp [pm_f1]) (by simp only [pm_f2, pm_to, ht]; simp [pm_c, h]) k
theorem pw_if_eq_f {x : Int32} {off : Int} {q' : Nat} (hd : pm_ins mid pc = some (.ifCond .eq off, 3)) (ht : (pc : Int) + off = (q : Int)) (hq : pc + 3 = q') (h : ¬ (x = 0)) (k : pw X d mid q' ls st P r) : pw X d mid pc ls (.int x :: st) P r := by
  subst hq
  exact pw_f2 hd (by simp [pm_f1]) (by simp only [pm_f2, pm_to, ht]; simp [pm_c, h]) k
theorem pw_if_eq {x : Int32} {off : Int} {q' : Nat} (hd : pm_ins mid pc = some (.ifCond .eq off, 3)) (ht : (pc : Int) + off = (q : Int)) (hq : pc + 3 = q') (k1 : x = 0 → pw X d mid q ls st P r) (k2 : ¬ (x = 0) → pw X d mid q' ls st P r) : pw X d mid pc ls (.int x :: st) P r := by
  subst hq
  by_cases h : x = 0
  · exact pw_if_eq_t hd ht h (k1 h)
  · exact pw_if_eq_f hd ht rfl h (k2 h)
theorem pw_icmp_eq_t {x y : Int32} {off : Int} (hd : pm_ins mid pc = some (.if_icmp .eq off, 3)) (ht : (pc : Int) + off = (q : Int)) (h : x = y) (k : pw X d mid q ls st P r) : pw X d mid pc ls (.int y :: .int x :: st) P r := pw_f2 hd (by simp [pm_f1]) (by simp only [pm_f2, pm_to, ht]; simp [pm_c, h]) k
theorem pw_icmp_eq_f {x y : Int32} {off : Int} {q' : Nat} (hd : pm_ins mid pc = some (.if_icmp .eq off, 3)) (ht : (pc : Int) + off = (q : Int)) (hq : pc + 3 = q') (h : ¬ (x = y)) (k : pw X d mid q' ls st P r) : pw X d mid pc ls (.int y :: .int x :: st) P r := by
  subst hq
  exact pw_f2 hd (by simp [pm_f1]) (by simp only [pm_f2, pm_to, ht]; simp [pm_c, h]) k
theorem pw_icmp_eq {x y : Int32} {off : Int} {q' : Nat} (hd : pm_ins mid pc = some (.if_icmp .eq off, 3)) (ht : (pc : Int) + off = (q : Int)) (hq : pc + 3 = q') (k1 : x = y → pw X d mid q ls st P r) (k2 : ¬ (x = y) → pw X d mid q' ls st P r) : pw X d mid pc ls (.int y :: .int x :: st) P r := by
  subst hq
  by_cases h : x = y
  · exact pw_icmp_eq_t hd ht h (k1 h)
  · exact pw_icmp_eq_f hd ht rfl h (k2 h)
theorem pw_if_ne_t {x : Int32} {off : Int} (hd : pm_ins mid pc = some (.ifCond .ne off, 3)) (ht : (pc : Int) + off = (q : Int)) (h : ¬ x = 0) (k : pw X d mid q ls st P r) : pw X d mid pc ls (.int x :: st) P r := pw_f2 hd (by simp [pm_f1]) (by simp only [pm_f2, pm_to, ht]; simp [pm_c, h]) k
theorem pw_if_ne_f {x : Int32} {off : Int} {q' : Nat} (hd : pm_ins mid pc = some (.ifCond .ne off, 3)) (ht : (pc : Int) + off = (q : Int)) (hq : pc + 3 = q') (h : ¬ (¬ x = 0)) (k : pw X d mid q' ls st P r) : pw X d mid pc ls (.int x :: st) P r := by
  subst hq
  exact pw_f2 hd (by simp [pm_f1]) (by simp only [pm_f2, pm_to, ht]; simp [pm_c, h]) k
theorem pw_if_ne {x : Int32} {off : Int} {q' : Nat} (hd : pm_ins mid pc = some (.ifCond .ne off, 3)) (ht : (pc : Int) + off = (q : Int)) (hq : pc + 3 = q') (k1 : ¬ x = 0 → pw X d mid q ls st P r) (k2 : ¬ (¬ x = 0) → pw X d mid q' ls st P r) : pw X d mid pc ls (.int x :: st) P r := by
  subst hq
  by_cases h : ¬ x = 0
  · exact pw_if_ne_t hd ht h (k1 h)
  · exact pw_if_ne_f hd ht rfl h (k2 h)
theorem pw_icmp_ne_t {x y : Int32} {off : Int} (hd : pm_ins mid pc = some (.if_icmp .ne off, 3)) (ht : (pc : Int) + off = (q : Int)) (h : ¬ x = y) (k : pw X d mid q ls st P r) : pw X d mid pc ls (.int y :: .int x :: st) P r := pw_f2 hd (by simp [pm_f1]) (by simp only [pm_f2, pm_to, ht]; simp [pm_c, h]) k
theorem pw_icmp_ne_f {x y : Int32} {off : Int} {q' : Nat} (hd : pm_ins mid pc = some (.if_icmp .ne off, 3)) (ht : (pc : Int) + off = (q : Int)) (hq : pc + 3 = q') (h : ¬ (¬ x = y)) (k : pw X d mid q' ls st P r) : pw X d mid pc ls (.int y :: .int x :: st) P r := by
  subst hq
  exact pw_f2 hd (by simp [pm_f1]) (by simp only [pm_f2, pm_to, ht]; simp [pm_c, h]) k
theorem pw_icmp_ne {x y : Int32} {off : Int} {q' : Nat} (hd : pm_ins mid pc = some (.if_icmp .ne off, 3)) (ht : (pc : Int) + off = (q : Int)) (hq : pc + 3 = q') (k1 : ¬ x = y → pw X d mid q ls st P r) (k2 : ¬ (¬ x = y) → pw X d mid q' ls st P r) : pw X d mid pc ls (.int y :: .int x :: st) P r := by
  subst hq
  by_cases h : ¬ x = y
  · exact pw_icmp_ne_t hd ht h (k1 h)
  · exact pw_icmp_ne_f hd ht rfl h (k2 h)
theorem pw_if_lt_t {x : Int32} {off : Int} (hd : pm_ins mid pc = some (.ifCond .lt off, 3)) (ht : (pc : Int) + off = (q : Int)) (h : x < 0) (k : pw X d mid q ls st P r) : pw X d mid pc ls (.int x :: st) P r := pw_f2 hd (by simp [pm_f1]) (by simp only [pm_f2, pm_to, ht]; simp [pm_c, h]) k
theorem pw_if_lt_f {x : Int32} {off : Int} {q' : Nat} (hd : pm_ins mid pc = some (.ifCond .lt off, 3)) (ht : (pc : Int) + off = (q : Int)) (hq : pc + 3 = q') (h : ¬ (x < 0)) (k : pw X d mid q' ls st P r) : pw X d mid pc ls (.int x :: st) P r := by
  subst hq
  exact pw_f2 hd (by simp [pm_f1]) (by simp only [pm_f2, pm_to, ht]; simp [pm_c, h]) k
theorem pw_if_lt {x : Int32} {off : Int} {q' : Nat} (hd : pm_ins mid pc = some (.ifCond .lt off, 3)) (ht : (pc : Int) + off = (q : Int)) (hq : pc + 3 = q') (k1 : x < 0 → pw X d mid q ls st P r) (k2 : ¬ (x < 0) → pw X d mid q' ls st P r) : pw X d mid pc ls (.int x :: st) P r := by
  subst hq
  by_cases h : x < 0
  · exact pw_if_lt_t hd ht h (k1 h)
  · exact pw_if_lt_f hd ht rfl h (k2 h)
theorem pw_icmp_lt_t {x y : Int32} {off : Int} (hd : pm_ins mid pc = some (.if_icmp .lt off, 3)) (ht : (pc : Int) + off = (q : Int)) (h : x < y) (k : pw X d mid q ls st P r) : pw X d mid pc ls (.int y :: .int x :: st) P r := pw_f2 hd (by simp [pm_f1]) (by simp only [pm_f2, pm_to, ht]; simp [pm_c, h]) k
theorem pw_icmp_lt_f {x y : Int32} {off : Int} {q' : Nat} (hd : pm_ins mid pc = some (.if_icmp .lt off, 3)) (ht : (pc : Int) + off = (q : Int)) (hq : pc + 3 = q') (h : ¬ (x < y)) (k : pw X d mid q' ls st P r) : pw X d mid pc ls (.int y :: .int x :: st) P r := by
  subst hq
  exact pw_f2 hd (by simp [pm_f1]) (by simp only [pm_f2, pm_to, ht]; simp [pm_c, h]) k
theorem pw_icmp_lt {x y : Int32} {off : Int} {q' : Nat} (hd : pm_ins mid pc = some (.if_icmp .lt off, 3)) (ht : (pc : Int) + off = (q : Int)) (hq : pc + 3 = q') (k1 : x < y → pw X d mid q ls st P r) (k2 : ¬ (x < y) → pw X d mid q' ls st P r) : pw X d mid pc ls (.int y :: .int x :: st) P r := by
  subst hq
  by_cases h : x < y
  · exact pw_icmp_lt_t hd ht h (k1 h)
  · exact pw_icmp_lt_f hd ht rfl h (k2 h)
theorem pw_if_ge_t {x : Int32} {off : Int} (hd : pm_ins mid pc = some (.ifCond .ge off, 3)) (ht : (pc : Int) + off = (q : Int)) (h : 0 ≤ x) (k : pw X d mid q ls st P r) : pw X d mid pc ls (.int x :: st) P r := pw_f2 hd (by simp [pm_f1]) (by simp only [pm_f2, pm_to, ht]; simp [pm_c, h]) k
theorem pw_if_ge_f {x : Int32} {off : Int} {q' : Nat} (hd : pm_ins mid pc = some (.ifCond .ge off, 3)) (ht : (pc : Int) + off = (q : Int)) (hq : pc + 3 = q') (h : ¬ (0 ≤ x)) (k : pw X d mid q' ls st P r) : pw X d mid pc ls (.int x :: st) P r := by
  subst hq
  exact pw_f2 hd (by simp [pm_f1]) (by simp only [pm_f2, pm_to, ht]; simp [pm_c, h]) k
theorem pw_if_ge {x : Int32} {off : Int} {q' : Nat} (hd : pm_ins mid pc = some (.ifCond .ge off, 3)) (ht : (pc : Int) + off = (q : Int)) (hq : pc + 3 = q') (k1 : 0 ≤ x → pw X d mid q ls st P r) (k2 : ¬ (0 ≤ x) → pw X d mid q' ls st P r) : pw X d mid pc ls (.int x :: st) P r := by
  subst hq
  by_cases h : 0 ≤ x
  · exact pw_if_ge_t hd ht h (k1 h)
  · exact pw_if_ge_f hd ht rfl h (k2 h)
theorem pw_icmp_ge_t {x y : Int32} {off : Int} (hd : pm_ins mid pc = some (.if_icmp .ge off, 3)) (ht : (pc : Int) + off = (q : Int)) (h : y ≤ x) (k : pw X d mid q ls st P r) : pw X d mid pc ls (.int y :: .int x :: st) P r := pw_f2 hd (by simp [pm_f1]) (by simp only [pm_f2, pm_to, ht]; simp [pm_c, h]) k
theorem pw_icmp_ge_f {x y : Int32} {off : Int} {q' : Nat} (hd : pm_ins mid pc = some (.if_icmp .ge off, 3)) (ht : (pc : Int) + off = (q : Int)) (hq : pc + 3 = q') (h : ¬ (y ≤ x)) (k : pw X d mid q' ls st P r) : pw X d mid pc ls (.int y :: .int x :: st) P r := by
  subst hq
  exact pw_f2 hd (by simp [pm_f1]) (by simp only [pm_f2, pm_to, ht]; simp [pm_c, h]) k
theorem pw_icmp_ge {x y : Int32} {off : Int} {q' : Nat} (hd : pm_ins mid pc = some (.if_icmp .ge off, 3)) (ht : (pc : Int) + off = (q : Int)) (hq : pc + 3 = q') (k1 : y ≤ x → pw X d mid q ls st P r) (k2 : ¬ (y ≤ x) → pw X d mid q' ls st P r) : pw X d mid pc ls (.int y :: .int x :: st) P r := by
  subst hq
  by_cases h : y ≤ x
  · exact pw_icmp_ge_t hd ht h (k1 h)
  · exact pw_icmp_ge_f hd ht rfl h (k2 h)
theorem pw_if_gt_t {x : Int32} {off : Int} (hd : pm_ins mid pc = some (.ifCond .gt off, 3)) (ht : (pc : Int) + off = (q : Int)) (h : 0 < x) (k : pw X d mid q ls st P r) : pw X d mid pc ls (.int x :: st) P r := pw_f2 hd (by simp [pm_f1]) (by simp only [pm_f2, pm_to, ht]; simp [pm_c, h]) k
theorem pw_if_gt_f {x : Int32} {off : Int} {q' : Nat} (hd : pm_ins mid pc = some (.ifCond .gt off, 3)) (ht : (pc : Int) + off = (q : Int)) (hq : pc + 3 = q') (h : ¬ (0 < x)) (k : pw X d mid q' ls st P r) : pw X d mid pc ls (.int x :: st) P r := by
  subst hq
  exact pw_f2 hd (by simp [pm_f1]) (by simp only [pm_f2, pm_to, ht]; simp [pm_c, h]) k
theorem pw_if_gt {x : Int32} {off : Int} {q' : Nat} (hd : pm_ins mid pc = some (.ifCond .gt off, 3)) (ht : (pc : Int) + off = (q : Int)) (hq : pc + 3 = q') (k1 : 0 < x → pw X d mid q ls st P r) (k2 : ¬ (0 < x) → pw X d mid q' ls st P r) : pw X d mid pc ls (.int x :: st) P r := by
  subst hq
  by_cases h : 0 < x
  · exact pw_if_gt_t hd ht h (k1 h)
  · exact pw_if_gt_f hd ht rfl h (k2 h)
theorem pw_icmp_gt_t {x y : Int32} {off : Int} (hd : pm_ins mid pc = some (.if_icmp .gt off, 3)) (ht : (pc : Int) + off = (q : Int)) (h : y < x) (k : pw X d mid q ls st P r) : pw X d mid pc ls (.int y :: .int x :: st) P r := pw_f2 hd (by simp [pm_f1]) (by simp only [pm_f2, pm_to, ht]; simp [pm_c, h]) k
theorem pw_icmp_gt_f {x y : Int32} {off : Int} {q' : Nat} (hd : pm_ins mid pc = some (.if_icmp .gt off, 3)) (ht : (pc : Int) + off = (q : Int)) (hq : pc + 3 = q') (h : ¬ (y < x)) (k : pw X d mid q' ls st P r) : pw X d mid pc ls (.int y :: .int x :: st) P r := by
  subst hq
  exact pw_f2 hd (by simp [pm_f1]) (by simp only [pm_f2, pm_to, ht]; simp [pm_c, h]) k
theorem pw_icmp_gt {x y : Int32} {off : Int} {q' : Nat} (hd : pm_ins mid pc = some (.if_icmp .gt off, 3)) (ht : (pc : Int) + off = (q : Int)) (hq : pc + 3 = q') (k1 : y < x → pw X d mid q ls st P r) (k2 : ¬ (y < x) → pw X d mid q' ls st P r) : pw X d mid pc ls (.int y :: .int x :: st) P r := by
  subst hq
  by_cases h : y < x
  · exact pw_icmp_gt_t hd ht h (k1 h)
  · exact pw_icmp_gt_f hd ht rfl h (k2 h)
theorem pw_if_le_t {x : Int32} {off : Int} (hd : pm_ins mid pc = some (.ifCond .le off, 3)) (ht : (pc : Int) + off = (q : Int)) (h : x ≤ 0) (k : pw X d mid q ls st P r) : pw X d mid pc ls (.int x :: st) P r := pw_f2 hd (by simp [pm_f1]) (by simp only [pm_f2, pm_to, ht]; simp [pm_c, h]) k
theorem pw_if_le_f {x : Int32} {off : Int} {q' : Nat} (hd : pm_ins mid pc = some (.ifCond .le off, 3)) (ht : (pc : Int) + off = (q : Int)) (hq : pc + 3 = q') (h : ¬ (x ≤ 0)) (k : pw X d mid q' ls st P r) : pw X d mid pc ls (.int x :: st) P r := by
  subst hq
  exact pw_f2 hd (by simp [pm_f1]) (by simp only [pm_f2, pm_to, ht]; simp [pm_c, h]) k
theorem pw_if_le {x : Int32} {off : Int} {q' : Nat} (hd : pm_ins mid pc = some (.ifCond .le off, 3)) (ht : (pc : Int) + off = (q : Int)) (hq : pc + 3 = q') (k1 : x ≤ 0 → pw X d mid q ls st P r) (k2 : ¬ (x ≤ 0) → pw X d mid q' ls st P r) : pw X d mid pc ls (.int x :: st) P r := by
  subst hq
  by_cases h : x ≤ 0
  · exact pw_if_le_t hd ht h (k1 h)
  · exact pw_if_le_f hd ht rfl h (k2 h)
theorem pw_icmp_le_t {x y : Int32} {off : Int} (hd : pm_ins mid pc = some (.if_icmp .le off, 3)) (ht : (pc : Int) + off = (q : Int)) (h : x ≤ y) (k : pw X d mid q ls st P r) : pw X d mid pc ls (.int y :: .int x :: st) P r := pw_f2 hd (by simp [pm_f1]) (by simp only [pm_f2, pm_to, ht]; simp [pm_c, h]) k
theorem pw_icmp_le_f {x y : Int32} {off : Int} {q' : Nat} (hd : pm_ins mid pc = some (.if_icmp .le off, 3)) (ht : (pc : Int) + off = (q : Int)) (hq : pc + 3 = q') (h : ¬ (x ≤ y)) (k : pw X d mid q' ls st P r) : pw X d mid pc ls (.int y :: .int x :: st) P r := by
  subst hq
  exact pw_f2 hd (by simp [pm_f1]) (by simp only [pm_f2, pm_to, ht]; simp [pm_c, h]) k
theorem pw_icmp_le {x y : Int32} {off : Int} {q' : Nat} (hd : pm_ins mid pc = some (.if_icmp .le off, 3)) (ht : (pc : Int) + off = (q : Int)) (hq : pc + 3 = q') (k1 : x ≤ y → pw X d mid q ls st P r) (k2 : ¬ (x ≤ y) → pw X d mid q' ls st P r) : pw X d mid pc ls (.int y :: .int x :: st) P r := by
  subst hq
  by_cases h : x ≤ y
  · exact pw_icmp_le_t hd ht h (k1 h)
  · exact pw_icmp_le_f hd ht rfl h (k2 h)
theorem lgc_eq (x y : Int64) : (lg_cmp x y = 0) ↔ (x = y) := by
  rcases lg_tri x y with h | h | h
  · have e : lg_cmp x y = -1 := by simp [lg_cmp, lg_lt_not h, lg_lt_ne h]
    rw [e]
    simp only [Int64.lt_iff_toInt_lt, Int64.le_iff_toInt_le, ← Int64.toInt_inj] at h ⊢
    constructor
    · intro q; first | omega | exact absurd q (by decide)
    · intro q; first | decide | omega
  · subst h
    have e : lg_cmp x x = 0 := by simp [lg_cmp]
    rw [e]
    try simp only [Int64.lt_iff_toInt_lt, Int64.le_iff_toInt_le]
    try exact ⟨fun q => by first | omega | exact absurd q (by decide) | rfl | exact absurd rfl q, fun q => by first | decide | omega | exact absurd rfl q⟩
  · have e : lg_cmp x y = 1 := by simp [lg_cmp, h]
    rw [e]
    simp only [Int64.lt_iff_toInt_lt, Int64.le_iff_toInt_le, ← Int64.toInt_inj] at h ⊢
    constructor
    · intro q; first | omega | exact absurd q (by decide)
    · intro q; first | decide | omega
theorem pw_ifc_eq {x y : Int64} {off : Int} {q' : Nat} (hd : pm_ins mid pc = some (.ifCond .eq off, 3)) (ht : (pc : Int) + off = (q : Int)) (hq : pc + 3 = q') (k1 : x = y → pw X d mid q ls st P r) (k2 : ¬ (x = y) → pw X d mid q' ls st P r) : pw X d mid pc ls (.int (lg_cmp x y) :: st) P r :=
  pw_if_eq hd ht hq (fun h => k1 ((lgc_eq x y).mp h)) (fun h => k2 (fun g => h ((lgc_eq x y).mpr g)))
theorem lgc_ne (x y : Int64) : (¬ lg_cmp x y = 0) ↔ (¬ x = y) := by
  rcases lg_tri x y with h | h | h
  · have e : lg_cmp x y = -1 := by simp [lg_cmp, lg_lt_not h, lg_lt_ne h]
    rw [e]
    simp only [Int64.lt_iff_toInt_lt, Int64.le_iff_toInt_le, ← Int64.toInt_inj] at h ⊢
    constructor
    · intro q; first | omega | exact absurd q (by decide)
    · intro q; first | decide | omega
  · subst h
    have e : lg_cmp x x = 0 := by simp [lg_cmp]
    rw [e]
    try simp only [Int64.lt_iff_toInt_lt, Int64.le_iff_toInt_le]
    try exact ⟨fun q => by first | omega | exact absurd q (by decide) | rfl | exact absurd rfl q, fun q => by first | decide | omega | exact absurd rfl q⟩
  · have e : lg_cmp x y = 1 := by simp [lg_cmp, h]
    rw [e]
    simp only [Int64.lt_iff_toInt_lt, Int64.le_iff_toInt_le, ← Int64.toInt_inj] at h ⊢
    constructor
    · intro q; first | omega | exact absurd q (by decide)
    · intro q; first | decide | omega
theorem pw_ifc_ne {x y : Int64} {off : Int} {q' : Nat} (hd : pm_ins mid pc = some (.ifCond .ne off, 3)) (ht : (pc : Int) + off = (q : Int)) (hq : pc + 3 = q') (k1 : ¬ x = y → pw X d mid q ls st P r) (k2 : ¬ (¬ x = y) → pw X d mid q' ls st P r) : pw X d mid pc ls (.int (lg_cmp x y) :: st) P r :=
  pw_if_ne hd ht hq (fun h => k1 ((lgc_ne x y).mp h)) (fun h => k2 (fun g => h ((lgc_ne x y).mpr g)))
theorem lgc_lt (x y : Int64) : (lg_cmp x y < 0) ↔ (x < y) := by
  rcases lg_tri x y with h | h | h
  · have e : lg_cmp x y = -1 := by simp [lg_cmp, lg_lt_not h, lg_lt_ne h]
    rw [e]
    simp only [Int64.lt_iff_toInt_lt, Int64.le_iff_toInt_le, ← Int64.toInt_inj] at h ⊢
    constructor
    · intro q; first | omega | exact absurd q (by decide)
    · intro q; first | decide | omega
  · subst h
    have e : lg_cmp x x = 0 := by simp [lg_cmp]
    rw [e]
    try simp only [Int64.lt_iff_toInt_lt, Int64.le_iff_toInt_le]
    try exact ⟨fun q => by first | omega | exact absurd q (by decide) | rfl | exact absurd rfl q, fun q => by first | decide | omega | exact absurd rfl q⟩
  · have e : lg_cmp x y = 1 := by simp [lg_cmp, h]
    rw [e]
    simp only [Int64.lt_iff_toInt_lt, Int64.le_iff_toInt_le, ← Int64.toInt_inj] at h ⊢
    constructor
    · intro q; first | omega | exact absurd q (by decide)
    · intro q; first | decide | omega
theorem pw_ifc_lt {x y : Int64} {off : Int} {q' : Nat} (hd : pm_ins mid pc = some (.ifCond .lt off, 3)) (ht : (pc : Int) + off = (q : Int)) (hq : pc + 3 = q') (k1 : x < y → pw X d mid q ls st P r) (k2 : ¬ (x < y) → pw X d mid q' ls st P r) : pw X d mid pc ls (.int (lg_cmp x y) :: st) P r :=
  pw_if_lt hd ht hq (fun h => k1 ((lgc_lt x y).mp h)) (fun h => k2 (fun g => h ((lgc_lt x y).mpr g)))
theorem lgc_ge (x y : Int64) : (0 ≤ lg_cmp x y) ↔ (y ≤ x) := by
  rcases lg_tri x y with h | h | h
  · have e : lg_cmp x y = -1 := by simp [lg_cmp, lg_lt_not h, lg_lt_ne h]
    rw [e]
    simp only [Int64.lt_iff_toInt_lt, Int64.le_iff_toInt_le, ← Int64.toInt_inj] at h ⊢
    constructor
    · intro q; first | omega | exact absurd q (by decide)
    · intro q; first | decide | omega
  · subst h
    have e : lg_cmp x x = 0 := by simp [lg_cmp]
    rw [e]
    try simp only [Int64.lt_iff_toInt_lt, Int64.le_iff_toInt_le]
    try exact ⟨fun q => by first | omega | exact absurd q (by decide) | rfl | exact absurd rfl q, fun q => by first | decide | omega | exact absurd rfl q⟩
  · have e : lg_cmp x y = 1 := by simp [lg_cmp, h]
    rw [e]
    simp only [Int64.lt_iff_toInt_lt, Int64.le_iff_toInt_le, ← Int64.toInt_inj] at h ⊢
    constructor
    · intro q; first | omega | exact absurd q (by decide)
    · intro q; first | decide | omega
theorem pw_ifc_ge {x y : Int64} {off : Int} {q' : Nat} (hd : pm_ins mid pc = some (.ifCond .ge off, 3)) (ht : (pc : Int) + off = (q : Int)) (hq : pc + 3 = q') (k1 : y ≤ x → pw X d mid q ls st P r) (k2 : ¬ (y ≤ x) → pw X d mid q' ls st P r) : pw X d mid pc ls (.int (lg_cmp x y) :: st) P r :=
  pw_if_ge hd ht hq (fun h => k1 ((lgc_ge x y).mp h)) (fun h => k2 (fun g => h ((lgc_ge x y).mpr g)))
theorem lgc_gt (x y : Int64) : (0 < lg_cmp x y) ↔ (y < x) := by
  rcases lg_tri x y with h | h | h
  · have e : lg_cmp x y = -1 := by simp [lg_cmp, lg_lt_not h, lg_lt_ne h]
    rw [e]
    simp only [Int64.lt_iff_toInt_lt, Int64.le_iff_toInt_le, ← Int64.toInt_inj] at h ⊢
    constructor
    · intro q; first | omega | exact absurd q (by decide)
    · intro q; first | decide | omega
  · subst h
    have e : lg_cmp x x = 0 := by simp [lg_cmp]
    rw [e]
    try simp only [Int64.lt_iff_toInt_lt, Int64.le_iff_toInt_le]
    try exact ⟨fun q => by first | omega | exact absurd q (by decide) | rfl | exact absurd rfl q, fun q => by first | decide | omega | exact absurd rfl q⟩
  · have e : lg_cmp x y = 1 := by simp [lg_cmp, h]
    rw [e]
    simp only [Int64.lt_iff_toInt_lt, Int64.le_iff_toInt_le, ← Int64.toInt_inj] at h ⊢
    constructor
    · intro q; first | omega | exact absurd q (by decide)
    · intro q; first | decide | omega
theorem pw_ifc_gt {x y : Int64} {off : Int} {q' : Nat} (hd : pm_ins mid pc = some (.ifCond .gt off, 3)) (ht : (pc : Int) + off = (q : Int)) (hq : pc + 3 = q') (k1 : y < x → pw X d mid q ls st P r) (k2 : ¬ (y < x) → pw X d mid q' ls st P r) : pw X d mid pc ls (.int (lg_cmp x y) :: st) P r :=
  pw_if_gt hd ht hq (fun h => k1 ((lgc_gt x y).mp h)) (fun h => k2 (fun g => h ((lgc_gt x y).mpr g)))
theorem lgc_le (x y : Int64) : (lg_cmp x y ≤ 0) ↔ (x ≤ y) := by
  rcases lg_tri x y with h | h | h
  · have e : lg_cmp x y = -1 := by simp [lg_cmp, lg_lt_not h, lg_lt_ne h]
    rw [e]
    simp only [Int64.lt_iff_toInt_lt, Int64.le_iff_toInt_le, ← Int64.toInt_inj] at h ⊢
    constructor
    · intro q; first | omega | exact absurd q (by decide)
    · intro q; first | decide | omega
  · subst h
    have e : lg_cmp x x = 0 := by simp [lg_cmp]
    rw [e]
    try simp only [Int64.lt_iff_toInt_lt, Int64.le_iff_toInt_le]
    try exact ⟨fun q => by first | omega | exact absurd q (by decide) | rfl | exact absurd rfl q, fun q => by first | decide | omega | exact absurd rfl q⟩
  · have e : lg_cmp x y = 1 := by simp [lg_cmp, h]
    rw [e]
    simp only [Int64.lt_iff_toInt_lt, Int64.le_iff_toInt_le, ← Int64.toInt_inj] at h ⊢
    constructor
    · intro q; first | omega | exact absurd q (by decide)
    · intro q; first | decide | omega
theorem pw_ifc_le {x y : Int64} {off : Int} {q' : Nat} (hd : pm_ins mid pc = some (.ifCond .le off, 3)) (ht : (pc : Int) + off = (q : Int)) (hq : pc + 3 = q') (k1 : x ≤ y → pw X d mid q ls st P r) (k2 : ¬ (x ≤ y) → pw X d mid q' ls st P r) : pw X d mid pc ls (.int (lg_cmp x y) :: st) P r :=
  pw_if_le hd ht hq (fun h => k1 ((lgc_le x y).mp h)) (fun h => k2 (fun g => h ((lgc_le x y).mpr g)))
def bI (c : Bool) : Int32 := if c = true then 1 else 0
theorem bI_t : bI true = 1 := rfl
theorem bI_f : bI false = 0 := rfl
theorem bI_ne {c : Bool} (h : c = true) : ¬ bI c = 0 := by subst h; decide
theorem bI_eq {c : Bool} (h : c = false) : bI c = 0 := by subst h; rfl
theorem bI_nar (c : Bool) : narrow .boolean (.int (bI c)) = .int (bI c) := by cases c <;> rfl
theorem pw_ifb_eq {c : Bool} {off : Int} {q' : Nat} (hd : pm_ins mid pc = some (.ifCond .eq off, 3)) (ht : (pc : Int) + off = (q : Int)) (hq : pc + 3 = q') (k1 : c = false → pw X d mid q ls st P r) (k2 : c = true → pw X d mid q' ls st P r) : pw X d mid pc ls (.int (bI c) :: st) P r := by
  cases hc : c
  · exact pw_if_eq_t hd ht (bI_eq rfl) (k1 hc)
  · exact pw_if_eq_f hd ht hq (bI_ne rfl) (k2 hc)
theorem pw_ifb_ne {c : Bool} {off : Int} {q' : Nat} (hd : pm_ins mid pc = some (.ifCond .ne off, 3)) (ht : (pc : Int) + off = (q : Int)) (hq : pc + 3 = q') (k1 : c = true → pw X d mid q ls st P r) (k2 : c = false → pw X d mid q' ls st P r) : pw X d mid pc ls (.int (bI c) :: st) P r := by
  cases hc : c
  · exact pw_if_ne_f hd ht hq (fun h => h (bI_eq rfl)) (k2 hc)
  · exact pw_if_ne_t hd ht (bI_ne rfl) (k1 hc)
theorem pw_top {x y : Int32} (h : x = y) (k : pw X d mid pc ls (.int y :: st) P r) : pw X d mid pc ls (.int x :: st) P r := by subst h; exact k
theorem pw_topl {x y : Int64} (h : x = y) (k : pw X d mid pc ls (.long y :: st) P r) : pw X d mid pc ls (.long x :: st) P r := by subst h; exact k
theorem pw_tableIn {df lo hi off : Int} {offs : Array Int} {x : Int32} (hd : pm_ins mid pc = some (.tableswitch df lo hi offs, n)) (h0 : ¬ (x.toInt < lo ∨ hi < x.toInt)) (ho : offs[(x.toInt - lo).toNat]? = some off) (ht : (pc : Int) + off = (q : Int)) (k : pw X d mid q ls st P r) : pw X d mid pc ls (.int x :: st) P r :=
  pw_f2 hd (by simp [pm_f1]) (by simp only [pm_f2, pm_to, h0, ho, ht]; simp) k
theorem pw_tableOut {df lo hi : Int} {offs : Array Int} {x : Int32} (hd : pm_ins mid pc = some (.tableswitch df lo hi offs, n)) (h0 : x.toInt < lo ∨ hi < x.toInt) (ht : (pc : Int) + df = (q : Int)) (k : pw X d mid q ls st P r) : pw X d mid pc ls (.int x :: st) P r :=
  pw_f2 hd (by simp [pm_f1]) (by simp only [pm_f2, pm_to, h0, ht]; simp) k
theorem pw_getf {x t j a : Nat} {v : Value} (hd : pm_ins mid pc = some (.getfield x, 3)) (hf : pm_fl (pm_oc mid) x = some (t, j)) (ht : t < 100) (hr : pm_rd P a t j = some v) (hq : pc + 3 = q) (k : pw X d mid q ls (v :: st) P r) : pw X d mid pc ls (.ref (a + 1) :: st) P r :=
  pw_f3 hd (by simp [pm_f1]) (by simp [pm_f2]) (by simp [pm_f3, hf, ht, hr]) hq k
theorem pw_putf {x t j a : Nat} {v : Value} {Q : pm_H} (hd : pm_ins mid pc = some (.putfield x, 3)) (hf : pm_fl (pm_oc mid) x = some (t, j)) (ht : t < 100) (hn : narrow (pm_ft t j) v = v) (hs : fits (pm_ft t j) v = true) (hfi : pm_fin t j = false ∨ (pm_ini mid = true ∧ pm_oc mid = t)) (hw : pm_wr P a t j v = some Q) (hq : pc + 3 = q) (k : pw X d mid q ls st Q r) : pw X d mid pc ls (v :: .ref (a + 1) :: st) P r :=
  pw_f3 hd (by simp [pm_f1]) (by simp [pm_f2]) (by simp only [pm_f3, hf]; rw [if_pos ⟨ht, hn, hs, hfi⟩, hw]; rfl) hq k
theorem pw_salod {L : Nat} {f : Nat → Int32} {z : Int32} {d mid pc q : Nat} (hd : pm_ins mid pc = some (.iaload, 1)) (h0 : ¬ (z < 0 ∨ L ≤ z.toNatClampNeg)) (hq : pc + 1 = q) (k : pw (some (L, f)) d mid q ls (.int (f z.toNatClampNeg) :: st) P r) : pw (some (L, f)) d mid pc ls (.int z :: .ref 0 :: st) P r :=
  pw_f3 hd (by simp [pm_f1]) (by simp [pm_f2]) (by simp [pm_f3, h0]) hq k
theorem pw_salen {L : Nat} {f : Nat → Int32} {d mid pc q : Nat} (hd : pm_ins mid pc = some (.arraylength, 1)) (hq : pc + 1 = q) (k : pw (some (L, f)) d mid q ls (.int (Int32.ofNat L) :: st) P r) : pw (some (L, f)) d mid pc ls (.ref 0 :: st) P r :=
  pw_f3 hd (by simp [pm_f1]) (by simp [pm_f2]) (by simp [pm_f3]) hq k
theorem pw_iald {a : Nat} {z : Int32} {w : Nat} {v : Value} (hd : pm_ins mid pc = some (.iaload, 1)) (h0 : ¬ z < 0) (hz : z.toNatClampNeg = w) (hr : pm_rd P a 100 w = some v) (hq : pc + 1 = q) (k : pw X d mid q ls (v :: st) P r) : pw X d mid pc ls (.int z :: .ref (a + 1) :: st) P r :=
  pw_f3 hd (by simp [pm_f1]) (by simp [pm_f2]) (by simp [pm_f3, h0, hz, hr]) hq k
theorem pw_iast {a : Nat} {z v : Int32} {w : Nat} {Q : pm_H} (hd : pm_ins mid pc = some (.iastore, 1)) (h0 : ¬ z < 0) (hz : z.toNatClampNeg = w) (hw : pm_wr P a 100 w (.int v) = some Q) (hq : pc + 1 = q) (k : pw X d mid q ls st Q r) : pw X d mid pc ls (.int v :: .int z :: .ref (a + 1) :: st) P r :=
  pw_f3 hd (by simp [pm_f1]) (by simp [pm_f2]) (by simp [pm_f3, h0, hz, hw]) hq k
theorem pw_zald {a : Nat} {z : Int32} {w : Nat} {v : Value} (hd : pm_ins mid pc = some (.baload, 1)) (h0 : ¬ z < 0) (hz : z.toNatClampNeg = w) (hr : pm_rd P a 101 w = some v) (hq : pc + 1 = q) (k : pw X d mid q ls (v :: st) P r) : pw X d mid pc ls (.int z :: .ref (a + 1) :: st) P r :=
  pw_f3 hd (by simp [pm_f1]) (by simp [pm_f2]) (by simp [pm_f3, h0, hz, hr]) hq k
theorem pw_zast {a : Nat} {z v : Int32} {w : Nat} {Q : pm_H} (hd : pm_ins mid pc = some (.bastore, 1)) (h0 : ¬ z < 0) (hz : z.toNatClampNeg = w) (hn : narrow .boolean (.int v) = .int v) (hw : pm_wr P a 101 w (.int v) = some Q) (hq : pc + 1 = q) (k : pw X d mid q ls st Q r) : pw X d mid pc ls (.int v :: .int z :: .ref (a + 1) :: st) P r :=
  pw_f3 hd (by simp [pm_f1]) (by simp [pm_f2]) (by simp only [pm_f3]; rw [if_neg (fun h => h.elim h0 (fun h => h hn)), hz, hw]; rfl) hq k
theorem pw_aald {a t u : Nat} {z : Int32} {w : Nat} {v : Value} (hd : pm_ins mid pc = some (.aaload, 1)) (h0 : ¬ z < 0) (hz : z.toNatClampNeg = w) (ht : ¬ t < 102) (hu : pm_ae (t - 100) = some u) (hr : pm_rd P a t w = some v) (hq : pc + 1 = q) (k : pw X d mid q ls (v :: st) P r) : pw X d mid pc ls (.int z :: .ref (a + 1) :: st) P r :=
  pw_f3 hd (by simp [pm_f1]) (by simp [pm_f2]) (by
    obtain ⟨vs, w1, w2⟩ := pm_rd_spec hr
    have htg : pm_tg P a = some t := by simp [pm_tg, w1]
    simp [pm_f3, htg, h0, ht, hu, hz, hr]) hq k
theorem pw_ireturn {v : Int32} {ty : FieldType} (hd : pm_ins mid pc = some (.ireturn, 1)) (ht : pm_ret mid = some ty) (hn : narrow ty (.int v) = .int v) (hr : r = (some (.int v), P)) : pw X d mid pc ls [.int v] P r :=
  pw_inR (pw_f4 hd (by simp [pm_f1]) (by simp [pm_f2]) (by simp [pm_f3]) (by simp only [pm_f4, ht]; rw [if_pos hn])) hr
theorem pw_lreturn {v : Int64} (hd : pm_ins mid pc = some (.lreturn, 1)) (ht : pm_ret mid = some .long) (hr : r = (some (.long v), P)) : pw X d mid pc ls [.long v] P r :=
  pw_inR (pw_f4 hd (by simp [pm_f1]) (by simp [pm_f2]) (by simp [pm_f3]) (by simp only [pm_f4]; rw [if_pos ht])) hr
theorem pw_areturn {v : Nat} {o : String} (hd : pm_ins mid pc = some (.areturn, 1)) (ht : pm_ret mid = some (.object o)) (hr : r = (some (.ref v), P)) : pw X d mid pc ls [.ref v] P r :=
  pw_inR (pw_f4 hd (by simp [pm_f1]) (by simp [pm_f2]) (by simp [pm_f3]) (by simp only [pm_f4, ht])) hr
theorem pw_return (hd : pm_ins mid pc = some (.return_, 1)) (ht : pm_ret mid = none) (hr : r = (none, P)) : pw X d mid pc ls [] P r :=
  pw_inR (pw_f4 hd (by simp [pm_f1]) (by simp [pm_f2]) (by simp [pm_f3]) (by simp only [pm_f4]; rw [if_pos ht])) hr
theorem pw_virt {x y n a : Nat} {as st0 : List Value} {v : Option Value} {Q : pm_H} (hd : pm_ins mid pc = some (.invokevirtual x, 3)) (hc : pm_cal (pm_oc mid) x = some (0, y, n)) (hs : (st0.take n).reverse = .ref (a + 1) :: as ∧ (st0.take n).length = n ∧ st0.drop n = st) (hsum : (st.map fun v => v.category).sum ≤ 8) (htg : pm_tg P a = some (pm_oc y)) (hq : pc + 3 = q)
    (hcall : pm_Call d y (.ref (a + 1) :: as) P (v, Q)) (k : pw X d mid q ls (v.toList ++ st) Q r) : pw X d mid pc ls st0 P r := by
  obtain ⟨h1, h2, rfl⟩ := hs
  subst hq
  exact pw_inC (pw_f4 hd (by simp [pm_f1]) (by simp [pm_f2]) (by simp [pm_f3]) (by simp only [pm_f4, hc, h1]; rw [if_pos ⟨h2, hsum, htg⟩])) hcall k
theorem pw_stat {x y n : Nat} {as st0 : List Value} {v : Option Value} {Q : pm_H} (hd : pm_ins mid pc = some (.invokestatic x, 3)) (hc : pm_cal (pm_oc mid) x = some (1, y, n)) (hs : (st0.take n).reverse = as ∧ (st0.take n).length = n ∧ st0.drop n = st) (hsum : (st.map fun v => v.category).sum ≤ 8) (hq : pc + 3 = q)
    (hcall : pm_Call d y as P (v, Q)) (k : pw X d mid q ls (v.toList ++ st) Q r) : pw X d mid pc ls st0 P r := by
  obtain ⟨h1, h2, rfl⟩ := hs
  subst hq
  exact pw_inC (pw_f4 hd (by simp [pm_f1]) (by simp [pm_f2]) (by simp [pm_f3]) (by simp only [pm_f4, hc, h1]; rw [if_pos ⟨h2, hsum⟩])) hcall k
theorem pw_new {x t : Nat} (hd : pm_ins mid pc = some (.new x, 3)) (ht : pm_nw (pm_oc mid) x = some t) (hq : pc + 3 = q) (k : pw X d mid q ls (.ref (P.length + 1) :: st) (P ++ [(t, (List.range (pm_N t)).map fun j => defaultValue (pm_ft t j))]) r) : pw X d mid pc ls st P r :=
  pw_f3 hd (by simp [pm_f1]) (by simp [pm_f2]) (by simp [pm_f3, ht]) hq k
theorem pw_spec {x y n a : Nat} {as st0 : List Value} {v : Option Value} {Q : pm_H} (hd : pm_ins mid pc = some (.invokespecial x, 3)) (hc : pm_cal (pm_oc mid) x = some (2, y, n)) (hs : (st0.take n).reverse = .ref (a + 1) :: as ∧ (st0.take n).length = n ∧ st0.drop n = st) (hsum : (st.map fun v => v.category).sum ≤ 8) (hq : pc + 3 = q)
    (hcall : pm_Call d y (.ref (a + 1) :: as) P (v, Q)) (k : pw X d mid q ls (v.toList ++ st) Q r) : pw X d mid pc ls st0 P r := by
  obtain ⟨h1, h2, rfl⟩ := hs
  subst hq
  exact pw_inC (pw_f4 hd (by simp [pm_f1]) (by simp [pm_f2]) (by simp [pm_f3]) (by simp only [pm_f4, hc, h1]; rw [if_pos (Or.inl trivial), if_pos ⟨h2, hsum⟩])) hcall k
theorem pw_virtV {x y n a : Nat} {as st0 : List Value} {w : Value} {Q : pm_H} (hd : pm_ins mid pc = some (.invokevirtual x, 3)) (hc : pm_cal (pm_oc mid) x = some (0, y, n)) (hs : (st0.take n).reverse = .ref (a + 1) :: as ∧ (st0.take n).length = n ∧ st0.drop n = st) (hsum : (st.map fun v => v.category).sum ≤ 8) (htg : pm_tg P a = some (pm_oc y)) (hq : pc + 3 = q)
    (hcall : pm_Call d y (.ref (a + 1) :: as) P (some w, Q)) (k : pw X d mid q ls (w :: st) Q r) : pw X d mid pc ls st0 P r := pw_virt hd hc hs hsum htg hq hcall k
theorem pw_virt0 {x y n a : Nat} {as st0 : List Value} {Q : pm_H} (hd : pm_ins mid pc = some (.invokevirtual x, 3)) (hc : pm_cal (pm_oc mid) x = some (0, y, n)) (hs : (st0.take n).reverse = .ref (a + 1) :: as ∧ (st0.take n).length = n ∧ st0.drop n = st) (hsum : (st.map fun v => v.category).sum ≤ 8) (htg : pm_tg P a = some (pm_oc y)) (hq : pc + 3 = q)
    (hcall : pm_Call d y (.ref (a + 1) :: as) P (none, Q)) (k : pw X d mid q ls st Q r) : pw X d mid pc ls st0 P r := pw_virt hd hc hs hsum htg hq hcall k
theorem pw_statV {x y n : Nat} {as st0 : List Value} {w : Value} {Q : pm_H} (hd : pm_ins mid pc = some (.invokestatic x, 3)) (hc : pm_cal (pm_oc mid) x = some (1, y, n)) (hs : (st0.take n).reverse = as ∧ (st0.take n).length = n ∧ st0.drop n = st) (hsum : (st.map fun v => v.category).sum ≤ 8) (hq : pc + 3 = q)
    (hcall : pm_Call d y as P (some w, Q)) (k : pw X d mid q ls (w :: st) Q r) : pw X d mid pc ls st0 P r := pw_stat hd hc hs hsum hq hcall k
end PW
theorem nJ_add (a b : Nat) : nI a + nI b = nI (a + b) := (Int32.ofNat_add a b).symm
theorem nJ_mul (a b : Nat) : nI a * nI b = nI (a * b) := (Int32.ofNat_mul a b).symm
theorem nI_inc (a : Nat) : nI a + Int32.ofInt 1 = nI (a + 1) := (nI_succ a).symm
theorem sum8 {n : Nat} (h : Nat.ble n 8 = true) : n ≤ 8 := Nat.le_of_ble_eq_true h
theorem ic_m1 : Int32.ofInt (-1) = -1 := by decide +kernel
theorem ic_0 : Int32.ofInt (0) = 0 := by decide +kernel
theorem ic_1 : Int32.ofInt (1) = 1 := by decide +kernel
theorem ic_2 : Int32.ofInt (2) = 2 := by decide +kernel
theorem ic_3 : Int32.ofInt (3) = 3 := by decide +kernel
theorem ic_4 : Int32.ofInt (4) = 4 := by decide +kernel
theorem ic_5 : Int32.ofInt (5) = 5 := by decide +kernel
theorem bc_6 : (Int8.ofInt (6)).toInt32 = 6 := by decide +kernel
theorem bc_7 : (Int8.ofInt (7)).toInt32 = 7 := by decide +kernel
theorem bc_8 : (Int8.ofInt (8)).toInt32 = 8 := by decide +kernel
theorem bc_16 : (Int8.ofInt (16)).toInt32 = 16 := by decide +kernel
theorem bc_19 : (Int8.ofInt (19)).toInt32 = 19 := by decide +kernel
theorem bc_20 : (Int8.ofInt (20)).toInt32 = 20 := by decide +kernel
theorem bc_24 : (Int8.ofInt (24)).toInt32 = 24 := by decide +kernel
theorem bc_25 : (Int8.ofInt (25)).toInt32 = 25 := by decide +kernel
theorem bc_30 : (Int8.ofInt (30)).toInt32 = 30 := by decide +kernel
theorem bc_31 : (Int8.ofInt (31)).toInt32 = 31 := by decide +kernel
theorem bc_32 : (Int8.ofInt (32)).toInt32 = 32 := by decide +kernel
theorem sc_160 : (Int16.ofInt 160).toInt32 = 160 := by decide +kernel
theorem bc_m2 : (Int8.ofInt (-2)).toInt32 = -2 := by decide +kernel
theorem bc_m3 : (Int8.ofInt (-3)).toInt32 = -3 := by decide +kernel
theorem bc_m4 : (Int8.ofInt (-4)).toInt32 = -4 := by decide +kernel
theorem bc_m5 : (Int8.ofInt (-5)).toInt32 = -5 := by decide +kernel
theorem bc_m6 : (Int8.ofInt (-6)).toInt32 = -6 := by decide +kernel
theorem bc_m7 : (Int8.ofInt (-7)).toInt32 = -7 := by decide +kernel
theorem bc_m8 : (Int8.ofInt (-8)).toInt32 = -8 := by decide +kernel
theorem bc_m9 : (Int8.ofInt (-9)).toInt32 = -9 := by decide +kernel
theorem bc_m10 : (Int8.ofInt (-10)).toInt32 = -10 := by decide +kernel
theorem bc_m11 : (Int8.ofInt (-11)).toInt32 = -11 := by decide +kernel
theorem bc_m12 : (Int8.ofInt (-12)).toInt32 = -12 := by decide +kernel
theorem bc_m13 : (Int8.ofInt (-13)).toInt32 = -13 := by decide +kernel
theorem lc_0 : Int64.ofNat ((0 : Fin 2) : Nat) = 0 := by decide +kernel
theorem lc_1 : Int64.ofNat ((1 : Fin 2) : Nat) = 1 := by decide +kernel
end
section
theorem fl_0_11 : pm_fl 0 11 = some (0, 0) := by decide +kernel
theorem fl_0_17 : pm_fl 0 17 = some (0, 1) := by decide +kernel
theorem fl_0_23 : pm_fl 0 23 = some (0, 2) := by decide +kernel
theorem fl_0_30 : pm_fl 0 30 = some (1, 0) := by decide +kernel
theorem fl_0_61 : pm_fl 0 61 = some (2, 0) := by decide +kernel
theorem fl_0_81 : pm_fl 0 81 = some (1, 1) := by decide +kernel
theorem fl_0_101 : pm_fl 0 101 = some (4, 1) := by decide +kernel
theorem fl_0_104 : pm_fl 0 104 = some (4, 0) := by decide +kernel
theorem fl_0_110 : pm_fl 0 110 = some (1, 2) := by decide +kernel
theorem fl_0_119 : pm_fl 0 119 = some (4, 3) := by decide +kernel
theorem fl_0_136 : pm_fl 0 136 = some (2, 1) := by decide +kernel
theorem fl_0_145 : pm_fl 0 145 = some (1, 3) := by decide +kernel
theorem fl_0_164 : pm_fl 0 164 = some (6, 0) := by decide +kernel
theorem fl_0_169 : pm_fl 0 169 = some (6, 3) := by decide +kernel
theorem fl_0_188 : pm_fl 0 188 = some (3, 3) := by decide +kernel
theorem fl_0_195 : pm_fl 0 195 = some (3, 4) := by decide +kernel
theorem fl_0_201 : pm_fl 0 201 = some (3, 5) := by decide +kernel
theorem fl_0_208 : pm_fl 0 208 = some (3, 6) := by decide +kernel
theorem fl_0_215 : pm_fl 0 215 = some (3, 7) := by decide +kernel
theorem fl_0_224 : pm_fl 0 224 = some (3, 1) := by decide +kernel
theorem fl_0_233 : pm_fl 0 233 = some (3, 2) := by decide +kernel
theorem fl_0_240 : pm_fl 0 240 = some (3, 10) := by decide +kernel
theorem fl_0_252 : pm_fl 0 252 = some (3, 9) := by decide +kernel
theorem fl_0_259 : pm_fl 0 259 = some (3, 11) := by decide +kernel
theorem fl_0_266 : pm_fl 0 266 = some (3, 12) := by decide +kernel
theorem fl_0_292 : pm_fl 0 292 = some (3, 13) := by decide +kernel
theorem fl_0_295 : pm_fl 0 295 = some (3, 0) := by decide +kernel
theorem fl_0_308 : pm_fl 0 308 = some (5, 2) := by decide +kernel
theorem fl_0_311 : pm_fl 0 311 = some (5, 0) := by decide +kernel
theorem fl_0_314 : pm_fl 0 314 = some (5, 1) := by decide +kernel
theorem fl_0_321 : pm_fl 0 321 = some (4, 2) := by decide +kernel
theorem fl_0_324 : pm_fl 0 324 = some (6, 1) := by decide +kernel
theorem fl_0_327 : pm_fl 0 327 = some (6, 2) := by decide +kernel
theorem fl_0_345 : pm_fl 0 345 = some (3, 8) := by decide +kernel
theorem cl_0_1 : pm_cal 0 1 = some (4, 0, 1) := by decide +kernel
theorem cl_0_27 : pm_cal 0 27 = some (2, 51, 1) := by decide +kernel
theorem cl_0_28 : pm_cal 0 28 = some (3, 60, 1) := by decide +kernel
theorem cl_0_29 : pm_cal 0 29 = some (3, 62, 1) := by decide +kernel
theorem cl_0_34 : pm_cal 0 34 = some (0, 25, 2) := by decide +kernel
theorem cl_0_38 : pm_cal 0 38 = some (0, 39, 2) := by decide +kernel
theorem cl_0_42 : pm_cal 0 42 = some (0, 40, 2) := by decide +kernel
theorem cl_0_45 : pm_cal 0 45 = some (0, 41, 2) := by decide +kernel
theorem cl_0_48 : pm_cal 0 48 = some (0, 59, 1) := by decide +kernel
theorem cl_0_51 : pm_cal 0 51 = some (0, 42, 2) := by decide +kernel
theorem cl_0_54 : pm_cal 0 54 = some (0, 38, 2) := by decide +kernel
theorem cl_0_57 : pm_cal 0 57 = some (0, 29, 2) := by decide +kernel
theorem cl_0_64 : pm_cal 0 64 = some (0, 61, 1) := by decide +kernel
theorem cl_0_67 : pm_cal 0 67 = some (0, 27, 3) := by decide +kernel
theorem cl_0_71 : pm_cal 0 71 = some (0, 54, 2) := by decide +kernel
theorem cl_0_74 : pm_cal 0 74 = some (1, 22, 2) := by decide +kernel
theorem cl_0_77 : pm_cal 0 77 = some (0, 56, 1) := by decide +kernel
theorem cl_0_85 : pm_cal 0 85 = some (0, 68, 4) := by decide +kernel
theorem cl_0_91 : pm_cal 0 91 = some (0, 52, 2) := by decide +kernel
theorem cl_0_94 : pm_cal 0 94 = some (0, 67, 1) := by decide +kernel
theorem cl_0_98 : pm_cal 0 98 = some (0, 69, 1) := by decide +kernel
theorem cl_0_107 : pm_cal 0 107 = some (0, 57, 1) := by decide +kernel
theorem cl_0_114 : pm_cal 0 114 = some (0, 72, 4) := by decide +kernel
theorem cl_0_122 : pm_cal 0 122 = some (0, 53, 2) := by decide +kernel
theorem cl_0_125 : pm_cal 0 125 = some (0, 36, 2) := by decide +kernel
theorem cl_0_129 : pm_cal 0 129 = some (0, 28, 2) := by decide +kernel
theorem cl_0_132 : pm_cal 0 132 = some (0, 31, 5) := by decide +kernel
theorem cl_0_142 : pm_cal 0 142 = some (0, 58, 1) := by decide +kernel
theorem cl_0_149 : pm_cal 0 149 = some (0, 76, 2) := by decide +kernel
theorem cl_0_154 : pm_cal 0 154 = some (1, 24, 1) := by decide +kernel
theorem cl_0_157 : pm_cal 0 157 = some (0, 75, 2) := by decide +kernel
theorem cl_0_160 : pm_cal 0 160 = some (0, 77, 3) := by decide +kernel
theorem cl_0_165 : pm_cal 0 165 = some (0, 35, 2) := by decide +kernel
theorem cl_0_173 : pm_cal 0 173 = some (0, 43, 1) := by decide +kernel
theorem cl_0_176 : pm_cal 0 176 = some (0, 45, 2) := by decide +kernel
theorem cl_0_179 : pm_cal 0 179 = some (0, 46, 2) := by decide +kernel
theorem cl_0_182 : pm_cal 0 182 = some (0, 63, 3) := by decide +kernel
theorem cl_0_185 : pm_cal 0 185 = some (0, 3, 2) := by decide +kernel
theorem cl_0_191 : pm_cal 0 191 = some (0, 5, 5) := by decide +kernel
theorem cl_0_198 : pm_cal 0 198 = some (0, 7, 5) := by decide +kernel
theorem cl_0_204 : pm_cal 0 204 = some (0, 12, 3) := by decide +kernel
theorem cl_0_211 : pm_cal 0 211 = some (0, 13, 4) := by decide +kernel
theorem cl_0_218 : pm_cal 0 218 = some (0, 47, 2) := by decide +kernel
theorem cl_0_221 : pm_cal 0 221 = some (0, 64, 1) := by decide +kernel
theorem cl_0_227 : pm_cal 0 227 = some (0, 44, 2) := by decide +kernel
theorem cl_0_230 : pm_cal 0 230 = some (0, 10, 5) := by decide +kernel
theorem cl_0_236 : pm_cal 0 236 = some (0, 49, 5) := by decide +kernel
theorem cl_0_245 : pm_cal 0 245 = some (0, 50, 3) := by decide +kernel
theorem cl_0_249 : pm_cal 0 249 = some (0, 14, 3) := by decide +kernel
theorem cl_0_262 : pm_cal 0 262 = some (0, 11, 4) := by decide +kernel
theorem cl_0_269 : pm_cal 0 269 = some (0, 6, 3) := by decide +kernel
theorem cl_0_272 : pm_cal 0 272 = some (0, 4, 3) := by decide +kernel
theorem cl_0_277 : pm_cal 0 277 = some (1, 21, 1) := by decide +kernel
theorem cl_0_282 : pm_cal 0 282 = some (1, 23, 1) := by decide +kernel
theorem cl_0_285 : pm_cal 0 285 = some (0, 34, 2) := by decide +kernel
theorem cl_0_289 : pm_cal 0 289 = some (0, 26, 2) := by decide +kernel
theorem cl_0_298 : pm_cal 0 298 = some (0, 30, 1) := by decide +kernel
theorem cl_0_301 : pm_cal 0 301 = some (0, 32, 4) := by decide +kernel
theorem cl_0_305 : pm_cal 0 305 = some (0, 71, 1) := by decide +kernel
theorem cl_0_317 : pm_cal 0 317 = some (0, 33, 2) := by decide +kernel
theorem cl_0_330 : pm_cal 0 330 = some (0, 73, 1) := by decide +kernel
theorem cl_0_331 : pm_cal 0 331 = some (0, 37, 3) := by decide +kernel
theorem cl_0_335 : pm_cal 0 335 = some (0, 55, 2) := by decide +kernel
theorem cl_0_338 : pm_cal 0 338 = some (0, 78, 1) := by decide +kernel
theorem cl_0_341 : pm_cal 0 341 = some (0, 48, 2) := by decide +kernel
theorem cl_0_348 : pm_cal 0 348 = some (0, 8, 3) := by decide +kernel
theorem l2_0_140 : pm_l2 0 140 = some (4294967295) := by decide +kernel
theorem l2_0_243 : pm_l2 0 243 = some (3) := by decide +kernel
theorem l2_0_255 : pm_l2 0 255 = some (-11) := by decide +kernel
theorem l2_0_257 : pm_l2 0 257 = some (-12) := by decide +kernel
theorem l2_0_275 : pm_l2 0 275 = some (-13) := by decide +kernel
theorem l2_0_280 : pm_l2 0 280 = some (-1) := by decide +kernel
theorem fl_1_9 : pm_fl 1 9 = some (1, 0) := by decide +kernel
theorem fl_1_17 : pm_fl 1 17 = some (1, 1) := by decide +kernel
theorem fl_1_23 : pm_fl 1 23 = some (1, 2) := by decide +kernel
theorem fl_1_29 : pm_fl 1 29 = some (1, 3) := by decide +kernel
theorem fl_1_41 : pm_fl 1 41 = some (4, 2) := by decide +kernel
theorem fl_1_47 : pm_fl 1 47 = some (6, 0) := by decide +kernel
theorem cl_1_3 : pm_cal 1 3 = some (4, 0, 1) := by decide +kernel
theorem cl_1_33 : pm_cal 1 33 = some (3, 65, 1) := by decide +kernel
theorem cl_1_34 : pm_cal 1 34 = some (3, 70, 1) := by decide +kernel
theorem cl_1_35 : pm_cal 1 35 = some (3, 74, 1) := by decide +kernel
theorem cl_1_36 : pm_cal 1 36 = some (0, 66, 1) := by decide +kernel
theorem cl_1_40 : pm_cal 1 40 = some (0, 71, 1) := by decide +kernel
theorem cl_1_44 : pm_cal 1 44 = some (0, 67, 1) := by decide +kernel
theorem cl_1_48 : pm_cal 1 48 = some (0, 69, 1) := by decide +kernel
theorem fl_2_9 : pm_fl 2 9 = some (2, 0) := by decide +kernel
theorem fl_2_15 : pm_fl 2 15 = some (2, 1) := by decide +kernel
theorem cl_2_3 : pm_cal 2 3 = some (4, 0, 1) := by decide +kernel
theorem fl_3_9 : pm_fl 3 9 = some (3, 0) := by decide +kernel
theorem fl_3_15 : pm_fl 3 15 = some (3, 1) := by decide +kernel
theorem fl_3_19 : pm_fl 3 19 = some (3, 2) := by decide +kernel
theorem fl_3_22 : pm_fl 3 22 = some (3, 3) := by decide +kernel
theorem fl_3_25 : pm_fl 3 25 = some (3, 4) := by decide +kernel
theorem fl_3_28 : pm_fl 3 28 = some (3, 5) := by decide +kernel
theorem fl_3_31 : pm_fl 3 31 = some (3, 6) := by decide +kernel
theorem fl_3_34 : pm_fl 3 34 = some (3, 7) := by decide +kernel
theorem fl_3_37 : pm_fl 3 37 = some (3, 8) := by decide +kernel
theorem fl_3_40 : pm_fl 3 40 = some (3, 9) := by decide +kernel
theorem fl_3_43 : pm_fl 3 43 = some (3, 10) := by decide +kernel
theorem fl_3_46 : pm_fl 3 46 = some (3, 11) := by decide +kernel
theorem fl_3_50 : pm_fl 3 50 = some (3, 12) := by decide +kernel
theorem fl_3_53 : pm_fl 3 53 = some (3, 13) := by decide +kernel
theorem cl_3_3 : pm_cal 3 3 = some (4, 0, 1) := by decide +kernel
theorem fl_4_9 : pm_fl 4 9 = some (4, 0) := by decide +kernel
theorem fl_4_15 : pm_fl 4 15 = some (4, 1) := by decide +kernel
theorem fl_4_18 : pm_fl 4 18 = some (4, 2) := by decide +kernel
theorem fl_4_21 : pm_fl 4 21 = some (4, 3) := by decide +kernel
theorem cl_4_3 : pm_cal 4 3 = some (4, 0, 1) := by decide +kernel
theorem cl_4_24 : pm_cal 4 24 = some (0, 68, 4) := by decide +kernel
theorem fl_5_9 : pm_fl 5 9 = some (5, 0) := by decide +kernel
theorem fl_5_15 : pm_fl 5 15 = some (5, 1) := by decide +kernel
theorem fl_5_18 : pm_fl 5 18 = some (5, 2) := by decide +kernel
theorem cl_5_3 : pm_cal 5 3 = some (4, 0, 1) := by decide +kernel
theorem cl_5_22 : pm_cal 5 22 = some (0, 72, 4) := by decide +kernel
theorem fl_6_9 : pm_fl 6 9 = some (6, 0) := by decide +kernel
theorem fl_6_15 : pm_fl 6 15 = some (6, 1) := by decide +kernel
theorem fl_6_18 : pm_fl 6 18 = some (6, 2) := by decide +kernel
theorem fl_6_21 : pm_fl 6 21 = some (6, 3) := by decide +kernel
theorem cl_6_3 : pm_cal 6 3 = some (4, 0, 1) := by decide +kernel
theorem cl_6_25 : pm_cal 6 25 = some (0, 79, 4) := by decide +kernel
theorem fl_7_7 : pm_fl 7 7 = some (7, 0) := by decide +kernel
theorem fl_7_13 : pm_fl 7 13 = some (7, 1) := by decide +kernel
theorem fl_7_16 : pm_fl 7 16 = some (7, 2) := by decide +kernel
theorem fl_7_19 : pm_fl 7 19 = some (7, 3) := by decide +kernel
theorem fl_7_22 : pm_fl 7 22 = some (7, 4) := by decide +kernel
theorem fl_7_25 : pm_fl 7 25 = some (7, 5) := by decide +kernel
theorem fl_7_28 : pm_fl 7 28 = some (7, 6) := by decide +kernel
theorem fl_7_31 : pm_fl 7 31 = some (7, 7) := by decide +kernel
theorem fl_7_35 : pm_fl 7 35 = some (7, 8) := by decide +kernel
theorem fl_7_38 : pm_fl 7 38 = some (7, 9) := by decide +kernel
theorem fl_7_41 : pm_fl 7 41 = some (7, 10) := by decide +kernel
theorem fl_7_44 : pm_fl 7 44 = some (7, 11) := by decide +kernel
theorem fl_7_47 : pm_fl 7 47 = some (7, 12) := by decide +kernel
theorem fl_7_50 : pm_fl 7 50 = some (7, 13) := by decide +kernel
theorem fl_7_53 : pm_fl 7 53 = some (7, 14) := by decide +kernel
theorem fl_7_56 : pm_fl 7 56 = some (7, 15) := by decide +kernel
theorem fl_7_59 : pm_fl 7 59 = some (7, 16) := by decide +kernel
theorem fl_7_62 : pm_fl 7 62 = some (7, 17) := by decide +kernel
theorem fl_7_65 : pm_fl 7 65 = some (7, 18) := by decide +kernel
theorem fl_7_68 : pm_fl 7 68 = some (7, 19) := by decide +kernel
theorem fl_7_71 : pm_fl 7 71 = some (7, 20) := by decide +kernel
theorem fl_7_74 : pm_fl 7 74 = some (7, 21) := by decide +kernel
theorem fl_7_77 : pm_fl 7 77 = some (7, 22) := by decide +kernel
theorem fl_7_80 : pm_fl 7 80 = some (7, 23) := by decide +kernel
theorem cl_7_1 : pm_cal 7 1 = some (4, 0, 1) := by decide +kernel
theorem cl_7_83 : pm_cal 7 83 = some (0, 88, 2) := by decide +kernel
theorem cl_7_87 : pm_cal 7 87 = some (0, 89, 4) := by decide +kernel
theorem cl_7_91 : pm_cal 7 91 = some (0, 83, 2) := by decide +kernel
theorem cl_7_94 : pm_cal 7 94 = some (0, 81, 2) := by decide +kernel
theorem cl_7_98 : pm_cal 7 98 = some (0, 91, 2) := by decide +kernel
theorem cl_7_102 : pm_cal 7 102 = some (0, 92, 2) := by decide +kernel
theorem cl_7_105 : pm_cal 7 105 = some (0, 82, 3) := by decide +kernel
theorem cl_7_109 : pm_cal 7 109 = some (0, 84, 1) := by decide +kernel
theorem cl_7_113 : pm_cal 7 113 = some (0, 85, 2) := by decide +kernel
theorem cl_7_116 : pm_cal 7 116 = some (0, 97, 3) := by decide +kernel
theorem cl_7_120 : pm_cal 7 120 = some (0, 86, 2) := by decide +kernel
theorem cl_7_123 : pm_cal 7 123 = some (0, 102, 4) := by decide +kernel
theorem cl_7_126 : pm_cal 7 126 = some (0, 103, 5) := by decide +kernel
theorem cl_7_132 : pm_cal 7 132 = some (1, 105, 1) := by decide +kernel
theorem cl_7_136 : pm_cal 7 136 = some (0, 87, 2) := by decide +kernel
theorem cl_7_139 : pm_cal 7 139 = some (0, 94, 2) := by decide +kernel
theorem cl_7_142 : pm_cal 7 142 = some (0, 96, 5) := by decide +kernel
theorem cl_7_146 : pm_cal 7 146 = some (0, 99, 5) := by decide +kernel
theorem cl_7_149 : pm_cal 7 149 = some (0, 107, 3) := by decide +kernel
theorem cl_7_152 : pm_cal 7 152 = some (0, 108, 4) := by decide +kernel
theorem cl_7_156 : pm_cal 7 156 = some (0, 112, 2) := by decide +kernel
theorem cl_7_159 : pm_cal 7 159 = some (0, 109, 3) := by decide +kernel
theorem cl_7_168 : pm_cal 7 168 = some (0, 106, 4) := by decide +kernel
theorem cl_7_172 : pm_cal 7 172 = some (0, 98, 3) := by decide +kernel
theorem cl_7_175 : pm_cal 7 175 = some (0, 95, 3) := by decide +kernel
theorem l2_7_130 : pm_l2 7 130 = some (4294967296) := by decide +kernel
theorem l2_7_162 : pm_l2 7 162 = some (3) := by decide +kernel
theorem l2_7_164 : pm_l2 7 164 = some (-11) := by decide +kernel
theorem l2_7_166 : pm_l2 7 166 = some (-12) := by decide +kernel
theorem l2_7_178 : pm_l2 7 178 = some (-13) := by decide +kernel
theorem l2_7_180 : pm_l2 7 180 = some (-1) := by decide +kernel
theorem cl_8_9 : pm_cal 8 9 = some (2, 0, 1) := by decide +kernel
theorem cl_8_12 : pm_cal 8 12 = some (2, 80, 1) := by decide +kernel
theorem cl_8_13 : pm_cal 8 13 = some (0, 1, 1) := by decide +kernel
theorem cl_8_17 : pm_cal 8 17 = some (0, 90, 1) := by decide +kernel
theorem cl_8_18 : pm_cal 8 18 = some (0, 2, 2) := by decide +kernel
theorem cl_8_22 : pm_cal 8 22 = some (0, 93, 2) := by decide +kernel
theorem cl_8_23 : pm_cal 8 23 = some (0, 3, 2) := by decide +kernel
theorem cl_8_26 : pm_cal 8 26 = some (0, 94, 2) := by decide +kernel
theorem cl_8_27 : pm_cal 8 27 = some (0, 4, 3) := by decide +kernel
theorem cl_8_31 : pm_cal 8 31 = some (0, 95, 3) := by decide +kernel
theorem cl_8_32 : pm_cal 8 32 = some (0, 5, 5) := by decide +kernel
theorem cl_8_36 : pm_cal 8 36 = some (0, 96, 5) := by decide +kernel
theorem cl_8_37 : pm_cal 8 37 = some (0, 6, 3) := by decide +kernel
theorem cl_8_40 : pm_cal 8 40 = some (0, 98, 3) := by decide +kernel
theorem cl_8_41 : pm_cal 8 41 = some (0, 7, 5) := by decide +kernel
theorem cl_8_45 : pm_cal 8 45 = some (0, 99, 5) := by decide +kernel
theorem cl_8_46 : pm_cal 8 46 = some (0, 8, 3) := by decide +kernel
theorem cl_8_49 : pm_cal 8 49 = some (0, 100, 3) := by decide +kernel
theorem cl_8_50 : pm_cal 8 50 = some (0, 9, 5) := by decide +kernel
theorem cl_8_53 : pm_cal 8 53 = some (0, 101, 5) := by decide +kernel
theorem cl_8_54 : pm_cal 8 54 = some (0, 10, 5) := by decide +kernel
theorem cl_8_57 : pm_cal 8 57 = some (0, 104, 5) := by decide +kernel
theorem cl_8_58 : pm_cal 8 58 = some (0, 11, 4) := by decide +kernel
theorem cl_8_62 : pm_cal 8 62 = some (0, 106, 4) := by decide +kernel
theorem cl_8_63 : pm_cal 8 63 = some (0, 12, 3) := by decide +kernel
theorem cl_8_66 : pm_cal 8 66 = some (0, 107, 3) := by decide +kernel
theorem cl_8_67 : pm_cal 8 67 = some (0, 13, 4) := by decide +kernel
theorem cl_8_71 : pm_cal 8 71 = some (0, 108, 4) := by decide +kernel
theorem cl_8_72 : pm_cal 8 72 = some (0, 14, 3) := by decide +kernel
theorem cl_8_75 : pm_cal 8 75 = some (0, 109, 3) := by decide +kernel
theorem cl_8_76 : pm_cal 8 76 = some (0, 15, 2) := by decide +kernel
theorem cl_8_79 : pm_cal 8 79 = some (0, 110, 2) := by decide +kernel
theorem cl_8_80 : pm_cal 8 80 = some (0, 16, 3) := by decide +kernel
theorem cl_8_83 : pm_cal 8 83 = some (0, 111, 3) := by decide +kernel
theorem cl_8_84 : pm_cal 8 84 = some (0, 17, 5) := by decide +kernel
theorem cl_8_88 : pm_cal 8 88 = some (0, 113, 5) := by decide +kernel
theorem cl_8_89 : pm_cal 8 89 = some (0, 18, 2) := by decide +kernel
theorem cl_8_92 : pm_cal 8 92 = some (0, 114, 2) := by decide +kernel
theorem cl_8_93 : pm_cal 8 93 = some (0, 19, 2) := by decide +kernel
theorem cl_8_97 : pm_cal 8 97 = some (0, 115, 2) := by decide +kernel
theorem cl_8_98 : pm_cal 8 98 = some (0, 20, 4) := by decide +kernel
theorem cl_8_101 : pm_cal 8 101 = some (0, 116, 4) := by decide +kernel
end
section
theorem n_1_0 : pm_ins 1 0 = some (.iconst 0, 1) := by decide +kernel
theorem n_1_1 : pm_ins 1 1 = some (.istore_n 1, 1) := by decide +kernel
theorem n_1_2 : pm_ins 1 2 = some (.iload_n 1, 1) := by decide +kernel
theorem n_1_3 : pm_ins 1 3 = some (.iconst 5, 1) := by decide +kernel
theorem n_1_4 : pm_ins 1 4 = some (.if_icmp .ge 33, 3) := by decide +kernel
theorem n_1_7 : pm_ins 1 7 = some (.aload_n 0, 1) := by decide +kernel
theorem n_1_8 : pm_ins 1 8 = some (.getfield 11, 3) := by decide +kernel
theorem n_1_11 : pm_ins 1 11 = some (.iload_n 1, 1) := by decide +kernel
theorem n_1_12 : pm_ins 1 12 = some (.aaload, 1) := by decide +kernel
theorem n_1_13 : pm_ins 1 13 = some (.getfield 30, 3) := by decide +kernel
theorem n_1_16 : pm_ins 1 16 = some (.ifCond .ne 15, 3) := by decide +kernel
theorem n_1_19 : pm_ins 1 19 = some (.aload_n 0, 1) := by decide +kernel
theorem n_1_20 : pm_ins 1 20 = some (.getfield 11, 3) := by decide +kernel
theorem n_1_23 : pm_ins 1 23 = some (.iload_n 1, 1) := by decide +kernel
theorem n_1_24 : pm_ins 1 24 = some (.aaload, 1) := by decide +kernel
theorem n_1_25 : pm_ins 1 25 = some (.iconst 1, 1) := by decide +kernel
theorem n_1_26 : pm_ins 1 26 = some (.putfield 30, 3) := by decide +kernel
theorem n_1_29 : pm_ins 1 29 = some (.iload_n 1, 1) := by decide +kernel
theorem n_1_30 : pm_ins 1 30 = some (.ireturn, 1) := by decide +kernel
theorem n_1_31 : pm_ins 1 31 = some (.iinc 1 1, 3) := by decide +kernel
theorem n_1_34 : pm_ins 1 34 = some (.goto (-32), 3) := by decide +kernel
theorem n_1_37 : pm_ins 1 37 = some (.bipush (-7), 2) := by decide +kernel
theorem n_1_39 : pm_ins 1 39 = some (.ireturn, 1) := by decide +kernel
theorem n_2_0 : pm_ins 2 0 = some (.aload_n 0, 1) := by decide +kernel
theorem n_2_1 : pm_ins 2 1 = some (.iload_n 1, 1) := by decide +kernel
theorem n_2_2 : pm_ins 2 2 = some (.invokevirtual 34, 3) := by decide +kernel
theorem n_2_5 : pm_ins 2 5 = some (.ifCond .ne 5, 3) := by decide +kernel
theorem n_2_8 : pm_ins 2 8 = some (.iconst (-1), 1) := by decide +kernel
theorem n_2_9 : pm_ins 2 9 = some (.ireturn, 1) := by decide +kernel
theorem n_2_10 : pm_ins 2 10 = some (.aload_n 0, 1) := by decide +kernel
theorem n_2_11 : pm_ins 2 11 = some (.iload_n 1, 1) := by decide +kernel
theorem n_2_12 : pm_ins 2 12 = some (.invokevirtual 38, 3) := by decide +kernel
theorem n_2_15 : pm_ins 2 15 = some (.aload_n 0, 1) := by decide +kernel
theorem n_2_16 : pm_ins 2 16 = some (.iload_n 1, 1) := by decide +kernel
theorem n_2_17 : pm_ins 2 17 = some (.invokevirtual 42, 3) := by decide +kernel
theorem n_2_20 : pm_ins 2 20 = some (.aload_n 0, 1) := by decide +kernel
theorem n_2_21 : pm_ins 2 21 = some (.iload_n 1, 1) := by decide +kernel
theorem n_2_22 : pm_ins 2 22 = some (.invokevirtual 45, 3) := by decide +kernel
theorem n_2_25 : pm_ins 2 25 = some (.aload_n 0, 1) := by decide +kernel
theorem n_2_26 : pm_ins 2 26 = some (.getfield 11, 3) := by decide +kernel
theorem n_2_29 : pm_ins 2 29 = some (.iload_n 1, 1) := by decide +kernel
theorem n_2_30 : pm_ins 2 30 = some (.aaload, 1) := by decide +kernel
theorem n_2_31 : pm_ins 2 31 = some (.iconst 2, 1) := by decide +kernel
theorem n_2_32 : pm_ins 2 32 = some (.putfield 30, 3) := by decide +kernel
theorem n_2_35 : pm_ins 2 35 = some (.aload_n 0, 1) := by decide +kernel
theorem n_2_36 : pm_ins 2 36 = some (.getfield 11, 3) := by decide +kernel
theorem n_2_39 : pm_ins 2 39 = some (.iload_n 1, 1) := by decide +kernel
theorem n_2_40 : pm_ins 2 40 = some (.aaload, 1) := by decide +kernel
theorem n_2_41 : pm_ins 2 41 = some (.invokevirtual 48, 3) := by decide +kernel
theorem n_2_44 : pm_ins 2 44 = some (.aload_n 0, 1) := by decide +kernel
theorem n_2_45 : pm_ins 2 45 = some (.iload_n 1, 1) := by decide +kernel
theorem n_2_46 : pm_ins 2 46 = some (.invokevirtual 51, 3) := by decide +kernel
theorem n_2_49 : pm_ins 2 49 = some (.aload_n 0, 1) := by decide +kernel
theorem n_2_50 : pm_ins 2 50 = some (.iload_n 1, 1) := by decide +kernel
theorem n_2_51 : pm_ins 2 51 = some (.invokevirtual 54, 3) := by decide +kernel
theorem n_2_54 : pm_ins 2 54 = some (.iconst 0, 1) := by decide +kernel
theorem n_2_55 : pm_ins 2 55 = some (.ireturn, 1) := by decide +kernel
theorem n_3_0 : pm_ins 3 0 = some (.aload_n 0, 1) := by decide +kernel
theorem n_3_1 : pm_ins 3 1 = some (.iload_n 1, 1) := by decide +kernel
theorem n_3_2 : pm_ins 3 2 = some (.invokevirtual 34, 3) := by decide +kernel
theorem n_3_5 : pm_ins 3 5 = some (.ifCond .ne 5, 3) := by decide +kernel
theorem n_3_8 : pm_ins 3 8 = some (.iconst (-1), 1) := by decide +kernel
theorem n_3_9 : pm_ins 3 9 = some (.ireturn, 1) := by decide +kernel
theorem n_3_10 : pm_ins 3 10 = some (.aload_n 0, 1) := by decide +kernel
theorem n_3_11 : pm_ins 3 11 = some (.iload_n 1, 1) := by decide +kernel
theorem n_3_12 : pm_ins 3 12 = some (.invokevirtual 57, 3) := by decide +kernel
theorem n_3_15 : pm_ins 3 15 = some (.istore_n 2, 1) := by decide +kernel
theorem n_3_16 : pm_ins 3 16 = some (.iload_n 2, 1) := by decide +kernel
theorem n_3_17 : pm_ins 3 17 = some (.iconst (-1), 1) := by decide +kernel
theorem n_3_18 : pm_ins 3 18 = some (.if_icmp .ne 6, 3) := by decide +kernel
theorem n_3_21 : pm_ins 3 21 = some (.bipush (-7), 2) := by decide +kernel
theorem n_3_23 : pm_ins 3 23 = some (.ireturn, 1) := by decide +kernel
theorem n_3_24 : pm_ins 3 24 = some (.aload_n 0, 1) := by decide +kernel
theorem n_3_25 : pm_ins 3 25 = some (.getfield 17, 3) := by decide +kernel
theorem n_3_28 : pm_ins 3 28 = some (.iload_n 2, 1) := by decide +kernel
theorem n_3_29 : pm_ins 3 29 = some (.aaload, 1) := by decide +kernel
theorem n_3_30 : pm_ins 3 30 = some (.iload_n 1, 1) := by decide +kernel
theorem n_3_31 : pm_ins 3 31 = some (.putfield 61, 3) := by decide +kernel
theorem n_3_34 : pm_ins 3 34 = some (.aload_n 0, 1) := by decide +kernel
theorem n_3_35 : pm_ins 3 35 = some (.getfield 17, 3) := by decide +kernel
theorem n_3_38 : pm_ins 3 38 = some (.iload_n 2, 1) := by decide +kernel
theorem n_3_39 : pm_ins 3 39 = some (.aaload, 1) := by decide +kernel
theorem n_3_40 : pm_ins 3 40 = some (.invokevirtual 64, 3) := by decide +kernel
theorem n_3_43 : pm_ins 3 43 = some (.iload_n 2, 1) := by decide +kernel
theorem n_3_44 : pm_ins 3 44 = some (.ireturn, 1) := by decide +kernel
theorem n_4_0 : pm_ins 4 0 = some (.aload_n 0, 1) := by decide +kernel
theorem n_4_1 : pm_ins 4 1 = some (.iload_n 1, 1) := by decide +kernel
theorem n_4_2 : pm_ins 4 2 = some (.invokevirtual 34, 3) := by decide +kernel
theorem n_4_5 : pm_ins 4 5 = some (.ifCond .ne 5, 3) := by decide +kernel
theorem n_4_8 : pm_ins 4 8 = some (.iconst (-1), 1) := by decide +kernel
theorem n_4_9 : pm_ins 4 9 = some (.ireturn, 1) := by decide +kernel
theorem n_4_10 : pm_ins 4 10 = some (.aload_n 0, 1) := by decide +kernel
theorem n_4_11 : pm_ins 4 11 = some (.iload_n 1, 1) := by decide +kernel
theorem n_4_12 : pm_ins 4 12 = some (.iload_n 2, 1) := by decide +kernel
theorem n_4_13 : pm_ins 4 13 = some (.invokevirtual 67, 3) := by decide +kernel
theorem n_4_16 : pm_ins 4 16 = some (.ifCond .ne 6, 3) := by decide +kernel
theorem n_4_19 : pm_ins 4 19 = some (.bipush (-3), 2) := by decide +kernel
theorem n_4_21 : pm_ins 4 21 = some (.ireturn, 1) := by decide +kernel
theorem n_4_22 : pm_ins 4 22 = some (.aload_n 0, 1) := by decide +kernel
theorem n_4_23 : pm_ins 4 23 = some (.getfield 11, 3) := by decide +kernel
theorem n_4_26 : pm_ins 4 26 = some (.iload_n 1, 1) := by decide +kernel
theorem n_4_27 : pm_ins 4 27 = some (.aaload, 1) := by decide +kernel
theorem n_4_28 : pm_ins 4 28 = some (.iload_n 2, 1) := by decide +kernel
theorem n_4_29 : pm_ins 4 29 = some (.invokevirtual 71, 3) := by decide +kernel
theorem n_4_32 : pm_ins 4 32 = some (.ifCond .eq 6, 3) := by decide +kernel
theorem n_4_35 : pm_ins 4 35 = some (.bipush (-4), 2) := by decide +kernel
theorem n_4_37 : pm_ins 4 37 = some (.ireturn, 1) := by decide +kernel
theorem n_4_38 : pm_ins 4 38 = some (.aload_n 0, 1) := by decide +kernel
theorem n_4_39 : pm_ins 4 39 = some (.getfield 17, 3) := by decide +kernel
theorem n_4_42 : pm_ins 4 42 = some (.iload_n 2, 1) := by decide +kernel
theorem n_4_43 : pm_ins 4 43 = some (.aaload, 1) := by decide +kernel
theorem n_4_44 : pm_ins 4 44 = some (.iconst (-1), 1) := by decide +kernel
theorem n_4_45 : pm_ins 4 45 = some (.putfield 61, 3) := by decide +kernel
theorem n_4_48 : pm_ins 4 48 = some (.iconst 0, 1) := by decide +kernel
theorem n_4_49 : pm_ins 4 49 = some (.ireturn, 1) := by decide +kernel
theorem n_5_0 : pm_ins 5 0 = some (.aload_n 0, 1) := by decide +kernel
theorem n_5_1 : pm_ins 5 1 = some (.iload_n 1, 1) := by decide +kernel
theorem n_5_2 : pm_ins 5 2 = some (.invokevirtual 34, 3) := by decide +kernel
theorem n_5_5 : pm_ins 5 5 = some (.ifCond .ne 5, 3) := by decide +kernel
theorem n_5_8 : pm_ins 5 8 = some (.iconst (-1), 1) := by decide +kernel
theorem n_5_9 : pm_ins 5 9 = some (.ireturn, 1) := by decide +kernel
theorem n_5_10 : pm_ins 5 10 = some (.iload_n 1, 1) := by decide +kernel
theorem n_5_11 : pm_ins 5 11 = some (.iload_n 2, 1) := by decide +kernel
theorem n_5_12 : pm_ins 5 12 = some (.invokestatic 74, 3) := by decide +kernel
theorem n_5_15 : pm_ins 5 15 = some (.ifCond .eq 14, 3) := by decide +kernel
theorem n_5_18 : pm_ins 5 18 = some (.iload 4, 2) := by decide +kernel
theorem n_5_20 : pm_ins 5 20 = some (.ifCond .lt 9, 3) := by decide +kernel
theorem n_5_23 : pm_ins 5 23 = some (.iload 4, 2) := by decide +kernel
theorem n_5_25 : pm_ins 5 25 = some (.iconst 2, 1) := by decide +kernel
theorem n_5_26 : pm_ins 5 26 = some (.if_icmp .le 6, 3) := by decide +kernel
theorem n_5_29 : pm_ins 5 29 = some (.bipush (-2), 2) := by decide +kernel
theorem n_5_31 : pm_ins 5 31 = some (.ireturn, 1) := by decide +kernel
theorem n_5_32 : pm_ins 5 32 = some (.iload 4, 2) := by decide +kernel
theorem n_5_34 : pm_ins 5 34 = some (.iconst 2, 1) := by decide +kernel
theorem n_5_35 : pm_ins 5 35 = some (.if_icmp .eq 15, 3) := by decide +kernel
theorem n_5_38 : pm_ins 5 38 = some (.aload_n 0, 1) := by decide +kernel
theorem n_5_39 : pm_ins 5 39 = some (.iload_n 1, 1) := by decide +kernel
theorem n_5_40 : pm_ins 5 40 = some (.iload_n 3, 1) := by decide +kernel
theorem n_5_41 : pm_ins 5 41 = some (.invokevirtual 67, 3) := by decide +kernel
theorem n_5_44 : pm_ins 5 44 = some (.ifCond .ne 6, 3) := by decide +kernel
theorem n_5_47 : pm_ins 5 47 = some (.bipush (-3), 2) := by decide +kernel
theorem n_5_49 : pm_ins 5 49 = some (.ireturn, 1) := by decide +kernel
theorem n_5_50 : pm_ins 5 50 = some (.aload_n 0, 1) := by decide +kernel
theorem n_5_51 : pm_ins 5 51 = some (.getfield 11, 3) := by decide +kernel
theorem n_5_54 : pm_ins 5 54 = some (.iload_n 1, 1) := by decide +kernel
theorem n_5_55 : pm_ins 5 55 = some (.aaload, 1) := by decide +kernel
theorem n_5_56 : pm_ins 5 56 = some (.invokevirtual 77, 3) := by decide +kernel
theorem n_5_59 : pm_ins 5 59 = some (.istore 5, 2) := by decide +kernel
theorem n_5_61 : pm_ins 5 61 = some (.iload 5, 2) := by decide +kernel
theorem n_5_63 : pm_ins 5 63 = some (.iconst (-1), 1) := by decide +kernel
theorem n_5_64 : pm_ins 5 64 = some (.if_icmp .ne 6, 3) := by decide +kernel
theorem n_5_67 : pm_ins 5 67 = some (.bipush (-7), 2) := by decide +kernel
theorem n_5_69 : pm_ins 5 69 = some (.ireturn, 1) := by decide +kernel
theorem n_5_70 : pm_ins 5 70 = some (.aload_n 0, 1) := by decide +kernel
theorem n_5_71 : pm_ins 5 71 = some (.getfield 11, 3) := by decide +kernel
theorem n_5_74 : pm_ins 5 74 = some (.iload_n 1, 1) := by decide +kernel
theorem n_5_75 : pm_ins 5 75 = some (.aaload, 1) := by decide +kernel
theorem n_5_76 : pm_ins 5 76 = some (.getfield 81, 3) := by decide +kernel
theorem n_5_79 : pm_ins 5 79 = some (.iload 5, 2) := by decide +kernel
theorem n_5_81 : pm_ins 5 81 = some (.aaload, 1) := by decide +kernel
theorem n_5_82 : pm_ins 5 82 = some (.iload_n 2, 1) := by decide +kernel
theorem n_5_83 : pm_ins 5 83 = some (.iload 4, 2) := by decide +kernel
theorem n_5_85 : pm_ins 5 85 = some (.iload 4, 2) := by decide +kernel
theorem n_5_87 : pm_ins 5 87 = some (.iconst 2, 1) := by decide +kernel
theorem n_5_88 : pm_ins 5 88 = some (.if_icmp .ne 7, 3) := by decide +kernel
theorem n_5_91 : pm_ins 5 91 = some (.iconst (-1), 1) := by decide +kernel
theorem n_5_92 : pm_ins 5 92 = some (.goto 4, 3) := by decide +kernel
theorem n_5_95 : pm_ins 5 95 = some (.iload_n 3, 1) := by decide +kernel
theorem n_5_96 : pm_ins 5 96 = some (.invokevirtual 85, 3) := by decide +kernel
theorem n_5_99 : pm_ins 5 99 = some (.iload 5, 2) := by decide +kernel
theorem n_5_101 : pm_ins 5 101 = some (.ireturn, 1) := by decide +kernel
theorem n_6_0 : pm_ins 6 0 = some (.aload_n 0, 1) := by decide +kernel
theorem n_6_1 : pm_ins 6 1 = some (.iload_n 1, 1) := by decide +kernel
theorem n_6_2 : pm_ins 6 2 = some (.invokevirtual 34, 3) := by decide +kernel
theorem n_6_5 : pm_ins 6 5 = some (.ifCond .ne 5, 3) := by decide +kernel
theorem n_6_8 : pm_ins 6 8 = some (.iconst (-1), 1) := by decide +kernel
theorem n_6_9 : pm_ins 6 9 = some (.ireturn, 1) := by decide +kernel
theorem n_6_10 : pm_ins 6 10 = some (.aload_n 0, 1) := by decide +kernel
theorem n_6_11 : pm_ins 6 11 = some (.getfield 11, 3) := by decide +kernel
theorem n_6_14 : pm_ins 6 14 = some (.iload_n 1, 1) := by decide +kernel
theorem n_6_15 : pm_ins 6 15 = some (.aaload, 1) := by decide +kernel
theorem n_6_16 : pm_ins 6 16 = some (.iload_n 2, 1) := by decide +kernel
theorem n_6_17 : pm_ins 6 17 = some (.invokevirtual 91, 3) := by decide +kernel
theorem n_6_20 : pm_ins 6 20 = some (.ifCond .ne 6, 3) := by decide +kernel
theorem n_6_23 : pm_ins 6 23 = some (.bipush (-5), 2) := by decide +kernel
theorem n_6_25 : pm_ins 6 25 = some (.ireturn, 1) := by decide +kernel
theorem n_6_26 : pm_ins 6 26 = some (.aload_n 0, 1) := by decide +kernel
theorem n_6_27 : pm_ins 6 27 = some (.getfield 11, 3) := by decide +kernel
theorem n_6_30 : pm_ins 6 30 = some (.iload_n 1, 1) := by decide +kernel
theorem n_6_31 : pm_ins 6 31 = some (.aaload, 1) := by decide +kernel
theorem n_6_32 : pm_ins 6 32 = some (.getfield 81, 3) := by decide +kernel
theorem n_6_35 : pm_ins 6 35 = some (.iload_n 2, 1) := by decide +kernel
theorem n_6_36 : pm_ins 6 36 = some (.aaload, 1) := by decide +kernel
theorem n_6_37 : pm_ins 6 37 = some (.astore_n 3, 1) := by decide +kernel
theorem n_6_38 : pm_ins 6 38 = some (.aload_n 3, 1) := by decide +kernel
theorem n_6_39 : pm_ins 6 39 = some (.invokevirtual 94, 3) := by decide +kernel
theorem n_6_42 : pm_ins 6 42 = some (.ifCond .eq 6, 3) := by decide +kernel
theorem n_6_45 : pm_ins 6 45 = some (.bipush (-4), 2) := by decide +kernel
theorem n_6_47 : pm_ins 6 47 = some (.ireturn, 1) := by decide +kernel
theorem n_6_48 : pm_ins 6 48 = some (.aload_n 3, 1) := by decide +kernel
theorem n_6_49 : pm_ins 6 49 = some (.invokevirtual 98, 3) := by decide +kernel
theorem n_6_52 : pm_ins 6 52 = some (.iconst 0, 1) := by decide +kernel
theorem n_6_53 : pm_ins 6 53 = some (.ireturn, 1) := by decide +kernel
theorem n_7_0 : pm_ins 7 0 = some (.aload_n 0, 1) := by decide +kernel
theorem n_7_1 : pm_ins 7 1 = some (.iload_n 1, 1) := by decide +kernel
theorem n_7_2 : pm_ins 7 2 = some (.invokevirtual 34, 3) := by decide +kernel
theorem n_7_5 : pm_ins 7 5 = some (.ifCond .eq 11, 3) := by decide +kernel
theorem n_7_8 : pm_ins 7 8 = some (.aload_n 0, 1) := by decide +kernel
theorem n_7_9 : pm_ins 7 9 = some (.iload_n 2, 1) := by decide +kernel
theorem n_7_10 : pm_ins 7 10 = some (.invokevirtual 34, 3) := by decide +kernel
theorem n_7_13 : pm_ins 7 13 = some (.ifCond .ne 5, 3) := by decide +kernel
theorem n_7_16 : pm_ins 7 16 = some (.iconst (-1), 1) := by decide +kernel
theorem n_7_17 : pm_ins 7 17 = some (.ireturn, 1) := by decide +kernel
theorem n_7_18 : pm_ins 7 18 = some (.aload_n 0, 1) := by decide +kernel
theorem n_7_19 : pm_ins 7 19 = some (.getfield 11, 3) := by decide +kernel
theorem n_7_22 : pm_ins 7 22 = some (.iload_n 2, 1) := by decide +kernel
theorem n_7_23 : pm_ins 7 23 = some (.aaload, 1) := by decide +kernel
theorem n_7_24 : pm_ins 7 24 = some (.iload_n 3, 1) := by decide +kernel
theorem n_7_25 : pm_ins 7 25 = some (.invokevirtual 91, 3) := by decide +kernel
theorem n_7_28 : pm_ins 7 28 = some (.ifCond .ne 6, 3) := by decide +kernel
theorem n_7_31 : pm_ins 7 31 = some (.bipush (-5), 2) := by decide +kernel
theorem n_7_33 : pm_ins 7 33 = some (.ireturn, 1) := by decide +kernel
theorem n_7_34 : pm_ins 7 34 = some (.aload_n 0, 1) := by decide +kernel
theorem n_7_35 : pm_ins 7 35 = some (.getfield 11, 3) := by decide +kernel
theorem n_7_38 : pm_ins 7 38 = some (.iload_n 2, 1) := by decide +kernel
theorem n_7_39 : pm_ins 7 39 = some (.aaload, 1) := by decide +kernel
theorem n_7_40 : pm_ins 7 40 = some (.getfield 81, 3) := by decide +kernel
theorem n_7_43 : pm_ins 7 43 = some (.iload_n 3, 1) := by decide +kernel
theorem n_7_44 : pm_ins 7 44 = some (.aaload, 1) := by decide +kernel
theorem n_7_45 : pm_ins 7 45 = some (.astore 5, 2) := by decide +kernel
theorem n_7_47 : pm_ins 7 47 = some (.aload 5, 2) := by decide +kernel
theorem n_7_49 : pm_ins 7 49 = some (.getfield 101, 3) := by decide +kernel
theorem n_7_52 : pm_ins 7 52 = some (.iconst 2, 1) := by decide +kernel
theorem n_7_53 : pm_ins 7 53 = some (.if_icmp .eq 12, 3) := by decide +kernel
theorem n_7_56 : pm_ins 7 56 = some (.aload 5, 2) := by decide +kernel
theorem n_7_58 : pm_ins 7 58 = some (.getfield 104, 3) := by decide +kernel
theorem n_7_61 : pm_ins 7 61 = some (.iload_n 1, 1) := by decide +kernel
theorem n_7_62 : pm_ins 7 62 = some (.if_icmp .eq 6, 3) := by decide +kernel
theorem n_7_65 : pm_ins 7 65 = some (.bipush (-5), 2) := by decide +kernel
theorem n_7_67 : pm_ins 7 67 = some (.ireturn, 1) := by decide +kernel
theorem n_7_68 : pm_ins 7 68 = some (.iload 4, 2) := by decide +kernel
theorem n_7_70 : pm_ins 7 70 = some (.ifCond .eq 14, 3) := by decide +kernel
theorem n_7_73 : pm_ins 7 73 = some (.aload 5, 2) := by decide +kernel
theorem n_7_75 : pm_ins 7 75 = some (.getfield 101, 3) := by decide +kernel
theorem n_7_78 : pm_ins 7 78 = some (.ifCond .ne 6, 3) := by decide +kernel
theorem n_7_81 : pm_ins 7 81 = some (.bipush (-6), 2) := by decide +kernel
theorem n_7_83 : pm_ins 7 83 = some (.ireturn, 1) := by decide +kernel
theorem n_7_84 : pm_ins 7 84 = some (.aload_n 0, 1) := by decide +kernel
theorem n_7_85 : pm_ins 7 85 = some (.getfield 11, 3) := by decide +kernel
theorem n_7_88 : pm_ins 7 88 = some (.iload_n 1, 1) := by decide +kernel
theorem n_7_89 : pm_ins 7 89 = some (.aaload, 1) := by decide +kernel
theorem n_7_90 : pm_ins 7 90 = some (.invokevirtual 107, 3) := by decide +kernel
theorem n_7_93 : pm_ins 7 93 = some (.istore 6, 2) := by decide +kernel
theorem n_7_95 : pm_ins 7 95 = some (.iload 6, 2) := by decide +kernel
theorem n_7_97 : pm_ins 7 97 = some (.iconst (-1), 1) := by decide +kernel
theorem n_7_98 : pm_ins 7 98 = some (.if_icmp .ne 6, 3) := by decide +kernel
theorem n_7_101 : pm_ins 7 101 = some (.bipush (-7), 2) := by decide +kernel
theorem n_7_103 : pm_ins 7 103 = some (.ireturn, 1) := by decide +kernel
theorem n_7_104 : pm_ins 7 104 = some (.aload_n 0, 1) := by decide +kernel
theorem n_7_105 : pm_ins 7 105 = some (.getfield 11, 3) := by decide +kernel
theorem n_7_108 : pm_ins 7 108 = some (.iload_n 1, 1) := by decide +kernel
theorem n_7_109 : pm_ins 7 109 = some (.aaload, 1) := by decide +kernel
theorem n_7_110 : pm_ins 7 110 = some (.getfield 110, 3) := by decide +kernel
theorem n_7_113 : pm_ins 7 113 = some (.iload 6, 2) := by decide +kernel
theorem n_7_115 : pm_ins 7 115 = some (.aaload, 1) := by decide +kernel
theorem n_7_116 : pm_ins 7 116 = some (.iload_n 2, 1) := by decide +kernel
theorem n_7_117 : pm_ins 7 117 = some (.iload_n 3, 1) := by decide +kernel
theorem n_7_118 : pm_ins 7 118 = some (.iload 4, 2) := by decide +kernel
theorem n_7_120 : pm_ins 7 120 = some (.invokevirtual 114, 3) := by decide +kernel
theorem n_7_123 : pm_ins 7 123 = some (.aload 5, 2) := by decide +kernel
theorem n_7_125 : pm_ins 7 125 = some (.dup, 1) := by decide +kernel
theorem n_7_126 : pm_ins 7 126 = some (.getfield 119, 3) := by decide +kernel
theorem n_7_129 : pm_ins 7 129 = some (.iconst 1, 1) := by decide +kernel
theorem n_7_130 : pm_ins 7 130 = some (.iadd, 1) := by decide +kernel
theorem n_7_131 : pm_ins 7 131 = some (.putfield 119, 3) := by decide +kernel
theorem n_7_134 : pm_ins 7 134 = some (.iload 6, 2) := by decide +kernel
theorem n_7_136 : pm_ins 7 136 = some (.ireturn, 1) := by decide +kernel
theorem n_8_0 : pm_ins 8 0 = some (.aload_n 0, 1) := by decide +kernel
theorem n_8_1 : pm_ins 8 1 = some (.iload_n 1, 1) := by decide +kernel
theorem n_8_2 : pm_ins 8 2 = some (.invokevirtual 34, 3) := by decide +kernel
theorem n_8_5 : pm_ins 8 5 = some (.ifCond .ne 5, 3) := by decide +kernel
theorem n_8_8 : pm_ins 8 8 = some (.iconst (-1), 1) := by decide +kernel
theorem n_8_9 : pm_ins 8 9 = some (.ireturn, 1) := by decide +kernel
theorem n_8_10 : pm_ins 8 10 = some (.aload_n 0, 1) := by decide +kernel
theorem n_8_11 : pm_ins 8 11 = some (.getfield 11, 3) := by decide +kernel
theorem n_8_14 : pm_ins 8 14 = some (.iload_n 1, 1) := by decide +kernel
theorem n_8_15 : pm_ins 8 15 = some (.aaload, 1) := by decide +kernel
theorem n_8_16 : pm_ins 8 16 = some (.iload_n 2, 1) := by decide +kernel
theorem n_8_17 : pm_ins 8 17 = some (.invokevirtual 122, 3) := by decide +kernel
theorem n_8_20 : pm_ins 8 20 = some (.ifCond .ne 6, 3) := by decide +kernel
theorem n_8_23 : pm_ins 8 23 = some (.bipush (-5), 2) := by decide +kernel
theorem n_8_25 : pm_ins 8 25 = some (.ireturn, 1) := by decide +kernel
theorem n_8_26 : pm_ins 8 26 = some (.aload_n 0, 1) := by decide +kernel
theorem n_8_27 : pm_ins 8 27 = some (.aload_n 0, 1) := by decide +kernel
theorem n_8_28 : pm_ins 8 28 = some (.getfield 11, 3) := by decide +kernel
theorem n_8_31 : pm_ins 8 31 = some (.iload_n 1, 1) := by decide +kernel
theorem n_8_32 : pm_ins 8 32 = some (.aaload, 1) := by decide +kernel
theorem n_8_33 : pm_ins 8 33 = some (.getfield 110, 3) := by decide +kernel
theorem n_8_36 : pm_ins 8 36 = some (.iload_n 2, 1) := by decide +kernel
theorem n_8_37 : pm_ins 8 37 = some (.aaload, 1) := by decide +kernel
theorem n_8_38 : pm_ins 8 38 = some (.invokevirtual 125, 3) := by decide +kernel
theorem n_8_41 : pm_ins 8 41 = some (.iconst 0, 1) := by decide +kernel
theorem n_8_42 : pm_ins 8 42 = some (.ireturn, 1) := by decide +kernel
theorem n_9_0 : pm_ins 9 0 = some (.aload_n 0, 1) := by decide +kernel
theorem n_9_1 : pm_ins 9 1 = some (.iload_n 1, 1) := by decide +kernel
theorem n_9_2 : pm_ins 9 2 = some (.invokevirtual 34, 3) := by decide +kernel
theorem n_9_5 : pm_ins 9 5 = some (.ifCond .eq 11, 3) := by decide +kernel
theorem n_9_8 : pm_ins 9 8 = some (.aload_n 0, 1) := by decide +kernel
theorem n_9_9 : pm_ins 9 9 = some (.iload_n 3, 1) := by decide +kernel
theorem n_9_10 : pm_ins 9 10 = some (.invokevirtual 34, 3) := by decide +kernel
theorem n_9_13 : pm_ins 9 13 = some (.ifCond .ne 5, 3) := by decide +kernel
theorem n_9_16 : pm_ins 9 16 = some (.iconst (-1), 1) := by decide +kernel
theorem n_9_17 : pm_ins 9 17 = some (.ireturn, 1) := by decide +kernel
theorem n_9_18 : pm_ins 9 18 = some (.aload_n 0, 1) := by decide +kernel
theorem n_9_19 : pm_ins 9 19 = some (.iload_n 1, 1) := by decide +kernel
theorem n_9_20 : pm_ins 9 20 = some (.iload_n 2, 1) := by decide +kernel
theorem n_9_21 : pm_ins 9 21 = some (.invokevirtual 67, 3) := by decide +kernel
theorem n_9_24 : pm_ins 9 24 = some (.ifCond .ne 6, 3) := by decide +kernel
theorem n_9_27 : pm_ins 9 27 = some (.bipush (-3), 2) := by decide +kernel
theorem n_9_29 : pm_ins 9 29 = some (.ireturn, 1) := by decide +kernel
theorem n_9_30 : pm_ins 9 30 = some (.aload_n 0, 1) := by decide +kernel
theorem n_9_31 : pm_ins 9 31 = some (.getfield 11, 3) := by decide +kernel
theorem n_9_34 : pm_ins 9 34 = some (.iload_n 1, 1) := by decide +kernel
theorem n_9_35 : pm_ins 9 35 = some (.aaload, 1) := by decide +kernel
theorem n_9_36 : pm_ins 9 36 = some (.iload_n 2, 1) := by decide +kernel
theorem n_9_37 : pm_ins 9 37 = some (.invokevirtual 71, 3) := by decide +kernel
theorem n_9_40 : pm_ins 9 40 = some (.ifCond .eq 6, 3) := by decide +kernel
theorem n_9_43 : pm_ins 9 43 = some (.bipush (-4), 2) := by decide +kernel
theorem n_9_45 : pm_ins 9 45 = some (.ireturn, 1) := by decide +kernel
theorem n_9_46 : pm_ins 9 46 = some (.aload_n 0, 1) := by decide +kernel
theorem n_9_47 : pm_ins 9 47 = some (.getfield 11, 3) := by decide +kernel
theorem n_9_50 : pm_ins 9 50 = some (.iload_n 3, 1) := by decide +kernel
theorem n_9_51 : pm_ins 9 51 = some (.aaload, 1) := by decide +kernel
theorem n_9_52 : pm_ins 9 52 = some (.iload 4, 2) := by decide +kernel
theorem n_9_54 : pm_ins 9 54 = some (.invokevirtual 91, 3) := by decide +kernel
theorem n_9_57 : pm_ins 9 57 = some (.ifCond .ne 6, 3) := by decide +kernel
theorem n_9_60 : pm_ins 9 60 = some (.bipush (-5), 2) := by decide +kernel
theorem n_9_62 : pm_ins 9 62 = some (.ireturn, 1) := by decide +kernel
theorem n_9_63 : pm_ins 9 63 = some (.aload_n 0, 1) := by decide +kernel
theorem n_9_64 : pm_ins 9 64 = some (.getfield 11, 3) := by decide +kernel
theorem n_9_67 : pm_ins 9 67 = some (.iload_n 3, 1) := by decide +kernel
theorem n_9_68 : pm_ins 9 68 = some (.aaload, 1) := by decide +kernel
theorem n_9_69 : pm_ins 9 69 = some (.getfield 81, 3) := by decide +kernel
theorem n_9_72 : pm_ins 9 72 = some (.iload 4, 2) := by decide +kernel
theorem n_9_74 : pm_ins 9 74 = some (.aaload, 1) := by decide +kernel
theorem n_9_75 : pm_ins 9 75 = some (.astore 5, 2) := by decide +kernel
theorem n_9_77 : pm_ins 9 77 = some (.aload 5, 2) := by decide +kernel
theorem n_9_79 : pm_ins 9 79 = some (.getfield 101, 3) := by decide +kernel
theorem n_9_82 : pm_ins 9 82 = some (.iconst 2, 1) := by decide +kernel
theorem n_9_83 : pm_ins 9 83 = some (.if_icmp .ne 12, 3) := by decide +kernel
theorem n_9_86 : pm_ins 9 86 = some (.aload 5, 2) := by decide +kernel
theorem n_9_88 : pm_ins 9 88 = some (.getfield 104, 3) := by decide +kernel
theorem n_9_91 : pm_ins 9 91 = some (.iload_n 1, 1) := by decide +kernel
theorem n_9_92 : pm_ins 9 92 = some (.if_icmp .eq 6, 3) := by decide +kernel
theorem n_9_95 : pm_ins 9 95 = some (.bipush (-5), 2) := by decide +kernel
theorem n_9_97 : pm_ins 9 97 = some (.ireturn, 1) := by decide +kernel
theorem n_9_98 : pm_ins 9 98 = some (.aload_n 0, 1) := by decide +kernel
theorem n_9_99 : pm_ins 9 99 = some (.iload_n 3, 1) := by decide +kernel
theorem n_9_100 : pm_ins 9 100 = some (.invokevirtual 129, 3) := by decide +kernel
theorem n_9_103 : pm_ins 9 103 = some (.bipush 6, 2) := by decide +kernel
theorem n_9_105 : pm_ins 9 105 = some (.if_icmp .lt 6, 3) := by decide +kernel
theorem n_9_108 : pm_ins 9 108 = some (.bipush (-7), 2) := by decide +kernel
theorem n_9_110 : pm_ins 9 110 = some (.ireturn, 1) := by decide +kernel
theorem n_9_111 : pm_ins 9 111 = some (.aload_n 0, 1) := by decide +kernel
theorem n_9_112 : pm_ins 9 112 = some (.getfield 17, 3) := by decide +kernel
theorem n_9_115 : pm_ins 9 115 = some (.iload_n 2, 1) := by decide +kernel
theorem n_9_116 : pm_ins 9 116 = some (.aaload, 1) := by decide +kernel
theorem n_9_117 : pm_ins 9 117 = some (.iload_n 3, 1) := by decide +kernel
theorem n_9_118 : pm_ins 9 118 = some (.putfield 61, 3) := by decide +kernel
theorem n_9_121 : pm_ins 9 121 = some (.aload 5, 2) := by decide +kernel
theorem n_9_123 : pm_ins 9 123 = some (.invokevirtual 98, 3) := by decide +kernel
theorem n_9_126 : pm_ins 9 126 = some (.iconst 0, 1) := by decide +kernel
theorem n_9_127 : pm_ins 9 127 = some (.ireturn, 1) := by decide +kernel
theorem n_10_0 : pm_ins 10 0 = some (.aload_n 0, 1) := by decide +kernel
theorem n_10_1 : pm_ins 10 1 = some (.iload_n 1, 1) := by decide +kernel
theorem n_10_2 : pm_ins 10 2 = some (.iload_n 2, 1) := by decide +kernel
theorem n_10_3 : pm_ins 10 3 = some (.iload_n 3, 1) := by decide +kernel
theorem n_10_4 : pm_ins 10 4 = some (.iconst 1, 1) := by decide +kernel
theorem n_10_5 : pm_ins 10 5 = some (.invokevirtual 132, 3) := by decide +kernel
theorem n_10_8 : pm_ins 10 8 = some (.istore 5, 2) := by decide +kernel
theorem n_10_10 : pm_ins 10 10 = some (.iload 5, 2) := by decide +kernel
theorem n_10_12 : pm_ins 10 12 = some (.ifCond .ne 16, 3) := by decide +kernel
theorem n_10_15 : pm_ins 10 15 = some (.aload_n 0, 1) := by decide +kernel
theorem n_10_16 : pm_ins 10 16 = some (.getfield 17, 3) := by decide +kernel
theorem n_10_19 : pm_ins 10 19 = some (.iload_n 2, 1) := by decide +kernel
theorem n_10_20 : pm_ins 10 20 = some (.aaload, 1) := by decide +kernel
theorem n_10_21 : pm_ins 10 21 = some (.getfield 136, 3) := by decide +kernel
theorem n_10_24 : pm_ins 10 24 = some (.iload_n 3, 1) := by decide +kernel
theorem n_10_25 : pm_ins 10 25 = some (.iload 4, 2) := by decide +kernel
theorem n_10_27 : pm_ins 10 27 = some (.iastore, 1) := by decide +kernel
theorem n_10_28 : pm_ins 10 28 = some (.iload 5, 2) := by decide +kernel
theorem n_10_30 : pm_ins 10 30 = some (.ireturn, 1) := by decide +kernel
theorem n_11_0 : pm_ins 11 0 = some (.aload_n 0, 1) := by decide +kernel
theorem n_11_1 : pm_ins 11 1 = some (.iload_n 1, 1) := by decide +kernel
theorem n_11_2 : pm_ins 11 2 = some (.iload_n 2, 1) := by decide +kernel
theorem n_11_3 : pm_ins 11 3 = some (.iload_n 3, 1) := by decide +kernel
theorem n_11_4 : pm_ins 11 4 = some (.iconst 0, 1) := by decide +kernel
theorem n_11_5 : pm_ins 11 5 = some (.invokevirtual 132, 3) := by decide +kernel
theorem n_11_8 : pm_ins 11 8 = some (.istore 4, 2) := by decide +kernel
theorem n_11_10 : pm_ins 11 10 = some (.iload 4, 2) := by decide +kernel
theorem n_11_12 : pm_ins 11 12 = some (.ifCond .ne 22, 3) := by decide +kernel
theorem n_11_15 : pm_ins 11 15 = some (.aload_n 0, 1) := by decide +kernel
theorem n_11_16 : pm_ins 11 16 = some (.getfield 17, 3) := by decide +kernel
theorem n_11_19 : pm_ins 11 19 = some (.iload_n 2, 1) := by decide +kernel
theorem n_11_20 : pm_ins 11 20 = some (.aaload, 1) := by decide +kernel
theorem n_11_21 : pm_ins 11 21 = some (.getfield 136, 3) := by decide +kernel
theorem n_11_24 : pm_ins 11 24 = some (.iload_n 3, 1) := by decide +kernel
theorem n_11_25 : pm_ins 11 25 = some (.iaload, 1) := by decide +kernel
theorem n_11_26 : pm_ins 11 26 = some (.i2l, 1) := by decide +kernel
theorem n_11_27 : pm_ins 11 27 = some (.ldc2_w 140, 3) := by decide +kernel
theorem n_11_30 : pm_ins 11 30 = some (.land, 1) := by decide +kernel
theorem n_11_31 : pm_ins 11 31 = some (.goto 6, 3) := by decide +kernel
theorem n_11_34 : pm_ins 11 34 = some (.iload 4, 2) := by decide +kernel
theorem n_11_36 : pm_ins 11 36 = some (.i2l, 1) := by decide +kernel
theorem n_11_37 : pm_ins 11 37 = some (.lreturn, 1) := by decide +kernel
theorem n_12_0 : pm_ins 12 0 = some (.aload_n 0, 1) := by decide +kernel
theorem n_12_1 : pm_ins 12 1 = some (.iload_n 1, 1) := by decide +kernel
theorem n_12_2 : pm_ins 12 2 = some (.invokevirtual 34, 3) := by decide +kernel
theorem n_12_5 : pm_ins 12 5 = some (.ifCond .ne 5, 3) := by decide +kernel
theorem n_12_8 : pm_ins 12 8 = some (.iconst (-1), 1) := by decide +kernel
theorem n_12_9 : pm_ins 12 9 = some (.ireturn, 1) := by decide +kernel
theorem n_12_10 : pm_ins 12 10 = some (.iload_n 1, 1) := by decide +kernel
theorem n_12_11 : pm_ins 12 11 = some (.iload_n 2, 1) := by decide +kernel
theorem n_12_12 : pm_ins 12 12 = some (.invokestatic 74, 3) := by decide +kernel
theorem n_12_15 : pm_ins 12 15 = some (.ifCond .ne 6, 3) := by decide +kernel
theorem n_12_18 : pm_ins 12 18 = some (.bipush (-2), 2) := by decide +kernel
theorem n_12_20 : pm_ins 12 20 = some (.ireturn, 1) := by decide +kernel
theorem n_12_21 : pm_ins 12 21 = some (.aload_n 0, 1) := by decide +kernel
theorem n_12_22 : pm_ins 12 22 = some (.getfield 11, 3) := by decide +kernel
theorem n_12_25 : pm_ins 12 25 = some (.iload_n 1, 1) := by decide +kernel
theorem n_12_26 : pm_ins 12 26 = some (.aaload, 1) := by decide +kernel
theorem n_12_27 : pm_ins 12 27 = some (.invokevirtual 142, 3) := by decide +kernel
theorem n_12_30 : pm_ins 12 30 = some (.istore_n 3, 1) := by decide +kernel
theorem n_12_31 : pm_ins 12 31 = some (.iload_n 3, 1) := by decide +kernel
theorem n_12_32 : pm_ins 12 32 = some (.iconst (-1), 1) := by decide +kernel
theorem n_12_33 : pm_ins 12 33 = some (.if_icmp .ne 6, 3) := by decide +kernel
theorem n_12_36 : pm_ins 12 36 = some (.bipush (-7), 2) := by decide +kernel
theorem n_12_38 : pm_ins 12 38 = some (.ireturn, 1) := by decide +kernel
theorem n_12_39 : pm_ins 12 39 = some (.aload_n 0, 1) := by decide +kernel
theorem n_12_40 : pm_ins 12 40 = some (.getfield 11, 3) := by decide +kernel
theorem n_12_43 : pm_ins 12 43 = some (.iload_n 1, 1) := by decide +kernel
theorem n_12_44 : pm_ins 12 44 = some (.aaload, 1) := by decide +kernel
theorem n_12_45 : pm_ins 12 45 = some (.getfield 145, 3) := by decide +kernel
theorem n_12_48 : pm_ins 12 48 = some (.iload_n 3, 1) := by decide +kernel
theorem n_12_49 : pm_ins 12 49 = some (.aaload, 1) := by decide +kernel
theorem n_12_50 : pm_ins 12 50 = some (.iload_n 2, 1) := by decide +kernel
theorem n_12_51 : pm_ins 12 51 = some (.invokevirtual 149, 3) := by decide +kernel
theorem n_12_54 : pm_ins 12 54 = some (.iload_n 3, 1) := by decide +kernel
theorem n_12_55 : pm_ins 12 55 = some (.ireturn, 1) := by decide +kernel
theorem n_13_0 : pm_ins 13 0 = some (.aload_n 0, 1) := by decide +kernel
theorem n_13_1 : pm_ins 13 1 = some (.iload_n 1, 1) := by decide +kernel
theorem n_13_2 : pm_ins 13 2 = some (.invokevirtual 34, 3) := by decide +kernel
theorem n_13_5 : pm_ins 13 5 = some (.ifCond .eq 11, 3) := by decide +kernel
theorem n_13_8 : pm_ins 13 8 = some (.aload_n 0, 1) := by decide +kernel
theorem n_13_9 : pm_ins 13 9 = some (.iload_n 2, 1) := by decide +kernel
theorem n_13_10 : pm_ins 13 10 = some (.invokevirtual 34, 3) := by decide +kernel
theorem n_13_13 : pm_ins 13 13 = some (.ifCond .ne 5, 3) := by decide +kernel
theorem n_13_16 : pm_ins 13 16 = some (.iconst (-1), 1) := by decide +kernel
theorem n_13_17 : pm_ins 13 17 = some (.ireturn, 1) := by decide +kernel
theorem n_13_18 : pm_ins 13 18 = some (.iload_n 3, 1) := by decide +kernel
theorem n_13_19 : pm_ins 13 19 = some (.invokestatic 154, 3) := by decide +kernel
theorem n_13_22 : pm_ins 13 22 = some (.ifCond .eq 21, 3) := by decide +kernel
theorem n_13_25 : pm_ins 13 25 = some (.aload_n 0, 1) := by decide +kernel
theorem n_13_26 : pm_ins 13 26 = some (.getfield 11, 3) := by decide +kernel
theorem n_13_29 : pm_ins 13 29 = some (.iload_n 2, 1) := by decide +kernel
theorem n_13_30 : pm_ins 13 30 = some (.aaload, 1) := by decide +kernel
theorem n_13_31 : pm_ins 13 31 = some (.getfield 145, 3) := by decide +kernel
theorem n_13_34 : pm_ins 13 34 = some (.iload_n 3, 1) := by decide +kernel
theorem n_13_35 : pm_ins 13 35 = some (.aaload, 1) := by decide +kernel
theorem n_13_36 : pm_ins 13 36 = some (.iload_n 1, 1) := by decide +kernel
theorem n_13_37 : pm_ins 13 37 = some (.invokevirtual 157, 3) := by decide +kernel
theorem n_13_40 : pm_ins 13 40 = some (.ifCond .ne 6, 3) := by decide +kernel
theorem n_13_43 : pm_ins 13 43 = some (.bipush (-8), 2) := by decide +kernel
theorem n_13_45 : pm_ins 13 45 = some (.ireturn, 1) := by decide +kernel
theorem n_13_46 : pm_ins 13 46 = some (.aload_n 0, 1) := by decide +kernel
theorem n_13_47 : pm_ins 13 47 = some (.getfield 11, 3) := by decide +kernel
theorem n_13_50 : pm_ins 13 50 = some (.iload_n 1, 1) := by decide +kernel
theorem n_13_51 : pm_ins 13 51 = some (.aaload, 1) := by decide +kernel
theorem n_13_52 : pm_ins 13 52 = some (.invokevirtual 142, 3) := by decide +kernel
theorem n_13_55 : pm_ins 13 55 = some (.istore 4, 2) := by decide +kernel
theorem n_13_57 : pm_ins 13 57 = some (.iload 4, 2) := by decide +kernel
theorem n_13_59 : pm_ins 13 59 = some (.iconst (-1), 1) := by decide +kernel
theorem n_13_60 : pm_ins 13 60 = some (.if_icmp .ne 6, 3) := by decide +kernel
theorem n_13_63 : pm_ins 13 63 = some (.bipush (-7), 2) := by decide +kernel
theorem n_13_65 : pm_ins 13 65 = some (.ireturn, 1) := by decide +kernel
theorem n_13_66 : pm_ins 13 66 = some (.aload_n 0, 1) := by decide +kernel
theorem n_13_67 : pm_ins 13 67 = some (.getfield 11, 3) := by decide +kernel
theorem n_13_70 : pm_ins 13 70 = some (.iload_n 1, 1) := by decide +kernel
theorem n_13_71 : pm_ins 13 71 = some (.aaload, 1) := by decide +kernel
theorem n_13_72 : pm_ins 13 72 = some (.getfield 145, 3) := by decide +kernel
theorem n_13_75 : pm_ins 13 75 = some (.iload 4, 2) := by decide +kernel
theorem n_13_77 : pm_ins 13 77 = some (.aaload, 1) := by decide +kernel
theorem n_13_78 : pm_ins 13 78 = some (.iload_n 2, 1) := by decide +kernel
theorem n_13_79 : pm_ins 13 79 = some (.iload_n 3, 1) := by decide +kernel
theorem n_13_80 : pm_ins 13 80 = some (.invokevirtual 160, 3) := by decide +kernel
theorem n_13_83 : pm_ins 13 83 = some (.aload_n 0, 1) := by decide +kernel
theorem n_13_84 : pm_ins 13 84 = some (.getfield 11, 3) := by decide +kernel
theorem n_13_87 : pm_ins 13 87 = some (.iload_n 2, 1) := by decide +kernel
theorem n_13_88 : pm_ins 13 88 = some (.aaload, 1) := by decide +kernel
theorem n_13_89 : pm_ins 13 89 = some (.getfield 145, 3) := by decide +kernel
theorem n_13_92 : pm_ins 13 92 = some (.iload_n 3, 1) := by decide +kernel
theorem n_13_93 : pm_ins 13 93 = some (.aaload, 1) := by decide +kernel
theorem n_13_94 : pm_ins 13 94 = some (.iload_n 1, 1) := by decide +kernel
theorem n_13_95 : pm_ins 13 95 = some (.iload 4, 2) := by decide +kernel
theorem n_13_97 : pm_ins 13 97 = some (.invokevirtual 160, 3) := by decide +kernel
theorem n_13_100 : pm_ins 13 100 = some (.iload 4, 2) := by decide +kernel
theorem n_13_102 : pm_ins 13 102 = some (.ireturn, 1) := by decide +kernel
theorem n_14_0 : pm_ins 14 0 = some (.aload_n 0, 1) := by decide +kernel
theorem n_14_1 : pm_ins 14 1 = some (.iload_n 1, 1) := by decide +kernel
theorem n_14_2 : pm_ins 14 2 = some (.invokevirtual 34, 3) := by decide +kernel
theorem n_14_5 : pm_ins 14 5 = some (.ifCond .ne 5, 3) := by decide +kernel
theorem n_14_8 : pm_ins 14 8 = some (.iconst (-1), 1) := by decide +kernel
theorem n_14_9 : pm_ins 14 9 = some (.ireturn, 1) := by decide +kernel
theorem n_14_10 : pm_ins 14 10 = some (.iload_n 2, 1) := by decide +kernel
theorem n_14_11 : pm_ins 14 11 = some (.invokestatic 154, 3) := by decide +kernel
theorem n_14_14 : pm_ins 14 14 = some (.ifCond .eq 21, 3) := by decide +kernel
theorem n_14_17 : pm_ins 14 17 = some (.aload_n 0, 1) := by decide +kernel
theorem n_14_18 : pm_ins 14 18 = some (.getfield 11, 3) := by decide +kernel
theorem n_14_21 : pm_ins 14 21 = some (.iload_n 1, 1) := by decide +kernel
theorem n_14_22 : pm_ins 14 22 = some (.aaload, 1) := by decide +kernel
theorem n_14_23 : pm_ins 14 23 = some (.getfield 145, 3) := by decide +kernel
theorem n_14_26 : pm_ins 14 26 = some (.iload_n 2, 1) := by decide +kernel
theorem n_14_27 : pm_ins 14 27 = some (.aaload, 1) := by decide +kernel
theorem n_14_28 : pm_ins 14 28 = some (.getfield 164, 3) := by decide +kernel
theorem n_14_31 : pm_ins 14 31 = some (.iconst 2, 1) := by decide +kernel
theorem n_14_32 : pm_ins 14 32 = some (.if_icmp .eq 6, 3) := by decide +kernel
theorem n_14_35 : pm_ins 14 35 = some (.bipush (-8), 2) := by decide +kernel
theorem n_14_37 : pm_ins 14 37 = some (.ireturn, 1) := by decide +kernel
theorem n_14_38 : pm_ins 14 38 = some (.aload_n 0, 1) := by decide +kernel
theorem n_14_39 : pm_ins 14 39 = some (.aload_n 0, 1) := by decide +kernel
theorem n_14_40 : pm_ins 14 40 = some (.getfield 11, 3) := by decide +kernel
theorem n_14_43 : pm_ins 14 43 = some (.iload_n 1, 1) := by decide +kernel
theorem n_14_44 : pm_ins 14 44 = some (.aaload, 1) := by decide +kernel
theorem n_14_45 : pm_ins 14 45 = some (.getfield 145, 3) := by decide +kernel
theorem n_14_48 : pm_ins 14 48 = some (.iload_n 2, 1) := by decide +kernel
theorem n_14_49 : pm_ins 14 49 = some (.aaload, 1) := by decide +kernel
theorem n_14_50 : pm_ins 14 50 = some (.invokevirtual 165, 3) := by decide +kernel
theorem n_14_53 : pm_ins 14 53 = some (.astore_n 3, 1) := by decide +kernel
theorem n_14_54 : pm_ins 14 54 = some (.aload_n 3, 1) := by decide +kernel
theorem n_14_55 : pm_ins 14 55 = some (.getfield 169, 3) := by decide +kernel
theorem n_14_58 : pm_ins 14 58 = some (.ifCond .eq 7, 3) := by decide +kernel
theorem n_14_61 : pm_ins 14 61 = some (.iconst 0, 1) := by decide +kernel
theorem n_14_62 : pm_ins 14 62 = some (.goto 4, 3) := by decide +kernel
theorem n_14_65 : pm_ins 14 65 = some (.iconst 1, 1) := by decide +kernel
theorem n_14_66 : pm_ins 14 66 = some (.istore 4, 2) := by decide +kernel
theorem n_14_68 : pm_ins 14 68 = some (.aload_n 3, 1) := by decide +kernel
theorem n_14_69 : pm_ins 14 69 = some (.iconst 1, 1) := by decide +kernel
theorem n_14_70 : pm_ins 14 70 = some (.putfield 169, 3) := by decide +kernel
theorem n_14_73 : pm_ins 14 73 = some (.iload 4, 2) := by decide +kernel
theorem n_14_75 : pm_ins 14 75 = some (.ireturn, 1) := by decide +kernel
theorem n_15_0 : pm_ins 15 0 = some (.aload_n 0, 1) := by decide +kernel
theorem n_15_1 : pm_ins 15 1 = some (.iload_n 1, 1) := by decide +kernel
theorem n_15_2 : pm_ins 15 2 = some (.invokevirtual 34, 3) := by decide +kernel
theorem n_15_5 : pm_ins 15 5 = some (.ifCond .ne 5, 3) := by decide +kernel
theorem n_15_8 : pm_ins 15 8 = some (.iconst (-1), 1) := by decide +kernel
theorem n_15_9 : pm_ins 15 9 = some (.ireturn, 1) := by decide +kernel
theorem n_15_10 : pm_ins 15 10 = some (.aload_n 0, 1) := by decide +kernel
theorem n_15_11 : pm_ins 15 11 = some (.getfield 11, 3) := by decide +kernel
theorem n_15_14 : pm_ins 15 14 = some (.iload_n 1, 1) := by decide +kernel
theorem n_15_15 : pm_ins 15 15 = some (.aaload, 1) := by decide +kernel
theorem n_15_16 : pm_ins 15 16 = some (.getfield 145, 3) := by decide +kernel
theorem n_15_19 : pm_ins 15 19 = some (.astore_n 2, 1) := by decide +kernel
theorem n_15_20 : pm_ins 15 20 = some (.iconst 0, 1) := by decide +kernel
theorem n_15_21 : pm_ins 15 21 = some (.istore_n 3, 1) := by decide +kernel
theorem n_15_22 : pm_ins 15 22 = some (.iload_n 3, 1) := by decide +kernel
theorem n_15_23 : pm_ins 15 23 = some (.iconst 4, 1) := by decide +kernel
theorem n_15_24 : pm_ins 15 24 = some (.if_icmp .ge 27, 3) := by decide +kernel
theorem n_15_27 : pm_ins 15 27 = some (.aload_n 2, 1) := by decide +kernel
theorem n_15_28 : pm_ins 15 28 = some (.iload_n 3, 1) := by decide +kernel
theorem n_15_29 : pm_ins 15 29 = some (.aaload, 1) := by decide +kernel
theorem n_15_30 : pm_ins 15 30 = some (.getfield 169, 3) := by decide +kernel
theorem n_15_33 : pm_ins 15 33 = some (.ifCond .eq 12, 3) := by decide +kernel
theorem n_15_36 : pm_ins 15 36 = some (.aload_n 2, 1) := by decide +kernel
theorem n_15_37 : pm_ins 15 37 = some (.iload_n 3, 1) := by decide +kernel
theorem n_15_38 : pm_ins 15 38 = some (.aaload, 1) := by decide +kernel
theorem n_15_39 : pm_ins 15 39 = some (.iconst 0, 1) := by decide +kernel
theorem n_15_40 : pm_ins 15 40 = some (.putfield 169, 3) := by decide +kernel
theorem n_15_43 : pm_ins 15 43 = some (.iload_n 3, 1) := by decide +kernel
theorem n_15_44 : pm_ins 15 44 = some (.ireturn, 1) := by decide +kernel
theorem n_15_45 : pm_ins 15 45 = some (.iinc 3 1, 3) := by decide +kernel
theorem n_15_48 : pm_ins 15 48 = some (.goto (-26), 3) := by decide +kernel
theorem n_15_51 : pm_ins 15 51 = some (.bipush (-11), 2) := by decide +kernel
theorem n_15_53 : pm_ins 15 53 = some (.ireturn, 1) := by decide +kernel
theorem n_16_0 : pm_ins 16 0 = some (.aload_n 0, 1) := by decide +kernel
theorem n_16_1 : pm_ins 16 1 = some (.iload_n 1, 1) := by decide +kernel
theorem n_16_2 : pm_ins 16 2 = some (.invokevirtual 34, 3) := by decide +kernel
theorem n_16_5 : pm_ins 16 5 = some (.ifCond .eq 11, 3) := by decide +kernel
theorem n_16_8 : pm_ins 16 8 = some (.aload_n 0, 1) := by decide +kernel
theorem n_16_9 : pm_ins 16 9 = some (.iload_n 2, 1) := by decide +kernel
theorem n_16_10 : pm_ins 16 10 = some (.invokevirtual 34, 3) := by decide +kernel
theorem n_16_13 : pm_ins 16 13 = some (.ifCond .ne 5, 3) := by decide +kernel
theorem n_16_16 : pm_ins 16 16 = some (.iconst (-1), 1) := by decide +kernel
theorem n_16_17 : pm_ins 16 17 = some (.ireturn, 1) := by decide +kernel
theorem n_16_18 : pm_ins 16 18 = some (.iload_n 1, 1) := by decide +kernel
theorem n_16_19 : pm_ins 16 19 = some (.iload_n 2, 1) := by decide +kernel
theorem n_16_20 : pm_ins 16 20 = some (.if_icmp .ne 6, 3) := by decide +kernel
theorem n_16_23 : pm_ins 16 23 = some (.bipush (-2), 2) := by decide +kernel
theorem n_16_25 : pm_ins 16 25 = some (.ireturn, 1) := by decide +kernel
theorem n_16_26 : pm_ins 16 26 = some (.aload_n 0, 1) := by decide +kernel
theorem n_16_27 : pm_ins 16 27 = some (.invokevirtual 173, 3) := by decide +kernel
theorem n_16_30 : pm_ins 16 30 = some (.istore_n 3, 1) := by decide +kernel
theorem n_16_31 : pm_ins 16 31 = some (.iload_n 3, 1) := by decide +kernel
theorem n_16_32 : pm_ins 16 32 = some (.iconst (-1), 1) := by decide +kernel
theorem n_16_33 : pm_ins 16 33 = some (.if_icmp .eq 19, 3) := by decide +kernel
theorem n_16_36 : pm_ins 16 36 = some (.aload_n 0, 1) := by decide +kernel
theorem n_16_37 : pm_ins 16 37 = some (.iload_n 1, 1) := by decide +kernel
theorem n_16_38 : pm_ins 16 38 = some (.invokevirtual 176, 3) := by decide +kernel
theorem n_16_41 : pm_ins 16 41 = some (.ifCond .eq 11, 3) := by decide +kernel
theorem n_16_44 : pm_ins 16 44 = some (.aload_n 0, 1) := by decide +kernel
theorem n_16_45 : pm_ins 16 45 = some (.iload_n 2, 1) := by decide +kernel
theorem n_16_46 : pm_ins 16 46 = some (.invokevirtual 179, 3) := by decide +kernel
theorem n_16_49 : pm_ins 16 49 = some (.ifCond .ne 6, 3) := by decide +kernel
theorem n_16_52 : pm_ins 16 52 = some (.bipush (-7), 2) := by decide +kernel
theorem n_16_54 : pm_ins 16 54 = some (.ireturn, 1) := by decide +kernel
theorem n_16_55 : pm_ins 16 55 = some (.aload_n 0, 1) := by decide +kernel
theorem n_16_56 : pm_ins 16 56 = some (.getfield 23, 3) := by decide +kernel
theorem n_16_59 : pm_ins 16 59 = some (.iload_n 3, 1) := by decide +kernel
theorem n_16_60 : pm_ins 16 60 = some (.aaload, 1) := by decide +kernel
theorem n_16_61 : pm_ins 16 61 = some (.astore 4, 2) := by decide +kernel
theorem n_16_63 : pm_ins 16 63 = some (.aload 4, 2) := by decide +kernel
theorem n_16_65 : pm_ins 16 65 = some (.iload_n 1, 1) := by decide +kernel
theorem n_16_66 : pm_ins 16 66 = some (.iload_n 2, 1) := by decide +kernel
theorem n_16_67 : pm_ins 16 67 = some (.invokevirtual 182, 3) := by decide +kernel
theorem n_16_70 : pm_ins 16 70 = some (.aload 4, 2) := by decide +kernel
theorem n_16_72 : pm_ins 16 72 = some (.aload_n 0, 1) := by decide +kernel
theorem n_16_73 : pm_ins 16 73 = some (.iload_n 1, 1) := by decide +kernel
theorem n_16_74 : pm_ins 16 74 = some (.invokevirtual 185, 3) := by decide +kernel
theorem n_16_77 : pm_ins 16 77 = some (.putfield 188, 3) := by decide +kernel
theorem n_16_80 : pm_ins 16 80 = some (.aload 4, 2) := by decide +kernel
theorem n_16_82 : pm_ins 16 82 = some (.aload_n 0, 1) := by decide +kernel
theorem n_16_83 : pm_ins 16 83 = some (.iload_n 1, 1) := by decide +kernel
theorem n_16_84 : pm_ins 16 84 = some (.iload_n 2, 1) := by decide +kernel
theorem n_16_85 : pm_ins 16 85 = some (.aload 4, 2) := by decide +kernel
theorem n_16_87 : pm_ins 16 87 = some (.getfield 188, 3) := by decide +kernel
theorem n_16_90 : pm_ins 16 90 = some (.iconst 1, 1) := by decide +kernel
theorem n_16_91 : pm_ins 16 91 = some (.invokevirtual 191, 3) := by decide +kernel
theorem n_16_94 : pm_ins 16 94 = some (.putfield 195, 3) := by decide +kernel
theorem n_16_97 : pm_ins 16 97 = some (.aload 4, 2) := by decide +kernel
theorem n_16_99 : pm_ins 16 99 = some (.aload_n 0, 1) := by decide +kernel
theorem n_16_100 : pm_ins 16 100 = some (.iload_n 2, 1) := by decide +kernel
theorem n_16_101 : pm_ins 16 101 = some (.iload_n 1, 1) := by decide +kernel
theorem n_16_102 : pm_ins 16 102 = some (.aload 4, 2) := by decide +kernel
theorem n_16_104 : pm_ins 16 104 = some (.getfield 195, 3) := by decide +kernel
theorem n_16_107 : pm_ins 16 107 = some (.iconst 1, 1) := by decide +kernel
theorem n_16_108 : pm_ins 16 108 = some (.invokevirtual 198, 3) := by decide +kernel
theorem n_16_111 : pm_ins 16 111 = some (.putfield 201, 3) := by decide +kernel
theorem n_16_114 : pm_ins 16 114 = some (.aload 4, 2) := by decide +kernel
theorem n_16_116 : pm_ins 16 116 = some (.aload_n 0, 1) := by decide +kernel
theorem n_16_117 : pm_ins 16 117 = some (.iload_n 1, 1) := by decide +kernel
theorem n_16_118 : pm_ins 16 118 = some (.iload_n 2, 1) := by decide +kernel
theorem n_16_119 : pm_ins 16 119 = some (.invokevirtual 204, 3) := by decide +kernel
theorem n_16_122 : pm_ins 16 122 = some (.putfield 208, 3) := by decide +kernel
theorem n_16_125 : pm_ins 16 125 = some (.aload 4, 2) := by decide +kernel
theorem n_16_127 : pm_ins 16 127 = some (.aload_n 0, 1) := by decide +kernel
theorem n_16_128 : pm_ins 16 128 = some (.iload_n 2, 1) := by decide +kernel
theorem n_16_129 : pm_ins 16 129 = some (.iload_n 1, 1) := by decide +kernel
theorem n_16_130 : pm_ins 16 130 = some (.aload 4, 2) := by decide +kernel
theorem n_16_132 : pm_ins 16 132 = some (.getfield 208, 3) := by decide +kernel
theorem n_16_135 : pm_ins 16 135 = some (.invokevirtual 211, 3) := by decide +kernel
theorem n_16_138 : pm_ins 16 138 = some (.putfield 215, 3) := by decide +kernel
theorem n_16_141 : pm_ins 16 141 = some (.iload_n 3, 1) := by decide +kernel
theorem n_16_142 : pm_ins 16 142 = some (.ireturn, 1) := by decide +kernel
theorem n_17_0 : pm_ins 17 0 = some (.aload_n 0, 1) := by decide +kernel
theorem n_17_1 : pm_ins 17 1 = some (.iload_n 1, 1) := by decide +kernel
theorem n_17_2 : pm_ins 17 2 = some (.invokevirtual 218, 3) := by decide +kernel
theorem n_17_5 : pm_ins 17 5 = some (.istore 5, 2) := by decide +kernel
theorem n_17_7 : pm_ins 17 7 = some (.iload 5, 2) := by decide +kernel
theorem n_17_9 : pm_ins 17 9 = some (.ifCond .eq 6, 3) := by decide +kernel
theorem n_17_12 : pm_ins 17 12 = some (.iload 5, 2) := by decide +kernel
theorem n_17_14 : pm_ins 17 14 = some (.ireturn, 1) := by decide +kernel
theorem n_17_15 : pm_ins 17 15 = some (.iload_n 3, 1) := by decide +kernel
theorem n_17_16 : pm_ins 17 16 = some (.ifCond .lt 9, 3) := by decide +kernel
theorem n_17_19 : pm_ins 17 19 = some (.iload_n 3, 1) := by decide +kernel
theorem n_17_20 : pm_ins 17 20 = some (.bipush 8, 2) := by decide +kernel
theorem n_17_22 : pm_ins 17 22 = some (.if_icmp .lt 6, 3) := by decide +kernel
theorem n_17_25 : pm_ins 17 25 = some (.bipush (-2), 2) := by decide +kernel
theorem n_17_27 : pm_ins 17 27 = some (.ireturn, 1) := by decide +kernel
theorem n_17_28 : pm_ins 17 28 = some (.aload_n 0, 1) := by decide +kernel
theorem n_17_29 : pm_ins 17 29 = some (.getfield 23, 3) := by decide +kernel
theorem n_17_32 : pm_ins 17 32 = some (.iload_n 1, 1) := by decide +kernel
theorem n_17_33 : pm_ins 17 33 = some (.aaload, 1) := by decide +kernel
theorem n_17_34 : pm_ins 17 34 = some (.astore 6, 2) := by decide +kernel
theorem n_17_36 : pm_ins 17 36 = some (.aload 6, 2) := by decide +kernel
theorem n_17_38 : pm_ins 17 38 = some (.invokevirtual 221, 3) := by decide +kernel
theorem n_17_41 : pm_ins 17 41 = some (.iconst 3, 1) := by decide +kernel
theorem n_17_42 : pm_ins 17 42 = some (.if_icmp .ge 15, 3) := by decide +kernel
theorem n_17_45 : pm_ins 17 45 = some (.aload_n 0, 1) := by decide +kernel
theorem n_17_46 : pm_ins 17 46 = some (.aload 6, 2) := by decide +kernel
theorem n_17_48 : pm_ins 17 48 = some (.getfield 224, 3) := by decide +kernel
theorem n_17_51 : pm_ins 17 51 = some (.invokevirtual 227, 3) := by decide +kernel
theorem n_17_54 : pm_ins 17 54 = some (.ifCond .ne 6, 3) := by decide +kernel
theorem n_17_57 : pm_ins 17 57 = some (.bipush (-7), 2) := by decide +kernel
theorem n_17_59 : pm_ins 17 59 = some (.ireturn, 1) := by decide +kernel
theorem n_17_60 : pm_ins 17 60 = some (.aload_n 0, 1) := by decide +kernel
theorem n_17_61 : pm_ins 17 61 = some (.aload 6, 2) := by decide +kernel
theorem n_17_63 : pm_ins 17 63 = some (.getfield 224, 3) := by decide +kernel
theorem n_17_66 : pm_ins 17 66 = some (.invokevirtual 185, 3) := by decide +kernel
theorem n_17_69 : pm_ins 17 69 = some (.istore 7, 2) := by decide +kernel
theorem n_17_71 : pm_ins 17 71 = some (.iload_n 2, 1) := by decide +kernel
theorem n_17_72 : pm_ins 17 72 = some (.ifCond .eq 18, 3) := by decide +kernel
theorem n_17_75 : pm_ins 17 75 = some (.aload_n 0, 1) := by decide +kernel
theorem n_17_76 : pm_ins 17 76 = some (.aload 6, 2) := by decide +kernel
theorem n_17_78 : pm_ins 17 78 = some (.getfield 224, 3) := by decide +kernel
theorem n_17_81 : pm_ins 17 81 = some (.iload 7, 2) := by decide +kernel
theorem n_17_83 : pm_ins 17 83 = some (.iconst 0, 1) := by decide +kernel
theorem n_17_84 : pm_ins 17 84 = some (.iload 4, 2) := by decide +kernel
theorem n_17_86 : pm_ins 17 86 = some (.invokevirtual 230, 3) := by decide +kernel
theorem n_17_89 : pm_ins 17 89 = some (.pop, 1) := by decide +kernel
theorem n_17_90 : pm_ins 17 90 = some (.aload_n 0, 1) := by decide +kernel
theorem n_17_91 : pm_ins 17 91 = some (.aload 6, 2) := by decide +kernel
theorem n_17_93 : pm_ins 17 93 = some (.getfield 224, 3) := by decide +kernel
theorem n_17_96 : pm_ins 17 96 = some (.aload 6, 2) := by decide +kernel
theorem n_17_98 : pm_ins 17 98 = some (.getfield 233, 3) := by decide +kernel
theorem n_17_101 : pm_ins 17 101 = some (.iload 7, 2) := by decide +kernel
theorem n_17_103 : pm_ins 17 103 = some (.iload_n 2, 1) := by decide +kernel
theorem n_17_104 : pm_ins 17 104 = some (.ifCond .eq 7, 3) := by decide +kernel
theorem n_17_107 : pm_ins 17 107 = some (.iconst 0, 1) := by decide +kernel
theorem n_17_108 : pm_ins 17 108 = some (.goto 4, 3) := by decide +kernel
theorem n_17_111 : pm_ins 17 111 = some (.iconst 1, 1) := by decide +kernel
theorem n_17_112 : pm_ins 17 112 = some (.invokevirtual 191, 3) := by decide +kernel
theorem n_17_115 : pm_ins 17 115 = some (.istore 8, 2) := by decide +kernel
theorem n_17_117 : pm_ins 17 117 = some (.iload_n 3, 1) := by decide +kernel
theorem n_17_118 : pm_ins 17 118 = some (.iload_n 2, 1) := by decide +kernel
theorem n_17_119 : pm_ins 17 119 = some (.ifCond .eq 8, 3) := by decide +kernel
theorem n_17_122 : pm_ins 17 122 = some (.bipush 8, 2) := by decide +kernel
theorem n_17_124 : pm_ins 17 124 = some (.goto 4, 3) := by decide +kernel
theorem n_17_127 : pm_ins 17 127 = some (.iconst 0, 1) := by decide +kernel
theorem n_17_128 : pm_ins 17 128 = some (.iadd, 1) := by decide +kernel
theorem n_17_129 : pm_ins 17 129 = some (.iload 8, 2) := by decide +kernel
theorem n_17_131 : pm_ins 17 131 = some (.iconst 4, 1) := by decide +kernel
theorem n_17_132 : pm_ins 17 132 = some (.ishl, 1) := by decide +kernel
theorem n_17_133 : pm_ins 17 133 = some (.iadd, 1) := by decide +kernel
theorem n_17_134 : pm_ins 17 134 = some (.istore 9, 2) := by decide +kernel
theorem n_17_136 : pm_ins 17 136 = some (.aload_n 0, 1) := by decide +kernel
theorem n_17_137 : pm_ins 17 137 = some (.aload 6, 2) := by decide +kernel
theorem n_17_139 : pm_ins 17 139 = some (.iload 7, 2) := by decide +kernel
theorem n_17_141 : pm_ins 17 141 = some (.iload 8, 2) := by decide +kernel
theorem n_17_143 : pm_ins 17 143 = some (.iload 9, 2) := by decide +kernel
theorem n_17_145 : pm_ins 17 145 = some (.invokevirtual 236, 3) := by decide +kernel
theorem n_17_148 : pm_ins 17 148 = some (.ireturn, 1) := by decide +kernel
theorem n_18_0 : pm_ins 18 0 = some (.aload_n 0, 1) := by decide +kernel
theorem n_18_1 : pm_ins 18 1 = some (.iload_n 1, 1) := by decide +kernel
theorem n_18_2 : pm_ins 18 2 = some (.invokevirtual 218, 3) := by decide +kernel
theorem n_18_5 : pm_ins 18 5 = some (.istore_n 2, 1) := by decide +kernel
theorem n_18_6 : pm_ins 18 6 = some (.iload_n 2, 1) := by decide +kernel
theorem n_18_7 : pm_ins 18 7 = some (.ifCond .eq 5, 3) := by decide +kernel
theorem n_18_10 : pm_ins 18 10 = some (.iload_n 2, 1) := by decide +kernel
theorem n_18_11 : pm_ins 18 11 = some (.ireturn, 1) := by decide +kernel
theorem n_18_12 : pm_ins 18 12 = some (.aload_n 0, 1) := by decide +kernel
theorem n_18_13 : pm_ins 18 13 = some (.getfield 23, 3) := by decide +kernel
theorem n_18_16 : pm_ins 18 16 = some (.iload_n 1, 1) := by decide +kernel
theorem n_18_17 : pm_ins 18 17 = some (.aaload, 1) := by decide +kernel
theorem n_18_18 : pm_ins 18 18 = some (.astore_n 3, 1) := by decide +kernel
theorem n_18_19 : pm_ins 18 19 = some (.aload_n 0, 1) := by decide +kernel
theorem n_18_20 : pm_ins 18 20 = some (.getfield 17, 3) := by decide +kernel
theorem n_18_23 : pm_ins 18 23 = some (.aload_n 3, 1) := by decide +kernel
theorem n_18_24 : pm_ins 18 24 = some (.getfield 188, 3) := by decide +kernel
theorem n_18_27 : pm_ins 18 27 = some (.aaload, 1) := by decide +kernel
theorem n_18_28 : pm_ins 18 28 = some (.getfield 136, 3) := by decide +kernel
theorem n_18_31 : pm_ins 18 31 = some (.astore 4, 2) := by decide +kernel
theorem n_18_33 : pm_ins 18 33 = some (.aload 4, 2) := by decide +kernel
theorem n_18_35 : pm_ins 18 35 = some (.iconst 0, 1) := by decide +kernel
theorem n_18_36 : pm_ins 18 36 = some (.iaload, 1) := by decide +kernel
theorem n_18_37 : pm_ins 18 37 = some (.i2l, 1) := by decide +kernel
theorem n_18_38 : pm_ins 18 38 = some (.aload_n 3, 1) := by decide +kernel
theorem n_18_39 : pm_ins 18 39 = some (.getfield 240, 3) := by decide +kernel
theorem n_18_42 : pm_ins 18 42 = some (.i2l, 1) := by decide +kernel
theorem n_18_43 : pm_ins 18 43 = some (.lsub, 1) := by decide +kernel
theorem n_18_44 : pm_ins 18 44 = some (.lstore 5, 2) := by decide +kernel
theorem n_18_46 : pm_ins 18 46 = some (.lload 5, 2) := by decide +kernel
theorem n_18_48 : pm_ins 18 48 = some (.lconst 0, 1) := by decide +kernel
theorem n_18_49 : pm_ins 18 49 = some (.lcmp, 1) := by decide +kernel
theorem n_18_50 : pm_ins 18 50 = some (.ifCond .ne 6, 3) := by decide +kernel
theorem n_18_53 : pm_ins 18 53 = some (.bipush (-11), 2) := by decide +kernel
theorem n_18_55 : pm_ins 18 55 = some (.ireturn, 1) := by decide +kernel
theorem n_18_56 : pm_ins 18 56 = some (.lload 5, 2) := by decide +kernel
theorem n_18_58 : pm_ins 18 58 = some (.lconst 1, 1) := by decide +kernel
theorem n_18_59 : pm_ins 18 59 = some (.lcmp, 1) := by decide +kernel
theorem n_18_60 : pm_ins 18 60 = some (.ifCond .lt 12, 3) := by decide +kernel
theorem n_18_63 : pm_ins 18 63 = some (.lload 5, 2) := by decide +kernel
theorem n_18_65 : pm_ins 18 65 = some (.ldc2_w 243, 3) := by decide +kernel
theorem n_18_68 : pm_ins 18 68 = some (.lcmp, 1) := by decide +kernel
theorem n_18_69 : pm_ins 18 69 = some (.ifCond .le 6, 3) := by decide +kernel
theorem n_18_72 : pm_ins 18 72 = some (.bipush (-12), 2) := by decide +kernel
theorem n_18_74 : pm_ins 18 74 = some (.ireturn, 1) := by decide +kernel
theorem n_18_75 : pm_ins 18 75 = some (.aload_n 3, 1) := by decide +kernel
theorem n_18_76 : pm_ins 18 76 = some (.getfield 240, 3) := by decide +kernel
theorem n_18_79 : pm_ins 18 79 = some (.iconst 3, 1) := by decide +kernel
theorem n_18_80 : pm_ins 18 80 = some (.irem, 1) := by decide +kernel
theorem n_18_81 : pm_ins 18 81 = some (.istore 7, 2) := by decide +kernel
theorem n_18_83 : pm_ins 18 83 = some (.aload_n 0, 1) := by decide +kernel
theorem n_18_84 : pm_ins 18 84 = some (.aload_n 3, 1) := by decide +kernel
theorem n_18_85 : pm_ins 18 85 = some (.aload 4, 2) := by decide +kernel
theorem n_18_87 : pm_ins 18 87 = some (.iconst 2, 1) := by decide +kernel
theorem n_18_88 : pm_ins 18 88 = some (.iload 7, 2) := by decide +kernel
theorem n_18_90 : pm_ins 18 90 = some (.iadd, 1) := by decide +kernel
theorem n_18_91 : pm_ins 18 91 = some (.iaload, 1) := by decide +kernel
theorem n_18_92 : pm_ins 18 92 = some (.invokevirtual 245, 3) := by decide +kernel
theorem n_18_95 : pm_ins 18 95 = some (.istore 8, 2) := by decide +kernel
theorem n_18_97 : pm_ins 18 97 = some (.aload 4, 2) := by decide +kernel
theorem n_18_99 : pm_ins 18 99 = some (.iconst 5, 1) := by decide +kernel
theorem n_18_100 : pm_ins 18 100 = some (.iload 7, 2) := by decide +kernel
theorem n_18_102 : pm_ins 18 102 = some (.iadd, 1) := by decide +kernel
theorem n_18_103 : pm_ins 18 103 = some (.iload 8, 2) := by decide +kernel
theorem n_18_105 : pm_ins 18 105 = some (.iastore, 1) := by decide +kernel
theorem n_18_106 : pm_ins 18 106 = some (.aload_n 3, 1) := by decide +kernel
theorem n_18_107 : pm_ins 18 107 = some (.dup, 1) := by decide +kernel
theorem n_18_108 : pm_ins 18 108 = some (.getfield 240, 3) := by decide +kernel
theorem n_18_111 : pm_ins 18 111 = some (.iconst 1, 1) := by decide +kernel
theorem n_18_112 : pm_ins 18 112 = some (.iadd, 1) := by decide +kernel
theorem n_18_113 : pm_ins 18 113 = some (.putfield 240, 3) := by decide +kernel
theorem n_18_116 : pm_ins 18 116 = some (.aload 4, 2) := by decide +kernel
theorem n_18_118 : pm_ins 18 118 = some (.iconst 1, 1) := by decide +kernel
theorem n_18_119 : pm_ins 18 119 = some (.aload_n 3, 1) := by decide +kernel
theorem n_18_120 : pm_ins 18 120 = some (.getfield 240, 3) := by decide +kernel
theorem n_18_123 : pm_ins 18 123 = some (.iastore, 1) := by decide +kernel
theorem n_18_124 : pm_ins 18 124 = some (.aload_n 0, 1) := by decide +kernel
theorem n_18_125 : pm_ins 18 125 = some (.aload_n 3, 1) := by decide +kernel
theorem n_18_126 : pm_ins 18 126 = some (.getfield 233, 3) := by decide +kernel
theorem n_18_129 : pm_ins 18 129 = some (.aload_n 3, 1) := by decide +kernel
theorem n_18_130 : pm_ins 18 130 = some (.getfield 215, 3) := by decide +kernel
theorem n_18_133 : pm_ins 18 133 = some (.invokevirtual 249, 3) := by decide +kernel
theorem n_18_136 : pm_ins 18 136 = some (.pop, 1) := by decide +kernel
theorem n_18_137 : pm_ins 18 137 = some (.iload 8, 2) := by decide +kernel
theorem n_18_139 : pm_ins 18 139 = some (.ireturn, 1) := by decide +kernel
theorem n_19_0 : pm_ins 19 0 = some (.aload_n 0, 1) := by decide +kernel
theorem n_19_1 : pm_ins 19 1 = some (.iload_n 1, 1) := by decide +kernel
theorem n_19_2 : pm_ins 19 2 = some (.invokevirtual 218, 3) := by decide +kernel
theorem n_19_5 : pm_ins 19 5 = some (.istore_n 2, 1) := by decide +kernel
theorem n_19_6 : pm_ins 19 6 = some (.iload_n 2, 1) := by decide +kernel
theorem n_19_7 : pm_ins 19 7 = some (.ifCond .eq 6, 3) := by decide +kernel
theorem n_19_10 : pm_ins 19 10 = some (.iload_n 2, 1) := by decide +kernel
theorem n_19_11 : pm_ins 19 11 = some (.i2l, 1) := by decide +kernel
theorem n_19_12 : pm_ins 19 12 = some (.lreturn, 1) := by decide +kernel
theorem n_19_13 : pm_ins 19 13 = some (.aload_n 0, 1) := by decide +kernel
theorem n_19_14 : pm_ins 19 14 = some (.getfield 23, 3) := by decide +kernel
theorem n_19_17 : pm_ins 19 17 = some (.iload_n 1, 1) := by decide +kernel
theorem n_19_18 : pm_ins 19 18 = some (.aaload, 1) := by decide +kernel
theorem n_19_19 : pm_ins 19 19 = some (.astore_n 3, 1) := by decide +kernel
theorem n_19_20 : pm_ins 19 20 = some (.aload_n 0, 1) := by decide +kernel
theorem n_19_21 : pm_ins 19 21 = some (.getfield 17, 3) := by decide +kernel
theorem n_19_24 : pm_ins 19 24 = some (.aload_n 3, 1) := by decide +kernel
theorem n_19_25 : pm_ins 19 25 = some (.getfield 188, 3) := by decide +kernel
theorem n_19_28 : pm_ins 19 28 = some (.aaload, 1) := by decide +kernel
theorem n_19_29 : pm_ins 19 29 = some (.getfield 136, 3) := by decide +kernel
theorem n_19_32 : pm_ins 19 32 = some (.astore 4, 2) := by decide +kernel
theorem n_19_34 : pm_ins 19 34 = some (.aload 4, 2) := by decide +kernel
theorem n_19_36 : pm_ins 19 36 = some (.iconst 1, 1) := by decide +kernel
theorem n_19_37 : pm_ins 19 37 = some (.iaload, 1) := by decide +kernel
theorem n_19_38 : pm_ins 19 38 = some (.i2l, 1) := by decide +kernel
theorem n_19_39 : pm_ins 19 39 = some (.aload_n 3, 1) := by decide +kernel
theorem n_19_40 : pm_ins 19 40 = some (.getfield 252, 3) := by decide +kernel
theorem n_19_43 : pm_ins 19 43 = some (.i2l, 1) := by decide +kernel
theorem n_19_44 : pm_ins 19 44 = some (.lsub, 1) := by decide +kernel
theorem n_19_45 : pm_ins 19 45 = some (.lstore 5, 2) := by decide +kernel
theorem n_19_47 : pm_ins 19 47 = some (.lload 5, 2) := by decide +kernel
theorem n_19_49 : pm_ins 19 49 = some (.lconst 0, 1) := by decide +kernel
theorem n_19_50 : pm_ins 19 50 = some (.lcmp, 1) := by decide +kernel
theorem n_19_51 : pm_ins 19 51 = some (.ifCond .ne 7, 3) := by decide +kernel
theorem n_19_54 : pm_ins 19 54 = some (.ldc2_w 255, 3) := by decide +kernel
theorem n_19_57 : pm_ins 19 57 = some (.lreturn, 1) := by decide +kernel
theorem n_19_58 : pm_ins 19 58 = some (.lload 5, 2) := by decide +kernel
theorem n_19_60 : pm_ins 19 60 = some (.lconst 1, 1) := by decide +kernel
theorem n_19_61 : pm_ins 19 61 = some (.lcmp, 1) := by decide +kernel
theorem n_19_62 : pm_ins 19 62 = some (.ifCond .lt 14, 3) := by decide +kernel
theorem n_19_65 : pm_ins 19 65 = some (.lload 5, 2) := by decide +kernel
theorem n_19_67 : pm_ins 19 67 = some (.aload_n 3, 1) := by decide +kernel
theorem n_19_68 : pm_ins 19 68 = some (.invokevirtual 221, 3) := by decide +kernel
theorem n_19_71 : pm_ins 19 71 = some (.i2l, 1) := by decide +kernel
theorem n_19_72 : pm_ins 19 72 = some (.lcmp, 1) := by decide +kernel
theorem n_19_73 : pm_ins 19 73 = some (.ifCond .le 7, 3) := by decide +kernel
theorem n_19_76 : pm_ins 19 76 = some (.ldc2_w 257, 3) := by decide +kernel
theorem n_19_79 : pm_ins 19 79 = some (.lreturn, 1) := by decide +kernel
theorem n_19_80 : pm_ins 19 80 = some (.aload_n 3, 1) := by decide +kernel
theorem n_19_81 : pm_ins 19 81 = some (.getfield 252, 3) := by decide +kernel
theorem n_19_84 : pm_ins 19 84 = some (.iconst 3, 1) := by decide +kernel
theorem n_19_85 : pm_ins 19 85 = some (.irem, 1) := by decide +kernel
theorem n_19_86 : pm_ins 19 86 = some (.istore 7, 2) := by decide +kernel
theorem n_19_88 : pm_ins 19 88 = some (.aload 4, 2) := by decide +kernel
theorem n_19_90 : pm_ins 19 90 = some (.iconst 5, 1) := by decide +kernel
theorem n_19_91 : pm_ins 19 91 = some (.iload 7, 2) := by decide +kernel
theorem n_19_93 : pm_ins 19 93 = some (.iadd, 1) := by decide +kernel
theorem n_19_94 : pm_ins 19 94 = some (.iaload, 1) := by decide +kernel
theorem n_19_95 : pm_ins 19 95 = some (.istore 8, 2) := by decide +kernel
theorem n_19_97 : pm_ins 19 97 = some (.aload_n 3, 1) := by decide +kernel
theorem n_19_98 : pm_ins 19 98 = some (.dup, 1) := by decide +kernel
theorem n_19_99 : pm_ins 19 99 = some (.getfield 252, 3) := by decide +kernel
theorem n_19_102 : pm_ins 19 102 = some (.iconst 1, 1) := by decide +kernel
theorem n_19_103 : pm_ins 19 103 = some (.iadd, 1) := by decide +kernel
theorem n_19_104 : pm_ins 19 104 = some (.putfield 252, 3) := by decide +kernel
theorem n_19_107 : pm_ins 19 107 = some (.aload_n 0, 1) := by decide +kernel
theorem n_19_108 : pm_ins 19 108 = some (.aload_n 3, 1) := by decide +kernel
theorem n_19_109 : pm_ins 19 109 = some (.getfield 224, 3) := by decide +kernel
theorem n_19_112 : pm_ins 19 112 = some (.aload_n 3, 1) := by decide +kernel
theorem n_19_113 : pm_ins 19 113 = some (.getfield 259, 3) := by decide +kernel
theorem n_19_116 : pm_ins 19 116 = some (.iload 7, 2) := by decide +kernel
theorem n_19_118 : pm_ins 19 118 = some (.iaload, 1) := by decide +kernel
theorem n_19_119 : pm_ins 19 119 = some (.iconst 0, 1) := by decide +kernel
theorem n_19_120 : pm_ins 19 120 = some (.invokevirtual 262, 3) := by decide +kernel
theorem n_19_123 : pm_ins 19 123 = some (.lstore 9, 2) := by decide +kernel
theorem n_19_125 : pm_ins 19 125 = some (.aload_n 0, 1) := by decide +kernel
theorem n_19_126 : pm_ins 19 126 = some (.aload_n 3, 1) := by decide +kernel
theorem n_19_127 : pm_ins 19 127 = some (.getfield 224, 3) := by decide +kernel
theorem n_19_130 : pm_ins 19 130 = some (.aload_n 3, 1) := by decide +kernel
theorem n_19_131 : pm_ins 19 131 = some (.getfield 266, 3) := by decide +kernel
theorem n_19_134 : pm_ins 19 134 = some (.iload 7, 2) := by decide +kernel
theorem n_19_136 : pm_ins 19 136 = some (.iaload, 1) := by decide +kernel
theorem n_19_137 : pm_ins 19 137 = some (.invokevirtual 269, 3) := by decide +kernel
theorem n_19_140 : pm_ins 19 140 = some (.pop, 1) := by decide +kernel
theorem n_19_141 : pm_ins 19 141 = some (.aload_n 0, 1) := by decide +kernel
theorem n_19_142 : pm_ins 19 142 = some (.aload_n 3, 1) := by decide +kernel
theorem n_19_143 : pm_ins 19 143 = some (.getfield 224, 3) := by decide +kernel
theorem n_19_146 : pm_ins 19 146 = some (.aload_n 3, 1) := by decide +kernel
theorem n_19_147 : pm_ins 19 147 = some (.getfield 259, 3) := by decide +kernel
theorem n_19_150 : pm_ins 19 150 = some (.iload 7, 2) := by decide +kernel
theorem n_19_152 : pm_ins 19 152 = some (.iaload, 1) := by decide +kernel
theorem n_19_153 : pm_ins 19 153 = some (.invokevirtual 272, 3) := by decide +kernel
theorem n_19_156 : pm_ins 19 156 = some (.pop, 1) := by decide +kernel
theorem n_19_157 : pm_ins 19 157 = some (.iload 8, 2) := by decide +kernel
theorem n_19_159 : pm_ins 19 159 = some (.ifCond .eq 9, 3) := by decide +kernel
theorem n_19_162 : pm_ins 19 162 = some (.ldc2_w 275, 3) := by decide +kernel
theorem n_19_165 : pm_ins 19 165 = some (.goto 5, 3) := by decide +kernel
theorem n_19_168 : pm_ins 19 168 = some (.lload 9, 2) := by decide +kernel
theorem n_19_170 : pm_ins 19 170 = some (.lreturn, 1) := by decide +kernel
theorem n_20_0 : pm_ins 20 0 = some (.iload_n 1, 1) := by decide +kernel
theorem n_20_1 : pm_ins 20 1 = some (.tableswitch 262 0 6 #[43, 67, 91, 133, 176, 196, 237], 43) := by decide +kernel
theorem n_20_44 : pm_ins 20 44 = some (.iload_n 2, 1) := by decide +kernel
theorem n_20_45 : pm_ins 20 45 = some (.invokestatic 277, 3) := by decide +kernel
theorem n_20_48 : pm_ins 20 48 = some (.ifCond .eq 16, 3) := by decide +kernel
theorem n_20_51 : pm_ins 20 51 = some (.aload_n 0, 1) := by decide +kernel
theorem n_20_52 : pm_ins 20 52 = some (.getfield 11, 3) := by decide +kernel
theorem n_20_55 : pm_ins 20 55 = some (.iload_n 2, 1) := by decide +kernel
theorem n_20_56 : pm_ins 20 56 = some (.aaload, 1) := by decide +kernel
theorem n_20_57 : pm_ins 20 57 = some (.getfield 30, 3) := by decide +kernel
theorem n_20_60 : pm_ins 20 60 = some (.i2l, 1) := by decide +kernel
theorem n_20_61 : pm_ins 20 61 = some (.goto 6, 3) := by decide +kernel
theorem n_20_64 : pm_ins 20 64 = some (.ldc2_w 280, 3) := by decide +kernel
theorem n_20_67 : pm_ins 20 67 = some (.lreturn, 1) := by decide +kernel
theorem n_20_68 : pm_ins 20 68 = some (.iload_n 2, 1) := by decide +kernel
theorem n_20_69 : pm_ins 20 69 = some (.invokestatic 282, 3) := by decide +kernel
theorem n_20_72 : pm_ins 20 72 = some (.ifCond .eq 16, 3) := by decide +kernel
theorem n_20_75 : pm_ins 20 75 = some (.aload_n 0, 1) := by decide +kernel
theorem n_20_76 : pm_ins 20 76 = some (.getfield 17, 3) := by decide +kernel
theorem n_20_79 : pm_ins 20 79 = some (.iload_n 2, 1) := by decide +kernel
theorem n_20_80 : pm_ins 20 80 = some (.aaload, 1) := by decide +kernel
theorem n_20_81 : pm_ins 20 81 = some (.getfield 61, 3) := by decide +kernel
theorem n_20_84 : pm_ins 20 84 = some (.i2l, 1) := by decide +kernel
theorem n_20_85 : pm_ins 20 85 = some (.goto 6, 3) := by decide +kernel
theorem n_20_88 : pm_ins 20 88 = some (.ldc2_w 280, 3) := by decide +kernel
theorem n_20_91 : pm_ins 20 91 = some (.lreturn, 1) := by decide +kernel
theorem n_20_92 : pm_ins 20 92 = some (.iload_n 2, 1) := by decide +kernel
theorem n_20_93 : pm_ins 20 93 = some (.invokestatic 277, 3) := by decide +kernel
theorem n_20_96 : pm_ins 20 96 = some (.ifCond .eq 34, 3) := by decide +kernel
theorem n_20_99 : pm_ins 20 99 = some (.aload_n 0, 1) := by decide +kernel
theorem n_20_100 : pm_ins 20 100 = some (.getfield 11, 3) := by decide +kernel
theorem n_20_103 : pm_ins 20 103 = some (.iload_n 2, 1) := by decide +kernel
theorem n_20_104 : pm_ins 20 104 = some (.aaload, 1) := by decide +kernel
theorem n_20_105 : pm_ins 20 105 = some (.iload_n 3, 1) := by decide +kernel
theorem n_20_106 : pm_ins 20 106 = some (.invokevirtual 91, 3) := by decide +kernel
theorem n_20_109 : pm_ins 20 109 = some (.ifCond .eq 21, 3) := by decide +kernel
theorem n_20_112 : pm_ins 20 112 = some (.aload_n 0, 1) := by decide +kernel
theorem n_20_113 : pm_ins 20 113 = some (.getfield 11, 3) := by decide +kernel
theorem n_20_116 : pm_ins 20 116 = some (.iload_n 2, 1) := by decide +kernel
theorem n_20_117 : pm_ins 20 117 = some (.aaload, 1) := by decide +kernel
theorem n_20_118 : pm_ins 20 118 = some (.getfield 81, 3) := by decide +kernel
theorem n_20_121 : pm_ins 20 121 = some (.iload_n 3, 1) := by decide +kernel
theorem n_20_122 : pm_ins 20 122 = some (.aaload, 1) := by decide +kernel
theorem n_20_123 : pm_ins 20 123 = some (.getfield 119, 3) := by decide +kernel
theorem n_20_126 : pm_ins 20 126 = some (.i2l, 1) := by decide +kernel
theorem n_20_127 : pm_ins 20 127 = some (.goto 6, 3) := by decide +kernel
theorem n_20_130 : pm_ins 20 130 = some (.ldc2_w 280, 3) := by decide +kernel
theorem n_20_133 : pm_ins 20 133 = some (.lreturn, 1) := by decide +kernel
theorem n_20_134 : pm_ins 20 134 = some (.iload_n 2, 1) := by decide +kernel
theorem n_20_135 : pm_ins 20 135 = some (.invokestatic 277, 3) := by decide +kernel
theorem n_20_138 : pm_ins 20 138 = some (.ifCond .eq 35, 3) := by decide +kernel
theorem n_20_141 : pm_ins 20 141 = some (.aload_n 0, 1) := by decide +kernel
theorem n_20_142 : pm_ins 20 142 = some (.getfield 11, 3) := by decide +kernel
theorem n_20_145 : pm_ins 20 145 = some (.iload_n 2, 1) := by decide +kernel
theorem n_20_146 : pm_ins 20 146 = some (.aaload, 1) := by decide +kernel
theorem n_20_147 : pm_ins 20 147 = some (.iload_n 3, 1) := by decide +kernel
theorem n_20_148 : pm_ins 20 148 = some (.invokevirtual 122, 3) := by decide +kernel
theorem n_20_151 : pm_ins 20 151 = some (.ifCond .eq 22, 3) := by decide +kernel
theorem n_20_154 : pm_ins 20 154 = some (.aload_n 0, 1) := by decide +kernel
theorem n_20_155 : pm_ins 20 155 = some (.aload_n 0, 1) := by decide +kernel
theorem n_20_156 : pm_ins 20 156 = some (.getfield 11, 3) := by decide +kernel
theorem n_20_159 : pm_ins 20 159 = some (.iload_n 2, 1) := by decide +kernel
theorem n_20_160 : pm_ins 20 160 = some (.aaload, 1) := by decide +kernel
theorem n_20_161 : pm_ins 20 161 = some (.getfield 110, 3) := by decide +kernel
theorem n_20_164 : pm_ins 20 164 = some (.iload_n 3, 1) := by decide +kernel
theorem n_20_165 : pm_ins 20 165 = some (.aaload, 1) := by decide +kernel
theorem n_20_166 : pm_ins 20 166 = some (.invokevirtual 285, 3) := by decide +kernel
theorem n_20_169 : pm_ins 20 169 = some (.i2l, 1) := by decide +kernel
theorem n_20_170 : pm_ins 20 170 = some (.goto 6, 3) := by decide +kernel
theorem n_20_173 : pm_ins 20 173 = some (.ldc2_w 280, 3) := by decide +kernel
theorem n_20_176 : pm_ins 20 176 = some (.lreturn, 1) := by decide +kernel
theorem n_20_177 : pm_ins 20 177 = some (.iload_n 2, 1) := by decide +kernel
theorem n_20_178 : pm_ins 20 178 = some (.invokestatic 277, 3) := by decide +kernel
theorem n_20_181 : pm_ins 20 181 = some (.ifCond .eq 12, 3) := by decide +kernel
theorem n_20_184 : pm_ins 20 184 = some (.aload_n 0, 1) := by decide +kernel
theorem n_20_185 : pm_ins 20 185 = some (.iload_n 2, 1) := by decide +kernel
theorem n_20_186 : pm_ins 20 186 = some (.invokevirtual 129, 3) := by decide +kernel
theorem n_20_189 : pm_ins 20 189 = some (.i2l, 1) := by decide +kernel
theorem n_20_190 : pm_ins 20 190 = some (.goto 6, 3) := by decide +kernel
theorem n_20_193 : pm_ins 20 193 = some (.ldc2_w 280, 3) := by decide +kernel
theorem n_20_196 : pm_ins 20 196 = some (.lreturn, 1) := by decide +kernel
theorem n_20_197 : pm_ins 20 197 = some (.aload_n 0, 1) := by decide +kernel
theorem n_20_198 : pm_ins 20 198 = some (.iload_n 2, 1) := by decide +kernel
theorem n_20_199 : pm_ins 20 199 = some (.invokevirtual 289, 3) := by decide +kernel
theorem n_20_202 : pm_ins 20 202 = some (.ifCond .eq 32, 3) := by decide +kernel
theorem n_20_205 : pm_ins 20 205 = some (.iload_n 3, 1) := by decide +kernel
theorem n_20_206 : pm_ins 20 206 = some (.ifCond .lt 28, 3) := by decide +kernel
theorem n_20_209 : pm_ins 20 209 = some (.iload_n 3, 1) := by decide +kernel
theorem n_20_210 : pm_ins 20 210 = some (.bipush 8, 2) := by decide +kernel
theorem n_20_212 : pm_ins 20 212 = some (.if_icmp .ge 22, 3) := by decide +kernel
theorem n_20_215 : pm_ins 20 215 = some (.aload_n 0, 1) := by decide +kernel
theorem n_20_216 : pm_ins 20 216 = some (.getfield 23, 3) := by decide +kernel
theorem n_20_219 : pm_ins 20 219 = some (.iload_n 2, 1) := by decide +kernel
theorem n_20_220 : pm_ins 20 220 = some (.aaload, 1) := by decide +kernel
theorem n_20_221 : pm_ins 20 221 = some (.getfield 292, 3) := by decide +kernel
theorem n_20_224 : pm_ins 20 224 = some (.iload_n 3, 1) := by decide +kernel
theorem n_20_225 : pm_ins 20 225 = some (.iaload, 1) := by decide +kernel
theorem n_20_226 : pm_ins 20 226 = some (.i2l, 1) := by decide +kernel
theorem n_20_227 : pm_ins 20 227 = some (.ldc2_w 140, 3) := by decide +kernel
theorem n_20_230 : pm_ins 20 230 = some (.land, 1) := by decide +kernel
theorem n_20_231 : pm_ins 20 231 = some (.goto 6, 3) := by decide +kernel
theorem n_20_234 : pm_ins 20 234 = some (.ldc2_w 280, 3) := by decide +kernel
theorem n_20_237 : pm_ins 20 237 = some (.lreturn, 1) := by decide +kernel
theorem n_20_238 : pm_ins 20 238 = some (.aload_n 0, 1) := by decide +kernel
theorem n_20_239 : pm_ins 20 239 = some (.iload_n 2, 1) := by decide +kernel
theorem n_20_240 : pm_ins 20 240 = some (.invokevirtual 289, 3) := by decide +kernel
theorem n_20_243 : pm_ins 20 243 = some (.ifCond .eq 16, 3) := by decide +kernel
theorem n_20_246 : pm_ins 20 246 = some (.aload_n 0, 1) := by decide +kernel
theorem n_20_247 : pm_ins 20 247 = some (.getfield 23, 3) := by decide +kernel
theorem n_20_250 : pm_ins 20 250 = some (.iload_n 2, 1) := by decide +kernel
theorem n_20_251 : pm_ins 20 251 = some (.aaload, 1) := by decide +kernel
theorem n_20_252 : pm_ins 20 252 = some (.invokevirtual 221, 3) := by decide +kernel
theorem n_20_255 : pm_ins 20 255 = some (.i2l, 1) := by decide +kernel
theorem n_20_256 : pm_ins 20 256 = some (.goto 6, 3) := by decide +kernel
theorem n_20_259 : pm_ins 20 259 = some (.ldc2_w 280, 3) := by decide +kernel
theorem n_20_262 : pm_ins 20 262 = some (.lreturn, 1) := by decide +kernel
theorem n_20_263 : pm_ins 20 263 = some (.ldc2_w 280, 3) := by decide +kernel
theorem n_20_266 : pm_ins 20 266 = some (.lreturn, 1) := by decide +kernel
theorem n_21_0 : pm_ins 21 0 = some (.iload_n 0, 1) := by decide +kernel
theorem n_21_1 : pm_ins 21 1 = some (.ifCond .lt 12, 3) := by decide +kernel
theorem n_21_4 : pm_ins 21 4 = some (.iload_n 0, 1) := by decide +kernel
theorem n_21_5 : pm_ins 21 5 = some (.iconst 5, 1) := by decide +kernel
theorem n_21_6 : pm_ins 21 6 = some (.if_icmp .ge 7, 3) := by decide +kernel
theorem n_21_9 : pm_ins 21 9 = some (.iconst 1, 1) := by decide +kernel
theorem n_21_10 : pm_ins 21 10 = some (.goto 4, 3) := by decide +kernel
theorem n_21_13 : pm_ins 21 13 = some (.iconst 0, 1) := by decide +kernel
theorem n_21_14 : pm_ins 21 14 = some (.ireturn, 1) := by decide +kernel
theorem n_22_0 : pm_ins 22 0 = some (.iload_n 1, 1) := by decide +kernel
theorem n_22_1 : pm_ins 22 1 = some (.invokestatic 277, 3) := by decide +kernel
theorem n_22_4 : pm_ins 22 4 = some (.ifCond .eq 12, 3) := by decide +kernel
theorem n_22_7 : pm_ins 22 7 = some (.iload_n 1, 1) := by decide +kernel
theorem n_22_8 : pm_ins 22 8 = some (.iload_n 0, 1) := by decide +kernel
theorem n_22_9 : pm_ins 22 9 = some (.if_icmp .eq 7, 3) := by decide +kernel
theorem n_22_12 : pm_ins 22 12 = some (.iconst 1, 1) := by decide +kernel
theorem n_22_13 : pm_ins 22 13 = some (.goto 4, 3) := by decide +kernel
theorem n_22_16 : pm_ins 22 16 = some (.iconst 0, 1) := by decide +kernel
theorem n_22_17 : pm_ins 22 17 = some (.ireturn, 1) := by decide +kernel
theorem n_23_0 : pm_ins 23 0 = some (.iload_n 0, 1) := by decide +kernel
theorem n_23_1 : pm_ins 23 1 = some (.ifCond .lt 13, 3) := by decide +kernel
theorem n_23_4 : pm_ins 23 4 = some (.iload_n 0, 1) := by decide +kernel
theorem n_23_5 : pm_ins 23 5 = some (.bipush 20, 2) := by decide +kernel
theorem n_23_7 : pm_ins 23 7 = some (.if_icmp .ge 7, 3) := by decide +kernel
theorem n_23_10 : pm_ins 23 10 = some (.iconst 1, 1) := by decide +kernel
theorem n_23_11 : pm_ins 23 11 = some (.goto 4, 3) := by decide +kernel
theorem n_23_14 : pm_ins 23 14 = some (.iconst 0, 1) := by decide +kernel
theorem n_23_15 : pm_ins 23 15 = some (.ireturn, 1) := by decide +kernel
theorem n_24_0 : pm_ins 24 0 = some (.iload_n 0, 1) := by decide +kernel
theorem n_24_1 : pm_ins 24 1 = some (.ifCond .lt 12, 3) := by decide +kernel
theorem n_24_4 : pm_ins 24 4 = some (.iload_n 0, 1) := by decide +kernel
theorem n_24_5 : pm_ins 24 5 = some (.iconst 4, 1) := by decide +kernel
theorem n_24_6 : pm_ins 24 6 = some (.if_icmp .ge 7, 3) := by decide +kernel
theorem n_24_9 : pm_ins 24 9 = some (.iconst 1, 1) := by decide +kernel
theorem n_24_10 : pm_ins 24 10 = some (.goto 4, 3) := by decide +kernel
theorem n_24_13 : pm_ins 24 13 = some (.iconst 0, 1) := by decide +kernel
theorem n_24_14 : pm_ins 24 14 = some (.ireturn, 1) := by decide +kernel
theorem n_25_0 : pm_ins 25 0 = some (.iload_n 1, 1) := by decide +kernel
theorem n_25_1 : pm_ins 25 1 = some (.invokestatic 277, 3) := by decide +kernel
theorem n_25_4 : pm_ins 25 4 = some (.ifCond .eq 20, 3) := by decide +kernel
theorem n_25_7 : pm_ins 25 7 = some (.aload_n 0, 1) := by decide +kernel
theorem n_25_8 : pm_ins 25 8 = some (.getfield 11, 3) := by decide +kernel
theorem n_25_11 : pm_ins 25 11 = some (.iload_n 1, 1) := by decide +kernel
theorem n_25_12 : pm_ins 25 12 = some (.aaload, 1) := by decide +kernel
theorem n_25_13 : pm_ins 25 13 = some (.getfield 30, 3) := by decide +kernel
theorem n_25_16 : pm_ins 25 16 = some (.iconst 1, 1) := by decide +kernel
theorem n_25_17 : pm_ins 25 17 = some (.if_icmp .ne 7, 3) := by decide +kernel
theorem n_25_20 : pm_ins 25 20 = some (.iconst 1, 1) := by decide +kernel
theorem n_25_21 : pm_ins 25 21 = some (.goto 4, 3) := by decide +kernel
theorem n_25_24 : pm_ins 25 24 = some (.iconst 0, 1) := by decide +kernel
theorem n_25_25 : pm_ins 25 25 = some (.ireturn, 1) := by decide +kernel
theorem n_26_0 : pm_ins 26 0 = some (.iload_n 1, 1) := by decide +kernel
theorem n_26_1 : pm_ins 26 1 = some (.ifCond .lt 24, 3) := by decide +kernel
theorem n_26_4 : pm_ins 26 4 = some (.iload_n 1, 1) := by decide +kernel
theorem n_26_5 : pm_ins 26 5 = some (.iconst 3, 1) := by decide +kernel
theorem n_26_6 : pm_ins 26 6 = some (.if_icmp .ge 19, 3) := by decide +kernel
theorem n_26_9 : pm_ins 26 9 = some (.aload_n 0, 1) := by decide +kernel
theorem n_26_10 : pm_ins 26 10 = some (.getfield 23, 3) := by decide +kernel
theorem n_26_13 : pm_ins 26 13 = some (.iload_n 1, 1) := by decide +kernel
theorem n_26_14 : pm_ins 26 14 = some (.aaload, 1) := by decide +kernel
theorem n_26_15 : pm_ins 26 15 = some (.getfield 295, 3) := by decide +kernel
theorem n_26_18 : pm_ins 26 18 = some (.ifCond .eq 7, 3) := by decide +kernel
theorem n_26_21 : pm_ins 26 21 = some (.iconst 1, 1) := by decide +kernel
theorem n_26_22 : pm_ins 26 22 = some (.goto 4, 3) := by decide +kernel
theorem n_26_25 : pm_ins 26 25 = some (.iconst 0, 1) := by decide +kernel
theorem n_26_26 : pm_ins 26 26 = some (.ireturn, 1) := by decide +kernel
theorem n_27_0 : pm_ins 27 0 = some (.iload_n 2, 1) := by decide +kernel
theorem n_27_1 : pm_ins 27 1 = some (.invokestatic 282, 3) := by decide +kernel
theorem n_27_4 : pm_ins 27 4 = some (.ifCond .eq 20, 3) := by decide +kernel
theorem n_27_7 : pm_ins 27 7 = some (.aload_n 0, 1) := by decide +kernel
theorem n_27_8 : pm_ins 27 8 = some (.getfield 17, 3) := by decide +kernel
theorem n_27_11 : pm_ins 27 11 = some (.iload_n 2, 1) := by decide +kernel
theorem n_27_12 : pm_ins 27 12 = some (.aaload, 1) := by decide +kernel
theorem n_27_13 : pm_ins 27 13 = some (.getfield 61, 3) := by decide +kernel
theorem n_27_16 : pm_ins 27 16 = some (.iload_n 1, 1) := by decide +kernel
theorem n_27_17 : pm_ins 27 17 = some (.if_icmp .ne 7, 3) := by decide +kernel
theorem n_27_20 : pm_ins 27 20 = some (.iconst 1, 1) := by decide +kernel
theorem n_27_21 : pm_ins 27 21 = some (.goto 4, 3) := by decide +kernel
theorem n_27_24 : pm_ins 27 24 = some (.iconst 0, 1) := by decide +kernel
theorem n_27_25 : pm_ins 27 25 = some (.ireturn, 1) := by decide +kernel
theorem n_28_0 : pm_ins 28 0 = some (.iconst 0, 1) := by decide +kernel
theorem n_28_1 : pm_ins 28 1 = some (.istore_n 2, 1) := by decide +kernel
theorem n_28_2 : pm_ins 28 2 = some (.iconst 0, 1) := by decide +kernel
theorem n_28_3 : pm_ins 28 3 = some (.istore_n 3, 1) := by decide +kernel
theorem n_28_4 : pm_ins 28 4 = some (.iload_n 3, 1) := by decide +kernel
theorem n_28_5 : pm_ins 28 5 = some (.bipush 20, 2) := by decide +kernel
theorem n_28_7 : pm_ins 28 7 = some (.if_icmp .ge 25, 3) := by decide +kernel
theorem n_28_10 : pm_ins 28 10 = some (.aload_n 0, 1) := by decide +kernel
theorem n_28_11 : pm_ins 28 11 = some (.getfield 17, 3) := by decide +kernel
theorem n_28_14 : pm_ins 28 14 = some (.iload_n 3, 1) := by decide +kernel
theorem n_28_15 : pm_ins 28 15 = some (.aaload, 1) := by decide +kernel
theorem n_28_16 : pm_ins 28 16 = some (.getfield 61, 3) := by decide +kernel
theorem n_28_19 : pm_ins 28 19 = some (.iload_n 1, 1) := by decide +kernel
theorem n_28_20 : pm_ins 28 20 = some (.if_icmp .ne 6, 3) := by decide +kernel
theorem n_28_23 : pm_ins 28 23 = some (.iinc 2 1, 3) := by decide +kernel
theorem n_28_26 : pm_ins 28 26 = some (.iinc 3 1, 3) := by decide +kernel
theorem n_28_29 : pm_ins 28 29 = some (.goto (-25), 3) := by decide +kernel
theorem n_28_32 : pm_ins 28 32 = some (.iload_n 2, 1) := by decide +kernel
theorem n_28_33 : pm_ins 28 33 = some (.ireturn, 1) := by decide +kernel
theorem n_29_0 : pm_ins 29 0 = some (.aload_n 0, 1) := by decide +kernel
theorem n_29_1 : pm_ins 29 1 = some (.iload_n 1, 1) := by decide +kernel
theorem n_29_2 : pm_ins 29 2 = some (.invokevirtual 129, 3) := by decide +kernel
theorem n_29_5 : pm_ins 29 5 = some (.bipush 6, 2) := by decide +kernel
theorem n_29_7 : pm_ins 29 7 = some (.if_icmp .lt 7, 3) := by decide +kernel
theorem n_29_10 : pm_ins 29 10 = some (.iconst (-1), 1) := by decide +kernel
theorem n_29_11 : pm_ins 29 11 = some (.goto 7, 3) := by decide +kernel
theorem n_29_14 : pm_ins 29 14 = some (.aload_n 0, 1) := by decide +kernel
theorem n_29_15 : pm_ins 29 15 = some (.invokevirtual 298, 3) := by decide +kernel
theorem n_29_18 : pm_ins 29 18 = some (.ireturn, 1) := by decide +kernel
end
section
theorem n_30_0 : pm_ins 30 0 = some (.iconst 0, 1) := by decide +kernel
theorem n_30_1 : pm_ins 30 1 = some (.istore_n 1, 1) := by decide +kernel
theorem n_30_2 : pm_ins 30 2 = some (.iload_n 1, 1) := by decide +kernel
theorem n_30_3 : pm_ins 30 3 = some (.bipush 20, 2) := by decide +kernel
theorem n_30_5 : pm_ins 30 5 = some (.if_icmp .ge 24, 3) := by decide +kernel
theorem n_30_8 : pm_ins 30 8 = some (.aload_n 0, 1) := by decide +kernel
theorem n_30_9 : pm_ins 30 9 = some (.getfield 17, 3) := by decide +kernel
theorem n_30_12 : pm_ins 30 12 = some (.iload_n 1, 1) := by decide +kernel
theorem n_30_13 : pm_ins 30 13 = some (.aaload, 1) := by decide +kernel
theorem n_30_14 : pm_ins 30 14 = some (.getfield 61, 3) := by decide +kernel
theorem n_30_17 : pm_ins 30 17 = some (.iconst (-1), 1) := by decide +kernel
theorem n_30_18 : pm_ins 30 18 = some (.if_icmp .ne 5, 3) := by decide +kernel
theorem n_30_21 : pm_ins 30 21 = some (.iload_n 1, 1) := by decide +kernel
theorem n_30_22 : pm_ins 30 22 = some (.ireturn, 1) := by decide +kernel
theorem n_30_23 : pm_ins 30 23 = some (.iinc 1 1, 3) := by decide +kernel
theorem n_30_26 : pm_ins 30 26 = some (.goto (-24), 3) := by decide +kernel
theorem n_30_29 : pm_ins 30 29 = some (.iconst (-1), 1) := by decide +kernel
theorem n_30_30 : pm_ins 30 30 = some (.ireturn, 1) := by decide +kernel
theorem n_31_0 : pm_ins 31 0 = some (.aload_n 0, 1) := by decide +kernel
theorem n_31_1 : pm_ins 31 1 = some (.iload_n 1, 1) := by decide +kernel
theorem n_31_2 : pm_ins 31 2 = some (.invokevirtual 34, 3) := by decide +kernel
theorem n_31_5 : pm_ins 31 5 = some (.ifCond .ne 5, 3) := by decide +kernel
theorem n_31_8 : pm_ins 31 8 = some (.iconst (-1), 1) := by decide +kernel
theorem n_31_9 : pm_ins 31 9 = some (.ireturn, 1) := by decide +kernel
theorem n_31_10 : pm_ins 31 10 = some (.iload_n 2, 1) := by decide +kernel
theorem n_31_11 : pm_ins 31 11 = some (.invokestatic 282, 3) := by decide +kernel
theorem n_31_14 : pm_ins 31 14 = some (.ifCond .eq 13, 3) := by decide +kernel
theorem n_31_17 : pm_ins 31 17 = some (.iload_n 3, 1) := by decide +kernel
theorem n_31_18 : pm_ins 31 18 = some (.ifCond .lt 9, 3) := by decide +kernel
theorem n_31_21 : pm_ins 31 21 = some (.iload_n 3, 1) := by decide +kernel
theorem n_31_22 : pm_ins 31 22 = some (.bipush 8, 2) := by decide +kernel
theorem n_31_24 : pm_ins 31 24 = some (.if_icmp .lt 6, 3) := by decide +kernel
theorem n_31_27 : pm_ins 31 27 = some (.bipush (-2), 2) := by decide +kernel
theorem n_31_29 : pm_ins 31 29 = some (.ireturn, 1) := by decide +kernel
theorem n_31_30 : pm_ins 31 30 = some (.aload_n 0, 1) := by decide +kernel
theorem n_31_31 : pm_ins 31 31 = some (.iload_n 1, 1) := by decide +kernel
theorem n_31_32 : pm_ins 31 32 = some (.iload_n 2, 1) := by decide +kernel
theorem n_31_33 : pm_ins 31 33 = some (.invokevirtual 67, 3) := by decide +kernel
theorem n_31_36 : pm_ins 31 36 = some (.ifCond .ne 14, 3) := by decide +kernel
theorem n_31_39 : pm_ins 31 39 = some (.aload_n 0, 1) := by decide +kernel
theorem n_31_40 : pm_ins 31 40 = some (.iload_n 1, 1) := by decide +kernel
theorem n_31_41 : pm_ins 31 41 = some (.iload_n 2, 1) := by decide +kernel
theorem n_31_42 : pm_ins 31 42 = some (.iload 4, 2) := by decide +kernel
theorem n_31_44 : pm_ins 31 44 = some (.invokevirtual 301, 3) := by decide +kernel
theorem n_31_47 : pm_ins 31 47 = some (.ifCond .eq 7, 3) := by decide +kernel
theorem n_31_50 : pm_ins 31 50 = some (.iconst 0, 1) := by decide +kernel
theorem n_31_51 : pm_ins 31 51 = some (.goto 5, 3) := by decide +kernel
theorem n_31_54 : pm_ins 31 54 = some (.bipush (-3), 2) := by decide +kernel
theorem n_31_56 : pm_ins 31 56 = some (.ireturn, 1) := by decide +kernel
theorem n_32_0 : pm_ins 32 0 = some (.aload_n 0, 1) := by decide +kernel
theorem n_32_1 : pm_ins 32 1 = some (.getfield 11, 3) := by decide +kernel
theorem n_32_4 : pm_ins 32 4 = some (.iload_n 1, 1) := by decide +kernel
theorem n_32_5 : pm_ins 32 5 = some (.aaload, 1) := by decide +kernel
theorem n_32_6 : pm_ins 32 6 = some (.getfield 110, 3) := by decide +kernel
theorem n_32_9 : pm_ins 32 9 = some (.astore 4, 2) := by decide +kernel
theorem n_32_11 : pm_ins 32 11 = some (.iconst 0, 1) := by decide +kernel
theorem n_32_12 : pm_ins 32 12 = some (.istore 5, 2) := by decide +kernel
theorem n_32_14 : pm_ins 32 14 = some (.iload 5, 2) := by decide +kernel
theorem n_32_16 : pm_ins 32 16 = some (.iconst 5, 1) := by decide +kernel
theorem n_32_17 : pm_ins 32 17 = some (.if_icmp .ge 50, 3) := by decide +kernel
theorem n_32_20 : pm_ins 32 20 = some (.aload 4, 2) := by decide +kernel
theorem n_32_22 : pm_ins 32 22 = some (.iload 5, 2) := by decide +kernel
theorem n_32_24 : pm_ins 32 24 = some (.aaload, 1) := by decide +kernel
theorem n_32_25 : pm_ins 32 25 = some (.invokevirtual 305, 3) := by decide +kernel
theorem n_32_28 : pm_ins 32 28 = some (.ifCond .ne 33, 3) := by decide +kernel
theorem n_32_31 : pm_ins 32 31 = some (.aload 4, 2) := by decide +kernel
theorem n_32_33 : pm_ins 32 33 = some (.iload 5, 2) := by decide +kernel
theorem n_32_35 : pm_ins 32 35 = some (.aaload, 1) := by decide +kernel
theorem n_32_36 : pm_ins 32 36 = some (.getfield 308, 3) := by decide +kernel
theorem n_32_39 : pm_ins 32 39 = some (.ifCond .ne 7, 3) := by decide +kernel
theorem n_32_42 : pm_ins 32 42 = some (.iload_n 3, 1) := by decide +kernel
theorem n_32_43 : pm_ins 32 43 = some (.ifCond .ne 18, 3) := by decide +kernel
theorem n_32_46 : pm_ins 32 46 = some (.aload_n 0, 1) := by decide +kernel
theorem n_32_47 : pm_ins 32 47 = some (.aload 4, 2) := by decide +kernel
theorem n_32_49 : pm_ins 32 49 = some (.iload 5, 2) := by decide +kernel
theorem n_32_51 : pm_ins 32 51 = some (.aaload, 1) := by decide +kernel
theorem n_32_52 : pm_ins 32 52 = some (.invokevirtual 285, 3) := by decide +kernel
theorem n_32_55 : pm_ins 32 55 = some (.iload_n 2, 1) := by decide +kernel
theorem n_32_56 : pm_ins 32 56 = some (.if_icmp .ne 5, 3) := by decide +kernel
theorem n_32_59 : pm_ins 32 59 = some (.iconst 1, 1) := by decide +kernel
theorem n_32_60 : pm_ins 32 60 = some (.ireturn, 1) := by decide +kernel
theorem n_32_61 : pm_ins 32 61 = some (.iinc 5 1, 3) := by decide +kernel
theorem n_32_64 : pm_ins 32 64 = some (.goto (-50), 3) := by decide +kernel
theorem n_32_67 : pm_ins 32 67 = some (.iconst 0, 1) := by decide +kernel
theorem n_32_68 : pm_ins 32 68 = some (.ireturn, 1) := by decide +kernel
theorem n_33_0 : pm_ins 33 0 = some (.aload_n 0, 1) := by decide +kernel
theorem n_33_1 : pm_ins 33 1 = some (.getfield 11, 3) := by decide +kernel
theorem n_33_4 : pm_ins 33 4 = some (.aload_n 1, 1) := by decide +kernel
theorem n_33_5 : pm_ins 33 5 = some (.getfield 311, 3) := by decide +kernel
theorem n_33_8 : pm_ins 33 8 = some (.aaload, 1) := by decide +kernel
theorem n_33_9 : pm_ins 33 9 = some (.getfield 81, 3) := by decide +kernel
theorem n_33_12 : pm_ins 33 12 = some (.aload_n 1, 1) := by decide +kernel
theorem n_33_13 : pm_ins 33 13 = some (.getfield 314, 3) := by decide +kernel
theorem n_33_16 : pm_ins 33 16 = some (.aaload, 1) := by decide +kernel
theorem n_33_17 : pm_ins 33 17 = some (.areturn, 1) := by decide +kernel
theorem n_34_0 : pm_ins 34 0 = some (.aload_n 0, 1) := by decide +kernel
theorem n_34_1 : pm_ins 34 1 = some (.aload_n 1, 1) := by decide +kernel
theorem n_34_2 : pm_ins 34 2 = some (.invokevirtual 317, 3) := by decide +kernel
theorem n_34_5 : pm_ins 34 5 = some (.getfield 321, 3) := by decide +kernel
theorem n_34_8 : pm_ins 34 8 = some (.ireturn, 1) := by decide +kernel
theorem n_35_0 : pm_ins 35 0 = some (.aload_n 0, 1) := by decide +kernel
theorem n_35_1 : pm_ins 35 1 = some (.getfield 11, 3) := by decide +kernel
theorem n_35_4 : pm_ins 35 4 = some (.aload_n 1, 1) := by decide +kernel
theorem n_35_5 : pm_ins 35 5 = some (.getfield 324, 3) := by decide +kernel
theorem n_35_8 : pm_ins 35 8 = some (.aaload, 1) := by decide +kernel
theorem n_35_9 : pm_ins 35 9 = some (.getfield 145, 3) := by decide +kernel
theorem n_35_12 : pm_ins 35 12 = some (.aload_n 1, 1) := by decide +kernel
theorem n_35_13 : pm_ins 35 13 = some (.getfield 327, 3) := by decide +kernel
theorem n_35_16 : pm_ins 35 16 = some (.aaload, 1) := by decide +kernel
theorem n_35_17 : pm_ins 35 17 = some (.areturn, 1) := by decide +kernel
theorem n_36_0 : pm_ins 36 0 = some (.aload_n 1, 1) := by decide +kernel
theorem n_36_1 : pm_ins 36 1 = some (.getfield 311, 3) := by decide +kernel
theorem n_36_4 : pm_ins 36 4 = some (.istore_n 2, 1) := by decide +kernel
theorem n_36_5 : pm_ins 36 5 = some (.aload_n 0, 1) := by decide +kernel
theorem n_36_6 : pm_ins 36 6 = some (.aload_n 1, 1) := by decide +kernel
theorem n_36_7 : pm_ins 36 7 = some (.invokevirtual 317, 3) := by decide +kernel
theorem n_36_10 : pm_ins 36 10 = some (.astore_n 3, 1) := by decide +kernel
theorem n_36_11 : pm_ins 36 11 = some (.aload_n 1, 1) := by decide +kernel
theorem n_36_12 : pm_ins 36 12 = some (.invokevirtual 330, 3) := by decide +kernel
theorem n_36_15 : pm_ins 36 15 = some (.aload_n 3, 1) := by decide +kernel
theorem n_36_16 : pm_ins 36 16 = some (.dup, 1) := by decide +kernel
theorem n_36_17 : pm_ins 36 17 = some (.getfield 119, 3) := by decide +kernel
theorem n_36_20 : pm_ins 36 20 = some (.iconst 1, 1) := by decide +kernel
theorem n_36_21 : pm_ins 36 21 = some (.isub, 1) := by decide +kernel
theorem n_36_22 : pm_ins 36 22 = some (.putfield 119, 3) := by decide +kernel
theorem n_36_25 : pm_ins 36 25 = some (.aload_n 0, 1) := by decide +kernel
theorem n_36_26 : pm_ins 36 26 = some (.getfield 11, 3) := by decide +kernel
theorem n_36_29 : pm_ins 36 29 = some (.iload_n 2, 1) := by decide +kernel
theorem n_36_30 : pm_ins 36 30 = some (.aaload, 1) := by decide +kernel
theorem n_36_31 : pm_ins 36 31 = some (.getfield 30, 3) := by decide +kernel
theorem n_36_34 : pm_ins 36 34 = some (.iconst 2, 1) := by decide +kernel
theorem n_36_35 : pm_ins 36 35 = some (.if_icmp .ne 16, 3) := by decide +kernel
theorem n_36_38 : pm_ins 36 38 = some (.aload_n 3, 1) := by decide +kernel
theorem n_36_39 : pm_ins 36 39 = some (.invokevirtual 94, 3) := by decide +kernel
theorem n_36_42 : pm_ins 36 42 = some (.ifCond .ne 9, 3) := by decide +kernel
theorem n_36_45 : pm_ins 36 45 = some (.aload_n 0, 1) := by decide +kernel
theorem n_36_46 : pm_ins 36 46 = some (.iload_n 2, 1) := by decide +kernel
theorem n_36_47 : pm_ins 36 47 = some (.aload_n 3, 1) := by decide +kernel
theorem n_36_48 : pm_ins 36 48 = some (.invokevirtual 331, 3) := by decide +kernel
theorem n_36_51 : pm_ins 36 51 = some (.return_, 1) := by decide +kernel
theorem n_37_0 : pm_ins 37 0 = some (.aload_n 2, 1) := by decide +kernel
theorem n_37_1 : pm_ins 37 1 = some (.getfield 321, 3) := by decide +kernel
theorem n_37_4 : pm_ins 37 4 = some (.istore_n 3, 1) := by decide +kernel
theorem n_37_5 : pm_ins 37 5 = some (.aload_n 2, 1) := by decide +kernel
theorem n_37_6 : pm_ins 37 6 = some (.invokevirtual 98, 3) := by decide +kernel
theorem n_37_9 : pm_ins 37 9 = some (.aload_n 0, 1) := by decide +kernel
theorem n_37_10 : pm_ins 37 10 = some (.getfield 11, 3) := by decide +kernel
theorem n_37_13 : pm_ins 37 13 = some (.iload_n 1, 1) := by decide +kernel
theorem n_37_14 : pm_ins 37 14 = some (.aaload, 1) := by decide +kernel
theorem n_37_15 : pm_ins 37 15 = some (.iload_n 3, 1) := by decide +kernel
theorem n_37_16 : pm_ins 37 16 = some (.invokevirtual 335, 3) := by decide +kernel
theorem n_37_19 : pm_ins 37 19 = some (.ifCond .ne 13, 3) := by decide +kernel
theorem n_37_22 : pm_ins 37 22 = some (.aload_n 0, 1) := by decide +kernel
theorem n_37_23 : pm_ins 37 23 = some (.getfield 17, 3) := by decide +kernel
theorem n_37_26 : pm_ins 37 26 = some (.iload_n 3, 1) := by decide +kernel
theorem n_37_27 : pm_ins 37 27 = some (.aaload, 1) := by decide +kernel
theorem n_37_28 : pm_ins 37 28 = some (.iconst (-1), 1) := by decide +kernel
theorem n_37_29 : pm_ins 37 29 = some (.putfield 61, 3) := by decide +kernel
theorem n_37_32 : pm_ins 37 32 = some (.aload_n 0, 1) := by decide +kernel
theorem n_37_33 : pm_ins 37 33 = some (.iload_n 1, 1) := by decide +kernel
theorem n_37_34 : pm_ins 37 34 = some (.invokevirtual 54, 3) := by decide +kernel
theorem n_37_37 : pm_ins 37 37 = some (.return_, 1) := by decide +kernel
theorem n_38_0 : pm_ins 38 0 = some (.aload_n 0, 1) := by decide +kernel
theorem n_38_1 : pm_ins 38 1 = some (.iload_n 1, 1) := by decide +kernel
theorem n_38_2 : pm_ins 38 2 = some (.invokevirtual 129, 3) := by decide +kernel
theorem n_38_5 : pm_ins 38 5 = some (.ifCond .ne 13, 3) := by decide +kernel
theorem n_38_8 : pm_ins 38 8 = some (.aload_n 0, 1) := by decide +kernel
theorem n_38_9 : pm_ins 38 9 = some (.getfield 11, 3) := by decide +kernel
theorem n_38_12 : pm_ins 38 12 = some (.iload_n 1, 1) := by decide +kernel
theorem n_38_13 : pm_ins 38 13 = some (.aaload, 1) := by decide +kernel
theorem n_38_14 : pm_ins 38 14 = some (.iconst 0, 1) := by decide +kernel
theorem n_38_15 : pm_ins 38 15 = some (.putfield 30, 3) := by decide +kernel
theorem n_38_18 : pm_ins 38 18 = some (.return_, 1) := by decide +kernel
theorem n_39_0 : pm_ins 39 0 = some (.iconst 0, 1) := by decide +kernel
theorem n_39_1 : pm_ins 39 1 = some (.istore_n 2, 1) := by decide +kernel
theorem n_39_2 : pm_ins 39 2 = some (.iload_n 2, 1) := by decide +kernel
theorem n_39_3 : pm_ins 39 3 = some (.iconst 3, 1) := by decide +kernel
theorem n_39_4 : pm_ins 39 4 = some (.if_icmp .ge 45, 3) := by decide +kernel
theorem n_39_7 : pm_ins 39 7 = some (.aload_n 0, 1) := by decide +kernel
theorem n_39_8 : pm_ins 39 8 = some (.getfield 23, 3) := by decide +kernel
theorem n_39_11 : pm_ins 39 11 = some (.iload_n 2, 1) := by decide +kernel
theorem n_39_12 : pm_ins 39 12 = some (.aaload, 1) := by decide +kernel
theorem n_39_13 : pm_ins 39 13 = some (.getfield 224, 3) := by decide +kernel
theorem n_39_16 : pm_ins 39 16 = some (.iload_n 1, 1) := by decide +kernel
theorem n_39_17 : pm_ins 39 17 = some (.if_icmp .eq 16, 3) := by decide +kernel
theorem n_39_20 : pm_ins 39 20 = some (.aload_n 0, 1) := by decide +kernel
theorem n_39_21 : pm_ins 39 21 = some (.getfield 23, 3) := by decide +kernel
theorem n_39_24 : pm_ins 39 24 = some (.iload_n 2, 1) := by decide +kernel
theorem n_39_25 : pm_ins 39 25 = some (.aaload, 1) := by decide +kernel
theorem n_39_26 : pm_ins 39 26 = some (.getfield 233, 3) := by decide +kernel
theorem n_39_29 : pm_ins 39 29 = some (.iload_n 1, 1) := by decide +kernel
theorem n_39_30 : pm_ins 39 30 = some (.if_icmp .ne 13, 3) := by decide +kernel
theorem n_39_33 : pm_ins 39 33 = some (.aload_n 0, 1) := by decide +kernel
theorem n_39_34 : pm_ins 39 34 = some (.getfield 23, 3) := by decide +kernel
theorem n_39_37 : pm_ins 39 37 = some (.iload_n 2, 1) := by decide +kernel
theorem n_39_38 : pm_ins 39 38 = some (.aaload, 1) := by decide +kernel
theorem n_39_39 : pm_ins 39 39 = some (.iconst 0, 1) := by decide +kernel
theorem n_39_40 : pm_ins 39 40 = some (.putfield 295, 3) := by decide +kernel
theorem n_39_43 : pm_ins 39 43 = some (.iinc 2 1, 3) := by decide +kernel
theorem n_39_46 : pm_ins 39 46 = some (.goto (-44), 3) := by decide +kernel
theorem n_39_49 : pm_ins 39 49 = some (.return_, 1) := by decide +kernel
theorem n_40_0 : pm_ins 40 0 = some (.aload_n 0, 1) := by decide +kernel
theorem n_40_1 : pm_ins 40 1 = some (.getfield 11, 3) := by decide +kernel
theorem n_40_4 : pm_ins 40 4 = some (.iload_n 1, 1) := by decide +kernel
theorem n_40_5 : pm_ins 40 5 = some (.aaload, 1) := by decide +kernel
theorem n_40_6 : pm_ins 40 6 = some (.getfield 110, 3) := by decide +kernel
theorem n_40_9 : pm_ins 40 9 = some (.astore_n 2, 1) := by decide +kernel
theorem n_40_10 : pm_ins 40 10 = some (.iconst 0, 1) := by decide +kernel
theorem n_40_11 : pm_ins 40 11 = some (.istore_n 3, 1) := by decide +kernel
theorem n_40_12 : pm_ins 40 12 = some (.iload_n 3, 1) := by decide +kernel
theorem n_40_13 : pm_ins 40 13 = some (.iconst 5, 1) := by decide +kernel
theorem n_40_14 : pm_ins 40 14 = some (.if_icmp .ge 25, 3) := by decide +kernel
theorem n_40_17 : pm_ins 40 17 = some (.aload_n 2, 1) := by decide +kernel
theorem n_40_18 : pm_ins 40 18 = some (.iload_n 3, 1) := by decide +kernel
theorem n_40_19 : pm_ins 40 19 = some (.aaload, 1) := by decide +kernel
theorem n_40_20 : pm_ins 40 20 = some (.invokevirtual 305, 3) := by decide +kernel
theorem n_40_23 : pm_ins 40 23 = some (.ifCond .ne 10, 3) := by decide +kernel
theorem n_40_26 : pm_ins 40 26 = some (.aload_n 0, 1) := by decide +kernel
theorem n_40_27 : pm_ins 40 27 = some (.aload_n 2, 1) := by decide +kernel
theorem n_40_28 : pm_ins 40 28 = some (.iload_n 3, 1) := by decide +kernel
theorem n_40_29 : pm_ins 40 29 = some (.aaload, 1) := by decide +kernel
theorem n_40_30 : pm_ins 40 30 = some (.invokevirtual 125, 3) := by decide +kernel
theorem n_40_33 : pm_ins 40 33 = some (.iinc 3 1, 3) := by decide +kernel
theorem n_40_36 : pm_ins 40 36 = some (.goto (-24), 3) := by decide +kernel
theorem n_40_39 : pm_ins 40 39 = some (.return_, 1) := by decide +kernel
theorem n_41_0 : pm_ins 41 0 = some (.aload_n 0, 1) := by decide +kernel
theorem n_41_1 : pm_ins 41 1 = some (.getfield 11, 3) := by decide +kernel
theorem n_41_4 : pm_ins 41 4 = some (.iload_n 1, 1) := by decide +kernel
theorem n_41_5 : pm_ins 41 5 = some (.aaload, 1) := by decide +kernel
theorem n_41_6 : pm_ins 41 6 = some (.getfield 145, 3) := by decide +kernel
theorem n_41_9 : pm_ins 41 9 = some (.astore_n 2, 1) := by decide +kernel
theorem n_41_10 : pm_ins 41 10 = some (.iconst 0, 1) := by decide +kernel
theorem n_41_11 : pm_ins 41 11 = some (.istore_n 3, 1) := by decide +kernel
theorem n_41_12 : pm_ins 41 12 = some (.iload_n 3, 1) := by decide +kernel
theorem n_41_13 : pm_ins 41 13 = some (.iconst 4, 1) := by decide +kernel
theorem n_41_14 : pm_ins 41 14 = some (.if_icmp .ge 35, 3) := by decide +kernel
theorem n_41_17 : pm_ins 41 17 = some (.aload_n 2, 1) := by decide +kernel
theorem n_41_18 : pm_ins 41 18 = some (.iload_n 3, 1) := by decide +kernel
theorem n_41_19 : pm_ins 41 19 = some (.aaload, 1) := by decide +kernel
theorem n_41_20 : pm_ins 41 20 = some (.getfield 164, 3) := by decide +kernel
theorem n_41_23 : pm_ins 41 23 = some (.iconst 2, 1) := by decide +kernel
theorem n_41_24 : pm_ins 41 24 = some (.if_icmp .ne 13, 3) := by decide +kernel
theorem n_41_27 : pm_ins 41 27 = some (.aload_n 0, 1) := by decide +kernel
theorem n_41_28 : pm_ins 41 28 = some (.aload_n 2, 1) := by decide +kernel
theorem n_41_29 : pm_ins 41 29 = some (.iload_n 3, 1) := by decide +kernel
theorem n_41_30 : pm_ins 41 30 = some (.aaload, 1) := by decide +kernel
theorem n_41_31 : pm_ins 41 31 = some (.invokevirtual 165, 3) := by decide +kernel
theorem n_41_34 : pm_ins 41 34 = some (.invokevirtual 338, 3) := by decide +kernel
theorem n_41_37 : pm_ins 41 37 = some (.aload_n 2, 1) := by decide +kernel
theorem n_41_38 : pm_ins 41 38 = some (.iload_n 3, 1) := by decide +kernel
theorem n_41_39 : pm_ins 41 39 = some (.aaload, 1) := by decide +kernel
theorem n_41_40 : pm_ins 41 40 = some (.invokevirtual 338, 3) := by decide +kernel
theorem n_41_43 : pm_ins 41 43 = some (.iinc 3 1, 3) := by decide +kernel
theorem n_41_46 : pm_ins 41 46 = some (.goto (-34), 3) := by decide +kernel
theorem n_41_49 : pm_ins 41 49 = some (.return_, 1) := by decide +kernel
theorem n_42_0 : pm_ins 42 0 = some (.iconst 0, 1) := by decide +kernel
theorem n_42_1 : pm_ins 42 1 = some (.istore_n 2, 1) := by decide +kernel
theorem n_42_2 : pm_ins 42 2 = some (.iload_n 2, 1) := by decide +kernel
theorem n_42_3 : pm_ins 42 3 = some (.bipush 20, 2) := by decide +kernel
theorem n_42_5 : pm_ins 42 5 = some (.if_icmp .ge 45, 3) := by decide +kernel
theorem n_42_8 : pm_ins 42 8 = some (.aload_n 0, 1) := by decide +kernel
theorem n_42_9 : pm_ins 42 9 = some (.getfield 17, 3) := by decide +kernel
theorem n_42_12 : pm_ins 42 12 = some (.iload_n 2, 1) := by decide +kernel
theorem n_42_13 : pm_ins 42 13 = some (.aaload, 1) := by decide +kernel
theorem n_42_14 : pm_ins 42 14 = some (.getfield 61, 3) := by decide +kernel
theorem n_42_17 : pm_ins 42 17 = some (.iload_n 1, 1) := by decide +kernel
theorem n_42_18 : pm_ins 42 18 = some (.if_icmp .ne 26, 3) := by decide +kernel
theorem n_42_21 : pm_ins 42 21 = some (.aload_n 0, 1) := by decide +kernel
theorem n_42_22 : pm_ins 42 22 = some (.getfield 11, 3) := by decide +kernel
theorem n_42_25 : pm_ins 42 25 = some (.iload_n 1, 1) := by decide +kernel
theorem n_42_26 : pm_ins 42 26 = some (.aaload, 1) := by decide +kernel
theorem n_42_27 : pm_ins 42 27 = some (.iload_n 2, 1) := by decide +kernel
theorem n_42_28 : pm_ins 42 28 = some (.invokevirtual 335, 3) := by decide +kernel
theorem n_42_31 : pm_ins 42 31 = some (.ifCond .ne 13, 3) := by decide +kernel
theorem n_42_34 : pm_ins 42 34 = some (.aload_n 0, 1) := by decide +kernel
theorem n_42_35 : pm_ins 42 35 = some (.getfield 17, 3) := by decide +kernel
theorem n_42_38 : pm_ins 42 38 = some (.iload_n 2, 1) := by decide +kernel
theorem n_42_39 : pm_ins 42 39 = some (.aaload, 1) := by decide +kernel
theorem n_42_40 : pm_ins 42 40 = some (.iconst (-1), 1) := by decide +kernel
theorem n_42_41 : pm_ins 42 41 = some (.putfield 61, 3) := by decide +kernel
theorem n_42_44 : pm_ins 42 44 = some (.iinc 2 1, 3) := by decide +kernel
theorem n_42_47 : pm_ins 42 47 = some (.goto (-45), 3) := by decide +kernel
theorem n_42_50 : pm_ins 42 50 = some (.return_, 1) := by decide +kernel
theorem n_43_0 : pm_ins 43 0 = some (.iconst 0, 1) := by decide +kernel
theorem n_43_1 : pm_ins 43 1 = some (.istore_n 1, 1) := by decide +kernel
theorem n_43_2 : pm_ins 43 2 = some (.iload_n 1, 1) := by decide +kernel
theorem n_43_3 : pm_ins 43 3 = some (.iconst 3, 1) := by decide +kernel
theorem n_43_4 : pm_ins 43 4 = some (.if_icmp .ge 23, 3) := by decide +kernel
theorem n_43_7 : pm_ins 43 7 = some (.aload_n 0, 1) := by decide +kernel
theorem n_43_8 : pm_ins 43 8 = some (.getfield 23, 3) := by decide +kernel
theorem n_43_11 : pm_ins 43 11 = some (.iload_n 1, 1) := by decide +kernel
theorem n_43_12 : pm_ins 43 12 = some (.aaload, 1) := by decide +kernel
theorem n_43_13 : pm_ins 43 13 = some (.getfield 295, 3) := by decide +kernel
theorem n_43_16 : pm_ins 43 16 = some (.ifCond .ne 5, 3) := by decide +kernel
theorem n_43_19 : pm_ins 43 19 = some (.iload_n 1, 1) := by decide +kernel
theorem n_43_20 : pm_ins 43 20 = some (.ireturn, 1) := by decide +kernel
theorem n_43_21 : pm_ins 43 21 = some (.iinc 1 1, 3) := by decide +kernel
theorem n_43_24 : pm_ins 43 24 = some (.goto (-22), 3) := by decide +kernel
theorem n_43_27 : pm_ins 43 27 = some (.iconst (-1), 1) := by decide +kernel
theorem n_43_28 : pm_ins 43 28 = some (.ireturn, 1) := by decide +kernel
theorem n_44_0 : pm_ins 44 0 = some (.aload_n 0, 1) := by decide +kernel
theorem n_44_1 : pm_ins 44 1 = some (.iload_n 1, 1) := by decide +kernel
theorem n_44_2 : pm_ins 44 2 = some (.invokevirtual 57, 3) := by decide +kernel
theorem n_44_5 : pm_ins 44 5 = some (.iconst (-1), 1) := by decide +kernel
theorem n_44_6 : pm_ins 44 6 = some (.if_icmp .eq 20, 3) := by decide +kernel
theorem n_44_9 : pm_ins 44 9 = some (.aload_n 0, 1) := by decide +kernel
theorem n_44_10 : pm_ins 44 10 = some (.getfield 11, 3) := by decide +kernel
theorem n_44_13 : pm_ins 44 13 = some (.iload_n 1, 1) := by decide +kernel
theorem n_44_14 : pm_ins 44 14 = some (.aaload, 1) := by decide +kernel
theorem n_44_15 : pm_ins 44 15 = some (.invokevirtual 77, 3) := by decide +kernel
theorem n_44_18 : pm_ins 44 18 = some (.iconst (-1), 1) := by decide +kernel
theorem n_44_19 : pm_ins 44 19 = some (.if_icmp .eq 7, 3) := by decide +kernel
theorem n_44_22 : pm_ins 44 22 = some (.iconst 1, 1) := by decide +kernel
theorem n_44_23 : pm_ins 44 23 = some (.goto 4, 3) := by decide +kernel
theorem n_44_26 : pm_ins 44 26 = some (.iconst 0, 1) := by decide +kernel
theorem n_44_27 : pm_ins 44 27 = some (.ireturn, 1) := by decide +kernel
theorem n_45_0 : pm_ins 45 0 = some (.aload_n 0, 1) := by decide +kernel
theorem n_45_1 : pm_ins 45 1 = some (.iload_n 1, 1) := by decide +kernel
theorem n_45_2 : pm_ins 45 2 = some (.invokevirtual 227, 3) := by decide +kernel
theorem n_45_5 : pm_ins 45 5 = some (.ifCond .eq 20, 3) := by decide +kernel
theorem n_45_8 : pm_ins 45 8 = some (.aload_n 0, 1) := by decide +kernel
theorem n_45_9 : pm_ins 45 9 = some (.getfield 11, 3) := by decide +kernel
theorem n_45_12 : pm_ins 45 12 = some (.iload_n 1, 1) := by decide +kernel
theorem n_45_13 : pm_ins 45 13 = some (.aaload, 1) := by decide +kernel
theorem n_45_14 : pm_ins 45 14 = some (.invokevirtual 142, 3) := by decide +kernel
theorem n_45_17 : pm_ins 45 17 = some (.iconst (-1), 1) := by decide +kernel
theorem n_45_18 : pm_ins 45 18 = some (.if_icmp .eq 7, 3) := by decide +kernel
theorem n_45_21 : pm_ins 45 21 = some (.iconst 1, 1) := by decide +kernel
theorem n_45_22 : pm_ins 45 22 = some (.goto 4, 3) := by decide +kernel
theorem n_45_25 : pm_ins 45 25 = some (.iconst 0, 1) := by decide +kernel
theorem n_45_26 : pm_ins 45 26 = some (.ireturn, 1) := by decide +kernel
theorem n_46_0 : pm_ins 46 0 = some (.aload_n 0, 1) := by decide +kernel
theorem n_46_1 : pm_ins 46 1 = some (.getfield 11, 3) := by decide +kernel
theorem n_46_4 : pm_ins 46 4 = some (.iload_n 1, 1) := by decide +kernel
theorem n_46_5 : pm_ins 46 5 = some (.aaload, 1) := by decide +kernel
theorem n_46_6 : pm_ins 46 6 = some (.invokevirtual 107, 3) := by decide +kernel
theorem n_46_9 : pm_ins 46 9 = some (.iconst (-1), 1) := by decide +kernel
theorem n_46_10 : pm_ins 46 10 = some (.if_icmp .eq 20, 3) := by decide +kernel
theorem n_46_13 : pm_ins 46 13 = some (.aload_n 0, 1) := by decide +kernel
theorem n_46_14 : pm_ins 46 14 = some (.getfield 11, 3) := by decide +kernel
theorem n_46_17 : pm_ins 46 17 = some (.iload_n 1, 1) := by decide +kernel
theorem n_46_18 : pm_ins 46 18 = some (.aaload, 1) := by decide +kernel
theorem n_46_19 : pm_ins 46 19 = some (.invokevirtual 142, 3) := by decide +kernel
theorem n_46_22 : pm_ins 46 22 = some (.iconst (-1), 1) := by decide +kernel
theorem n_46_23 : pm_ins 46 23 = some (.if_icmp .eq 7, 3) := by decide +kernel
theorem n_46_26 : pm_ins 46 26 = some (.iconst 1, 1) := by decide +kernel
theorem n_46_27 : pm_ins 46 27 = some (.goto 4, 3) := by decide +kernel
theorem n_46_30 : pm_ins 46 30 = some (.iconst 0, 1) := by decide +kernel
theorem n_46_31 : pm_ins 46 31 = some (.ireturn, 1) := by decide +kernel
theorem n_47_0 : pm_ins 47 0 = some (.aload_n 0, 1) := by decide +kernel
theorem n_47_1 : pm_ins 47 1 = some (.iload_n 1, 1) := by decide +kernel
theorem n_47_2 : pm_ins 47 2 = some (.invokevirtual 289, 3) := by decide +kernel
theorem n_47_5 : pm_ins 47 5 = some (.ifCond .ne 6, 3) := by decide +kernel
theorem n_47_8 : pm_ins 47 8 = some (.bipush (-9), 2) := by decide +kernel
theorem n_47_10 : pm_ins 47 10 = some (.ireturn, 1) := by decide +kernel
theorem n_47_11 : pm_ins 47 11 = some (.aload_n 0, 1) := by decide +kernel
theorem n_47_12 : pm_ins 47 12 = some (.aload_n 0, 1) := by decide +kernel
theorem n_47_13 : pm_ins 47 13 = some (.getfield 23, 3) := by decide +kernel
theorem n_47_16 : pm_ins 47 16 = some (.iload_n 1, 1) := by decide +kernel
theorem n_47_17 : pm_ins 47 17 = some (.aaload, 1) := by decide +kernel
theorem n_47_18 : pm_ins 47 18 = some (.invokevirtual 341, 3) := by decide +kernel
theorem n_47_21 : pm_ins 47 21 = some (.ifCond .eq 7, 3) := by decide +kernel
theorem n_47_24 : pm_ins 47 24 = some (.iconst 0, 1) := by decide +kernel
theorem n_47_25 : pm_ins 47 25 = some (.goto 5, 3) := by decide +kernel
theorem n_47_28 : pm_ins 47 28 = some (.bipush (-10), 2) := by decide +kernel
theorem n_47_30 : pm_ins 47 30 = some (.ireturn, 1) := by decide +kernel
theorem n_48_0 : pm_ins 48 0 = some (.aload_n 0, 1) := by decide +kernel
theorem n_48_1 : pm_ins 48 1 = some (.getfield 11, 3) := by decide +kernel
theorem n_48_4 : pm_ins 48 4 = some (.aload_n 1, 1) := by decide +kernel
theorem n_48_5 : pm_ins 48 5 = some (.getfield 233, 3) := by decide +kernel
theorem n_48_8 : pm_ins 48 8 = some (.aaload, 1) := by decide +kernel
theorem n_48_9 : pm_ins 48 9 = some (.getfield 110, 3) := by decide +kernel
theorem n_48_12 : pm_ins 48 12 = some (.aload_n 1, 1) := by decide +kernel
theorem n_48_13 : pm_ins 48 13 = some (.getfield 201, 3) := by decide +kernel
theorem n_48_16 : pm_ins 48 16 = some (.aaload, 1) := by decide +kernel
theorem n_48_17 : pm_ins 48 17 = some (.astore_n 2, 1) := by decide +kernel
theorem n_48_18 : pm_ins 48 18 = some (.aload_n 2, 1) := by decide +kernel
theorem n_48_19 : pm_ins 48 19 = some (.getfield 311, 3) := by decide +kernel
theorem n_48_22 : pm_ins 48 22 = some (.aload_n 1, 1) := by decide +kernel
theorem n_48_23 : pm_ins 48 23 = some (.getfield 224, 3) := by decide +kernel
theorem n_48_26 : pm_ins 48 26 = some (.if_icmp .ne 37, 3) := by decide +kernel
theorem n_48_29 : pm_ins 48 29 = some (.aload_n 2, 1) := by decide +kernel
theorem n_48_30 : pm_ins 48 30 = some (.getfield 314, 3) := by decide +kernel
theorem n_48_33 : pm_ins 48 33 = some (.aload_n 1, 1) := by decide +kernel
theorem n_48_34 : pm_ins 48 34 = some (.getfield 195, 3) := by decide +kernel
theorem n_48_37 : pm_ins 48 37 = some (.if_icmp .ne 26, 3) := by decide +kernel
theorem n_48_40 : pm_ins 48 40 = some (.aload_n 2, 1) := by decide +kernel
theorem n_48_41 : pm_ins 48 41 = some (.getfield 308, 3) := by decide +kernel
theorem n_48_44 : pm_ins 48 44 = some (.ifCond .eq 19, 3) := by decide +kernel
theorem n_48_47 : pm_ins 48 47 = some (.aload_n 0, 1) := by decide +kernel
theorem n_48_48 : pm_ins 48 48 = some (.aload_n 2, 1) := by decide +kernel
theorem n_48_49 : pm_ins 48 49 = some (.invokevirtual 285, 3) := by decide +kernel
theorem n_48_52 : pm_ins 48 52 = some (.aload_n 1, 1) := by decide +kernel
theorem n_48_53 : pm_ins 48 53 = some (.getfield 188, 3) := by decide +kernel
theorem n_48_56 : pm_ins 48 56 = some (.if_icmp .ne 7, 3) := by decide +kernel
theorem n_48_59 : pm_ins 48 59 = some (.iconst 1, 1) := by decide +kernel
theorem n_48_60 : pm_ins 48 60 = some (.goto 4, 3) := by decide +kernel
theorem n_48_63 : pm_ins 48 63 = some (.iconst 0, 1) := by decide +kernel
theorem n_48_64 : pm_ins 48 64 = some (.ireturn, 1) := by decide +kernel
theorem n_49_0 : pm_ins 49 0 = some (.aload_n 1, 1) := by decide +kernel
theorem n_49_1 : pm_ins 49 1 = some (.getfield 345, 3) := by decide +kernel
theorem n_49_4 : pm_ins 49 4 = some (.istore 5, 2) := by decide +kernel
theorem n_49_6 : pm_ins 49 6 = some (.iload 5, 2) := by decide +kernel
theorem n_49_8 : pm_ins 49 8 = some (.iconst 3, 1) := by decide +kernel
theorem n_49_9 : pm_ins 49 9 = some (.irem, 1) := by decide +kernel
theorem n_49_10 : pm_ins 49 10 = some (.istore 6, 2) := by decide +kernel
theorem n_49_12 : pm_ins 49 12 = some (.aload_n 0, 1) := by decide +kernel
theorem n_49_13 : pm_ins 49 13 = some (.getfield 17, 3) := by decide +kernel
theorem n_49_16 : pm_ins 49 16 = some (.aload_n 1, 1) := by decide +kernel
theorem n_49_17 : pm_ins 49 17 = some (.getfield 188, 3) := by decide +kernel
theorem n_49_20 : pm_ins 49 20 = some (.aaload, 1) := by decide +kernel
theorem n_49_21 : pm_ins 49 21 = some (.getfield 136, 3) := by decide +kernel
theorem n_49_24 : pm_ins 49 24 = some (.astore 7, 2) := by decide +kernel
theorem n_49_26 : pm_ins 49 26 = some (.aload_n 1, 1) := by decide +kernel
theorem n_49_27 : pm_ins 49 27 = some (.getfield 259, 3) := by decide +kernel
theorem n_49_30 : pm_ins 49 30 = some (.iload 6, 2) := by decide +kernel
theorem n_49_32 : pm_ins 49 32 = some (.iload_n 2, 1) := by decide +kernel
theorem n_49_33 : pm_ins 49 33 = some (.iastore, 1) := by decide +kernel
theorem n_49_34 : pm_ins 49 34 = some (.aload_n 1, 1) := by decide +kernel
theorem n_49_35 : pm_ins 49 35 = some (.getfield 266, 3) := by decide +kernel
theorem n_49_38 : pm_ins 49 38 = some (.iload 6, 2) := by decide +kernel
theorem n_49_40 : pm_ins 49 40 = some (.iload_n 3, 1) := by decide +kernel
theorem n_49_41 : pm_ins 49 41 = some (.iastore, 1) := by decide +kernel
theorem n_49_42 : pm_ins 49 42 = some (.aload 7, 2) := by decide +kernel
theorem n_49_44 : pm_ins 49 44 = some (.iconst 2, 1) := by decide +kernel
theorem n_49_45 : pm_ins 49 45 = some (.iload 6, 2) := by decide +kernel
theorem n_49_47 : pm_ins 49 47 = some (.iadd, 1) := by decide +kernel
theorem n_49_48 : pm_ins 49 48 = some (.iload 4, 2) := by decide +kernel
theorem n_49_50 : pm_ins 49 50 = some (.iastore, 1) := by decide +kernel
theorem n_49_51 : pm_ins 49 51 = some (.aload_n 1, 1) := by decide +kernel
theorem n_49_52 : pm_ins 49 52 = some (.dup, 1) := by decide +kernel
theorem n_49_53 : pm_ins 49 53 = some (.getfield 345, 3) := by decide +kernel
theorem n_49_56 : pm_ins 49 56 = some (.iconst 1, 1) := by decide +kernel
theorem n_49_57 : pm_ins 49 57 = some (.iadd, 1) := by decide +kernel
theorem n_49_58 : pm_ins 49 58 = some (.putfield 345, 3) := by decide +kernel
theorem n_49_61 : pm_ins 49 61 = some (.aload 7, 2) := by decide +kernel
theorem n_49_63 : pm_ins 49 63 = some (.iconst 0, 1) := by decide +kernel
theorem n_49_64 : pm_ins 49 64 = some (.aload_n 1, 1) := by decide +kernel
theorem n_49_65 : pm_ins 49 65 = some (.getfield 345, 3) := by decide +kernel
theorem n_49_68 : pm_ins 49 68 = some (.iastore, 1) := by decide +kernel
theorem n_49_69 : pm_ins 49 69 = some (.aload_n 0, 1) := by decide +kernel
theorem n_49_70 : pm_ins 49 70 = some (.aload_n 1, 1) := by decide +kernel
theorem n_49_71 : pm_ins 49 71 = some (.getfield 224, 3) := by decide +kernel
theorem n_49_74 : pm_ins 49 74 = some (.aload_n 1, 1) := by decide +kernel
theorem n_49_75 : pm_ins 49 75 = some (.getfield 208, 3) := by decide +kernel
theorem n_49_78 : pm_ins 49 78 = some (.invokevirtual 249, 3) := by decide +kernel
theorem n_49_81 : pm_ins 49 81 = some (.pop, 1) := by decide +kernel
theorem n_49_82 : pm_ins 49 82 = some (.iload 5, 2) := by decide +kernel
theorem n_49_84 : pm_ins 49 84 = some (.ireturn, 1) := by decide +kernel
theorem n_50_0 : pm_ins 50 0 = some (.iload_n 2, 1) := by decide +kernel
theorem n_50_1 : pm_ins 50 1 = some (.bipush 7, 2) := by decide +kernel
theorem n_50_3 : pm_ins 50 3 = some (.iand, 1) := by decide +kernel
theorem n_50_4 : pm_ins 50 4 = some (.istore_n 3, 1) := by decide +kernel
theorem n_50_5 : pm_ins 50 5 = some (.iload_n 2, 1) := by decide +kernel
theorem n_50_6 : pm_ins 50 6 = some (.bipush 8, 2) := by decide +kernel
theorem n_50_8 : pm_ins 50 8 = some (.iand, 1) := by decide +kernel
theorem n_50_9 : pm_ins 50 9 = some (.ifCond .eq 7, 3) := by decide +kernel
theorem n_50_12 : pm_ins 50 12 = some (.iconst 1, 1) := by decide +kernel
theorem n_50_13 : pm_ins 50 13 = some (.goto 4, 3) := by decide +kernel
theorem n_50_16 : pm_ins 50 16 = some (.iconst 0, 1) := by decide +kernel
theorem n_50_17 : pm_ins 50 17 = some (.istore 4, 2) := by decide +kernel
theorem n_50_19 : pm_ins 50 19 = some (.aload_n 0, 1) := by decide +kernel
theorem n_50_20 : pm_ins 50 20 = some (.aload_n 1, 1) := by decide +kernel
theorem n_50_21 : pm_ins 50 21 = some (.getfield 233, 3) := by decide +kernel
theorem n_50_24 : pm_ins 50 24 = some (.aload_n 1, 1) := by decide +kernel
theorem n_50_25 : pm_ins 50 25 = some (.getfield 224, 3) := by decide +kernel
theorem n_50_28 : pm_ins 50 28 = some (.iload_n 2, 1) := by decide +kernel
theorem n_50_29 : pm_ins 50 29 = some (.iconst 4, 1) := by decide +kernel
theorem n_50_30 : pm_ins 50 30 = some (.ishr, 1) := by decide +kernel
theorem n_50_31 : pm_ins 50 31 = some (.iload 4, 2) := by decide +kernel
theorem n_50_33 : pm_ins 50 33 = some (.ifCond .ne 7, 3) := by decide +kernel
theorem n_50_36 : pm_ins 50 36 = some (.iconst 1, 1) := by decide +kernel
theorem n_50_37 : pm_ins 50 37 = some (.goto 4, 3) := by decide +kernel
theorem n_50_40 : pm_ins 50 40 = some (.iconst 0, 1) := by decide +kernel
theorem n_50_41 : pm_ins 50 41 = some (.invokevirtual 198, 3) := by decide +kernel
theorem n_50_44 : pm_ins 50 44 = some (.istore 5, 2) := by decide +kernel
theorem n_50_46 : pm_ins 50 46 = some (.iload 5, 2) := by decide +kernel
theorem n_50_48 : pm_ins 50 48 = some (.ifCond .ge 6, 3) := by decide +kernel
theorem n_50_51 : pm_ins 50 51 = some (.iload 5, 2) := by decide +kernel
theorem n_50_53 : pm_ins 50 53 = some (.ireturn, 1) := by decide +kernel
theorem n_50_54 : pm_ins 50 54 = some (.aload_n 0, 1) := by decide +kernel
theorem n_50_55 : pm_ins 50 55 = some (.getfield 17, 3) := by decide +kernel
theorem n_50_58 : pm_ins 50 58 = some (.aload_n 0, 1) := by decide +kernel
theorem n_50_59 : pm_ins 50 59 = some (.aload_n 0, 1) := by decide +kernel
theorem n_50_60 : pm_ins 50 60 = some (.getfield 11, 3) := by decide +kernel
theorem n_50_63 : pm_ins 50 63 = some (.aload_n 1, 1) := by decide +kernel
theorem n_50_64 : pm_ins 50 64 = some (.getfield 233, 3) := by decide +kernel
theorem n_50_67 : pm_ins 50 67 = some (.aaload, 1) := by decide +kernel
theorem n_50_68 : pm_ins 50 68 = some (.getfield 110, 3) := by decide +kernel
theorem n_50_71 : pm_ins 50 71 = some (.iload 5, 2) := by decide +kernel
theorem n_50_73 : pm_ins 50 73 = some (.aaload, 1) := by decide +kernel
theorem n_50_74 : pm_ins 50 74 = some (.invokevirtual 285, 3) := by decide +kernel
theorem n_50_77 : pm_ins 50 77 = some (.aaload, 1) := by decide +kernel
theorem n_50_78 : pm_ins 50 78 = some (.getfield 136, 3) := by decide +kernel
theorem n_50_81 : pm_ins 50 81 = some (.astore 6, 2) := by decide +kernel
theorem n_50_83 : pm_ins 50 83 = some (.iload 4, 2) := by decide +kernel
theorem n_50_85 : pm_ins 50 85 = some (.ifCond .eq 16, 3) := by decide +kernel
theorem n_50_88 : pm_ins 50 88 = some (.aload_n 1, 1) := by decide +kernel
theorem n_50_89 : pm_ins 50 89 = some (.getfield 292, 3) := by decide +kernel
theorem n_50_92 : pm_ins 50 92 = some (.iload_n 3, 1) := by decide +kernel
theorem n_50_93 : pm_ins 50 93 = some (.aload 6, 2) := by decide +kernel
theorem n_50_95 : pm_ins 50 95 = some (.iconst 0, 1) := by decide +kernel
theorem n_50_96 : pm_ins 50 96 = some (.iaload, 1) := by decide +kernel
theorem n_50_97 : pm_ins 50 97 = some (.iastore, 1) := by decide +kernel
theorem n_50_98 : pm_ins 50 98 = some (.goto 13, 3) := by decide +kernel
theorem n_50_101 : pm_ins 50 101 = some (.aload 6, 2) := by decide +kernel
theorem n_50_103 : pm_ins 50 103 = some (.iconst 0, 1) := by decide +kernel
theorem n_50_104 : pm_ins 50 104 = some (.aload_n 1, 1) := by decide +kernel
theorem n_50_105 : pm_ins 50 105 = some (.getfield 292, 3) := by decide +kernel
theorem n_50_108 : pm_ins 50 108 = some (.iload_n 3, 1) := by decide +kernel
theorem n_50_109 : pm_ins 50 109 = some (.iaload, 1) := by decide +kernel
theorem n_50_110 : pm_ins 50 110 = some (.iastore, 1) := by decide +kernel
theorem n_50_111 : pm_ins 50 111 = some (.aload_n 0, 1) := by decide +kernel
theorem n_50_112 : pm_ins 50 112 = some (.aload_n 1, 1) := by decide +kernel
theorem n_50_113 : pm_ins 50 113 = some (.getfield 233, 3) := by decide +kernel
theorem n_50_116 : pm_ins 50 116 = some (.iload 5, 2) := by decide +kernel
theorem n_50_118 : pm_ins 50 118 = some (.invokevirtual 348, 3) := by decide +kernel
theorem n_50_121 : pm_ins 50 121 = some (.pop, 1) := by decide +kernel
theorem n_50_122 : pm_ins 50 122 = some (.iconst 0, 1) := by decide +kernel
theorem n_50_123 : pm_ins 50 123 = some (.ireturn, 1) := by decide +kernel
theorem n_52_0 : pm_ins 52 0 = some (.iload_n 1, 1) := by decide +kernel
theorem n_52_1 : pm_ins 52 1 = some (.ifCond .lt 25, 3) := by decide +kernel
theorem n_52_4 : pm_ins 52 4 = some (.iload_n 1, 1) := by decide +kernel
theorem n_52_5 : pm_ins 52 5 = some (.bipush 6, 2) := by decide +kernel
theorem n_52_7 : pm_ins 52 7 = some (.if_icmp .ge 19, 3) := by decide +kernel
theorem n_52_10 : pm_ins 52 10 = some (.aload_n 0, 1) := by decide +kernel
theorem n_52_11 : pm_ins 52 11 = some (.getfield 17, 3) := by decide +kernel
theorem n_52_14 : pm_ins 52 14 = some (.iload_n 1, 1) := by decide +kernel
theorem n_52_15 : pm_ins 52 15 = some (.aaload, 1) := by decide +kernel
theorem n_52_16 : pm_ins 52 16 = some (.invokevirtual 36, 3) := by decide +kernel
theorem n_52_19 : pm_ins 52 19 = some (.ifCond .ne 7, 3) := by decide +kernel
theorem n_52_22 : pm_ins 52 22 = some (.iconst 1, 1) := by decide +kernel
theorem n_52_23 : pm_ins 52 23 = some (.goto 4, 3) := by decide +kernel
theorem n_52_26 : pm_ins 52 26 = some (.iconst 0, 1) := by decide +kernel
theorem n_52_27 : pm_ins 52 27 = some (.ireturn, 1) := by decide +kernel
theorem n_53_0 : pm_ins 53 0 = some (.iload_n 1, 1) := by decide +kernel
theorem n_53_1 : pm_ins 53 1 = some (.ifCond .lt 24, 3) := by decide +kernel
theorem n_53_4 : pm_ins 53 4 = some (.iload_n 1, 1) := by decide +kernel
theorem n_53_5 : pm_ins 53 5 = some (.iconst 5, 1) := by decide +kernel
theorem n_53_6 : pm_ins 53 6 = some (.if_icmp .ge 19, 3) := by decide +kernel
theorem n_53_9 : pm_ins 53 9 = some (.aload_n 0, 1) := by decide +kernel
theorem n_53_10 : pm_ins 53 10 = some (.getfield 23, 3) := by decide +kernel
theorem n_53_13 : pm_ins 53 13 = some (.iload_n 1, 1) := by decide +kernel
theorem n_53_14 : pm_ins 53 14 = some (.aaload, 1) := by decide +kernel
theorem n_53_15 : pm_ins 53 15 = some (.invokevirtual 40, 3) := by decide +kernel
theorem n_53_18 : pm_ins 53 18 = some (.ifCond .ne 7, 3) := by decide +kernel
theorem n_53_21 : pm_ins 53 21 = some (.iconst 1, 1) := by decide +kernel
theorem n_53_22 : pm_ins 53 22 = some (.goto 4, 3) := by decide +kernel
theorem n_53_25 : pm_ins 53 25 = some (.iconst 0, 1) := by decide +kernel
theorem n_53_26 : pm_ins 53 26 = some (.ireturn, 1) := by decide +kernel
theorem n_54_0 : pm_ins 54 0 = some (.iconst 0, 1) := by decide +kernel
theorem n_54_1 : pm_ins 54 1 = some (.istore_n 2, 1) := by decide +kernel
theorem n_54_2 : pm_ins 54 2 = some (.iload_n 2, 1) := by decide +kernel
theorem n_54_3 : pm_ins 54 3 = some (.bipush 6, 2) := by decide +kernel
theorem n_54_5 : pm_ins 54 5 = some (.if_icmp .ge 24, 3) := by decide +kernel
theorem n_54_8 : pm_ins 54 8 = some (.aload_n 0, 1) := by decide +kernel
theorem n_54_9 : pm_ins 54 9 = some (.getfield 17, 3) := by decide +kernel
theorem n_54_12 : pm_ins 54 12 = some (.iload_n 2, 1) := by decide +kernel
theorem n_54_13 : pm_ins 54 13 = some (.aaload, 1) := by decide +kernel
theorem n_54_14 : pm_ins 54 14 = some (.getfield 41, 3) := by decide +kernel
theorem n_54_17 : pm_ins 54 17 = some (.iload_n 1, 1) := by decide +kernel
theorem n_54_18 : pm_ins 54 18 = some (.if_icmp .ne 5, 3) := by decide +kernel
theorem n_54_21 : pm_ins 54 21 = some (.iconst 1, 1) := by decide +kernel
theorem n_54_22 : pm_ins 54 22 = some (.ireturn, 1) := by decide +kernel
theorem n_54_23 : pm_ins 54 23 = some (.iinc 2 1, 3) := by decide +kernel
theorem n_54_26 : pm_ins 54 26 = some (.goto (-24), 3) := by decide +kernel
theorem n_54_29 : pm_ins 54 29 = some (.iconst 0, 1) := by decide +kernel
theorem n_54_30 : pm_ins 54 30 = some (.ireturn, 1) := by decide +kernel
theorem n_55_0 : pm_ins 55 0 = some (.iconst 0, 1) := by decide +kernel
theorem n_55_1 : pm_ins 55 1 = some (.istore_n 2, 1) := by decide +kernel
theorem n_55_2 : pm_ins 55 2 = some (.iload_n 2, 1) := by decide +kernel
theorem n_55_3 : pm_ins 55 3 = some (.bipush 6, 2) := by decide +kernel
theorem n_55_5 : pm_ins 55 5 = some (.if_icmp .ge 36, 3) := by decide +kernel
theorem n_55_8 : pm_ins 55 8 = some (.aload_n 0, 1) := by decide +kernel
theorem n_55_9 : pm_ins 55 9 = some (.getfield 17, 3) := by decide +kernel
theorem n_55_12 : pm_ins 55 12 = some (.iload_n 2, 1) := by decide +kernel
theorem n_55_13 : pm_ins 55 13 = some (.aaload, 1) := by decide +kernel
theorem n_55_14 : pm_ins 55 14 = some (.getfield 41, 3) := by decide +kernel
theorem n_55_17 : pm_ins 55 17 = some (.iload_n 1, 1) := by decide +kernel
theorem n_55_18 : pm_ins 55 18 = some (.if_icmp .ne 17, 3) := by decide +kernel
theorem n_55_21 : pm_ins 55 21 = some (.aload_n 0, 1) := by decide +kernel
theorem n_55_22 : pm_ins 55 22 = some (.getfield 17, 3) := by decide +kernel
theorem n_55_25 : pm_ins 55 25 = some (.iload_n 2, 1) := by decide +kernel
theorem n_55_26 : pm_ins 55 26 = some (.aaload, 1) := by decide +kernel
theorem n_55_27 : pm_ins 55 27 = some (.invokevirtual 44, 3) := by decide +kernel
theorem n_55_30 : pm_ins 55 30 = some (.ifCond .eq 5, 3) := by decide +kernel
theorem n_55_33 : pm_ins 55 33 = some (.iconst 1, 1) := by decide +kernel
theorem n_55_34 : pm_ins 55 34 = some (.ireturn, 1) := by decide +kernel
theorem n_55_35 : pm_ins 55 35 = some (.iinc 2 1, 3) := by decide +kernel
theorem n_55_38 : pm_ins 55 38 = some (.goto (-36), 3) := by decide +kernel
theorem n_55_41 : pm_ins 55 41 = some (.iconst 0, 1) := by decide +kernel
theorem n_55_42 : pm_ins 55 42 = some (.ireturn, 1) := by decide +kernel
theorem n_56_0 : pm_ins 56 0 = some (.iconst 0, 1) := by decide +kernel
theorem n_56_1 : pm_ins 56 1 = some (.istore_n 1, 1) := by decide +kernel
theorem n_56_2 : pm_ins 56 2 = some (.iload_n 1, 1) := by decide +kernel
theorem n_56_3 : pm_ins 56 3 = some (.bipush 6, 2) := by decide +kernel
theorem n_56_5 : pm_ins 56 5 = some (.if_icmp .ge 23, 3) := by decide +kernel
theorem n_56_8 : pm_ins 56 8 = some (.aload_n 0, 1) := by decide +kernel
theorem n_56_9 : pm_ins 56 9 = some (.getfield 17, 3) := by decide +kernel
theorem n_56_12 : pm_ins 56 12 = some (.iload_n 1, 1) := by decide +kernel
theorem n_56_13 : pm_ins 56 13 = some (.aaload, 1) := by decide +kernel
theorem n_56_14 : pm_ins 56 14 = some (.invokevirtual 36, 3) := by decide +kernel
theorem n_56_17 : pm_ins 56 17 = some (.ifCond .eq 5, 3) := by decide +kernel
theorem n_56_20 : pm_ins 56 20 = some (.iload_n 1, 1) := by decide +kernel
theorem n_56_21 : pm_ins 56 21 = some (.ireturn, 1) := by decide +kernel
theorem n_56_22 : pm_ins 56 22 = some (.iinc 1 1, 3) := by decide +kernel
theorem n_56_25 : pm_ins 56 25 = some (.goto (-23), 3) := by decide +kernel
theorem n_56_28 : pm_ins 56 28 = some (.iconst (-1), 1) := by decide +kernel
theorem n_56_29 : pm_ins 56 29 = some (.ireturn, 1) := by decide +kernel
theorem n_57_0 : pm_ins 57 0 = some (.iconst 0, 1) := by decide +kernel
theorem n_57_1 : pm_ins 57 1 = some (.istore_n 1, 1) := by decide +kernel
theorem n_57_2 : pm_ins 57 2 = some (.iload_n 1, 1) := by decide +kernel
theorem n_57_3 : pm_ins 57 3 = some (.iconst 5, 1) := by decide +kernel
theorem n_57_4 : pm_ins 57 4 = some (.if_icmp .ge 23, 3) := by decide +kernel
theorem n_57_7 : pm_ins 57 7 = some (.aload_n 0, 1) := by decide +kernel
theorem n_57_8 : pm_ins 57 8 = some (.getfield 23, 3) := by decide +kernel
theorem n_57_11 : pm_ins 57 11 = some (.iload_n 1, 1) := by decide +kernel
theorem n_57_12 : pm_ins 57 12 = some (.aaload, 1) := by decide +kernel
theorem n_57_13 : pm_ins 57 13 = some (.invokevirtual 40, 3) := by decide +kernel
theorem n_57_16 : pm_ins 57 16 = some (.ifCond .eq 5, 3) := by decide +kernel
theorem n_57_19 : pm_ins 57 19 = some (.iload_n 1, 1) := by decide +kernel
theorem n_57_20 : pm_ins 57 20 = some (.ireturn, 1) := by decide +kernel
theorem n_57_21 : pm_ins 57 21 = some (.iinc 1 1, 3) := by decide +kernel
theorem n_57_24 : pm_ins 57 24 = some (.goto (-22), 3) := by decide +kernel
theorem n_57_27 : pm_ins 57 27 = some (.iconst (-1), 1) := by decide +kernel
theorem n_57_28 : pm_ins 57 28 = some (.ireturn, 1) := by decide +kernel
theorem n_58_0 : pm_ins 58 0 = some (.iconst 0, 1) := by decide +kernel
theorem n_58_1 : pm_ins 58 1 = some (.istore_n 1, 1) := by decide +kernel
theorem n_58_2 : pm_ins 58 2 = some (.iload_n 1, 1) := by decide +kernel
theorem n_58_3 : pm_ins 58 3 = some (.iconst 4, 1) := by decide +kernel
theorem n_58_4 : pm_ins 58 4 = some (.if_icmp .ge 23, 3) := by decide +kernel
theorem n_58_7 : pm_ins 58 7 = some (.aload_n 0, 1) := by decide +kernel
theorem n_58_8 : pm_ins 58 8 = some (.getfield 29, 3) := by decide +kernel
theorem n_58_11 : pm_ins 58 11 = some (.iload_n 1, 1) := by decide +kernel
theorem n_58_12 : pm_ins 58 12 = some (.aaload, 1) := by decide +kernel
theorem n_58_13 : pm_ins 58 13 = some (.getfield 47, 3) := by decide +kernel
theorem n_58_16 : pm_ins 58 16 = some (.ifCond .ne 5, 3) := by decide +kernel
theorem n_58_19 : pm_ins 58 19 = some (.iload_n 1, 1) := by decide +kernel
theorem n_58_20 : pm_ins 58 20 = some (.ireturn, 1) := by decide +kernel
theorem n_58_21 : pm_ins 58 21 = some (.iinc 1 1, 3) := by decide +kernel
theorem n_58_24 : pm_ins 58 24 = some (.goto (-22), 3) := by decide +kernel
theorem n_58_27 : pm_ins 58 27 = some (.iconst (-1), 1) := by decide +kernel
theorem n_58_28 : pm_ins 58 28 = some (.ireturn, 1) := by decide +kernel
theorem n_59_0 : pm_ins 59 0 = some (.iconst 0, 1) := by decide +kernel
theorem n_59_1 : pm_ins 59 1 = some (.istore_n 1, 1) := by decide +kernel
theorem n_59_2 : pm_ins 59 2 = some (.iload_n 1, 1) := by decide +kernel
theorem n_59_3 : pm_ins 59 3 = some (.bipush 6, 2) := by decide +kernel
theorem n_59_5 : pm_ins 59 5 = some (.if_icmp .ge 30, 3) := by decide +kernel
theorem n_59_8 : pm_ins 59 8 = some (.aload_n 0, 1) := by decide +kernel
theorem n_59_9 : pm_ins 59 9 = some (.getfield 17, 3) := by decide +kernel
theorem n_59_12 : pm_ins 59 12 = some (.iload_n 1, 1) := by decide +kernel
theorem n_59_13 : pm_ins 59 13 = some (.aaload, 1) := by decide +kernel
theorem n_59_14 : pm_ins 59 14 = some (.invokevirtual 44, 3) := by decide +kernel
theorem n_59_17 : pm_ins 59 17 = some (.ifCond .ne 12, 3) := by decide +kernel
theorem n_59_20 : pm_ins 59 20 = some (.aload_n 0, 1) := by decide +kernel
theorem n_59_21 : pm_ins 59 21 = some (.getfield 17, 3) := by decide +kernel
theorem n_59_24 : pm_ins 59 24 = some (.iload_n 1, 1) := by decide +kernel
theorem n_59_25 : pm_ins 59 25 = some (.aaload, 1) := by decide +kernel
theorem n_59_26 : pm_ins 59 26 = some (.invokevirtual 48, 3) := by decide +kernel
theorem n_59_29 : pm_ins 59 29 = some (.iinc 1 1, 3) := by decide +kernel
theorem n_59_32 : pm_ins 59 32 = some (.goto (-30), 3) := by decide +kernel
theorem n_59_35 : pm_ins 59 35 = some (.return_, 1) := by decide +kernel
theorem n_61_0 : pm_ins 61 0 = some (.iconst 0, 1) := by decide +kernel
theorem n_61_1 : pm_ins 61 1 = some (.istore_n 1, 1) := by decide +kernel
theorem n_61_2 : pm_ins 61 2 = some (.iload_n 1, 1) := by decide +kernel
theorem n_61_3 : pm_ins 61 3 = some (.bipush 8, 2) := by decide +kernel
theorem n_61_5 : pm_ins 61 5 = some (.if_icmp .ge 16, 3) := by decide +kernel
theorem n_61_8 : pm_ins 61 8 = some (.aload_n 0, 1) := by decide +kernel
theorem n_61_9 : pm_ins 61 9 = some (.getfield 15, 3) := by decide +kernel
theorem n_61_12 : pm_ins 61 12 = some (.iload_n 1, 1) := by decide +kernel
theorem n_61_13 : pm_ins 61 13 = some (.iconst 0, 1) := by decide +kernel
theorem n_61_14 : pm_ins 61 14 = some (.iastore, 1) := by decide +kernel
theorem n_61_15 : pm_ins 61 15 = some (.iinc 1 1, 3) := by decide +kernel
theorem n_61_18 : pm_ins 61 18 = some (.goto (-16), 3) := by decide +kernel
theorem n_61_21 : pm_ins 61 21 = some (.return_, 1) := by decide +kernel
theorem n_63_0 : pm_ins 63 0 = some (.aload_n 0, 1) := by decide +kernel
theorem n_63_1 : pm_ins 63 1 = some (.iconst 1, 1) := by decide +kernel
theorem n_63_2 : pm_ins 63 2 = some (.putfield 9, 3) := by decide +kernel
theorem n_63_5 : pm_ins 63 5 = some (.aload_n 0, 1) := by decide +kernel
theorem n_63_6 : pm_ins 63 6 = some (.iload_n 1, 1) := by decide +kernel
theorem n_63_7 : pm_ins 63 7 = some (.putfield 15, 3) := by decide +kernel
theorem n_63_10 : pm_ins 63 10 = some (.aload_n 0, 1) := by decide +kernel
theorem n_63_11 : pm_ins 63 11 = some (.iload_n 2, 1) := by decide +kernel
theorem n_63_12 : pm_ins 63 12 = some (.putfield 19, 3) := by decide +kernel
theorem n_63_15 : pm_ins 63 15 = some (.aload_n 0, 1) := by decide +kernel
theorem n_63_16 : pm_ins 63 16 = some (.iconst 0, 1) := by decide +kernel
theorem n_63_17 : pm_ins 63 17 = some (.putfield 37, 3) := by decide +kernel
theorem n_63_20 : pm_ins 63 20 = some (.aload_n 0, 1) := by decide +kernel
theorem n_63_21 : pm_ins 63 21 = some (.iconst 0, 1) := by decide +kernel
theorem n_63_22 : pm_ins 63 22 = some (.putfield 40, 3) := by decide +kernel
theorem n_63_25 : pm_ins 63 25 = some (.aload_n 0, 1) := by decide +kernel
theorem n_63_26 : pm_ins 63 26 = some (.iconst 0, 1) := by decide +kernel
theorem n_63_27 : pm_ins 63 27 = some (.putfield 43, 3) := by decide +kernel
theorem n_63_30 : pm_ins 63 30 = some (.iconst 0, 1) := by decide +kernel
theorem n_63_31 : pm_ins 63 31 = some (.istore_n 3, 1) := by decide +kernel
theorem n_63_32 : pm_ins 63 32 = some (.iload_n 3, 1) := by decide +kernel
theorem n_63_33 : pm_ins 63 33 = some (.bipush 8, 2) := by decide +kernel
theorem n_63_35 : pm_ins 63 35 = some (.if_icmp .ge 16, 3) := by decide +kernel
theorem n_63_38 : pm_ins 63 38 = some (.aload_n 0, 1) := by decide +kernel
theorem n_63_39 : pm_ins 63 39 = some (.getfield 53, 3) := by decide +kernel
theorem n_63_42 : pm_ins 63 42 = some (.iload_n 3, 1) := by decide +kernel
theorem n_63_43 : pm_ins 63 43 = some (.iconst 0, 1) := by decide +kernel
theorem n_63_44 : pm_ins 63 44 = some (.iastore, 1) := by decide +kernel
theorem n_63_45 : pm_ins 63 45 = some (.iinc 3 1, 3) := by decide +kernel
theorem n_63_48 : pm_ins 63 48 = some (.goto (-16), 3) := by decide +kernel
theorem n_63_51 : pm_ins 63 51 = some (.return_, 1) := by decide +kernel
theorem n_64_0 : pm_ins 64 0 = some (.aload_n 0, 1) := by decide +kernel
theorem n_64_1 : pm_ins 64 1 = some (.getfield 37, 3) := by decide +kernel
theorem n_64_4 : pm_ins 64 4 = some (.aload_n 0, 1) := by decide +kernel
theorem n_64_5 : pm_ins 64 5 = some (.getfield 40, 3) := by decide +kernel
theorem n_64_8 : pm_ins 64 8 = some (.isub, 1) := by decide +kernel
theorem n_64_9 : pm_ins 64 9 = some (.ireturn, 1) := by decide +kernel
theorem n_66_0 : pm_ins 66 0 = some (.aload_n 0, 1) := by decide +kernel
theorem n_66_1 : pm_ins 66 1 = some (.getfield 9, 3) := by decide +kernel
theorem n_66_4 : pm_ins 66 4 = some (.iconst (-1), 1) := by decide +kernel
theorem n_66_5 : pm_ins 66 5 = some (.if_icmp .ne 7, 3) := by decide +kernel
theorem n_66_8 : pm_ins 66 8 = some (.iconst 1, 1) := by decide +kernel
theorem n_66_9 : pm_ins 66 9 = some (.goto 4, 3) := by decide +kernel
theorem n_66_12 : pm_ins 66 12 = some (.iconst 0, 1) := by decide +kernel
theorem n_66_13 : pm_ins 66 13 = some (.ireturn, 1) := by decide +kernel
theorem n_67_0 : pm_ins 67 0 = some (.aload_n 0, 1) := by decide +kernel
theorem n_67_1 : pm_ins 67 1 = some (.getfield 21, 3) := by decide +kernel
theorem n_67_4 : pm_ins 67 4 = some (.ifCond .le 7, 3) := by decide +kernel
theorem n_67_7 : pm_ins 67 7 = some (.iconst 1, 1) := by decide +kernel
theorem n_67_8 : pm_ins 67 8 = some (.goto 4, 3) := by decide +kernel
theorem n_67_11 : pm_ins 67 11 = some (.iconst 0, 1) := by decide +kernel
theorem n_67_12 : pm_ins 67 12 = some (.ireturn, 1) := by decide +kernel
theorem n_68_0 : pm_ins 68 0 = some (.aload_n 0, 1) := by decide +kernel
theorem n_68_1 : pm_ins 68 1 = some (.iload_n 1, 1) := by decide +kernel
theorem n_68_2 : pm_ins 68 2 = some (.putfield 9, 3) := by decide +kernel
theorem n_68_5 : pm_ins 68 5 = some (.aload_n 0, 1) := by decide +kernel
theorem n_68_6 : pm_ins 68 6 = some (.iload_n 2, 1) := by decide +kernel
theorem n_68_7 : pm_ins 68 7 = some (.putfield 15, 3) := by decide +kernel
theorem n_68_10 : pm_ins 68 10 = some (.aload_n 0, 1) := by decide +kernel
theorem n_68_11 : pm_ins 68 11 = some (.iload_n 3, 1) := by decide +kernel
theorem n_68_12 : pm_ins 68 12 = some (.putfield 18, 3) := by decide +kernel
theorem n_68_15 : pm_ins 68 15 = some (.return_, 1) := by decide +kernel
theorem n_69_0 : pm_ins 69 0 = some (.aload_n 0, 1) := by decide +kernel
theorem n_69_1 : pm_ins 69 1 = some (.iconst (-1), 1) := by decide +kernel
theorem n_69_2 : pm_ins 69 2 = some (.iconst 0, 1) := by decide +kernel
theorem n_69_3 : pm_ins 69 3 = some (.iconst (-1), 1) := by decide +kernel
theorem n_69_4 : pm_ins 69 4 = some (.invokevirtual 24, 3) := by decide +kernel
theorem n_69_7 : pm_ins 69 7 = some (.return_, 1) := by decide +kernel
theorem n_71_0 : pm_ins 71 0 = some (.aload_n 0, 1) := by decide +kernel
theorem n_71_1 : pm_ins 71 1 = some (.getfield 9, 3) := by decide +kernel
theorem n_71_4 : pm_ins 71 4 = some (.iconst (-1), 1) := by decide +kernel
theorem n_71_5 : pm_ins 71 5 = some (.if_icmp .ne 7, 3) := by decide +kernel
theorem n_71_8 : pm_ins 71 8 = some (.iconst 1, 1) := by decide +kernel
theorem n_71_9 : pm_ins 71 9 = some (.goto 4, 3) := by decide +kernel
theorem n_71_12 : pm_ins 71 12 = some (.iconst 0, 1) := by decide +kernel
theorem n_71_13 : pm_ins 71 13 = some (.ireturn, 1) := by decide +kernel
theorem n_72_0 : pm_ins 72 0 = some (.aload_n 0, 1) := by decide +kernel
theorem n_72_1 : pm_ins 72 1 = some (.iload_n 1, 1) := by decide +kernel
theorem n_72_2 : pm_ins 72 2 = some (.putfield 9, 3) := by decide +kernel
theorem n_72_5 : pm_ins 72 5 = some (.aload_n 0, 1) := by decide +kernel
theorem n_72_6 : pm_ins 72 6 = some (.iload_n 2, 1) := by decide +kernel
theorem n_72_7 : pm_ins 72 7 = some (.putfield 15, 3) := by decide +kernel
theorem n_72_10 : pm_ins 72 10 = some (.aload_n 0, 1) := by decide +kernel
theorem n_72_11 : pm_ins 72 11 = some (.iload_n 3, 1) := by decide +kernel
theorem n_72_12 : pm_ins 72 12 = some (.putfield 18, 3) := by decide +kernel
theorem n_72_15 : pm_ins 72 15 = some (.return_, 1) := by decide +kernel
theorem n_73_0 : pm_ins 73 0 = some (.aload_n 0, 1) := by decide +kernel
theorem n_73_1 : pm_ins 73 1 = some (.iconst (-1), 1) := by decide +kernel
theorem n_73_2 : pm_ins 73 2 = some (.iconst (-1), 1) := by decide +kernel
theorem n_73_3 : pm_ins 73 3 = some (.iconst 0, 1) := by decide +kernel
theorem n_73_4 : pm_ins 73 4 = some (.invokevirtual 22, 3) := by decide +kernel
theorem n_73_7 : pm_ins 73 7 = some (.return_, 1) := by decide +kernel
theorem n_75_0 : pm_ins 75 0 = some (.aload_n 0, 1) := by decide +kernel
theorem n_75_1 : pm_ins 75 1 = some (.getfield 9, 3) := by decide +kernel
theorem n_75_4 : pm_ins 75 4 = some (.iconst 1, 1) := by decide +kernel
theorem n_75_5 : pm_ins 75 5 = some (.if_icmp .ne 15, 3) := by decide +kernel
theorem n_75_8 : pm_ins 75 8 = some (.aload_n 0, 1) := by decide +kernel
theorem n_75_9 : pm_ins 75 9 = some (.getfield 15, 3) := by decide +kernel
theorem n_75_12 : pm_ins 75 12 = some (.iload_n 1, 1) := by decide +kernel
theorem n_75_13 : pm_ins 75 13 = some (.if_icmp .ne 7, 3) := by decide +kernel
theorem n_75_16 : pm_ins 75 16 = some (.iconst 1, 1) := by decide +kernel
theorem n_75_17 : pm_ins 75 17 = some (.goto 4, 3) := by decide +kernel
theorem n_75_20 : pm_ins 75 20 = some (.iconst 0, 1) := by decide +kernel
theorem n_75_21 : pm_ins 75 21 = some (.ireturn, 1) := by decide +kernel
theorem n_76_0 : pm_ins 76 0 = some (.aload_n 0, 1) := by decide +kernel
theorem n_76_1 : pm_ins 76 1 = some (.iconst 1, 1) := by decide +kernel
theorem n_76_2 : pm_ins 76 2 = some (.iload_n 1, 1) := by decide +kernel
theorem n_76_3 : pm_ins 76 3 = some (.iconst (-1), 1) := by decide +kernel
theorem n_76_4 : pm_ins 76 4 = some (.invokevirtual 25, 3) := by decide +kernel
theorem n_76_7 : pm_ins 76 7 = some (.return_, 1) := by decide +kernel
theorem n_77_0 : pm_ins 77 0 = some (.aload_n 0, 1) := by decide +kernel
theorem n_77_1 : pm_ins 77 1 = some (.iconst 2, 1) := by decide +kernel
theorem n_77_2 : pm_ins 77 2 = some (.iload_n 1, 1) := by decide +kernel
theorem n_77_3 : pm_ins 77 3 = some (.iload_n 2, 1) := by decide +kernel
theorem n_77_4 : pm_ins 77 4 = some (.invokevirtual 25, 3) := by decide +kernel
theorem n_77_7 : pm_ins 77 7 = some (.return_, 1) := by decide +kernel
theorem n_78_0 : pm_ins 78 0 = some (.aload_n 0, 1) := by decide +kernel
theorem n_78_1 : pm_ins 78 1 = some (.iconst 0, 1) := by decide +kernel
theorem n_78_2 : pm_ins 78 2 = some (.iconst (-1), 1) := by decide +kernel
theorem n_78_3 : pm_ins 78 3 = some (.iconst (-1), 1) := by decide +kernel
theorem n_78_4 : pm_ins 78 4 = some (.invokevirtual 25, 3) := by decide +kernel
theorem n_78_7 : pm_ins 78 7 = some (.return_, 1) := by decide +kernel
theorem n_79_0 : pm_ins 79 0 = some (.aload_n 0, 1) := by decide +kernel
theorem n_79_1 : pm_ins 79 1 = some (.iload_n 1, 1) := by decide +kernel
theorem n_79_2 : pm_ins 79 2 = some (.putfield 9, 3) := by decide +kernel
theorem n_79_5 : pm_ins 79 5 = some (.aload_n 0, 1) := by decide +kernel
theorem n_79_6 : pm_ins 79 6 = some (.iload_n 2, 1) := by decide +kernel
theorem n_79_7 : pm_ins 79 7 = some (.putfield 15, 3) := by decide +kernel
theorem n_79_10 : pm_ins 79 10 = some (.aload_n 0, 1) := by decide +kernel
theorem n_79_11 : pm_ins 79 11 = some (.iload_n 3, 1) := by decide +kernel
theorem n_79_12 : pm_ins 79 12 = some (.putfield 18, 3) := by decide +kernel
theorem n_79_15 : pm_ins 79 15 = some (.aload_n 0, 1) := by decide +kernel
theorem n_79_16 : pm_ins 79 16 = some (.iconst 0, 1) := by decide +kernel
theorem n_79_17 : pm_ins 79 17 = some (.putfield 21, 3) := by decide +kernel
theorem n_79_20 : pm_ins 79 20 = some (.return_, 1) := by decide +kernel
end
section
theorem n_81_0 : pm_ins 81 0 = some (.iload_n 1, 1) := by decide +kernel
theorem n_81_1 : pm_ins 81 1 = some (.ifCond .lt 22, 3) := by decide +kernel
theorem n_81_4 : pm_ins 81 4 = some (.iload_n 1, 1) := by decide +kernel
theorem n_81_5 : pm_ins 81 5 = some (.iconst 4, 1) := by decide +kernel
theorem n_81_6 : pm_ins 81 6 = some (.if_icmp .gt 17, 3) := by decide +kernel
theorem n_81_9 : pm_ins 81 9 = some (.aload_n 0, 1) := by decide +kernel
theorem n_81_10 : pm_ins 81 10 = some (.getfield 7, 3) := by decide +kernel
theorem n_81_13 : pm_ins 81 13 = some (.iload_n 1, 1) := by decide +kernel
theorem n_81_14 : pm_ins 81 14 = some (.iaload, 1) := by decide +kernel
theorem n_81_15 : pm_ins 81 15 = some (.iconst 1, 1) := by decide +kernel
theorem n_81_16 : pm_ins 81 16 = some (.if_icmp .ne 7, 3) := by decide +kernel
theorem n_81_19 : pm_ins 81 19 = some (.iconst 1, 1) := by decide +kernel
theorem n_81_20 : pm_ins 81 20 = some (.goto 4, 3) := by decide +kernel
theorem n_81_23 : pm_ins 81 23 = some (.iconst 0, 1) := by decide +kernel
theorem n_81_24 : pm_ins 81 24 = some (.ireturn, 1) := by decide +kernel
theorem n_82_0 : pm_ins 82 0 = some (.iload_n 2, 1) := by decide +kernel
theorem n_82_1 : pm_ins 82 1 = some (.ifCond .lt 25, 3) := by decide +kernel
theorem n_82_4 : pm_ins 82 4 = some (.iload_n 2, 1) := by decide +kernel
theorem n_82_5 : pm_ins 82 5 = some (.bipush 19, 2) := by decide +kernel
theorem n_82_7 : pm_ins 82 7 = some (.if_icmp .gt 19, 3) := by decide +kernel
theorem n_82_10 : pm_ins 82 10 = some (.aload_n 0, 1) := by decide +kernel
theorem n_82_11 : pm_ins 82 11 = some (.getfield 13, 3) := by decide +kernel
theorem n_82_14 : pm_ins 82 14 = some (.iload_n 2, 1) := by decide +kernel
theorem n_82_15 : pm_ins 82 15 = some (.iaload, 1) := by decide +kernel
theorem n_82_16 : pm_ins 82 16 = some (.iload_n 1, 1) := by decide +kernel
theorem n_82_17 : pm_ins 82 17 = some (.iconst 1, 1) := by decide +kernel
theorem n_82_18 : pm_ins 82 18 = some (.iadd, 1) := by decide +kernel
theorem n_82_19 : pm_ins 82 19 = some (.if_icmp .ne 7, 3) := by decide +kernel
theorem n_82_22 : pm_ins 82 22 = some (.iconst 1, 1) := by decide +kernel
theorem n_82_23 : pm_ins 82 23 = some (.goto 4, 3) := by decide +kernel
theorem n_82_26 : pm_ins 82 26 = some (.iconst 0, 1) := by decide +kernel
theorem n_82_27 : pm_ins 82 27 = some (.ireturn, 1) := by decide +kernel
theorem n_83_0 : pm_ins 83 0 = some (.iconst 0, 1) := by decide +kernel
theorem n_83_1 : pm_ins 83 1 = some (.istore_n 2, 1) := by decide +kernel
theorem n_83_2 : pm_ins 83 2 = some (.iconst 0, 1) := by decide +kernel
theorem n_83_3 : pm_ins 83 3 = some (.istore_n 3, 1) := by decide +kernel
theorem n_83_4 : pm_ins 83 4 = some (.iload_n 3, 1) := by decide +kernel
theorem n_83_5 : pm_ins 83 5 = some (.bipush 20, 2) := by decide +kernel
theorem n_83_7 : pm_ins 83 7 = some (.if_icmp .ge 29, 3) := by decide +kernel
theorem n_83_10 : pm_ins 83 10 = some (.iload_n 2, 1) := by decide +kernel
theorem n_83_11 : pm_ins 83 11 = some (.aload_n 0, 1) := by decide +kernel
theorem n_83_12 : pm_ins 83 12 = some (.getfield 13, 3) := by decide +kernel
theorem n_83_15 : pm_ins 83 15 = some (.iload_n 3, 1) := by decide +kernel
theorem n_83_16 : pm_ins 83 16 = some (.iaload, 1) := by decide +kernel
theorem n_83_17 : pm_ins 83 17 = some (.iload_n 1, 1) := by decide +kernel
theorem n_83_18 : pm_ins 83 18 = some (.iconst 1, 1) := by decide +kernel
theorem n_83_19 : pm_ins 83 19 = some (.iadd, 1) := by decide +kernel
theorem n_83_20 : pm_ins 83 20 = some (.if_icmp .ne 7, 3) := by decide +kernel
theorem n_83_23 : pm_ins 83 23 = some (.iconst 1, 1) := by decide +kernel
theorem n_83_24 : pm_ins 83 24 = some (.goto 4, 3) := by decide +kernel
theorem n_83_27 : pm_ins 83 27 = some (.iconst 0, 1) := by decide +kernel
theorem n_83_28 : pm_ins 83 28 = some (.iadd, 1) := by decide +kernel
theorem n_83_29 : pm_ins 83 29 = some (.istore_n 2, 1) := by decide +kernel
theorem n_83_30 : pm_ins 83 30 = some (.iinc 3 1, 3) := by decide +kernel
theorem n_83_33 : pm_ins 83 33 = some (.goto (-29), 3) := by decide +kernel
theorem n_83_36 : pm_ins 83 36 = some (.iload_n 2, 1) := by decide +kernel
theorem n_83_37 : pm_ins 83 37 = some (.ireturn, 1) := by decide +kernel
theorem n_84_0 : pm_ins 84 0 = some (.iconst 0, 1) := by decide +kernel
theorem n_84_1 : pm_ins 84 1 = some (.istore_n 1, 1) := by decide +kernel
theorem n_84_2 : pm_ins 84 2 = some (.iload_n 1, 1) := by decide +kernel
theorem n_84_3 : pm_ins 84 3 = some (.bipush 20, 2) := by decide +kernel
theorem n_84_5 : pm_ins 84 5 = some (.if_icmp .ge 20, 3) := by decide +kernel
theorem n_84_8 : pm_ins 84 8 = some (.aload_n 0, 1) := by decide +kernel
theorem n_84_9 : pm_ins 84 9 = some (.getfield 13, 3) := by decide +kernel
theorem n_84_12 : pm_ins 84 12 = some (.iload_n 1, 1) := by decide +kernel
theorem n_84_13 : pm_ins 84 13 = some (.iaload, 1) := by decide +kernel
theorem n_84_14 : pm_ins 84 14 = some (.ifCond .ne 5, 3) := by decide +kernel
theorem n_84_17 : pm_ins 84 17 = some (.iload_n 1, 1) := by decide +kernel
theorem n_84_18 : pm_ins 84 18 = some (.ireturn, 1) := by decide +kernel
theorem n_84_19 : pm_ins 84 19 = some (.iinc 1 1, 3) := by decide +kernel
theorem n_84_22 : pm_ins 84 22 = some (.goto (-20), 3) := by decide +kernel
theorem n_84_25 : pm_ins 84 25 = some (.iconst (-1), 1) := by decide +kernel
theorem n_84_26 : pm_ins 84 26 = some (.ireturn, 1) := by decide +kernel
theorem n_85_0 : pm_ins 85 0 = some (.iconst 0, 1) := by decide +kernel
theorem n_85_1 : pm_ins 85 1 = some (.istore_n 2, 1) := by decide +kernel
theorem n_85_2 : pm_ins 85 2 = some (.iload_n 2, 1) := by decide +kernel
theorem n_85_3 : pm_ins 85 3 = some (.bipush 6, 2) := by decide +kernel
theorem n_85_5 : pm_ins 85 5 = some (.if_icmp .ge 25, 3) := by decide +kernel
theorem n_85_8 : pm_ins 85 8 = some (.aload_n 0, 1) := by decide +kernel
theorem n_85_9 : pm_ins 85 9 = some (.getfield 19, 3) := by decide +kernel
theorem n_85_12 : pm_ins 85 12 = some (.bipush 6, 2) := by decide +kernel
theorem n_85_14 : pm_ins 85 14 = some (.iload_n 1, 1) := by decide +kernel
theorem n_85_15 : pm_ins 85 15 = some (.imul, 1) := by decide +kernel
theorem n_85_16 : pm_ins 85 16 = some (.iload_n 2, 1) := by decide +kernel
theorem n_85_17 : pm_ins 85 17 = some (.iadd, 1) := by decide +kernel
theorem n_85_18 : pm_ins 85 18 = some (.iaload, 1) := by decide +kernel
theorem n_85_19 : pm_ins 85 19 = some (.ifCond .ne 5, 3) := by decide +kernel
theorem n_85_22 : pm_ins 85 22 = some (.iload_n 2, 1) := by decide +kernel
theorem n_85_23 : pm_ins 85 23 = some (.ireturn, 1) := by decide +kernel
theorem n_85_24 : pm_ins 85 24 = some (.iinc 2 1, 3) := by decide +kernel
theorem n_85_27 : pm_ins 85 27 = some (.goto (-25), 3) := by decide +kernel
theorem n_85_30 : pm_ins 85 30 = some (.iconst (-1), 1) := by decide +kernel
theorem n_85_31 : pm_ins 85 31 = some (.ireturn, 1) := by decide +kernel
theorem n_86_0 : pm_ins 86 0 = some (.iconst 0, 1) := by decide +kernel
theorem n_86_1 : pm_ins 86 1 = some (.istore_n 2, 1) := by decide +kernel
theorem n_86_2 : pm_ins 86 2 = some (.iload_n 2, 1) := by decide +kernel
theorem n_86_3 : pm_ins 86 3 = some (.iconst 5, 1) := by decide +kernel
theorem n_86_4 : pm_ins 86 4 = some (.if_icmp .ge 24, 3) := by decide +kernel
theorem n_86_7 : pm_ins 86 7 = some (.aload_n 0, 1) := by decide +kernel
theorem n_86_8 : pm_ins 86 8 = some (.getfield 28, 3) := by decide +kernel
theorem n_86_11 : pm_ins 86 11 = some (.iconst 5, 1) := by decide +kernel
theorem n_86_12 : pm_ins 86 12 = some (.iload_n 1, 1) := by decide +kernel
theorem n_86_13 : pm_ins 86 13 = some (.imul, 1) := by decide +kernel
theorem n_86_14 : pm_ins 86 14 = some (.iload_n 2, 1) := by decide +kernel
theorem n_86_15 : pm_ins 86 15 = some (.iadd, 1) := by decide +kernel
theorem n_86_16 : pm_ins 86 16 = some (.iaload, 1) := by decide +kernel
theorem n_86_17 : pm_ins 86 17 = some (.ifCond .ne 5, 3) := by decide +kernel
theorem n_86_20 : pm_ins 86 20 = some (.iload_n 2, 1) := by decide +kernel
theorem n_86_21 : pm_ins 86 21 = some (.ireturn, 1) := by decide +kernel
theorem n_86_22 : pm_ins 86 22 = some (.iinc 2 1, 3) := by decide +kernel
theorem n_86_25 : pm_ins 86 25 = some (.goto (-23), 3) := by decide +kernel
theorem n_86_28 : pm_ins 86 28 = some (.iconst (-1), 1) := by decide +kernel
theorem n_86_29 : pm_ins 86 29 = some (.ireturn, 1) := by decide +kernel
theorem n_87_0 : pm_ins 87 0 = some (.iconst 0, 1) := by decide +kernel
theorem n_87_1 : pm_ins 87 1 = some (.istore_n 2, 1) := by decide +kernel
theorem n_87_2 : pm_ins 87 2 = some (.iload_n 2, 1) := by decide +kernel
theorem n_87_3 : pm_ins 87 3 = some (.iconst 4, 1) := by decide +kernel
theorem n_87_4 : pm_ins 87 4 = some (.if_icmp .ge 24, 3) := by decide +kernel
theorem n_87_7 : pm_ins 87 7 = some (.aload_n 0, 1) := by decide +kernel
theorem n_87_8 : pm_ins 87 8 = some (.getfield 35, 3) := by decide +kernel
theorem n_87_11 : pm_ins 87 11 = some (.iconst 4, 1) := by decide +kernel
theorem n_87_12 : pm_ins 87 12 = some (.iload_n 1, 1) := by decide +kernel
theorem n_87_13 : pm_ins 87 13 = some (.imul, 1) := by decide +kernel
theorem n_87_14 : pm_ins 87 14 = some (.iload_n 2, 1) := by decide +kernel
theorem n_87_15 : pm_ins 87 15 = some (.iadd, 1) := by decide +kernel
theorem n_87_16 : pm_ins 87 16 = some (.iaload, 1) := by decide +kernel
theorem n_87_17 : pm_ins 87 17 = some (.ifCond .ne 5, 3) := by decide +kernel
theorem n_87_20 : pm_ins 87 20 = some (.iload_n 2, 1) := by decide +kernel
theorem n_87_21 : pm_ins 87 21 = some (.ireturn, 1) := by decide +kernel
theorem n_87_22 : pm_ins 87 22 = some (.iinc 2 1, 3) := by decide +kernel
theorem n_87_25 : pm_ins 87 25 = some (.goto (-23), 3) := by decide +kernel
theorem n_87_28 : pm_ins 87 28 = some (.iconst (-1), 1) := by decide +kernel
theorem n_87_29 : pm_ins 87 29 = some (.ireturn, 1) := by decide +kernel
theorem n_88_0 : pm_ins 88 0 = some (.iconst 0, 1) := by decide +kernel
theorem n_88_1 : pm_ins 88 1 = some (.istore_n 2, 1) := by decide +kernel
theorem n_88_2 : pm_ins 88 2 = some (.iconst 0, 1) := by decide +kernel
theorem n_88_3 : pm_ins 88 3 = some (.istore_n 3, 1) := by decide +kernel
theorem n_88_4 : pm_ins 88 4 = some (.iload_n 3, 1) := by decide +kernel
theorem n_88_5 : pm_ins 88 5 = some (.bipush 25, 2) := by decide +kernel
theorem n_88_7 : pm_ins 88 7 = some (.if_icmp .ge 29, 3) := by decide +kernel
theorem n_88_10 : pm_ins 88 10 = some (.iload_n 2, 1) := by decide +kernel
theorem n_88_11 : pm_ins 88 11 = some (.aload_n 0, 1) := by decide +kernel
theorem n_88_12 : pm_ins 88 12 = some (.getfield 28, 3) := by decide +kernel
theorem n_88_15 : pm_ins 88 15 = some (.iload_n 3, 1) := by decide +kernel
theorem n_88_16 : pm_ins 88 16 = some (.iaload, 1) := by decide +kernel
theorem n_88_17 : pm_ins 88 17 = some (.iload_n 1, 1) := by decide +kernel
theorem n_88_18 : pm_ins 88 18 = some (.iconst 1, 1) := by decide +kernel
theorem n_88_19 : pm_ins 88 19 = some (.iadd, 1) := by decide +kernel
theorem n_88_20 : pm_ins 88 20 = some (.if_icmp .ne 7, 3) := by decide +kernel
theorem n_88_23 : pm_ins 88 23 = some (.iconst 1, 1) := by decide +kernel
theorem n_88_24 : pm_ins 88 24 = some (.goto 4, 3) := by decide +kernel
theorem n_88_27 : pm_ins 88 27 = some (.iconst 0, 1) := by decide +kernel
theorem n_88_28 : pm_ins 88 28 = some (.iadd, 1) := by decide +kernel
theorem n_88_29 : pm_ins 88 29 = some (.istore_n 2, 1) := by decide +kernel
theorem n_88_30 : pm_ins 88 30 = some (.iinc 3 1, 3) := by decide +kernel
theorem n_88_33 : pm_ins 88 33 = some (.goto (-29), 3) := by decide +kernel
theorem n_88_36 : pm_ins 88 36 = some (.iload_n 2, 1) := by decide +kernel
theorem n_88_37 : pm_ins 88 37 = some (.ireturn, 1) := by decide +kernel
theorem n_89_0 : pm_ins 89 0 = some (.bipush 6, 2) := by decide +kernel
theorem n_89_2 : pm_ins 89 2 = some (.iload_n 1, 1) := by decide +kernel
theorem n_89_3 : pm_ins 89 3 = some (.imul, 1) := by decide +kernel
theorem n_89_4 : pm_ins 89 4 = some (.istore 4, 2) := by decide +kernel
theorem n_89_6 : pm_ins 89 6 = some (.iload 4, 2) := by decide +kernel
theorem n_89_8 : pm_ins 89 8 = some (.bipush 6, 2) := by decide +kernel
theorem n_89_10 : pm_ins 89 10 = some (.iload_n 1, 1) := by decide +kernel
theorem n_89_11 : pm_ins 89 11 = some (.imul, 1) := by decide +kernel
theorem n_89_12 : pm_ins 89 12 = some (.bipush 6, 2) := by decide +kernel
theorem n_89_14 : pm_ins 89 14 = some (.iadd, 1) := by decide +kernel
theorem n_89_15 : pm_ins 89 15 = some (.if_icmp .ge 56, 3) := by decide +kernel
theorem n_89_18 : pm_ins 89 18 = some (.aload_n 0, 1) := by decide +kernel
theorem n_89_19 : pm_ins 89 19 = some (.getfield 19, 3) := by decide +kernel
theorem n_89_22 : pm_ins 89 22 = some (.iload 4, 2) := by decide +kernel
theorem n_89_24 : pm_ins 89 24 = some (.iaload, 1) := by decide +kernel
theorem n_89_25 : pm_ins 89 25 = some (.ifCond .le 40, 3) := by decide +kernel
theorem n_89_28 : pm_ins 89 28 = some (.aload_n 0, 1) := by decide +kernel
theorem n_89_29 : pm_ins 89 29 = some (.getfield 22, 3) := by decide +kernel
theorem n_89_32 : pm_ins 89 32 = some (.iload 4, 2) := by decide +kernel
theorem n_89_34 : pm_ins 89 34 = some (.iaload, 1) := by decide +kernel
theorem n_89_35 : pm_ins 89 35 = some (.iconst 2, 1) := by decide +kernel
theorem n_89_36 : pm_ins 89 36 = some (.if_icmp .ge 29, 3) := by decide +kernel
theorem n_89_39 : pm_ins 89 39 = some (.aload_n 0, 1) := by decide +kernel
theorem n_89_40 : pm_ins 89 40 = some (.getfield 25, 3) := by decide +kernel
theorem n_89_43 : pm_ins 89 43 = some (.iload 4, 2) := by decide +kernel
theorem n_89_45 : pm_ins 89 45 = some (.iaload, 1) := by decide +kernel
theorem n_89_46 : pm_ins 89 46 = some (.iload_n 2, 1) := by decide +kernel
theorem n_89_47 : pm_ins 89 47 = some (.if_icmp .ne 18, 3) := by decide +kernel
theorem n_89_50 : pm_ins 89 50 = some (.iload_n 3, 1) := by decide +kernel
theorem n_89_51 : pm_ins 89 51 = some (.ifCond .eq 12, 3) := by decide +kernel
theorem n_89_54 : pm_ins 89 54 = some (.aload_n 0, 1) := by decide +kernel
theorem n_89_55 : pm_ins 89 55 = some (.iload 4, 2) := by decide +kernel
theorem n_89_57 : pm_ins 89 57 = some (.invokevirtual 83, 3) := by decide +kernel
theorem n_89_60 : pm_ins 89 60 = some (.ifCond .le 5, 3) := by decide +kernel
theorem n_89_63 : pm_ins 89 63 = some (.iconst 1, 1) := by decide +kernel
theorem n_89_64 : pm_ins 89 64 = some (.ireturn, 1) := by decide +kernel
theorem n_89_65 : pm_ins 89 65 = some (.iinc 4 1, 3) := by decide +kernel
theorem n_89_68 : pm_ins 89 68 = some (.goto (-62), 3) := by decide +kernel
theorem n_89_71 : pm_ins 89 71 = some (.iconst 0, 1) := by decide +kernel
theorem n_89_72 : pm_ins 89 72 = some (.ireturn, 1) := by decide +kernel
theorem n_90_0 : pm_ins 90 0 = some (.iconst 0, 1) := by decide +kernel
theorem n_90_1 : pm_ins 90 1 = some (.istore_n 1, 1) := by decide +kernel
theorem n_90_2 : pm_ins 90 2 = some (.iload_n 1, 1) := by decide +kernel
theorem n_90_3 : pm_ins 90 3 = some (.iconst 5, 1) := by decide +kernel
theorem n_90_4 : pm_ins 90 4 = some (.if_icmp .ge 27, 3) := by decide +kernel
theorem n_90_7 : pm_ins 90 7 = some (.aload_n 0, 1) := by decide +kernel
theorem n_90_8 : pm_ins 90 8 = some (.getfield 7, 3) := by decide +kernel
theorem n_90_11 : pm_ins 90 11 = some (.iload_n 1, 1) := by decide +kernel
theorem n_90_12 : pm_ins 90 12 = some (.iaload, 1) := by decide +kernel
theorem n_90_13 : pm_ins 90 13 = some (.ifCond .ne 12, 3) := by decide +kernel
theorem n_90_16 : pm_ins 90 16 = some (.aload_n 0, 1) := by decide +kernel
theorem n_90_17 : pm_ins 90 17 = some (.getfield 7, 3) := by decide +kernel
theorem n_90_20 : pm_ins 90 20 = some (.iload_n 1, 1) := by decide +kernel
theorem n_90_21 : pm_ins 90 21 = some (.iconst 1, 1) := by decide +kernel
theorem n_90_22 : pm_ins 90 22 = some (.iastore, 1) := by decide +kernel
theorem n_90_23 : pm_ins 90 23 = some (.iload_n 1, 1) := by decide +kernel
theorem n_90_24 : pm_ins 90 24 = some (.ireturn, 1) := by decide +kernel
theorem n_90_25 : pm_ins 90 25 = some (.iinc 1 1, 3) := by decide +kernel
theorem n_90_28 : pm_ins 90 28 = some (.goto (-26), 3) := by decide +kernel
theorem n_90_31 : pm_ins 90 31 = some (.bipush (-7), 2) := by decide +kernel
theorem n_90_33 : pm_ins 90 33 = some (.ireturn, 1) := by decide +kernel
theorem n_91_0 : pm_ins 91 0 = some (.aload_n 0, 1) := by decide +kernel
theorem n_91_1 : pm_ins 91 1 = some (.getfield 28, 3) := by decide +kernel
theorem n_91_4 : pm_ins 91 4 = some (.iload_n 1, 1) := by decide +kernel
theorem n_91_5 : pm_ins 91 5 = some (.iaload, 1) := by decide +kernel
theorem n_91_6 : pm_ins 91 6 = some (.iconst 1, 1) := by decide +kernel
theorem n_91_7 : pm_ins 91 7 = some (.isub, 1) := by decide +kernel
theorem n_91_8 : pm_ins 91 8 = some (.istore_n 2, 1) := by decide +kernel
theorem n_91_9 : pm_ins 91 9 = some (.aload_n 0, 1) := by decide +kernel
theorem n_91_10 : pm_ins 91 10 = some (.getfield 28, 3) := by decide +kernel
theorem n_91_13 : pm_ins 91 13 = some (.iload_n 1, 1) := by decide +kernel
theorem n_91_14 : pm_ins 91 14 = some (.iconst 0, 1) := by decide +kernel
theorem n_91_15 : pm_ins 91 15 = some (.iastore, 1) := by decide +kernel
theorem n_91_16 : pm_ins 91 16 = some (.iload_n 2, 1) := by decide +kernel
theorem n_91_17 : pm_ins 91 17 = some (.bipush 6, 2) := by decide +kernel
theorem n_91_19 : pm_ins 91 19 = some (.idiv, 1) := by decide +kernel
theorem n_91_20 : pm_ins 91 20 = some (.istore_n 3, 1) := by decide +kernel
theorem n_91_21 : pm_ins 91 21 = some (.aload_n 0, 1) := by decide +kernel
theorem n_91_22 : pm_ins 91 22 = some (.getfield 7, 3) := by decide +kernel
theorem n_91_25 : pm_ins 91 25 = some (.iload_n 3, 1) := by decide +kernel
theorem n_91_26 : pm_ins 91 26 = some (.iaload, 1) := by decide +kernel
theorem n_91_27 : pm_ins 91 27 = some (.iconst 2, 1) := by decide +kernel
theorem n_91_28 : pm_ins 91 28 = some (.if_icmp .ne 11, 3) := by decide +kernel
theorem n_91_31 : pm_ins 91 31 = some (.aload_n 0, 1) := by decide +kernel
theorem n_91_32 : pm_ins 91 32 = some (.iload_n 2, 1) := by decide +kernel
theorem n_91_33 : pm_ins 91 33 = some (.invokevirtual 83, 3) := by decide +kernel
theorem n_91_36 : pm_ins 91 36 = some (.ifCond .le 4, 3) := by decide +kernel
theorem n_91_39 : pm_ins 91 39 = some (.return_, 1) := by decide +kernel
theorem n_91_40 : pm_ins 91 40 = some (.aload_n 0, 1) := by decide +kernel
theorem n_91_41 : pm_ins 91 41 = some (.getfield 19, 3) := by decide +kernel
theorem n_91_44 : pm_ins 91 44 = some (.iload_n 2, 1) := by decide +kernel
theorem n_91_45 : pm_ins 91 45 = some (.iconst 0, 1) := by decide +kernel
theorem n_91_46 : pm_ins 91 46 = some (.iastore, 1) := by decide +kernel
theorem n_91_47 : pm_ins 91 47 = some (.aload_n 0, 1) := by decide +kernel
theorem n_91_48 : pm_ins 91 48 = some (.iload_n 3, 1) := by decide +kernel
theorem n_91_49 : pm_ins 91 49 = some (.aload_n 0, 1) := by decide +kernel
theorem n_91_50 : pm_ins 91 50 = some (.getfield 25, 3) := by decide +kernel
theorem n_91_53 : pm_ins 91 53 = some (.iload_n 2, 1) := by decide +kernel
theorem n_91_54 : pm_ins 91 54 = some (.iaload, 1) := by decide +kernel
theorem n_91_55 : pm_ins 91 55 = some (.iconst 1, 1) := by decide +kernel
theorem n_91_56 : pm_ins 91 56 = some (.invokevirtual 87, 3) := by decide +kernel
theorem n_91_59 : pm_ins 91 59 = some (.ifCond .ne 15, 3) := by decide +kernel
theorem n_91_62 : pm_ins 91 62 = some (.aload_n 0, 1) := by decide +kernel
theorem n_91_63 : pm_ins 91 63 = some (.getfield 13, 3) := by decide +kernel
theorem n_91_66 : pm_ins 91 66 = some (.aload_n 0, 1) := by decide +kernel
theorem n_91_67 : pm_ins 91 67 = some (.getfield 25, 3) := by decide +kernel
theorem n_91_70 : pm_ins 91 70 = some (.iload_n 2, 1) := by decide +kernel
theorem n_91_71 : pm_ins 91 71 = some (.iaload, 1) := by decide +kernel
theorem n_91_72 : pm_ins 91 72 = some (.iconst 0, 1) := by decide +kernel
theorem n_91_73 : pm_ins 91 73 = some (.iastore, 1) := by decide +kernel
theorem n_91_74 : pm_ins 91 74 = some (.aload_n 0, 1) := by decide +kernel
theorem n_91_75 : pm_ins 91 75 = some (.iload_n 3, 1) := by decide +kernel
theorem n_91_76 : pm_ins 91 76 = some (.invokevirtual 91, 3) := by decide +kernel
theorem n_91_79 : pm_ins 91 79 = some (.ifCond .ne 10, 3) := by decide +kernel
theorem n_91_82 : pm_ins 91 82 = some (.aload_n 0, 1) := by decide +kernel
theorem n_91_83 : pm_ins 91 83 = some (.getfield 7, 3) := by decide +kernel
theorem n_91_86 : pm_ins 91 86 = some (.iload_n 3, 1) := by decide +kernel
theorem n_91_87 : pm_ins 91 87 = some (.iconst 0, 1) := by decide +kernel
theorem n_91_88 : pm_ins 91 88 = some (.iastore, 1) := by decide +kernel
theorem n_91_89 : pm_ins 91 89 = some (.return_, 1) := by decide +kernel
theorem n_92_0 : pm_ins 92 0 = some (.aload_n 0, 1) := by decide +kernel
theorem n_92_1 : pm_ins 92 1 = some (.getfield 35, 3) := by decide +kernel
theorem n_92_4 : pm_ins 92 4 = some (.iload_n 1, 1) := by decide +kernel
theorem n_92_5 : pm_ins 92 5 = some (.iconst 0, 1) := by decide +kernel
theorem n_92_6 : pm_ins 92 6 = some (.iastore, 1) := by decide +kernel
theorem n_92_7 : pm_ins 92 7 = some (.aload_n 0, 1) := by decide +kernel
theorem n_92_8 : pm_ins 92 8 = some (.getfield 41, 3) := by decide +kernel
theorem n_92_11 : pm_ins 92 11 = some (.iload_n 1, 1) := by decide +kernel
theorem n_92_12 : pm_ins 92 12 = some (.iconst 0, 1) := by decide +kernel
theorem n_92_13 : pm_ins 92 13 = some (.bastore, 1) := by decide +kernel
theorem n_92_14 : pm_ins 92 14 = some (.return_, 1) := by decide +kernel
theorem n_93_0 : pm_ins 93 0 = some (.aload_n 0, 1) := by decide +kernel
theorem n_93_1 : pm_ins 93 1 = some (.iload_n 1, 1) := by decide +kernel
theorem n_93_2 : pm_ins 93 2 = some (.invokevirtual 94, 3) := by decide +kernel
theorem n_93_5 : pm_ins 93 5 = some (.ifCond .ne 5, 3) := by decide +kernel
theorem n_93_8 : pm_ins 93 8 = some (.iconst (-1), 1) := by decide +kernel
theorem n_93_9 : pm_ins 93 9 = some (.ireturn, 1) := by decide +kernel
theorem n_93_10 : pm_ins 93 10 = some (.iconst 0, 1) := by decide +kernel
theorem n_93_11 : pm_ins 93 11 = some (.istore_n 2, 1) := by decide +kernel
theorem n_93_12 : pm_ins 93 12 = some (.iload_n 2, 1) := by decide +kernel
theorem n_93_13 : pm_ins 93 13 = some (.iconst 3, 1) := by decide +kernel
theorem n_93_14 : pm_ins 93 14 = some (.if_icmp .ge 47, 3) := by decide +kernel
theorem n_93_17 : pm_ins 93 17 = some (.aload_n 0, 1) := by decide +kernel
theorem n_93_18 : pm_ins 93 18 = some (.getfield 44, 3) := by decide +kernel
theorem n_93_21 : pm_ins 93 21 = some (.iload_n 2, 1) := by decide +kernel
theorem n_93_22 : pm_ins 93 22 = some (.iaload, 1) := by decide +kernel
theorem n_93_23 : pm_ins 93 23 = some (.ifCond .le 32, 3) := by decide +kernel
theorem n_93_26 : pm_ins 93 26 = some (.aload_n 0, 1) := by decide +kernel
theorem n_93_27 : pm_ins 93 27 = some (.getfield 44, 3) := by decide +kernel
theorem n_93_30 : pm_ins 93 30 = some (.iload_n 2, 1) := by decide +kernel
theorem n_93_31 : pm_ins 93 31 = some (.iaload, 1) := by decide +kernel
theorem n_93_32 : pm_ins 93 32 = some (.iload_n 1, 1) := by decide +kernel
theorem n_93_33 : pm_ins 93 33 = some (.iconst 1, 1) := by decide +kernel
theorem n_93_34 : pm_ins 93 34 = some (.iadd, 1) := by decide +kernel
theorem n_93_35 : pm_ins 93 35 = some (.if_icmp .eq 13, 3) := by decide +kernel
theorem n_93_38 : pm_ins 93 38 = some (.aload_n 0, 1) := by decide +kernel
theorem n_93_39 : pm_ins 93 39 = some (.getfield 47, 3) := by decide +kernel
theorem n_93_42 : pm_ins 93 42 = some (.iload_n 2, 1) := by decide +kernel
theorem n_93_43 : pm_ins 93 43 = some (.iaload, 1) := by decide +kernel
theorem n_93_44 : pm_ins 93 44 = some (.iload_n 1, 1) := by decide +kernel
theorem n_93_45 : pm_ins 93 45 = some (.if_icmp .ne 10, 3) := by decide +kernel
theorem n_93_48 : pm_ins 93 48 = some (.aload_n 0, 1) := by decide +kernel
theorem n_93_49 : pm_ins 93 49 = some (.getfield 44, 3) := by decide +kernel
theorem n_93_52 : pm_ins 93 52 = some (.iload_n 2, 1) := by decide +kernel
theorem n_93_53 : pm_ins 93 53 = some (.iconst 0, 1) := by decide +kernel
theorem n_93_54 : pm_ins 93 54 = some (.iastore, 1) := by decide +kernel
theorem n_93_55 : pm_ins 93 55 = some (.iinc 2 1, 3) := by decide +kernel
theorem n_93_58 : pm_ins 93 58 = some (.goto (-46), 3) := by decide +kernel
theorem n_93_61 : pm_ins 93 61 = some (.iconst 5, 1) := by decide +kernel
theorem n_93_62 : pm_ins 93 62 = some (.iload_n 1, 1) := by decide +kernel
theorem n_93_63 : pm_ins 93 63 = some (.imul, 1) := by decide +kernel
theorem n_93_64 : pm_ins 93 64 = some (.istore_n 2, 1) := by decide +kernel
theorem n_93_65 : pm_ins 93 65 = some (.iload_n 2, 1) := by decide +kernel
theorem n_93_66 : pm_ins 93 66 = some (.iconst 5, 1) := by decide +kernel
theorem n_93_67 : pm_ins 93 67 = some (.iload_n 1, 1) := by decide +kernel
theorem n_93_68 : pm_ins 93 68 = some (.imul, 1) := by decide +kernel
theorem n_93_69 : pm_ins 93 69 = some (.iconst 5, 1) := by decide +kernel
theorem n_93_70 : pm_ins 93 70 = some (.iadd, 1) := by decide +kernel
theorem n_93_71 : pm_ins 93 71 = some (.if_icmp .ge 23, 3) := by decide +kernel
theorem n_93_74 : pm_ins 93 74 = some (.aload_n 0, 1) := by decide +kernel
theorem n_93_75 : pm_ins 93 75 = some (.getfield 28, 3) := by decide +kernel
theorem n_93_78 : pm_ins 93 78 = some (.iload_n 2, 1) := by decide +kernel
theorem n_93_79 : pm_ins 93 79 = some (.iaload, 1) := by decide +kernel
theorem n_93_80 : pm_ins 93 80 = some (.ifCond .le 8, 3) := by decide +kernel
theorem n_93_83 : pm_ins 93 83 = some (.aload_n 0, 1) := by decide +kernel
theorem n_93_84 : pm_ins 93 84 = some (.iload_n 2, 1) := by decide +kernel
theorem n_93_85 : pm_ins 93 85 = some (.invokevirtual 98, 3) := by decide +kernel
theorem n_93_88 : pm_ins 93 88 = some (.iinc 2 1, 3) := by decide +kernel
theorem n_93_91 : pm_ins 93 91 = some (.goto (-26), 3) := by decide +kernel
theorem n_93_94 : pm_ins 93 94 = some (.iconst 4, 1) := by decide +kernel
theorem n_93_95 : pm_ins 93 95 = some (.iload_n 1, 1) := by decide +kernel
theorem n_93_96 : pm_ins 93 96 = some (.imul, 1) := by decide +kernel
theorem n_93_97 : pm_ins 93 97 = some (.istore_n 2, 1) := by decide +kernel
theorem n_93_98 : pm_ins 93 98 = some (.iload_n 2, 1) := by decide +kernel
theorem n_93_99 : pm_ins 93 99 = some (.iconst 4, 1) := by decide +kernel
theorem n_93_100 : pm_ins 93 100 = some (.iload_n 1, 1) := by decide +kernel
theorem n_93_101 : pm_ins 93 101 = some (.imul, 1) := by decide +kernel
theorem n_93_102 : pm_ins 93 102 = some (.iconst 4, 1) := by decide +kernel
theorem n_93_103 : pm_ins 93 103 = some (.iadd, 1) := by decide +kernel
theorem n_93_104 : pm_ins 93 104 = some (.if_icmp .ge 34, 3) := by decide +kernel
theorem n_93_107 : pm_ins 93 107 = some (.aload_n 0, 1) := by decide +kernel
theorem n_93_108 : pm_ins 93 108 = some (.getfield 35, 3) := by decide +kernel
theorem n_93_111 : pm_ins 93 111 = some (.iload_n 2, 1) := by decide +kernel
theorem n_93_112 : pm_ins 93 112 = some (.iaload, 1) := by decide +kernel
theorem n_93_113 : pm_ins 93 113 = some (.iconst 2, 1) := by decide +kernel
theorem n_93_114 : pm_ins 93 114 = some (.if_icmp .ne 13, 3) := by decide +kernel
theorem n_93_117 : pm_ins 93 117 = some (.aload_n 0, 1) := by decide +kernel
theorem n_93_118 : pm_ins 93 118 = some (.aload_n 0, 1) := by decide +kernel
theorem n_93_119 : pm_ins 93 119 = some (.getfield 38, 3) := by decide +kernel
theorem n_93_122 : pm_ins 93 122 = some (.iload_n 2, 1) := by decide +kernel
theorem n_93_123 : pm_ins 93 123 = some (.iaload, 1) := by decide +kernel
theorem n_93_124 : pm_ins 93 124 = some (.invokevirtual 102, 3) := by decide +kernel
theorem n_93_127 : pm_ins 93 127 = some (.aload_n 0, 1) := by decide +kernel
theorem n_93_128 : pm_ins 93 128 = some (.iload_n 2, 1) := by decide +kernel
theorem n_93_129 : pm_ins 93 129 = some (.invokevirtual 102, 3) := by decide +kernel
theorem n_93_132 : pm_ins 93 132 = some (.iinc 2 1, 3) := by decide +kernel
theorem n_93_135 : pm_ins 93 135 = some (.goto (-37), 3) := by decide +kernel
theorem n_93_138 : pm_ins 93 138 = some (.bipush 6, 2) := by decide +kernel
theorem n_93_140 : pm_ins 93 140 = some (.iload_n 1, 1) := by decide +kernel
theorem n_93_141 : pm_ins 93 141 = some (.imul, 1) := by decide +kernel
theorem n_93_142 : pm_ins 93 142 = some (.istore_n 2, 1) := by decide +kernel
theorem n_93_143 : pm_ins 93 143 = some (.iload_n 2, 1) := by decide +kernel
theorem n_93_144 : pm_ins 93 144 = some (.bipush 6, 2) := by decide +kernel
theorem n_93_146 : pm_ins 93 146 = some (.iload_n 1, 1) := by decide +kernel
theorem n_93_147 : pm_ins 93 147 = some (.imul, 1) := by decide +kernel
theorem n_93_148 : pm_ins 93 148 = some (.bipush 6, 2) := by decide +kernel
theorem n_93_150 : pm_ins 93 150 = some (.iadd, 1) := by decide +kernel
theorem n_93_151 : pm_ins 93 151 = some (.if_icmp .ge 24, 3) := by decide +kernel
theorem n_93_154 : pm_ins 93 154 = some (.aload_n 0, 1) := by decide +kernel
theorem n_93_155 : pm_ins 93 155 = some (.iload_n 2, 1) := by decide +kernel
theorem n_93_156 : pm_ins 93 156 = some (.invokevirtual 83, 3) := by decide +kernel
theorem n_93_159 : pm_ins 93 159 = some (.ifCond .ne 10, 3) := by decide +kernel
theorem n_93_162 : pm_ins 93 162 = some (.aload_n 0, 1) := by decide +kernel
theorem n_93_163 : pm_ins 93 163 = some (.getfield 19, 3) := by decide +kernel
theorem n_93_166 : pm_ins 93 166 = some (.iload_n 2, 1) := by decide +kernel
theorem n_93_167 : pm_ins 93 167 = some (.iconst 0, 1) := by decide +kernel
theorem n_93_168 : pm_ins 93 168 = some (.iastore, 1) := by decide +kernel
theorem n_93_169 : pm_ins 93 169 = some (.iinc 2 1, 3) := by decide +kernel
theorem n_93_172 : pm_ins 93 172 = some (.goto (-29), 3) := by decide +kernel
theorem n_93_175 : pm_ins 93 175 = some (.iconst 0, 1) := by decide +kernel
theorem n_93_176 : pm_ins 93 176 = some (.istore_n 2, 1) := by decide +kernel
theorem n_93_177 : pm_ins 93 177 = some (.iload_n 2, 1) := by decide +kernel
theorem n_93_178 : pm_ins 93 178 = some (.bipush 20, 2) := by decide +kernel
theorem n_93_180 : pm_ins 93 180 = some (.if_icmp .ge 35, 3) := by decide +kernel
theorem n_93_183 : pm_ins 93 183 = some (.aload_n 0, 1) := by decide +kernel
theorem n_93_184 : pm_ins 93 184 = some (.iload_n 1, 1) := by decide +kernel
theorem n_93_185 : pm_ins 93 185 = some (.iload_n 2, 1) := by decide +kernel
theorem n_93_186 : pm_ins 93 186 = some (.invokevirtual 105, 3) := by decide +kernel
theorem n_93_189 : pm_ins 93 189 = some (.ifCond .eq 20, 3) := by decide +kernel
theorem n_93_192 : pm_ins 93 192 = some (.aload_n 0, 1) := by decide +kernel
theorem n_93_193 : pm_ins 93 193 = some (.iload_n 1, 1) := by decide +kernel
theorem n_93_194 : pm_ins 93 194 = some (.iload_n 2, 1) := by decide +kernel
theorem n_93_195 : pm_ins 93 195 = some (.iconst 1, 1) := by decide +kernel
theorem n_93_196 : pm_ins 93 196 = some (.invokevirtual 87, 3) := by decide +kernel
theorem n_93_199 : pm_ins 93 199 = some (.ifCond .ne 10, 3) := by decide +kernel
theorem n_93_202 : pm_ins 93 202 = some (.aload_n 0, 1) := by decide +kernel
theorem n_93_203 : pm_ins 93 203 = some (.getfield 13, 3) := by decide +kernel
theorem n_93_206 : pm_ins 93 206 = some (.iload_n 2, 1) := by decide +kernel
theorem n_93_207 : pm_ins 93 207 = some (.iconst 0, 1) := by decide +kernel
theorem n_93_208 : pm_ins 93 208 = some (.iastore, 1) := by decide +kernel
theorem n_93_209 : pm_ins 93 209 = some (.iinc 2 1, 3) := by decide +kernel
theorem n_93_212 : pm_ins 93 212 = some (.goto (-35), 3) := by decide +kernel
theorem n_93_215 : pm_ins 93 215 = some (.aload_n 0, 1) := by decide +kernel
theorem n_93_216 : pm_ins 93 216 = some (.getfield 7, 3) := by decide +kernel
theorem n_93_219 : pm_ins 93 219 = some (.iload_n 1, 1) := by decide +kernel
theorem n_93_220 : pm_ins 93 220 = some (.aload_n 0, 1) := by decide +kernel
theorem n_93_221 : pm_ins 93 221 = some (.iload_n 1, 1) := by decide +kernel
theorem n_93_222 : pm_ins 93 222 = some (.invokevirtual 91, 3) := by decide +kernel
theorem n_93_225 : pm_ins 93 225 = some (.ifCond .le 7, 3) := by decide +kernel
theorem n_93_228 : pm_ins 93 228 = some (.iconst 2, 1) := by decide +kernel
theorem n_93_229 : pm_ins 93 229 = some (.goto 4, 3) := by decide +kernel
theorem n_93_232 : pm_ins 93 232 = some (.iconst 0, 1) := by decide +kernel
theorem n_93_233 : pm_ins 93 233 = some (.iastore, 1) := by decide +kernel
theorem n_93_234 : pm_ins 93 234 = some (.iconst 0, 1) := by decide +kernel
theorem n_93_235 : pm_ins 93 235 = some (.ireturn, 1) := by decide +kernel
theorem n_94_0 : pm_ins 94 0 = some (.aload_n 0, 1) := by decide +kernel
theorem n_94_1 : pm_ins 94 1 = some (.iload_n 1, 1) := by decide +kernel
theorem n_94_2 : pm_ins 94 2 = some (.invokevirtual 94, 3) := by decide +kernel
theorem n_94_5 : pm_ins 94 5 = some (.ifCond .ne 5, 3) := by decide +kernel
theorem n_94_8 : pm_ins 94 8 = some (.iconst (-1), 1) := by decide +kernel
theorem n_94_9 : pm_ins 94 9 = some (.ireturn, 1) := by decide +kernel
theorem n_94_10 : pm_ins 94 10 = some (.aload_n 0, 1) := by decide +kernel
theorem n_94_11 : pm_ins 94 11 = some (.invokevirtual 109, 3) := by decide +kernel
theorem n_94_14 : pm_ins 94 14 = some (.istore_n 2, 1) := by decide +kernel
theorem n_94_15 : pm_ins 94 15 = some (.iload_n 2, 1) := by decide +kernel
theorem n_94_16 : pm_ins 94 16 = some (.ifCond .lt 13, 3) := by decide +kernel
theorem n_94_19 : pm_ins 94 19 = some (.aload_n 0, 1) := by decide +kernel
theorem n_94_20 : pm_ins 94 20 = some (.iload_n 1, 1) := by decide +kernel
theorem n_94_21 : pm_ins 94 21 = some (.invokevirtual 91, 3) := by decide +kernel
theorem n_94_24 : pm_ins 94 24 = some (.bipush 6, 2) := by decide +kernel
theorem n_94_26 : pm_ins 94 26 = some (.if_icmp .lt 6, 3) := by decide +kernel
theorem n_94_29 : pm_ins 94 29 = some (.bipush (-7), 2) := by decide +kernel
theorem n_94_31 : pm_ins 94 31 = some (.ireturn, 1) := by decide +kernel
theorem n_94_32 : pm_ins 94 32 = some (.aload_n 0, 1) := by decide +kernel
theorem n_94_33 : pm_ins 94 33 = some (.getfield 13, 3) := by decide +kernel
theorem n_94_36 : pm_ins 94 36 = some (.iload_n 2, 1) := by decide +kernel
theorem n_94_37 : pm_ins 94 37 = some (.iload_n 1, 1) := by decide +kernel
theorem n_94_38 : pm_ins 94 38 = some (.iconst 1, 1) := by decide +kernel
theorem n_94_39 : pm_ins 94 39 = some (.iadd, 1) := by decide +kernel
theorem n_94_40 : pm_ins 94 40 = some (.iastore, 1) := by decide +kernel
theorem n_94_41 : pm_ins 94 41 = some (.iconst 0, 1) := by decide +kernel
theorem n_94_42 : pm_ins 94 42 = some (.istore_n 3, 1) := by decide +kernel
theorem n_94_43 : pm_ins 94 43 = some (.iload_n 3, 1) := by decide +kernel
theorem n_94_44 : pm_ins 94 44 = some (.bipush 8, 2) := by decide +kernel
theorem n_94_46 : pm_ins 94 46 = some (.if_icmp .ge 21, 3) := by decide +kernel
theorem n_94_49 : pm_ins 94 49 = some (.aload_n 0, 1) := by decide +kernel
theorem n_94_50 : pm_ins 94 50 = some (.getfield 16, 3) := by decide +kernel
theorem n_94_53 : pm_ins 94 53 = some (.bipush 8, 2) := by decide +kernel
theorem n_94_55 : pm_ins 94 55 = some (.iload_n 2, 1) := by decide +kernel
theorem n_94_56 : pm_ins 94 56 = some (.imul, 1) := by decide +kernel
theorem n_94_57 : pm_ins 94 57 = some (.iload_n 3, 1) := by decide +kernel
theorem n_94_58 : pm_ins 94 58 = some (.iadd, 1) := by decide +kernel
theorem n_94_59 : pm_ins 94 59 = some (.iconst 0, 1) := by decide +kernel
theorem n_94_60 : pm_ins 94 60 = some (.iastore, 1) := by decide +kernel
theorem n_94_61 : pm_ins 94 61 = some (.iinc 3 1, 3) := by decide +kernel
theorem n_94_64 : pm_ins 94 64 = some (.goto (-21), 3) := by decide +kernel
theorem n_94_67 : pm_ins 94 67 = some (.iload_n 2, 1) := by decide +kernel
theorem n_94_68 : pm_ins 94 68 = some (.ireturn, 1) := by decide +kernel
theorem n_95_0 : pm_ins 95 0 = some (.aload_n 0, 1) := by decide +kernel
theorem n_95_1 : pm_ins 95 1 = some (.iload_n 1, 1) := by decide +kernel
theorem n_95_2 : pm_ins 95 2 = some (.invokevirtual 94, 3) := by decide +kernel
theorem n_95_5 : pm_ins 95 5 = some (.ifCond .ne 5, 3) := by decide +kernel
theorem n_95_8 : pm_ins 95 8 = some (.iconst (-1), 1) := by decide +kernel
theorem n_95_9 : pm_ins 95 9 = some (.ireturn, 1) := by decide +kernel
theorem n_95_10 : pm_ins 95 10 = some (.aload_n 0, 1) := by decide +kernel
theorem n_95_11 : pm_ins 95 11 = some (.iload_n 1, 1) := by decide +kernel
theorem n_95_12 : pm_ins 95 12 = some (.iload_n 2, 1) := by decide +kernel
theorem n_95_13 : pm_ins 95 13 = some (.invokevirtual 105, 3) := by decide +kernel
theorem n_95_16 : pm_ins 95 16 = some (.ifCond .ne 6, 3) := by decide +kernel
theorem n_95_19 : pm_ins 95 19 = some (.bipush (-3), 2) := by decide +kernel
theorem n_95_21 : pm_ins 95 21 = some (.ireturn, 1) := by decide +kernel
theorem n_95_22 : pm_ins 95 22 = some (.aload_n 0, 1) := by decide +kernel
theorem n_95_23 : pm_ins 95 23 = some (.iload_n 1, 1) := by decide +kernel
theorem n_95_24 : pm_ins 95 24 = some (.iload_n 2, 1) := by decide +kernel
theorem n_95_25 : pm_ins 95 25 = some (.iconst 0, 1) := by decide +kernel
theorem n_95_26 : pm_ins 95 26 = some (.invokevirtual 87, 3) := by decide +kernel
theorem n_95_29 : pm_ins 95 29 = some (.ifCond .eq 6, 3) := by decide +kernel
theorem n_95_32 : pm_ins 95 32 = some (.bipush (-4), 2) := by decide +kernel
theorem n_95_34 : pm_ins 95 34 = some (.ireturn, 1) := by decide +kernel
theorem n_95_35 : pm_ins 95 35 = some (.aload_n 0, 1) := by decide +kernel
theorem n_95_36 : pm_ins 95 36 = some (.getfield 13, 3) := by decide +kernel
theorem n_95_39 : pm_ins 95 39 = some (.iload_n 2, 1) := by decide +kernel
theorem n_95_40 : pm_ins 95 40 = some (.iconst 0, 1) := by decide +kernel
theorem n_95_41 : pm_ins 95 41 = some (.iastore, 1) := by decide +kernel
theorem n_95_42 : pm_ins 95 42 = some (.iconst 0, 1) := by decide +kernel
theorem n_95_43 : pm_ins 95 43 = some (.ireturn, 1) := by decide +kernel
theorem n_96_0 : pm_ins 96 0 = some (.aload_n 0, 1) := by decide +kernel
theorem n_96_1 : pm_ins 96 1 = some (.iload_n 1, 1) := by decide +kernel
theorem n_96_2 : pm_ins 96 2 = some (.invokevirtual 94, 3) := by decide +kernel
theorem n_96_5 : pm_ins 96 5 = some (.ifCond .ne 5, 3) := by decide +kernel
theorem n_96_8 : pm_ins 96 8 = some (.iconst (-1), 1) := by decide +kernel
theorem n_96_9 : pm_ins 96 9 = some (.ireturn, 1) := by decide +kernel
theorem n_96_10 : pm_ins 96 10 = some (.iload_n 2, 1) := by decide +kernel
theorem n_96_11 : pm_ins 96 11 = some (.ifCond .lt 24, 3) := by decide +kernel
theorem n_96_14 : pm_ins 96 14 = some (.iload_n 2, 1) := by decide +kernel
theorem n_96_15 : pm_ins 96 15 = some (.iconst 4, 1) := by decide +kernel
theorem n_96_16 : pm_ins 96 16 = some (.if_icmp .gt 19, 3) := by decide +kernel
theorem n_96_19 : pm_ins 96 19 = some (.iload_n 2, 1) := by decide +kernel
theorem n_96_20 : pm_ins 96 20 = some (.iload_n 1, 1) := by decide +kernel
theorem n_96_21 : pm_ins 96 21 = some (.if_icmp .eq 14, 3) := by decide +kernel
theorem n_96_24 : pm_ins 96 24 = some (.iload 4, 2) := by decide +kernel
theorem n_96_26 : pm_ins 96 26 = some (.ifCond .lt 9, 3) := by decide +kernel
theorem n_96_29 : pm_ins 96 29 = some (.iload 4, 2) := by decide +kernel
theorem n_96_31 : pm_ins 96 31 = some (.iconst 2, 1) := by decide +kernel
theorem n_96_32 : pm_ins 96 32 = some (.if_icmp .le 6, 3) := by decide +kernel
theorem n_96_35 : pm_ins 96 35 = some (.bipush (-2), 2) := by decide +kernel
theorem n_96_37 : pm_ins 96 37 = some (.ireturn, 1) := by decide +kernel
theorem n_96_38 : pm_ins 96 38 = some (.iload 4, 2) := by decide +kernel
theorem n_96_40 : pm_ins 96 40 = some (.iconst 2, 1) := by decide +kernel
theorem n_96_41 : pm_ins 96 41 = some (.if_icmp .ge 15, 3) := by decide +kernel
theorem n_96_44 : pm_ins 96 44 = some (.aload_n 0, 1) := by decide +kernel
theorem n_96_45 : pm_ins 96 45 = some (.iload_n 1, 1) := by decide +kernel
theorem n_96_46 : pm_ins 96 46 = some (.iload_n 3, 1) := by decide +kernel
theorem n_96_47 : pm_ins 96 47 = some (.invokevirtual 105, 3) := by decide +kernel
theorem n_96_50 : pm_ins 96 50 = some (.ifCond .ne 6, 3) := by decide +kernel
theorem n_96_53 : pm_ins 96 53 = some (.bipush (-3), 2) := by decide +kernel
theorem n_96_55 : pm_ins 96 55 = some (.ireturn, 1) := by decide +kernel
theorem n_96_56 : pm_ins 96 56 = some (.aload_n 0, 1) := by decide +kernel
theorem n_96_57 : pm_ins 96 57 = some (.iload_n 1, 1) := by decide +kernel
theorem n_96_58 : pm_ins 96 58 = some (.invokevirtual 113, 3) := by decide +kernel
theorem n_96_61 : pm_ins 96 61 = some (.istore 5, 2) := by decide +kernel
theorem n_96_63 : pm_ins 96 63 = some (.iload 5, 2) := by decide +kernel
theorem n_96_65 : pm_ins 96 65 = some (.ifCond .ge 6, 3) := by decide +kernel
theorem n_96_68 : pm_ins 96 68 = some (.bipush (-7), 2) := by decide +kernel
theorem n_96_70 : pm_ins 96 70 = some (.ireturn, 1) := by decide +kernel
theorem n_96_71 : pm_ins 96 71 = some (.aload_n 0, 1) := by decide +kernel
theorem n_96_72 : pm_ins 96 72 = some (.getfield 19, 3) := by decide +kernel
theorem n_96_75 : pm_ins 96 75 = some (.bipush 6, 2) := by decide +kernel
theorem n_96_77 : pm_ins 96 77 = some (.iload_n 1, 1) := by decide +kernel
theorem n_96_78 : pm_ins 96 78 = some (.imul, 1) := by decide +kernel
theorem n_96_79 : pm_ins 96 79 = some (.iload 5, 2) := by decide +kernel
theorem n_96_81 : pm_ins 96 81 = some (.iadd, 1) := by decide +kernel
theorem n_96_82 : pm_ins 96 82 = some (.iload_n 2, 1) := by decide +kernel
theorem n_96_83 : pm_ins 96 83 = some (.iconst 1, 1) := by decide +kernel
theorem n_96_84 : pm_ins 96 84 = some (.iadd, 1) := by decide +kernel
theorem n_96_85 : pm_ins 96 85 = some (.iastore, 1) := by decide +kernel
theorem n_96_86 : pm_ins 96 86 = some (.aload_n 0, 1) := by decide +kernel
theorem n_96_87 : pm_ins 96 87 = some (.getfield 22, 3) := by decide +kernel
theorem n_96_90 : pm_ins 96 90 = some (.bipush 6, 2) := by decide +kernel
theorem n_96_92 : pm_ins 96 92 = some (.iload_n 1, 1) := by decide +kernel
theorem n_96_93 : pm_ins 96 93 = some (.imul, 1) := by decide +kernel
theorem n_96_94 : pm_ins 96 94 = some (.iload 5, 2) := by decide +kernel
theorem n_96_96 : pm_ins 96 96 = some (.iadd, 1) := by decide +kernel
theorem n_96_97 : pm_ins 96 97 = some (.iload 4, 2) := by decide +kernel
theorem n_96_99 : pm_ins 96 99 = some (.iastore, 1) := by decide +kernel
theorem n_96_100 : pm_ins 96 100 = some (.aload_n 0, 1) := by decide +kernel
theorem n_96_101 : pm_ins 96 101 = some (.getfield 25, 3) := by decide +kernel
theorem n_96_104 : pm_ins 96 104 = some (.bipush 6, 2) := by decide +kernel
theorem n_96_106 : pm_ins 96 106 = some (.iload_n 1, 1) := by decide +kernel
theorem n_96_107 : pm_ins 96 107 = some (.imul, 1) := by decide +kernel
theorem n_96_108 : pm_ins 96 108 = some (.iload 5, 2) := by decide +kernel
theorem n_96_110 : pm_ins 96 110 = some (.iadd, 1) := by decide +kernel
theorem n_96_111 : pm_ins 96 111 = some (.iload 4, 2) := by decide +kernel
theorem n_96_113 : pm_ins 96 113 = some (.iconst 2, 1) := by decide +kernel
theorem n_96_114 : pm_ins 96 114 = some (.if_icmp .ge 7, 3) := by decide +kernel
theorem n_96_117 : pm_ins 96 117 = some (.iload_n 3, 1) := by decide +kernel
theorem n_96_118 : pm_ins 96 118 = some (.goto 4, 3) := by decide +kernel
theorem n_96_121 : pm_ins 96 121 = some (.iconst 0, 1) := by decide +kernel
theorem n_96_122 : pm_ins 96 122 = some (.iastore, 1) := by decide +kernel
theorem n_96_123 : pm_ins 96 123 = some (.iload 5, 2) := by decide +kernel
theorem n_96_125 : pm_ins 96 125 = some (.ireturn, 1) := by decide +kernel
theorem n_97_0 : pm_ins 97 0 = some (.iload_n 2, 1) := by decide +kernel
theorem n_97_1 : pm_ins 97 1 = some (.ifCond .lt 22, 3) := by decide +kernel
theorem n_97_4 : pm_ins 97 4 = some (.iload_n 2, 1) := by decide +kernel
theorem n_97_5 : pm_ins 97 5 = some (.iconst 5, 1) := by decide +kernel
theorem n_97_6 : pm_ins 97 6 = some (.if_icmp .gt 17, 3) := by decide +kernel
theorem n_97_9 : pm_ins 97 9 = some (.aload_n 0, 1) := by decide +kernel
theorem n_97_10 : pm_ins 97 10 = some (.getfield 19, 3) := by decide +kernel
theorem n_97_13 : pm_ins 97 13 = some (.bipush 6, 2) := by decide +kernel
theorem n_97_15 : pm_ins 97 15 = some (.iload_n 1, 1) := by decide +kernel
theorem n_97_16 : pm_ins 97 16 = some (.imul, 1) := by decide +kernel
theorem n_97_17 : pm_ins 97 17 = some (.iload_n 2, 1) := by decide +kernel
theorem n_97_18 : pm_ins 97 18 = some (.iadd, 1) := by decide +kernel
theorem n_97_19 : pm_ins 97 19 = some (.iaload, 1) := by decide +kernel
theorem n_97_20 : pm_ins 97 20 = some (.ifCond .ne 7, 3) := by decide +kernel
theorem n_97_23 : pm_ins 97 23 = some (.iconst (-1), 1) := by decide +kernel
theorem n_97_24 : pm_ins 97 24 = some (.goto 9, 3) := by decide +kernel
theorem n_97_27 : pm_ins 97 27 = some (.bipush 6, 2) := by decide +kernel
theorem n_97_29 : pm_ins 97 29 = some (.iload_n 1, 1) := by decide +kernel
theorem n_97_30 : pm_ins 97 30 = some (.imul, 1) := by decide +kernel
theorem n_97_31 : pm_ins 97 31 = some (.iload_n 2, 1) := by decide +kernel
theorem n_97_32 : pm_ins 97 32 = some (.iadd, 1) := by decide +kernel
theorem n_97_33 : pm_ins 97 33 = some (.ireturn, 1) := by decide +kernel
theorem n_98_0 : pm_ins 98 0 = some (.aload_n 0, 1) := by decide +kernel
theorem n_98_1 : pm_ins 98 1 = some (.iload_n 1, 1) := by decide +kernel
theorem n_98_2 : pm_ins 98 2 = some (.invokevirtual 94, 3) := by decide +kernel
theorem n_98_5 : pm_ins 98 5 = some (.ifCond .ne 5, 3) := by decide +kernel
theorem n_98_8 : pm_ins 98 8 = some (.iconst (-1), 1) := by decide +kernel
theorem n_98_9 : pm_ins 98 9 = some (.ireturn, 1) := by decide +kernel
theorem n_98_10 : pm_ins 98 10 = some (.aload_n 0, 1) := by decide +kernel
theorem n_98_11 : pm_ins 98 11 = some (.iload_n 1, 1) := by decide +kernel
theorem n_98_12 : pm_ins 98 12 = some (.iload_n 2, 1) := by decide +kernel
theorem n_98_13 : pm_ins 98 13 = some (.invokevirtual 116, 3) := by decide +kernel
theorem n_98_16 : pm_ins 98 16 = some (.istore_n 3, 1) := by decide +kernel
theorem n_98_17 : pm_ins 98 17 = some (.iload_n 3, 1) := by decide +kernel
theorem n_98_18 : pm_ins 98 18 = some (.ifCond .ge 6, 3) := by decide +kernel
theorem n_98_21 : pm_ins 98 21 = some (.bipush (-5), 2) := by decide +kernel
theorem n_98_23 : pm_ins 98 23 = some (.ireturn, 1) := by decide +kernel
theorem n_98_24 : pm_ins 98 24 = some (.aload_n 0, 1) := by decide +kernel
theorem n_98_25 : pm_ins 98 25 = some (.iload_n 3, 1) := by decide +kernel
theorem n_98_26 : pm_ins 98 26 = some (.invokevirtual 83, 3) := by decide +kernel
theorem n_98_29 : pm_ins 98 29 = some (.ifCond .le 6, 3) := by decide +kernel
theorem n_98_32 : pm_ins 98 32 = some (.bipush (-4), 2) := by decide +kernel
theorem n_98_34 : pm_ins 98 34 = some (.ireturn, 1) := by decide +kernel
theorem n_98_35 : pm_ins 98 35 = some (.aload_n 0, 1) := by decide +kernel
theorem n_98_36 : pm_ins 98 36 = some (.getfield 19, 3) := by decide +kernel
theorem n_98_39 : pm_ins 98 39 = some (.iload_n 3, 1) := by decide +kernel
theorem n_98_40 : pm_ins 98 40 = some (.iconst 0, 1) := by decide +kernel
theorem n_98_41 : pm_ins 98 41 = some (.iastore, 1) := by decide +kernel
theorem n_98_42 : pm_ins 98 42 = some (.iconst 0, 1) := by decide +kernel
theorem n_98_43 : pm_ins 98 43 = some (.ireturn, 1) := by decide +kernel
theorem n_99_0 : pm_ins 99 0 = some (.aload_n 0, 1) := by decide +kernel
theorem n_99_1 : pm_ins 99 1 = some (.iload_n 1, 1) := by decide +kernel
theorem n_99_2 : pm_ins 99 2 = some (.invokevirtual 94, 3) := by decide +kernel
theorem n_99_5 : pm_ins 99 5 = some (.ifCond .eq 11, 3) := by decide +kernel
theorem n_99_8 : pm_ins 99 8 = some (.aload_n 0, 1) := by decide +kernel
theorem n_99_9 : pm_ins 99 9 = some (.iload_n 2, 1) := by decide +kernel
theorem n_99_10 : pm_ins 99 10 = some (.invokevirtual 94, 3) := by decide +kernel
theorem n_99_13 : pm_ins 99 13 = some (.ifCond .ne 5, 3) := by decide +kernel
theorem n_99_16 : pm_ins 99 16 = some (.iconst (-1), 1) := by decide +kernel
theorem n_99_17 : pm_ins 99 17 = some (.ireturn, 1) := by decide +kernel
theorem n_99_18 : pm_ins 99 18 = some (.aload_n 0, 1) := by decide +kernel
theorem n_99_19 : pm_ins 99 19 = some (.iload_n 2, 1) := by decide +kernel
theorem n_99_20 : pm_ins 99 20 = some (.iload_n 3, 1) := by decide +kernel
theorem n_99_21 : pm_ins 99 21 = some (.invokevirtual 116, 3) := by decide +kernel
theorem n_99_24 : pm_ins 99 24 = some (.istore 5, 2) := by decide +kernel
theorem n_99_26 : pm_ins 99 26 = some (.iload 5, 2) := by decide +kernel
theorem n_99_28 : pm_ins 99 28 = some (.ifCond .lt 27, 3) := by decide +kernel
theorem n_99_31 : pm_ins 99 31 = some (.aload_n 0, 1) := by decide +kernel
theorem n_99_32 : pm_ins 99 32 = some (.getfield 22, 3) := by decide +kernel
theorem n_99_35 : pm_ins 99 35 = some (.iload 5, 2) := by decide +kernel
theorem n_99_37 : pm_ins 99 37 = some (.iaload, 1) := by decide +kernel
theorem n_99_38 : pm_ins 99 38 = some (.iconst 2, 1) := by decide +kernel
theorem n_99_39 : pm_ins 99 39 = some (.if_icmp .eq 16, 3) := by decide +kernel
theorem n_99_42 : pm_ins 99 42 = some (.aload_n 0, 1) := by decide +kernel
theorem n_99_43 : pm_ins 99 43 = some (.getfield 19, 3) := by decide +kernel
theorem n_99_46 : pm_ins 99 46 = some (.iload 5, 2) := by decide +kernel
theorem n_99_48 : pm_ins 99 48 = some (.iaload, 1) := by decide +kernel
theorem n_99_49 : pm_ins 99 49 = some (.iload_n 1, 1) := by decide +kernel
theorem n_99_50 : pm_ins 99 50 = some (.iconst 1, 1) := by decide +kernel
theorem n_99_51 : pm_ins 99 51 = some (.iadd, 1) := by decide +kernel
theorem n_99_52 : pm_ins 99 52 = some (.if_icmp .eq 6, 3) := by decide +kernel
theorem n_99_55 : pm_ins 99 55 = some (.bipush (-5), 2) := by decide +kernel
theorem n_99_57 : pm_ins 99 57 = some (.ireturn, 1) := by decide +kernel
theorem n_99_58 : pm_ins 99 58 = some (.iload 4, 2) := by decide +kernel
theorem n_99_60 : pm_ins 99 60 = some (.ifCond .eq 16, 3) := by decide +kernel
theorem n_99_63 : pm_ins 99 63 = some (.aload_n 0, 1) := by decide +kernel
theorem n_99_64 : pm_ins 99 64 = some (.getfield 22, 3) := by decide +kernel
theorem n_99_67 : pm_ins 99 67 = some (.iload 5, 2) := by decide +kernel
theorem n_99_69 : pm_ins 99 69 = some (.iaload, 1) := by decide +kernel
theorem n_99_70 : pm_ins 99 70 = some (.ifCond .ne 6, 3) := by decide +kernel
theorem n_99_73 : pm_ins 99 73 = some (.bipush (-6), 2) := by decide +kernel
theorem n_99_75 : pm_ins 99 75 = some (.ireturn, 1) := by decide +kernel
theorem n_99_76 : pm_ins 99 76 = some (.aload_n 0, 1) := by decide +kernel
theorem n_99_77 : pm_ins 99 77 = some (.iload_n 1, 1) := by decide +kernel
theorem n_99_78 : pm_ins 99 78 = some (.invokevirtual 120, 3) := by decide +kernel
theorem n_99_81 : pm_ins 99 81 = some (.istore 6, 2) := by decide +kernel
theorem n_99_83 : pm_ins 99 83 = some (.iload 6, 2) := by decide +kernel
theorem n_99_85 : pm_ins 99 85 = some (.ifCond .ge 6, 3) := by decide +kernel
theorem n_99_88 : pm_ins 99 88 = some (.bipush (-7), 2) := by decide +kernel
theorem n_99_90 : pm_ins 99 90 = some (.ireturn, 1) := by decide +kernel
theorem n_99_91 : pm_ins 99 91 = some (.aload_n 0, 1) := by decide +kernel
theorem n_99_92 : pm_ins 99 92 = some (.getfield 28, 3) := by decide +kernel
theorem n_99_95 : pm_ins 99 95 = some (.iconst 5, 1) := by decide +kernel
theorem n_99_96 : pm_ins 99 96 = some (.iload_n 1, 1) := by decide +kernel
theorem n_99_97 : pm_ins 99 97 = some (.imul, 1) := by decide +kernel
theorem n_99_98 : pm_ins 99 98 = some (.iload 6, 2) := by decide +kernel
theorem n_99_100 : pm_ins 99 100 = some (.iadd, 1) := by decide +kernel
theorem n_99_101 : pm_ins 99 101 = some (.iload 5, 2) := by decide +kernel
theorem n_99_103 : pm_ins 99 103 = some (.iconst 1, 1) := by decide +kernel
theorem n_99_104 : pm_ins 99 104 = some (.iadd, 1) := by decide +kernel
theorem n_99_105 : pm_ins 99 105 = some (.iastore, 1) := by decide +kernel
theorem n_99_106 : pm_ins 99 106 = some (.aload_n 0, 1) := by decide +kernel
theorem n_99_107 : pm_ins 99 107 = some (.getfield 31, 3) := by decide +kernel
theorem n_99_110 : pm_ins 99 110 = some (.iconst 5, 1) := by decide +kernel
theorem n_99_111 : pm_ins 99 111 = some (.iload_n 1, 1) := by decide +kernel
theorem n_99_112 : pm_ins 99 112 = some (.imul, 1) := by decide +kernel
theorem n_99_113 : pm_ins 99 113 = some (.iload 6, 2) := by decide +kernel
theorem n_99_115 : pm_ins 99 115 = some (.iadd, 1) := by decide +kernel
theorem n_99_116 : pm_ins 99 116 = some (.iload 4, 2) := by decide +kernel
theorem n_99_118 : pm_ins 99 118 = some (.bastore, 1) := by decide +kernel
theorem n_99_119 : pm_ins 99 119 = some (.iload 6, 2) := by decide +kernel
theorem n_99_121 : pm_ins 99 121 = some (.ireturn, 1) := by decide +kernel
theorem n_100_0 : pm_ins 100 0 = some (.aload_n 0, 1) := by decide +kernel
theorem n_100_1 : pm_ins 100 1 = some (.iload_n 1, 1) := by decide +kernel
theorem n_100_2 : pm_ins 100 2 = some (.invokevirtual 94, 3) := by decide +kernel
theorem n_100_5 : pm_ins 100 5 = some (.ifCond .ne 5, 3) := by decide +kernel
theorem n_100_8 : pm_ins 100 8 = some (.iconst (-1), 1) := by decide +kernel
theorem n_100_9 : pm_ins 100 9 = some (.ireturn, 1) := by decide +kernel
theorem n_100_10 : pm_ins 100 10 = some (.iload_n 2, 1) := by decide +kernel
theorem n_100_11 : pm_ins 100 11 = some (.ifCond .lt 21, 3) := by decide +kernel
theorem n_100_14 : pm_ins 100 14 = some (.iload_n 2, 1) := by decide +kernel
theorem n_100_15 : pm_ins 100 15 = some (.iconst 4, 1) := by decide +kernel
theorem n_100_16 : pm_ins 100 16 = some (.if_icmp .gt 16, 3) := by decide +kernel
theorem n_100_19 : pm_ins 100 19 = some (.aload_n 0, 1) := by decide +kernel
theorem n_100_20 : pm_ins 100 20 = some (.getfield 28, 3) := by decide +kernel
theorem n_100_23 : pm_ins 100 23 = some (.iconst 5, 1) := by decide +kernel
theorem n_100_24 : pm_ins 100 24 = some (.iload_n 1, 1) := by decide +kernel
theorem n_100_25 : pm_ins 100 25 = some (.imul, 1) := by decide +kernel
theorem n_100_26 : pm_ins 100 26 = some (.iload_n 2, 1) := by decide +kernel
theorem n_100_27 : pm_ins 100 27 = some (.iadd, 1) := by decide +kernel
theorem n_100_28 : pm_ins 100 28 = some (.iaload, 1) := by decide +kernel
theorem n_100_29 : pm_ins 100 29 = some (.ifCond .ne 6, 3) := by decide +kernel
theorem n_100_32 : pm_ins 100 32 = some (.bipush (-5), 2) := by decide +kernel
theorem n_100_34 : pm_ins 100 34 = some (.ireturn, 1) := by decide +kernel
theorem n_100_35 : pm_ins 100 35 = some (.aload_n 0, 1) := by decide +kernel
theorem n_100_36 : pm_ins 100 36 = some (.iconst 5, 1) := by decide +kernel
theorem n_100_37 : pm_ins 100 37 = some (.iload_n 1, 1) := by decide +kernel
theorem n_100_38 : pm_ins 100 38 = some (.imul, 1) := by decide +kernel
theorem n_100_39 : pm_ins 100 39 = some (.iload_n 2, 1) := by decide +kernel
theorem n_100_40 : pm_ins 100 40 = some (.iadd, 1) := by decide +kernel
theorem n_100_41 : pm_ins 100 41 = some (.invokevirtual 98, 3) := by decide +kernel
theorem n_100_44 : pm_ins 100 44 = some (.iconst 0, 1) := by decide +kernel
theorem n_100_45 : pm_ins 100 45 = some (.ireturn, 1) := by decide +kernel
theorem n_101_0 : pm_ins 101 0 = some (.aload_n 0, 1) := by decide +kernel
theorem n_101_1 : pm_ins 101 1 = some (.iload_n 1, 1) := by decide +kernel
theorem n_101_2 : pm_ins 101 2 = some (.invokevirtual 94, 3) := by decide +kernel
theorem n_101_5 : pm_ins 101 5 = some (.ifCond .eq 11, 3) := by decide +kernel
theorem n_101_8 : pm_ins 101 8 = some (.aload_n 0, 1) := by decide +kernel
theorem n_101_9 : pm_ins 101 9 = some (.iload_n 3, 1) := by decide +kernel
theorem n_101_10 : pm_ins 101 10 = some (.invokevirtual 94, 3) := by decide +kernel
theorem n_101_13 : pm_ins 101 13 = some (.ifCond .ne 5, 3) := by decide +kernel
theorem n_101_16 : pm_ins 101 16 = some (.iconst (-1), 1) := by decide +kernel
theorem n_101_17 : pm_ins 101 17 = some (.ireturn, 1) := by decide +kernel
theorem n_101_18 : pm_ins 101 18 = some (.aload_n 0, 1) := by decide +kernel
theorem n_101_19 : pm_ins 101 19 = some (.iload_n 1, 1) := by decide +kernel
theorem n_101_20 : pm_ins 101 20 = some (.iload_n 2, 1) := by decide +kernel
theorem n_101_21 : pm_ins 101 21 = some (.invokevirtual 105, 3) := by decide +kernel
theorem n_101_24 : pm_ins 101 24 = some (.ifCond .ne 6, 3) := by decide +kernel
theorem n_101_27 : pm_ins 101 27 = some (.bipush (-3), 2) := by decide +kernel
theorem n_101_29 : pm_ins 101 29 = some (.ireturn, 1) := by decide +kernel
theorem n_101_30 : pm_ins 101 30 = some (.aload_n 0, 1) := by decide +kernel
theorem n_101_31 : pm_ins 101 31 = some (.iload_n 1, 1) := by decide +kernel
theorem n_101_32 : pm_ins 101 32 = some (.iload_n 2, 1) := by decide +kernel
theorem n_101_33 : pm_ins 101 33 = some (.iconst 0, 1) := by decide +kernel
theorem n_101_34 : pm_ins 101 34 = some (.invokevirtual 87, 3) := by decide +kernel
theorem n_101_37 : pm_ins 101 37 = some (.ifCond .eq 6, 3) := by decide +kernel
theorem n_101_40 : pm_ins 101 40 = some (.bipush (-4), 2) := by decide +kernel
theorem n_101_42 : pm_ins 101 42 = some (.ireturn, 1) := by decide +kernel
theorem n_101_43 : pm_ins 101 43 = some (.aload_n 0, 1) := by decide +kernel
theorem n_101_44 : pm_ins 101 44 = some (.iload_n 3, 1) := by decide +kernel
theorem n_101_45 : pm_ins 101 45 = some (.iload 4, 2) := by decide +kernel
theorem n_101_47 : pm_ins 101 47 = some (.invokevirtual 116, 3) := by decide +kernel
theorem n_101_50 : pm_ins 101 50 = some (.istore 5, 2) := by decide +kernel
theorem n_101_52 : pm_ins 101 52 = some (.iload 5, 2) := by decide +kernel
theorem n_101_54 : pm_ins 101 54 = some (.ifCond .lt 27, 3) := by decide +kernel
theorem n_101_57 : pm_ins 101 57 = some (.aload_n 0, 1) := by decide +kernel
theorem n_101_58 : pm_ins 101 58 = some (.getfield 22, 3) := by decide +kernel
theorem n_101_61 : pm_ins 101 61 = some (.iload 5, 2) := by decide +kernel
theorem n_101_63 : pm_ins 101 63 = some (.iaload, 1) := by decide +kernel
theorem n_101_64 : pm_ins 101 64 = some (.iconst 2, 1) := by decide +kernel
theorem n_101_65 : pm_ins 101 65 = some (.if_icmp .ne 16, 3) := by decide +kernel
theorem n_101_68 : pm_ins 101 68 = some (.aload_n 0, 1) := by decide +kernel
theorem n_101_69 : pm_ins 101 69 = some (.getfield 19, 3) := by decide +kernel
theorem n_101_72 : pm_ins 101 72 = some (.iload 5, 2) := by decide +kernel
theorem n_101_74 : pm_ins 101 74 = some (.iaload, 1) := by decide +kernel
theorem n_101_75 : pm_ins 101 75 = some (.iload_n 1, 1) := by decide +kernel
theorem n_101_76 : pm_ins 101 76 = some (.iconst 1, 1) := by decide +kernel
theorem n_101_77 : pm_ins 101 77 = some (.iadd, 1) := by decide +kernel
theorem n_101_78 : pm_ins 101 78 = some (.if_icmp .eq 6, 3) := by decide +kernel
theorem n_101_81 : pm_ins 101 81 = some (.bipush (-5), 2) := by decide +kernel
theorem n_101_83 : pm_ins 101 83 = some (.ireturn, 1) := by decide +kernel
theorem n_101_84 : pm_ins 101 84 = some (.aload_n 0, 1) := by decide +kernel
theorem n_101_85 : pm_ins 101 85 = some (.iload_n 3, 1) := by decide +kernel
theorem n_101_86 : pm_ins 101 86 = some (.invokevirtual 91, 3) := by decide +kernel
theorem n_101_89 : pm_ins 101 89 = some (.bipush 6, 2) := by decide +kernel
theorem n_101_91 : pm_ins 101 91 = some (.if_icmp .lt 6, 3) := by decide +kernel
theorem n_101_94 : pm_ins 101 94 = some (.bipush (-7), 2) := by decide +kernel
theorem n_101_96 : pm_ins 101 96 = some (.ireturn, 1) := by decide +kernel
theorem n_101_97 : pm_ins 101 97 = some (.aload_n 0, 1) := by decide +kernel
theorem n_101_98 : pm_ins 101 98 = some (.getfield 13, 3) := by decide +kernel
theorem n_101_101 : pm_ins 101 101 = some (.iload_n 2, 1) := by decide +kernel
theorem n_101_102 : pm_ins 101 102 = some (.iload_n 3, 1) := by decide +kernel
theorem n_101_103 : pm_ins 101 103 = some (.iconst 1, 1) := by decide +kernel
theorem n_101_104 : pm_ins 101 104 = some (.iadd, 1) := by decide +kernel
theorem n_101_105 : pm_ins 101 105 = some (.iastore, 1) := by decide +kernel
theorem n_101_106 : pm_ins 101 106 = some (.aload_n 0, 1) := by decide +kernel
theorem n_101_107 : pm_ins 101 107 = some (.getfield 19, 3) := by decide +kernel
theorem n_101_110 : pm_ins 101 110 = some (.iload 5, 2) := by decide +kernel
theorem n_101_112 : pm_ins 101 112 = some (.iconst 0, 1) := by decide +kernel
theorem n_101_113 : pm_ins 101 113 = some (.iastore, 1) := by decide +kernel
theorem n_101_114 : pm_ins 101 114 = some (.iconst 0, 1) := by decide +kernel
theorem n_101_115 : pm_ins 101 115 = some (.ireturn, 1) := by decide +kernel
theorem n_102_0 : pm_ins 102 0 = some (.aload_n 0, 1) := by decide +kernel
theorem n_102_1 : pm_ins 102 1 = some (.iload_n 1, 1) := by decide +kernel
theorem n_102_2 : pm_ins 102 2 = some (.iload_n 2, 1) := by decide +kernel
theorem n_102_3 : pm_ins 102 3 = some (.invokevirtual 105, 3) := by decide +kernel
theorem n_102_6 : pm_ins 102 6 = some (.istore 4, 2) := by decide +kernel
theorem n_102_8 : pm_ins 102 8 = some (.iconst 5, 1) := by decide +kernel
theorem n_102_9 : pm_ins 102 9 = some (.iload_n 1, 1) := by decide +kernel
theorem n_102_10 : pm_ins 102 10 = some (.imul, 1) := by decide +kernel
theorem n_102_11 : pm_ins 102 11 = some (.istore 5, 2) := by decide +kernel
theorem n_102_13 : pm_ins 102 13 = some (.iload 5, 2) := by decide +kernel
theorem n_102_15 : pm_ins 102 15 = some (.iconst 5, 1) := by decide +kernel
theorem n_102_16 : pm_ins 102 16 = some (.iload_n 1, 1) := by decide +kernel
theorem n_102_17 : pm_ins 102 17 = some (.imul, 1) := by decide +kernel
theorem n_102_18 : pm_ins 102 18 = some (.iconst 5, 1) := by decide +kernel
theorem n_102_19 : pm_ins 102 19 = some (.iadd, 1) := by decide +kernel
theorem n_102_20 : pm_ins 102 20 = some (.if_icmp .ge 63, 3) := by decide +kernel
theorem n_102_23 : pm_ins 102 23 = some (.iload 4, 2) := by decide +kernel
theorem n_102_25 : pm_ins 102 25 = some (.ifCond .ne 45, 3) := by decide +kernel
theorem n_102_28 : pm_ins 102 28 = some (.aload_n 0, 1) := by decide +kernel
theorem n_102_29 : pm_ins 102 29 = some (.getfield 28, 3) := by decide +kernel
theorem n_102_32 : pm_ins 102 32 = some (.iload 5, 2) := by decide +kernel
theorem n_102_34 : pm_ins 102 34 = some (.iaload, 1) := by decide +kernel
theorem n_102_35 : pm_ins 102 35 = some (.ifCond .le 39, 3) := by decide +kernel
theorem n_102_38 : pm_ins 102 38 = some (.aload_n 0, 1) := by decide +kernel
theorem n_102_39 : pm_ins 102 39 = some (.getfield 25, 3) := by decide +kernel
theorem n_102_42 : pm_ins 102 42 = some (.aload_n 0, 1) := by decide +kernel
theorem n_102_43 : pm_ins 102 43 = some (.getfield 28, 3) := by decide +kernel
theorem n_102_46 : pm_ins 102 46 = some (.iload 5, 2) := by decide +kernel
theorem n_102_48 : pm_ins 102 48 = some (.iaload, 1) := by decide +kernel
theorem n_102_49 : pm_ins 102 49 = some (.iconst 1, 1) := by decide +kernel
theorem n_102_50 : pm_ins 102 50 = some (.isub, 1) := by decide +kernel
theorem n_102_51 : pm_ins 102 51 = some (.iaload, 1) := by decide +kernel
theorem n_102_52 : pm_ins 102 52 = some (.iload_n 2, 1) := by decide +kernel
theorem n_102_53 : pm_ins 102 53 = some (.if_icmp .ne 21, 3) := by decide +kernel
theorem n_102_56 : pm_ins 102 56 = some (.aload_n 0, 1) := by decide +kernel
theorem n_102_57 : pm_ins 102 57 = some (.getfield 31, 3) := by decide +kernel
theorem n_102_60 : pm_ins 102 60 = some (.iload 5, 2) := by decide +kernel
theorem n_102_62 : pm_ins 102 62 = some (.baload, 1) := by decide +kernel
theorem n_102_63 : pm_ins 102 63 = some (.ifCond .ne 7, 3) := by decide +kernel
theorem n_102_66 : pm_ins 102 66 = some (.iload_n 3, 1) := by decide +kernel
theorem n_102_67 : pm_ins 102 67 = some (.ifCond .ne 7, 3) := by decide +kernel
theorem n_102_70 : pm_ins 102 70 = some (.iconst 1, 1) := by decide +kernel
theorem n_102_71 : pm_ins 102 71 = some (.goto 4, 3) := by decide +kernel
theorem n_102_74 : pm_ins 102 74 = some (.iconst 0, 1) := by decide +kernel
theorem n_102_75 : pm_ins 102 75 = some (.istore 4, 2) := by decide +kernel
theorem n_102_77 : pm_ins 102 77 = some (.iinc 5 1, 3) := by decide +kernel
theorem n_102_80 : pm_ins 102 80 = some (.goto (-67), 3) := by decide +kernel
theorem n_102_83 : pm_ins 102 83 = some (.iload 4, 2) := by decide +kernel
theorem n_102_85 : pm_ins 102 85 = some (.ireturn, 1) := by decide +kernel
theorem n_103_0 : pm_ins 103 0 = some (.aload_n 0, 1) := by decide +kernel
theorem n_103_1 : pm_ins 103 1 = some (.iload_n 1, 1) := by decide +kernel
theorem n_103_2 : pm_ins 103 2 = some (.invokevirtual 94, 3) := by decide +kernel
theorem n_103_5 : pm_ins 103 5 = some (.ifCond .ne 5, 3) := by decide +kernel
theorem n_103_8 : pm_ins 103 8 = some (.iconst (-1), 1) := by decide +kernel
theorem n_103_9 : pm_ins 103 9 = some (.ireturn, 1) := by decide +kernel
theorem n_103_10 : pm_ins 103 10 = some (.iload_n 2, 1) := by decide +kernel
theorem n_103_11 : pm_ins 103 11 = some (.ifCond .lt 19, 3) := by decide +kernel
theorem n_103_14 : pm_ins 103 14 = some (.iload_n 2, 1) := by decide +kernel
theorem n_103_15 : pm_ins 103 15 = some (.bipush 19, 2) := by decide +kernel
theorem n_103_17 : pm_ins 103 17 = some (.if_icmp .gt 13, 3) := by decide +kernel
theorem n_103_20 : pm_ins 103 20 = some (.iload_n 3, 1) := by decide +kernel
theorem n_103_21 : pm_ins 103 21 = some (.ifCond .lt 9, 3) := by decide +kernel
theorem n_103_24 : pm_ins 103 24 = some (.iload_n 3, 1) := by decide +kernel
theorem n_103_25 : pm_ins 103 25 = some (.bipush 7, 2) := by decide +kernel
theorem n_103_27 : pm_ins 103 27 = some (.if_icmp .le 6, 3) := by decide +kernel
theorem n_103_30 : pm_ins 103 30 = some (.bipush (-2), 2) := by decide +kernel
theorem n_103_32 : pm_ins 103 32 = some (.ireturn, 1) := by decide +kernel
theorem n_103_33 : pm_ins 103 33 = some (.aload_n 0, 1) := by decide +kernel
theorem n_103_34 : pm_ins 103 34 = some (.iload_n 1, 1) := by decide +kernel
theorem n_103_35 : pm_ins 103 35 = some (.iload_n 2, 1) := by decide +kernel
theorem n_103_36 : pm_ins 103 36 = some (.iload 4, 2) := by decide +kernel
theorem n_103_38 : pm_ins 103 38 = some (.invokevirtual 123, 3) := by decide +kernel
theorem n_103_41 : pm_ins 103 41 = some (.ifCond .eq 7, 3) := by decide +kernel
theorem n_103_44 : pm_ins 103 44 = some (.iconst 0, 1) := by decide +kernel
theorem n_103_45 : pm_ins 103 45 = some (.goto 5, 3) := by decide +kernel
theorem n_103_48 : pm_ins 103 48 = some (.bipush (-3), 2) := by decide +kernel
theorem n_103_50 : pm_ins 103 50 = some (.ireturn, 1) := by decide +kernel
theorem n_104_0 : pm_ins 104 0 = some (.aload_n 0, 1) := by decide +kernel
theorem n_104_1 : pm_ins 104 1 = some (.iload_n 1, 1) := by decide +kernel
theorem n_104_2 : pm_ins 104 2 = some (.iload_n 2, 1) := by decide +kernel
theorem n_104_3 : pm_ins 104 3 = some (.iload_n 3, 1) := by decide +kernel
theorem n_104_4 : pm_ins 104 4 = some (.iconst 1, 1) := by decide +kernel
theorem n_104_5 : pm_ins 104 5 = some (.invokevirtual 126, 3) := by decide +kernel
theorem n_104_8 : pm_ins 104 8 = some (.istore 5, 2) := by decide +kernel
theorem n_104_10 : pm_ins 104 10 = some (.iload 5, 2) := by decide +kernel
theorem n_104_12 : pm_ins 104 12 = some (.ifCond .ne 16, 3) := by decide +kernel
theorem n_104_15 : pm_ins 104 15 = some (.aload_n 0, 1) := by decide +kernel
theorem n_104_16 : pm_ins 104 16 = some (.getfield 16, 3) := by decide +kernel
theorem n_104_19 : pm_ins 104 19 = some (.bipush 8, 2) := by decide +kernel
theorem n_104_21 : pm_ins 104 21 = some (.iload_n 2, 1) := by decide +kernel
theorem n_104_22 : pm_ins 104 22 = some (.imul, 1) := by decide +kernel
theorem n_104_23 : pm_ins 104 23 = some (.iload_n 3, 1) := by decide +kernel
theorem n_104_24 : pm_ins 104 24 = some (.iadd, 1) := by decide +kernel
theorem n_104_25 : pm_ins 104 25 = some (.iload 4, 2) := by decide +kernel
theorem n_104_27 : pm_ins 104 27 = some (.iastore, 1) := by decide +kernel
theorem n_104_28 : pm_ins 104 28 = some (.iload 5, 2) := by decide +kernel
theorem n_104_30 : pm_ins 104 30 = some (.ireturn, 1) := by decide +kernel
end
section
theorem n_105_0 : pm_ins 105 0 = some (.iload_n 0, 1) := by decide +kernel
theorem n_105_1 : pm_ins 105 1 = some (.ifCond .ge 12, 3) := by decide +kernel
theorem n_105_4 : pm_ins 105 4 = some (.iload_n 0, 1) := by decide +kernel
theorem n_105_5 : pm_ins 105 5 = some (.i2l, 1) := by decide +kernel
theorem n_105_6 : pm_ins 105 6 = some (.ldc2_w 130, 3) := by decide +kernel
theorem n_105_9 : pm_ins 105 9 = some (.ladd, 1) := by decide +kernel
theorem n_105_10 : pm_ins 105 10 = some (.goto 5, 3) := by decide +kernel
theorem n_105_13 : pm_ins 105 13 = some (.iload_n 0, 1) := by decide +kernel
theorem n_105_14 : pm_ins 105 14 = some (.i2l, 1) := by decide +kernel
theorem n_105_15 : pm_ins 105 15 = some (.lreturn, 1) := by decide +kernel
theorem n_106_0 : pm_ins 106 0 = some (.aload_n 0, 1) := by decide +kernel
theorem n_106_1 : pm_ins 106 1 = some (.iload_n 1, 1) := by decide +kernel
theorem n_106_2 : pm_ins 106 2 = some (.iload_n 2, 1) := by decide +kernel
theorem n_106_3 : pm_ins 106 3 = some (.iload_n 3, 1) := by decide +kernel
theorem n_106_4 : pm_ins 106 4 = some (.iconst 0, 1) := by decide +kernel
theorem n_106_5 : pm_ins 106 5 = some (.invokevirtual 126, 3) := by decide +kernel
theorem n_106_8 : pm_ins 106 8 = some (.istore 4, 2) := by decide +kernel
theorem n_106_10 : pm_ins 106 10 = some (.iload 4, 2) := by decide +kernel
theorem n_106_12 : pm_ins 106 12 = some (.ifCond .ge 9, 3) := by decide +kernel
theorem n_106_15 : pm_ins 106 15 = some (.iload 4, 2) := by decide +kernel
theorem n_106_17 : pm_ins 106 17 = some (.i2l, 1) := by decide +kernel
theorem n_106_18 : pm_ins 106 18 = some (.goto 17, 3) := by decide +kernel
theorem n_106_21 : pm_ins 106 21 = some (.aload_n 0, 1) := by decide +kernel
theorem n_106_22 : pm_ins 106 22 = some (.getfield 16, 3) := by decide +kernel
theorem n_106_25 : pm_ins 106 25 = some (.bipush 8, 2) := by decide +kernel
theorem n_106_27 : pm_ins 106 27 = some (.iload_n 2, 1) := by decide +kernel
theorem n_106_28 : pm_ins 106 28 = some (.imul, 1) := by decide +kernel
theorem n_106_29 : pm_ins 106 29 = some (.iload_n 3, 1) := by decide +kernel
theorem n_106_30 : pm_ins 106 30 = some (.iadd, 1) := by decide +kernel
theorem n_106_31 : pm_ins 106 31 = some (.iaload, 1) := by decide +kernel
theorem n_106_32 : pm_ins 106 32 = some (.invokestatic 132, 3) := by decide +kernel
theorem n_106_35 : pm_ins 106 35 = some (.lreturn, 1) := by decide +kernel
theorem n_107_0 : pm_ins 107 0 = some (.aload_n 0, 1) := by decide +kernel
theorem n_107_1 : pm_ins 107 1 = some (.iload_n 1, 1) := by decide +kernel
theorem n_107_2 : pm_ins 107 2 = some (.invokevirtual 94, 3) := by decide +kernel
theorem n_107_5 : pm_ins 107 5 = some (.ifCond .ne 5, 3) := by decide +kernel
theorem n_107_8 : pm_ins 107 8 = some (.iconst (-1), 1) := by decide +kernel
theorem n_107_9 : pm_ins 107 9 = some (.ireturn, 1) := by decide +kernel
theorem n_107_10 : pm_ins 107 10 = some (.iload_n 2, 1) := by decide +kernel
theorem n_107_11 : pm_ins 107 11 = some (.ifCond .lt 13, 3) := by decide +kernel
theorem n_107_14 : pm_ins 107 14 = some (.iload_n 2, 1) := by decide +kernel
theorem n_107_15 : pm_ins 107 15 = some (.iconst 4, 1) := by decide +kernel
theorem n_107_16 : pm_ins 107 16 = some (.if_icmp .gt 8, 3) := by decide +kernel
theorem n_107_19 : pm_ins 107 19 = some (.iload_n 2, 1) := by decide +kernel
theorem n_107_20 : pm_ins 107 20 = some (.iload_n 1, 1) := by decide +kernel
theorem n_107_21 : pm_ins 107 21 = some (.if_icmp .ne 6, 3) := by decide +kernel
theorem n_107_24 : pm_ins 107 24 = some (.bipush (-2), 2) := by decide +kernel
theorem n_107_26 : pm_ins 107 26 = some (.ireturn, 1) := by decide +kernel
theorem n_107_27 : pm_ins 107 27 = some (.aload_n 0, 1) := by decide +kernel
theorem n_107_28 : pm_ins 107 28 = some (.iload_n 1, 1) := by decide +kernel
theorem n_107_29 : pm_ins 107 29 = some (.invokevirtual 136, 3) := by decide +kernel
theorem n_107_32 : pm_ins 107 32 = some (.istore_n 3, 1) := by decide +kernel
theorem n_107_33 : pm_ins 107 33 = some (.iload_n 3, 1) := by decide +kernel
theorem n_107_34 : pm_ins 107 34 = some (.ifCond .ge 6, 3) := by decide +kernel
theorem n_107_37 : pm_ins 107 37 = some (.bipush (-7), 2) := by decide +kernel
theorem n_107_39 : pm_ins 107 39 = some (.ireturn, 1) := by decide +kernel
theorem n_107_40 : pm_ins 107 40 = some (.aload_n 0, 1) := by decide +kernel
theorem n_107_41 : pm_ins 107 41 = some (.getfield 35, 3) := by decide +kernel
theorem n_107_44 : pm_ins 107 44 = some (.iconst 4, 1) := by decide +kernel
theorem n_107_45 : pm_ins 107 45 = some (.iload_n 1, 1) := by decide +kernel
theorem n_107_46 : pm_ins 107 46 = some (.imul, 1) := by decide +kernel
theorem n_107_47 : pm_ins 107 47 = some (.iload_n 3, 1) := by decide +kernel
theorem n_107_48 : pm_ins 107 48 = some (.iadd, 1) := by decide +kernel
theorem n_107_49 : pm_ins 107 49 = some (.iconst 1, 1) := by decide +kernel
theorem n_107_50 : pm_ins 107 50 = some (.iastore, 1) := by decide +kernel
theorem n_107_51 : pm_ins 107 51 = some (.aload_n 0, 1) := by decide +kernel
theorem n_107_52 : pm_ins 107 52 = some (.getfield 38, 3) := by decide +kernel
theorem n_107_55 : pm_ins 107 55 = some (.iconst 4, 1) := by decide +kernel
theorem n_107_56 : pm_ins 107 56 = some (.iload_n 1, 1) := by decide +kernel
theorem n_107_57 : pm_ins 107 57 = some (.imul, 1) := by decide +kernel
theorem n_107_58 : pm_ins 107 58 = some (.iload_n 3, 1) := by decide +kernel
theorem n_107_59 : pm_ins 107 59 = some (.iadd, 1) := by decide +kernel
theorem n_107_60 : pm_ins 107 60 = some (.iload_n 2, 1) := by decide +kernel
theorem n_107_61 : pm_ins 107 61 = some (.iastore, 1) := by decide +kernel
theorem n_107_62 : pm_ins 107 62 = some (.iload_n 3, 1) := by decide +kernel
theorem n_107_63 : pm_ins 107 63 = some (.ireturn, 1) := by decide +kernel
theorem n_108_0 : pm_ins 108 0 = some (.aload_n 0, 1) := by decide +kernel
theorem n_108_1 : pm_ins 108 1 = some (.iload_n 1, 1) := by decide +kernel
theorem n_108_2 : pm_ins 108 2 = some (.invokevirtual 94, 3) := by decide +kernel
theorem n_108_5 : pm_ins 108 5 = some (.ifCond .eq 11, 3) := by decide +kernel
theorem n_108_8 : pm_ins 108 8 = some (.aload_n 0, 1) := by decide +kernel
theorem n_108_9 : pm_ins 108 9 = some (.iload_n 2, 1) := by decide +kernel
theorem n_108_10 : pm_ins 108 10 = some (.invokevirtual 94, 3) := by decide +kernel
theorem n_108_13 : pm_ins 108 13 = some (.ifCond .ne 5, 3) := by decide +kernel
theorem n_108_16 : pm_ins 108 16 = some (.iconst (-1), 1) := by decide +kernel
theorem n_108_17 : pm_ins 108 17 = some (.ireturn, 1) := by decide +kernel
theorem n_108_18 : pm_ins 108 18 = some (.iload_n 3, 1) := by decide +kernel
theorem n_108_19 : pm_ins 108 19 = some (.ifCond .lt 36, 3) := by decide +kernel
theorem n_108_22 : pm_ins 108 22 = some (.iload_n 3, 1) := by decide +kernel
theorem n_108_23 : pm_ins 108 23 = some (.iconst 3, 1) := by decide +kernel
theorem n_108_24 : pm_ins 108 24 = some (.if_icmp .gt 31, 3) := by decide +kernel
theorem n_108_27 : pm_ins 108 27 = some (.aload_n 0, 1) := by decide +kernel
theorem n_108_28 : pm_ins 108 28 = some (.getfield 35, 3) := by decide +kernel
theorem n_108_31 : pm_ins 108 31 = some (.iconst 4, 1) := by decide +kernel
theorem n_108_32 : pm_ins 108 32 = some (.iload_n 2, 1) := by decide +kernel
theorem n_108_33 : pm_ins 108 33 = some (.imul, 1) := by decide +kernel
theorem n_108_34 : pm_ins 108 34 = some (.iload_n 3, 1) := by decide +kernel
theorem n_108_35 : pm_ins 108 35 = some (.iadd, 1) := by decide +kernel
theorem n_108_36 : pm_ins 108 36 = some (.iaload, 1) := by decide +kernel
theorem n_108_37 : pm_ins 108 37 = some (.iconst 1, 1) := by decide +kernel
theorem n_108_38 : pm_ins 108 38 = some (.if_icmp .ne 17, 3) := by decide +kernel
theorem n_108_41 : pm_ins 108 41 = some (.aload_n 0, 1) := by decide +kernel
theorem n_108_42 : pm_ins 108 42 = some (.getfield 38, 3) := by decide +kernel
theorem n_108_45 : pm_ins 108 45 = some (.iconst 4, 1) := by decide +kernel
theorem n_108_46 : pm_ins 108 46 = some (.iload_n 2, 1) := by decide +kernel
theorem n_108_47 : pm_ins 108 47 = some (.imul, 1) := by decide +kernel
theorem n_108_48 : pm_ins 108 48 = some (.iload_n 3, 1) := by decide +kernel
theorem n_108_49 : pm_ins 108 49 = some (.iadd, 1) := by decide +kernel
theorem n_108_50 : pm_ins 108 50 = some (.iaload, 1) := by decide +kernel
theorem n_108_51 : pm_ins 108 51 = some (.iload_n 1, 1) := by decide +kernel
theorem n_108_52 : pm_ins 108 52 = some (.if_icmp .eq 6, 3) := by decide +kernel
theorem n_108_55 : pm_ins 108 55 = some (.bipush (-8), 2) := by decide +kernel
theorem n_108_57 : pm_ins 108 57 = some (.ireturn, 1) := by decide +kernel
theorem n_108_58 : pm_ins 108 58 = some (.aload_n 0, 1) := by decide +kernel
theorem n_108_59 : pm_ins 108 59 = some (.iload_n 1, 1) := by decide +kernel
theorem n_108_60 : pm_ins 108 60 = some (.invokevirtual 136, 3) := by decide +kernel
theorem n_108_63 : pm_ins 108 63 = some (.istore 4, 2) := by decide +kernel
theorem n_108_65 : pm_ins 108 65 = some (.iload 4, 2) := by decide +kernel
theorem n_108_67 : pm_ins 108 67 = some (.ifCond .ge 6, 3) := by decide +kernel
theorem n_108_70 : pm_ins 108 70 = some (.bipush (-7), 2) := by decide +kernel
theorem n_108_72 : pm_ins 108 72 = some (.ireturn, 1) := by decide +kernel
theorem n_108_73 : pm_ins 108 73 = some (.aload_n 0, 1) := by decide +kernel
theorem n_108_74 : pm_ins 108 74 = some (.getfield 35, 3) := by decide +kernel
theorem n_108_77 : pm_ins 108 77 = some (.iconst 4, 1) := by decide +kernel
theorem n_108_78 : pm_ins 108 78 = some (.iload_n 1, 1) := by decide +kernel
theorem n_108_79 : pm_ins 108 79 = some (.imul, 1) := by decide +kernel
theorem n_108_80 : pm_ins 108 80 = some (.iload 4, 2) := by decide +kernel
theorem n_108_82 : pm_ins 108 82 = some (.iadd, 1) := by decide +kernel
theorem n_108_83 : pm_ins 108 83 = some (.iconst 2, 1) := by decide +kernel
theorem n_108_84 : pm_ins 108 84 = some (.iastore, 1) := by decide +kernel
theorem n_108_85 : pm_ins 108 85 = some (.aload_n 0, 1) := by decide +kernel
theorem n_108_86 : pm_ins 108 86 = some (.getfield 38, 3) := by decide +kernel
theorem n_108_89 : pm_ins 108 89 = some (.iconst 4, 1) := by decide +kernel
theorem n_108_90 : pm_ins 108 90 = some (.iload_n 1, 1) := by decide +kernel
theorem n_108_91 : pm_ins 108 91 = some (.imul, 1) := by decide +kernel
theorem n_108_92 : pm_ins 108 92 = some (.iload 4, 2) := by decide +kernel
theorem n_108_94 : pm_ins 108 94 = some (.iadd, 1) := by decide +kernel
theorem n_108_95 : pm_ins 108 95 = some (.iconst 4, 1) := by decide +kernel
theorem n_108_96 : pm_ins 108 96 = some (.iload_n 2, 1) := by decide +kernel
theorem n_108_97 : pm_ins 108 97 = some (.imul, 1) := by decide +kernel
theorem n_108_98 : pm_ins 108 98 = some (.iload_n 3, 1) := by decide +kernel
theorem n_108_99 : pm_ins 108 99 = some (.iadd, 1) := by decide +kernel
theorem n_108_100 : pm_ins 108 100 = some (.iastore, 1) := by decide +kernel
theorem n_108_101 : pm_ins 108 101 = some (.aload_n 0, 1) := by decide +kernel
theorem n_108_102 : pm_ins 108 102 = some (.getfield 35, 3) := by decide +kernel
theorem n_108_105 : pm_ins 108 105 = some (.iconst 4, 1) := by decide +kernel
theorem n_108_106 : pm_ins 108 106 = some (.iload_n 2, 1) := by decide +kernel
theorem n_108_107 : pm_ins 108 107 = some (.imul, 1) := by decide +kernel
theorem n_108_108 : pm_ins 108 108 = some (.iload_n 3, 1) := by decide +kernel
theorem n_108_109 : pm_ins 108 109 = some (.iadd, 1) := by decide +kernel
theorem n_108_110 : pm_ins 108 110 = some (.iconst 2, 1) := by decide +kernel
theorem n_108_111 : pm_ins 108 111 = some (.iastore, 1) := by decide +kernel
theorem n_108_112 : pm_ins 108 112 = some (.aload_n 0, 1) := by decide +kernel
theorem n_108_113 : pm_ins 108 113 = some (.getfield 38, 3) := by decide +kernel
theorem n_108_116 : pm_ins 108 116 = some (.iconst 4, 1) := by decide +kernel
theorem n_108_117 : pm_ins 108 117 = some (.iload_n 2, 1) := by decide +kernel
theorem n_108_118 : pm_ins 108 118 = some (.imul, 1) := by decide +kernel
theorem n_108_119 : pm_ins 108 119 = some (.iload_n 3, 1) := by decide +kernel
theorem n_108_120 : pm_ins 108 120 = some (.iadd, 1) := by decide +kernel
theorem n_108_121 : pm_ins 108 121 = some (.iconst 4, 1) := by decide +kernel
theorem n_108_122 : pm_ins 108 122 = some (.iload_n 1, 1) := by decide +kernel
theorem n_108_123 : pm_ins 108 123 = some (.imul, 1) := by decide +kernel
theorem n_108_124 : pm_ins 108 124 = some (.iload 4, 2) := by decide +kernel
theorem n_108_126 : pm_ins 108 126 = some (.iadd, 1) := by decide +kernel
theorem n_108_127 : pm_ins 108 127 = some (.iastore, 1) := by decide +kernel
theorem n_108_128 : pm_ins 108 128 = some (.iload 4, 2) := by decide +kernel
theorem n_108_130 : pm_ins 108 130 = some (.ireturn, 1) := by decide +kernel
theorem n_109_0 : pm_ins 109 0 = some (.aload_n 0, 1) := by decide +kernel
theorem n_109_1 : pm_ins 109 1 = some (.iload_n 1, 1) := by decide +kernel
theorem n_109_2 : pm_ins 109 2 = some (.invokevirtual 94, 3) := by decide +kernel
theorem n_109_5 : pm_ins 109 5 = some (.ifCond .ne 5, 3) := by decide +kernel
theorem n_109_8 : pm_ins 109 8 = some (.iconst (-1), 1) := by decide +kernel
theorem n_109_9 : pm_ins 109 9 = some (.ireturn, 1) := by decide +kernel
theorem n_109_10 : pm_ins 109 10 = some (.iload_n 2, 1) := by decide +kernel
theorem n_109_11 : pm_ins 109 11 = some (.ifCond .lt 22, 3) := by decide +kernel
theorem n_109_14 : pm_ins 109 14 = some (.iload_n 2, 1) := by decide +kernel
theorem n_109_15 : pm_ins 109 15 = some (.iconst 3, 1) := by decide +kernel
theorem n_109_16 : pm_ins 109 16 = some (.if_icmp .gt 17, 3) := by decide +kernel
theorem n_109_19 : pm_ins 109 19 = some (.aload_n 0, 1) := by decide +kernel
theorem n_109_20 : pm_ins 109 20 = some (.getfield 35, 3) := by decide +kernel
theorem n_109_23 : pm_ins 109 23 = some (.iconst 4, 1) := by decide +kernel
theorem n_109_24 : pm_ins 109 24 = some (.iload_n 1, 1) := by decide +kernel
theorem n_109_25 : pm_ins 109 25 = some (.imul, 1) := by decide +kernel
theorem n_109_26 : pm_ins 109 26 = some (.iload_n 2, 1) := by decide +kernel
theorem n_109_27 : pm_ins 109 27 = some (.iadd, 1) := by decide +kernel
theorem n_109_28 : pm_ins 109 28 = some (.iaload, 1) := by decide +kernel
theorem n_109_29 : pm_ins 109 29 = some (.iconst 2, 1) := by decide +kernel
theorem n_109_30 : pm_ins 109 30 = some (.if_icmp .eq 6, 3) := by decide +kernel
theorem n_109_33 : pm_ins 109 33 = some (.bipush (-8), 2) := by decide +kernel
theorem n_109_35 : pm_ins 109 35 = some (.ireturn, 1) := by decide +kernel
theorem n_109_36 : pm_ins 109 36 = some (.aload_n 0, 1) := by decide +kernel
theorem n_109_37 : pm_ins 109 37 = some (.getfield 41, 3) := by decide +kernel
theorem n_109_40 : pm_ins 109 40 = some (.aload_n 0, 1) := by decide +kernel
theorem n_109_41 : pm_ins 109 41 = some (.getfield 38, 3) := by decide +kernel
theorem n_109_44 : pm_ins 109 44 = some (.iconst 4, 1) := by decide +kernel
theorem n_109_45 : pm_ins 109 45 = some (.iload_n 1, 1) := by decide +kernel
theorem n_109_46 : pm_ins 109 46 = some (.imul, 1) := by decide +kernel
theorem n_109_47 : pm_ins 109 47 = some (.iload_n 2, 1) := by decide +kernel
theorem n_109_48 : pm_ins 109 48 = some (.iadd, 1) := by decide +kernel
theorem n_109_49 : pm_ins 109 49 = some (.iaload, 1) := by decide +kernel
theorem n_109_50 : pm_ins 109 50 = some (.baload, 1) := by decide +kernel
theorem n_109_51 : pm_ins 109 51 = some (.istore_n 3, 1) := by decide +kernel
theorem n_109_52 : pm_ins 109 52 = some (.aload_n 0, 1) := by decide +kernel
theorem n_109_53 : pm_ins 109 53 = some (.getfield 41, 3) := by decide +kernel
theorem n_109_56 : pm_ins 109 56 = some (.aload_n 0, 1) := by decide +kernel
theorem n_109_57 : pm_ins 109 57 = some (.getfield 38, 3) := by decide +kernel
theorem n_109_60 : pm_ins 109 60 = some (.iconst 4, 1) := by decide +kernel
theorem n_109_61 : pm_ins 109 61 = some (.iload_n 1, 1) := by decide +kernel
theorem n_109_62 : pm_ins 109 62 = some (.imul, 1) := by decide +kernel
theorem n_109_63 : pm_ins 109 63 = some (.iload_n 2, 1) := by decide +kernel
theorem n_109_64 : pm_ins 109 64 = some (.iadd, 1) := by decide +kernel
theorem n_109_65 : pm_ins 109 65 = some (.iaload, 1) := by decide +kernel
theorem n_109_66 : pm_ins 109 66 = some (.iconst 1, 1) := by decide +kernel
theorem n_109_67 : pm_ins 109 67 = some (.bastore, 1) := by decide +kernel
theorem n_109_68 : pm_ins 109 68 = some (.iload_n 3, 1) := by decide +kernel
theorem n_109_69 : pm_ins 109 69 = some (.ifCond .eq 7, 3) := by decide +kernel
theorem n_109_72 : pm_ins 109 72 = some (.iconst 0, 1) := by decide +kernel
theorem n_109_73 : pm_ins 109 73 = some (.goto 4, 3) := by decide +kernel
theorem n_109_76 : pm_ins 109 76 = some (.iconst 1, 1) := by decide +kernel
theorem n_109_77 : pm_ins 109 77 = some (.ireturn, 1) := by decide +kernel
theorem n_110_0 : pm_ins 110 0 = some (.aload_n 0, 1) := by decide +kernel
theorem n_110_1 : pm_ins 110 1 = some (.iload_n 1, 1) := by decide +kernel
theorem n_110_2 : pm_ins 110 2 = some (.invokevirtual 94, 3) := by decide +kernel
theorem n_110_5 : pm_ins 110 5 = some (.ifCond .ne 5, 3) := by decide +kernel
theorem n_110_8 : pm_ins 110 8 = some (.iconst (-1), 1) := by decide +kernel
theorem n_110_9 : pm_ins 110 9 = some (.ireturn, 1) := by decide +kernel
theorem n_110_10 : pm_ins 110 10 = some (.iconst 0, 1) := by decide +kernel
theorem n_110_11 : pm_ins 110 11 = some (.istore_n 2, 1) := by decide +kernel
theorem n_110_12 : pm_ins 110 12 = some (.iload_n 2, 1) := by decide +kernel
theorem n_110_13 : pm_ins 110 13 = some (.iconst 4, 1) := by decide +kernel
theorem n_110_14 : pm_ins 110 14 = some (.if_icmp .ge 35, 3) := by decide +kernel
theorem n_110_17 : pm_ins 110 17 = some (.aload_n 0, 1) := by decide +kernel
theorem n_110_18 : pm_ins 110 18 = some (.getfield 41, 3) := by decide +kernel
theorem n_110_21 : pm_ins 110 21 = some (.iconst 4, 1) := by decide +kernel
theorem n_110_22 : pm_ins 110 22 = some (.iload_n 1, 1) := by decide +kernel
theorem n_110_23 : pm_ins 110 23 = some (.imul, 1) := by decide +kernel
theorem n_110_24 : pm_ins 110 24 = some (.iload_n 2, 1) := by decide +kernel
theorem n_110_25 : pm_ins 110 25 = some (.iadd, 1) := by decide +kernel
theorem n_110_26 : pm_ins 110 26 = some (.baload, 1) := by decide +kernel
theorem n_110_27 : pm_ins 110 27 = some (.ifCond .eq 16, 3) := by decide +kernel
theorem n_110_30 : pm_ins 110 30 = some (.aload_n 0, 1) := by decide +kernel
theorem n_110_31 : pm_ins 110 31 = some (.getfield 41, 3) := by decide +kernel
theorem n_110_34 : pm_ins 110 34 = some (.iconst 4, 1) := by decide +kernel
theorem n_110_35 : pm_ins 110 35 = some (.iload_n 1, 1) := by decide +kernel
theorem n_110_36 : pm_ins 110 36 = some (.imul, 1) := by decide +kernel
theorem n_110_37 : pm_ins 110 37 = some (.iload_n 2, 1) := by decide +kernel
theorem n_110_38 : pm_ins 110 38 = some (.iadd, 1) := by decide +kernel
theorem n_110_39 : pm_ins 110 39 = some (.iconst 0, 1) := by decide +kernel
theorem n_110_40 : pm_ins 110 40 = some (.bastore, 1) := by decide +kernel
theorem n_110_41 : pm_ins 110 41 = some (.iload_n 2, 1) := by decide +kernel
theorem n_110_42 : pm_ins 110 42 = some (.ireturn, 1) := by decide +kernel
theorem n_110_43 : pm_ins 110 43 = some (.iinc 2 1, 3) := by decide +kernel
theorem n_110_46 : pm_ins 110 46 = some (.goto (-34), 3) := by decide +kernel
theorem n_110_49 : pm_ins 110 49 = some (.bipush (-11), 2) := by decide +kernel
theorem n_110_51 : pm_ins 110 51 = some (.ireturn, 1) := by decide +kernel
theorem n_111_0 : pm_ins 111 0 = some (.aload_n 0, 1) := by decide +kernel
theorem n_111_1 : pm_ins 111 1 = some (.iload_n 1, 1) := by decide +kernel
theorem n_111_2 : pm_ins 111 2 = some (.invokevirtual 94, 3) := by decide +kernel
theorem n_111_5 : pm_ins 111 5 = some (.ifCond .eq 11, 3) := by decide +kernel
theorem n_111_8 : pm_ins 111 8 = some (.aload_n 0, 1) := by decide +kernel
theorem n_111_9 : pm_ins 111 9 = some (.iload_n 2, 1) := by decide +kernel
theorem n_111_10 : pm_ins 111 10 = some (.invokevirtual 94, 3) := by decide +kernel
theorem n_111_13 : pm_ins 111 13 = some (.ifCond .ne 5, 3) := by decide +kernel
theorem n_111_16 : pm_ins 111 16 = some (.iconst (-1), 1) := by decide +kernel
theorem n_111_17 : pm_ins 111 17 = some (.ireturn, 1) := by decide +kernel
theorem n_111_18 : pm_ins 111 18 = some (.iload_n 1, 1) := by decide +kernel
theorem n_111_19 : pm_ins 111 19 = some (.iload_n 2, 1) := by decide +kernel
theorem n_111_20 : pm_ins 111 20 = some (.if_icmp .ne 6, 3) := by decide +kernel
theorem n_111_23 : pm_ins 111 23 = some (.bipush (-2), 2) := by decide +kernel
theorem n_111_25 : pm_ins 111 25 = some (.ireturn, 1) := by decide +kernel
theorem n_111_26 : pm_ins 111 26 = some (.iconst 0, 1) := by decide +kernel
theorem n_111_27 : pm_ins 111 27 = some (.istore_n 3, 1) := by decide +kernel
theorem n_111_28 : pm_ins 111 28 = some (.iload_n 3, 1) := by decide +kernel
theorem n_111_29 : pm_ins 111 29 = some (.iconst 3, 1) := by decide +kernel
theorem n_111_30 : pm_ins 111 30 = some (.if_icmp .ge 18, 3) := by decide +kernel
theorem n_111_33 : pm_ins 111 33 = some (.aload_n 0, 1) := by decide +kernel
theorem n_111_34 : pm_ins 111 34 = some (.getfield 44, 3) := by decide +kernel
theorem n_111_37 : pm_ins 111 37 = some (.iload_n 3, 1) := by decide +kernel
theorem n_111_38 : pm_ins 111 38 = some (.iaload, 1) := by decide +kernel
theorem n_111_39 : pm_ins 111 39 = some (.ifCond .le 9, 3) := by decide +kernel
theorem n_111_42 : pm_ins 111 42 = some (.iinc 3 1, 3) := by decide +kernel
theorem n_111_45 : pm_ins 111 45 = some (.goto (-17), 3) := by decide +kernel
theorem n_111_48 : pm_ins 111 48 = some (.iload_n 3, 1) := by decide +kernel
theorem n_111_49 : pm_ins 111 49 = some (.iconst 3, 1) := by decide +kernel
theorem n_111_50 : pm_ins 111 50 = some (.if_icmp .ge 32, 3) := by decide +kernel
theorem n_111_53 : pm_ins 111 53 = some (.aload_n 0, 1) := by decide +kernel
theorem n_111_54 : pm_ins 111 54 = some (.iload_n 1, 1) := by decide +kernel
theorem n_111_55 : pm_ins 111 55 = some (.invokevirtual 91, 3) := by decide +kernel
theorem n_111_58 : pm_ins 111 58 = some (.bipush 6, 2) := by decide +kernel
theorem n_111_60 : pm_ins 111 60 = some (.if_icmp .ge 22, 3) := by decide +kernel
theorem n_111_63 : pm_ins 111 63 = some (.aload_n 0, 1) := by decide +kernel
theorem n_111_64 : pm_ins 111 64 = some (.invokevirtual 109, 3) := by decide +kernel
theorem n_111_67 : pm_ins 111 67 = some (.ifCond .lt 15, 3) := by decide +kernel
theorem n_111_70 : pm_ins 111 70 = some (.aload_n 0, 1) := by decide +kernel
theorem n_111_71 : pm_ins 111 71 = some (.iload_n 1, 1) := by decide +kernel
theorem n_111_72 : pm_ins 111 72 = some (.invokevirtual 113, 3) := by decide +kernel
theorem n_111_75 : pm_ins 111 75 = some (.ifCond .lt 7, 3) := by decide +kernel
theorem n_111_78 : pm_ins 111 78 = some (.iconst 1, 1) := by decide +kernel
theorem n_111_79 : pm_ins 111 79 = some (.goto 4, 3) := by decide +kernel
theorem n_111_82 : pm_ins 111 82 = some (.iconst 0, 1) := by decide +kernel
theorem n_111_83 : pm_ins 111 83 = some (.istore 4, 2) := by decide +kernel
theorem n_111_85 : pm_ins 111 85 = some (.iload 4, 2) := by decide +kernel
theorem n_111_87 : pm_ins 111 87 = some (.ifCond .eq 27, 3) := by decide +kernel
theorem n_111_90 : pm_ins 111 90 = some (.aload_n 0, 1) := by decide +kernel
theorem n_111_91 : pm_ins 111 91 = some (.iload_n 2, 1) := by decide +kernel
theorem n_111_92 : pm_ins 111 92 = some (.invokevirtual 120, 3) := by decide +kernel
theorem n_111_95 : pm_ins 111 95 = some (.ifCond .lt 19, 3) := by decide +kernel
theorem n_111_98 : pm_ins 111 98 = some (.aload_n 0, 1) := by decide +kernel
theorem n_111_99 : pm_ins 111 99 = some (.iload_n 1, 1) := by decide +kernel
theorem n_111_100 : pm_ins 111 100 = some (.invokevirtual 136, 3) := by decide +kernel
theorem n_111_103 : pm_ins 111 103 = some (.ifCond .lt 11, 3) := by decide +kernel
theorem n_111_106 : pm_ins 111 106 = some (.aload_n 0, 1) := by decide +kernel
theorem n_111_107 : pm_ins 111 107 = some (.iload_n 2, 1) := by decide +kernel
theorem n_111_108 : pm_ins 111 108 = some (.invokevirtual 136, 3) := by decide +kernel
theorem n_111_111 : pm_ins 111 111 = some (.ifCond .ge 6, 3) := by decide +kernel
theorem n_111_114 : pm_ins 111 114 = some (.bipush (-7), 2) := by decide +kernel
theorem n_111_116 : pm_ins 111 116 = some (.ireturn, 1) := by decide +kernel
theorem n_111_117 : pm_ins 111 117 = some (.aload_n 0, 1) := by decide +kernel
theorem n_111_118 : pm_ins 111 118 = some (.getfield 44, 3) := by decide +kernel
theorem n_111_121 : pm_ins 111 121 = some (.iload_n 3, 1) := by decide +kernel
theorem n_111_122 : pm_ins 111 122 = some (.iload_n 1, 1) := by decide +kernel
theorem n_111_123 : pm_ins 111 123 = some (.iconst 1, 1) := by decide +kernel
theorem n_111_124 : pm_ins 111 124 = some (.iadd, 1) := by decide +kernel
theorem n_111_125 : pm_ins 111 125 = some (.iastore, 1) := by decide +kernel
theorem n_111_126 : pm_ins 111 126 = some (.aload_n 0, 1) := by decide +kernel
theorem n_111_127 : pm_ins 111 127 = some (.getfield 47, 3) := by decide +kernel
theorem n_111_130 : pm_ins 111 130 = some (.iload_n 3, 1) := by decide +kernel
theorem n_111_131 : pm_ins 111 131 = some (.iload_n 2, 1) := by decide +kernel
theorem n_111_132 : pm_ins 111 132 = some (.iastore, 1) := by decide +kernel
theorem n_111_133 : pm_ins 111 133 = some (.aload_n 0, 1) := by decide +kernel
theorem n_111_134 : pm_ins 111 134 = some (.getfield 50, 3) := by decide +kernel
theorem n_111_137 : pm_ins 111 137 = some (.iload_n 3, 1) := by decide +kernel
theorem n_111_138 : pm_ins 111 138 = some (.aload_n 0, 1) := by decide +kernel
theorem n_111_139 : pm_ins 111 139 = some (.iload_n 1, 1) := by decide +kernel
theorem n_111_140 : pm_ins 111 140 = some (.invokevirtual 139, 3) := by decide +kernel
theorem n_111_143 : pm_ins 111 143 = some (.iastore, 1) := by decide +kernel
theorem n_111_144 : pm_ins 111 144 = some (.aload_n 0, 1) := by decide +kernel
theorem n_111_145 : pm_ins 111 145 = some (.getfield 53, 3) := by decide +kernel
theorem n_111_148 : pm_ins 111 148 = some (.iload_n 3, 1) := by decide +kernel
theorem n_111_149 : pm_ins 111 149 = some (.aload_n 0, 1) := by decide +kernel
theorem n_111_150 : pm_ins 111 150 = some (.iload_n 1, 1) := by decide +kernel
theorem n_111_151 : pm_ins 111 151 = some (.iload_n 2, 1) := by decide +kernel
theorem n_111_152 : pm_ins 111 152 = some (.aload_n 0, 1) := by decide +kernel
theorem n_111_153 : pm_ins 111 153 = some (.getfield 50, 3) := by decide +kernel
theorem n_111_156 : pm_ins 111 156 = some (.iload_n 3, 1) := by decide +kernel
theorem n_111_157 : pm_ins 111 157 = some (.iaload, 1) := by decide +kernel
theorem n_111_158 : pm_ins 111 158 = some (.iconst 1, 1) := by decide +kernel
theorem n_111_159 : pm_ins 111 159 = some (.invokevirtual 142, 3) := by decide +kernel
theorem n_111_162 : pm_ins 111 162 = some (.iastore, 1) := by decide +kernel
theorem n_111_163 : pm_ins 111 163 = some (.aload_n 0, 1) := by decide +kernel
theorem n_111_164 : pm_ins 111 164 = some (.getfield 56, 3) := by decide +kernel
theorem n_111_167 : pm_ins 111 167 = some (.iload_n 3, 1) := by decide +kernel
theorem n_111_168 : pm_ins 111 168 = some (.aload_n 0, 1) := by decide +kernel
theorem n_111_169 : pm_ins 111 169 = some (.iload_n 2, 1) := by decide +kernel
theorem n_111_170 : pm_ins 111 170 = some (.iload_n 1, 1) := by decide +kernel
theorem n_111_171 : pm_ins 111 171 = some (.aload_n 0, 1) := by decide +kernel
theorem n_111_172 : pm_ins 111 172 = some (.getfield 53, 3) := by decide +kernel
theorem n_111_175 : pm_ins 111 175 = some (.iload_n 3, 1) := by decide +kernel
theorem n_111_176 : pm_ins 111 176 = some (.iaload, 1) := by decide +kernel
theorem n_111_177 : pm_ins 111 177 = some (.iconst 1, 1) := by decide +kernel
theorem n_111_178 : pm_ins 111 178 = some (.invokevirtual 146, 3) := by decide +kernel
theorem n_111_181 : pm_ins 111 181 = some (.iastore, 1) := by decide +kernel
theorem n_111_182 : pm_ins 111 182 = some (.aload_n 0, 1) := by decide +kernel
theorem n_111_183 : pm_ins 111 183 = some (.getfield 59, 3) := by decide +kernel
theorem n_111_186 : pm_ins 111 186 = some (.iload_n 3, 1) := by decide +kernel
theorem n_111_187 : pm_ins 111 187 = some (.aload_n 0, 1) := by decide +kernel
theorem n_111_188 : pm_ins 111 188 = some (.iload_n 1, 1) := by decide +kernel
theorem n_111_189 : pm_ins 111 189 = some (.iload_n 2, 1) := by decide +kernel
theorem n_111_190 : pm_ins 111 190 = some (.invokevirtual 149, 3) := by decide +kernel
theorem n_111_193 : pm_ins 111 193 = some (.iastore, 1) := by decide +kernel
theorem n_111_194 : pm_ins 111 194 = some (.aload_n 0, 1) := by decide +kernel
theorem n_111_195 : pm_ins 111 195 = some (.getfield 62, 3) := by decide +kernel
theorem n_111_198 : pm_ins 111 198 = some (.iload_n 3, 1) := by decide +kernel
theorem n_111_199 : pm_ins 111 199 = some (.aload_n 0, 1) := by decide +kernel
theorem n_111_200 : pm_ins 111 200 = some (.iload_n 2, 1) := by decide +kernel
theorem n_111_201 : pm_ins 111 201 = some (.iload_n 1, 1) := by decide +kernel
theorem n_111_202 : pm_ins 111 202 = some (.aload_n 0, 1) := by decide +kernel
theorem n_111_203 : pm_ins 111 203 = some (.getfield 59, 3) := by decide +kernel
theorem n_111_206 : pm_ins 111 206 = some (.iload_n 3, 1) := by decide +kernel
theorem n_111_207 : pm_ins 111 207 = some (.iaload, 1) := by decide +kernel
theorem n_111_208 : pm_ins 111 208 = some (.invokevirtual 152, 3) := by decide +kernel
theorem n_111_211 : pm_ins 111 211 = some (.iastore, 1) := by decide +kernel
theorem n_111_212 : pm_ins 111 212 = some (.aload_n 0, 1) := by decide +kernel
theorem n_111_213 : pm_ins 111 213 = some (.getfield 65, 3) := by decide +kernel
theorem n_111_216 : pm_ins 111 216 = some (.iload_n 3, 1) := by decide +kernel
theorem n_111_217 : pm_ins 111 217 = some (.iconst 0, 1) := by decide +kernel
theorem n_111_218 : pm_ins 111 218 = some (.iastore, 1) := by decide +kernel
theorem n_111_219 : pm_ins 111 219 = some (.aload_n 0, 1) := by decide +kernel
theorem n_111_220 : pm_ins 111 220 = some (.getfield 68, 3) := by decide +kernel
theorem n_111_223 : pm_ins 111 223 = some (.iload_n 3, 1) := by decide +kernel
theorem n_111_224 : pm_ins 111 224 = some (.iconst 0, 1) := by decide +kernel
theorem n_111_225 : pm_ins 111 225 = some (.iastore, 1) := by decide +kernel
theorem n_111_226 : pm_ins 111 226 = some (.aload_n 0, 1) := by decide +kernel
theorem n_111_227 : pm_ins 111 227 = some (.getfield 71, 3) := by decide +kernel
theorem n_111_230 : pm_ins 111 230 = some (.iload_n 3, 1) := by decide +kernel
theorem n_111_231 : pm_ins 111 231 = some (.iconst 0, 1) := by decide +kernel
theorem n_111_232 : pm_ins 111 232 = some (.iastore, 1) := by decide +kernel
theorem n_111_233 : pm_ins 111 233 = some (.iconst 0, 1) := by decide +kernel
theorem n_111_234 : pm_ins 111 234 = some (.istore 5, 2) := by decide +kernel
theorem n_111_236 : pm_ins 111 236 = some (.iload 5, 2) := by decide +kernel
theorem n_111_238 : pm_ins 111 238 = some (.bipush 8, 2) := by decide +kernel
theorem n_111_240 : pm_ins 111 240 = some (.if_icmp .ge 22, 3) := by decide +kernel
theorem n_111_243 : pm_ins 111 243 = some (.aload_n 0, 1) := by decide +kernel
theorem n_111_244 : pm_ins 111 244 = some (.getfield 80, 3) := by decide +kernel
theorem n_111_247 : pm_ins 111 247 = some (.bipush 8, 2) := by decide +kernel
theorem n_111_249 : pm_ins 111 249 = some (.iload_n 3, 1) := by decide +kernel
theorem n_111_250 : pm_ins 111 250 = some (.imul, 1) := by decide +kernel
theorem n_111_251 : pm_ins 111 251 = some (.iload 5, 2) := by decide +kernel
theorem n_111_253 : pm_ins 111 253 = some (.iadd, 1) := by decide +kernel
theorem n_111_254 : pm_ins 111 254 = some (.iconst 0, 1) := by decide +kernel
theorem n_111_255 : pm_ins 111 255 = some (.iastore, 1) := by decide +kernel
theorem n_111_256 : pm_ins 111 256 = some (.iinc 5 1, 3) := by decide +kernel
theorem n_111_259 : pm_ins 111 259 = some (.goto (-23), 3) := by decide +kernel
theorem n_111_262 : pm_ins 111 262 = some (.iload_n 3, 1) := by decide +kernel
theorem n_111_263 : pm_ins 111 263 = some (.ireturn, 1) := by decide +kernel
theorem n_112_0 : pm_ins 112 0 = some (.iload_n 1, 1) := by decide +kernel
theorem n_112_1 : pm_ins 112 1 = some (.ifCond .lt 17, 3) := by decide +kernel
theorem n_112_4 : pm_ins 112 4 = some (.iload_n 1, 1) := by decide +kernel
theorem n_112_5 : pm_ins 112 5 = some (.iconst 2, 1) := by decide +kernel
theorem n_112_6 : pm_ins 112 6 = some (.if_icmp .gt 12, 3) := by decide +kernel
theorem n_112_9 : pm_ins 112 9 = some (.aload_n 0, 1) := by decide +kernel
theorem n_112_10 : pm_ins 112 10 = some (.getfield 44, 3) := by decide +kernel
theorem n_112_13 : pm_ins 112 13 = some (.iload_n 1, 1) := by decide +kernel
theorem n_112_14 : pm_ins 112 14 = some (.iaload, 1) := by decide +kernel
theorem n_112_15 : pm_ins 112 15 = some (.ifCond .ne 6, 3) := by decide +kernel
theorem n_112_18 : pm_ins 112 18 = some (.bipush (-9), 2) := by decide +kernel
theorem n_112_20 : pm_ins 112 20 = some (.ireturn, 1) := by decide +kernel
theorem n_112_21 : pm_ins 112 21 = some (.iconst 5, 1) := by decide +kernel
theorem n_112_22 : pm_ins 112 22 = some (.aload_n 0, 1) := by decide +kernel
theorem n_112_23 : pm_ins 112 23 = some (.getfield 47, 3) := by decide +kernel
theorem n_112_26 : pm_ins 112 26 = some (.iload_n 1, 1) := by decide +kernel
theorem n_112_27 : pm_ins 112 27 = some (.iaload, 1) := by decide +kernel
theorem n_112_28 : pm_ins 112 28 = some (.imul, 1) := by decide +kernel
theorem n_112_29 : pm_ins 112 29 = some (.aload_n 0, 1) := by decide +kernel
theorem n_112_30 : pm_ins 112 30 = some (.getfield 56, 3) := by decide +kernel
theorem n_112_33 : pm_ins 112 33 = some (.iload_n 1, 1) := by decide +kernel
theorem n_112_34 : pm_ins 112 34 = some (.iaload, 1) := by decide +kernel
theorem n_112_35 : pm_ins 112 35 = some (.iadd, 1) := by decide +kernel
theorem n_112_36 : pm_ins 112 36 = some (.istore_n 2, 1) := by decide +kernel
theorem n_112_37 : pm_ins 112 37 = some (.bipush 6, 2) := by decide +kernel
theorem n_112_39 : pm_ins 112 39 = some (.aload_n 0, 1) := by decide +kernel
theorem n_112_40 : pm_ins 112 40 = some (.getfield 44, 3) := by decide +kernel
theorem n_112_43 : pm_ins 112 43 = some (.iload_n 1, 1) := by decide +kernel
theorem n_112_44 : pm_ins 112 44 = some (.iaload, 1) := by decide +kernel
theorem n_112_45 : pm_ins 112 45 = some (.iconst 1, 1) := by decide +kernel
theorem n_112_46 : pm_ins 112 46 = some (.isub, 1) := by decide +kernel
theorem n_112_47 : pm_ins 112 47 = some (.imul, 1) := by decide +kernel
theorem n_112_48 : pm_ins 112 48 = some (.aload_n 0, 1) := by decide +kernel
theorem n_112_49 : pm_ins 112 49 = some (.getfield 53, 3) := by decide +kernel
theorem n_112_52 : pm_ins 112 52 = some (.iload_n 1, 1) := by decide +kernel
theorem n_112_53 : pm_ins 112 53 = some (.iaload, 1) := by decide +kernel
theorem n_112_54 : pm_ins 112 54 = some (.iadd, 1) := by decide +kernel
theorem n_112_55 : pm_ins 112 55 = some (.istore_n 3, 1) := by decide +kernel
theorem n_112_56 : pm_ins 112 56 = some (.aload_n 0, 1) := by decide +kernel
theorem n_112_57 : pm_ins 112 57 = some (.getfield 28, 3) := by decide +kernel
theorem n_112_60 : pm_ins 112 60 = some (.iload_n 2, 1) := by decide +kernel
theorem n_112_61 : pm_ins 112 61 = some (.iaload, 1) := by decide +kernel
theorem n_112_62 : pm_ins 112 62 = some (.iload_n 3, 1) := by decide +kernel
theorem n_112_63 : pm_ins 112 63 = some (.iconst 1, 1) := by decide +kernel
theorem n_112_64 : pm_ins 112 64 = some (.iadd, 1) := by decide +kernel
theorem n_112_65 : pm_ins 112 65 = some (.if_icmp .ne 31, 3) := by decide +kernel
theorem n_112_68 : pm_ins 112 68 = some (.aload_n 0, 1) := by decide +kernel
theorem n_112_69 : pm_ins 112 69 = some (.getfield 31, 3) := by decide +kernel
theorem n_112_72 : pm_ins 112 72 = some (.iload_n 2, 1) := by decide +kernel
theorem n_112_73 : pm_ins 112 73 = some (.baload, 1) := by decide +kernel
theorem n_112_74 : pm_ins 112 74 = some (.ifCond .eq 22, 3) := by decide +kernel
theorem n_112_77 : pm_ins 112 77 = some (.aload_n 0, 1) := by decide +kernel
theorem n_112_78 : pm_ins 112 78 = some (.getfield 25, 3) := by decide +kernel
theorem n_112_81 : pm_ins 112 81 = some (.iload_n 3, 1) := by decide +kernel
theorem n_112_82 : pm_ins 112 82 = some (.iaload, 1) := by decide +kernel
theorem n_112_83 : pm_ins 112 83 = some (.aload_n 0, 1) := by decide +kernel
theorem n_112_84 : pm_ins 112 84 = some (.getfield 50, 3) := by decide +kernel
theorem n_112_87 : pm_ins 112 87 = some (.iload_n 1, 1) := by decide +kernel
theorem n_112_88 : pm_ins 112 88 = some (.iaload, 1) := by decide +kernel
theorem n_112_89 : pm_ins 112 89 = some (.if_icmp .ne 7, 3) := by decide +kernel
theorem n_112_92 : pm_ins 112 92 = some (.iconst 0, 1) := by decide +kernel
theorem n_112_93 : pm_ins 112 93 = some (.goto 5, 3) := by decide +kernel
theorem n_112_96 : pm_ins 112 96 = some (.bipush (-10), 2) := by decide +kernel
theorem n_112_98 : pm_ins 112 98 = some (.ireturn, 1) := by decide +kernel
theorem n_113_0 : pm_ins 113 0 = some (.aload_n 0, 1) := by decide +kernel
theorem n_113_1 : pm_ins 113 1 = some (.iload_n 1, 1) := by decide +kernel
theorem n_113_2 : pm_ins 113 2 = some (.invokevirtual 156, 3) := by decide +kernel
theorem n_113_5 : pm_ins 113 5 = some (.istore 5, 2) := by decide +kernel
theorem n_113_7 : pm_ins 113 7 = some (.iload 5, 2) := by decide +kernel
theorem n_113_9 : pm_ins 113 9 = some (.ifCond .ge 6, 3) := by decide +kernel
theorem n_113_12 : pm_ins 113 12 = some (.iload 5, 2) := by decide +kernel
theorem n_113_14 : pm_ins 113 14 = some (.ireturn, 1) := by decide +kernel
theorem n_113_15 : pm_ins 113 15 = some (.iload_n 3, 1) := by decide +kernel
theorem n_113_16 : pm_ins 113 16 = some (.ifCond .lt 9, 3) := by decide +kernel
theorem n_113_19 : pm_ins 113 19 = some (.iload_n 3, 1) := by decide +kernel
theorem n_113_20 : pm_ins 113 20 = some (.bipush 7, 2) := by decide +kernel
theorem n_113_22 : pm_ins 113 22 = some (.if_icmp .le 6, 3) := by decide +kernel
theorem n_113_25 : pm_ins 113 25 = some (.bipush (-2), 2) := by decide +kernel
theorem n_113_27 : pm_ins 113 27 = some (.ireturn, 1) := by decide +kernel
theorem n_113_28 : pm_ins 113 28 = some (.aload_n 0, 1) := by decide +kernel
theorem n_113_29 : pm_ins 113 29 = some (.getfield 44, 3) := by decide +kernel
theorem n_113_32 : pm_ins 113 32 = some (.iload_n 1, 1) := by decide +kernel
theorem n_113_33 : pm_ins 113 33 = some (.iaload, 1) := by decide +kernel
theorem n_113_34 : pm_ins 113 34 = some (.iconst 1, 1) := by decide +kernel
theorem n_113_35 : pm_ins 113 35 = some (.isub, 1) := by decide +kernel
theorem n_113_36 : pm_ins 113 36 = some (.istore 6, 2) := by decide +kernel
theorem n_113_38 : pm_ins 113 38 = some (.aload_n 0, 1) := by decide +kernel
theorem n_113_39 : pm_ins 113 39 = some (.getfield 65, 3) := by decide +kernel
theorem n_113_42 : pm_ins 113 42 = some (.iload_n 1, 1) := by decide +kernel
theorem n_113_43 : pm_ins 113 43 = some (.iaload, 1) := by decide +kernel
theorem n_113_44 : pm_ins 113 44 = some (.aload_n 0, 1) := by decide +kernel
theorem n_113_45 : pm_ins 113 45 = some (.getfield 68, 3) := by decide +kernel
theorem n_113_48 : pm_ins 113 48 = some (.iload_n 1, 1) := by decide +kernel
theorem n_113_49 : pm_ins 113 49 = some (.iaload, 1) := by decide +kernel
theorem n_113_50 : pm_ins 113 50 = some (.isub, 1) := by decide +kernel
theorem n_113_51 : pm_ins 113 51 = some (.iconst 3, 1) := by decide +kernel
theorem n_113_52 : pm_ins 113 52 = some (.if_icmp .eq 30, 3) := by decide +kernel
theorem n_113_55 : pm_ins 113 55 = some (.aload_n 0, 1) := by decide +kernel
theorem n_113_56 : pm_ins 113 56 = some (.iload 6, 2) := by decide +kernel
theorem n_113_58 : pm_ins 113 58 = some (.invokevirtual 91, 3) := by decide +kernel
theorem n_113_61 : pm_ins 113 61 = some (.bipush 6, 2) := by decide +kernel
theorem n_113_63 : pm_ins 113 63 = some (.if_icmp .ge 19, 3) := by decide +kernel
theorem n_113_66 : pm_ins 113 66 = some (.aload_n 0, 1) := by decide +kernel
theorem n_113_67 : pm_ins 113 67 = some (.invokevirtual 109, 3) := by decide +kernel
theorem n_113_70 : pm_ins 113 70 = some (.ifCond .lt 12, 3) := by decide +kernel
theorem n_113_73 : pm_ins 113 73 = some (.aload_n 0, 1) := by decide +kernel
theorem n_113_74 : pm_ins 113 74 = some (.iload 6, 2) := by decide +kernel
theorem n_113_76 : pm_ins 113 76 = some (.invokevirtual 113, 3) := by decide +kernel
theorem n_113_79 : pm_ins 113 79 = some (.ifCond .ge 6, 3) := by decide +kernel
theorem n_113_82 : pm_ins 113 82 = some (.bipush (-7), 2) := by decide +kernel
theorem n_113_84 : pm_ins 113 84 = some (.ireturn, 1) := by decide +kernel
theorem n_113_85 : pm_ins 113 85 = some (.aload_n 0, 1) := by decide +kernel
theorem n_113_86 : pm_ins 113 86 = some (.iload 6, 2) := by decide +kernel
theorem n_113_88 : pm_ins 113 88 = some (.invokevirtual 139, 3) := by decide +kernel
theorem n_113_91 : pm_ins 113 91 = some (.istore 7, 2) := by decide +kernel
theorem n_113_93 : pm_ins 113 93 = some (.iload_n 2, 1) := by decide +kernel
theorem n_113_94 : pm_ins 113 94 = some (.ifCond .eq 15, 3) := by decide +kernel
theorem n_113_97 : pm_ins 113 97 = some (.aload_n 0, 1) := by decide +kernel
theorem n_113_98 : pm_ins 113 98 = some (.getfield 16, 3) := by decide +kernel
theorem n_113_101 : pm_ins 113 101 = some (.bipush 8, 2) := by decide +kernel
theorem n_113_103 : pm_ins 113 103 = some (.iload 7, 2) := by decide +kernel
theorem n_113_105 : pm_ins 113 105 = some (.imul, 1) := by decide +kernel
theorem n_113_106 : pm_ins 113 106 = some (.iload 4, 2) := by decide +kernel
theorem n_113_108 : pm_ins 113 108 = some (.iastore, 1) := by decide +kernel
theorem n_113_109 : pm_ins 113 109 = some (.aload_n 0, 1) := by decide +kernel
theorem n_113_110 : pm_ins 113 110 = some (.iload 6, 2) := by decide +kernel
theorem n_113_112 : pm_ins 113 112 = some (.aload_n 0, 1) := by decide +kernel
theorem n_113_113 : pm_ins 113 113 = some (.getfield 47, 3) := by decide +kernel
theorem n_113_116 : pm_ins 113 116 = some (.iload_n 1, 1) := by decide +kernel
theorem n_113_117 : pm_ins 113 117 = some (.iaload, 1) := by decide +kernel
theorem n_113_118 : pm_ins 113 118 = some (.iload 7, 2) := by decide +kernel
theorem n_113_120 : pm_ins 113 120 = some (.iload_n 2, 1) := by decide +kernel
theorem n_113_121 : pm_ins 113 121 = some (.ifCond .eq 7, 3) := by decide +kernel
theorem n_113_124 : pm_ins 113 124 = some (.iconst 0, 1) := by decide +kernel
theorem n_113_125 : pm_ins 113 125 = some (.goto 4, 3) := by decide +kernel
theorem n_113_128 : pm_ins 113 128 = some (.iconst 1, 1) := by decide +kernel
theorem n_113_129 : pm_ins 113 129 = some (.invokevirtual 142, 3) := by decide +kernel
theorem n_113_132 : pm_ins 113 132 = some (.istore 8, 2) := by decide +kernel
theorem n_113_134 : pm_ins 113 134 = some (.aload_n 0, 1) := by decide +kernel
theorem n_113_135 : pm_ins 113 135 = some (.getfield 65, 3) := by decide +kernel
theorem n_113_138 : pm_ins 113 138 = some (.iload_n 1, 1) := by decide +kernel
theorem n_113_139 : pm_ins 113 139 = some (.iaload, 1) := by decide +kernel
theorem n_113_140 : pm_ins 113 140 = some (.istore 9, 2) := by decide +kernel
theorem n_113_142 : pm_ins 113 142 = some (.aload_n 0, 1) := by decide +kernel
theorem n_113_143 : pm_ins 113 143 = some (.getfield 74, 3) := by decide +kernel
theorem n_113_146 : pm_ins 113 146 = some (.iconst 3, 1) := by decide +kernel
theorem n_113_147 : pm_ins 113 147 = some (.iload_n 1, 1) := by decide +kernel
theorem n_113_148 : pm_ins 113 148 = some (.imul, 1) := by decide +kernel
theorem n_113_149 : pm_ins 113 149 = some (.iload 9, 2) := by decide +kernel
theorem n_113_151 : pm_ins 113 151 = some (.iconst 3, 1) := by decide +kernel
theorem n_113_152 : pm_ins 113 152 = some (.irem, 1) := by decide +kernel
theorem n_113_153 : pm_ins 113 153 = some (.iadd, 1) := by decide +kernel
theorem n_113_154 : pm_ins 113 154 = some (.iload 7, 2) := by decide +kernel
theorem n_113_156 : pm_ins 113 156 = some (.iastore, 1) := by decide +kernel
theorem n_113_157 : pm_ins 113 157 = some (.aload_n 0, 1) := by decide +kernel
theorem n_113_158 : pm_ins 113 158 = some (.getfield 77, 3) := by decide +kernel
theorem n_113_161 : pm_ins 113 161 = some (.iconst 3, 1) := by decide +kernel
theorem n_113_162 : pm_ins 113 162 = some (.iload_n 1, 1) := by decide +kernel
theorem n_113_163 : pm_ins 113 163 = some (.imul, 1) := by decide +kernel
theorem n_113_164 : pm_ins 113 164 = some (.iload 9, 2) := by decide +kernel
theorem n_113_166 : pm_ins 113 166 = some (.iconst 3, 1) := by decide +kernel
theorem n_113_167 : pm_ins 113 167 = some (.irem, 1) := by decide +kernel
theorem n_113_168 : pm_ins 113 168 = some (.iadd, 1) := by decide +kernel
theorem n_113_169 : pm_ins 113 169 = some (.iload 8, 2) := by decide +kernel
theorem n_113_171 : pm_ins 113 171 = some (.iastore, 1) := by decide +kernel
theorem n_113_172 : pm_ins 113 172 = some (.aload_n 0, 1) := by decide +kernel
theorem n_113_173 : pm_ins 113 173 = some (.getfield 16, 3) := by decide +kernel
theorem n_113_176 : pm_ins 113 176 = some (.bipush 8, 2) := by decide +kernel
theorem n_113_178 : pm_ins 113 178 = some (.aload_n 0, 1) := by decide +kernel
theorem n_113_179 : pm_ins 113 179 = some (.getfield 50, 3) := by decide +kernel
theorem n_113_182 : pm_ins 113 182 = some (.iload_n 1, 1) := by decide +kernel
theorem n_113_183 : pm_ins 113 183 = some (.iaload, 1) := by decide +kernel
theorem n_113_184 : pm_ins 113 184 = some (.imul, 1) := by decide +kernel
theorem n_113_185 : pm_ins 113 185 = some (.iconst 2, 1) := by decide +kernel
theorem n_113_186 : pm_ins 113 186 = some (.iadd, 1) := by decide +kernel
theorem n_113_187 : pm_ins 113 187 = some (.iload 9, 2) := by decide +kernel
theorem n_113_189 : pm_ins 113 189 = some (.iconst 3, 1) := by decide +kernel
theorem n_113_190 : pm_ins 113 190 = some (.irem, 1) := by decide +kernel
theorem n_113_191 : pm_ins 113 191 = some (.iadd, 1) := by decide +kernel
theorem n_113_192 : pm_ins 113 192 = some (.iload_n 3, 1) := by decide +kernel
theorem n_113_193 : pm_ins 113 193 = some (.iload_n 2, 1) := by decide +kernel
theorem n_113_194 : pm_ins 113 194 = some (.ifCond .eq 8, 3) := by decide +kernel
theorem n_113_197 : pm_ins 113 197 = some (.bipush 8, 2) := by decide +kernel
theorem n_113_199 : pm_ins 113 199 = some (.goto 4, 3) := by decide +kernel
theorem n_113_202 : pm_ins 113 202 = some (.iconst 0, 1) := by decide +kernel
theorem n_113_203 : pm_ins 113 203 = some (.iadd, 1) := by decide +kernel
theorem n_113_204 : pm_ins 113 204 = some (.bipush 16, 2) := by decide +kernel
theorem n_113_206 : pm_ins 113 206 = some (.iload 8, 2) := by decide +kernel
theorem n_113_208 : pm_ins 113 208 = some (.imul, 1) := by decide +kernel
theorem n_113_209 : pm_ins 113 209 = some (.iadd, 1) := by decide +kernel
theorem n_113_210 : pm_ins 113 210 = some (.iastore, 1) := by decide +kernel
theorem n_113_211 : pm_ins 113 211 = some (.aload_n 0, 1) := by decide +kernel
theorem n_113_212 : pm_ins 113 212 = some (.getfield 65, 3) := by decide +kernel
theorem n_113_215 : pm_ins 113 215 = some (.iload_n 1, 1) := by decide +kernel
theorem n_113_216 : pm_ins 113 216 = some (.iload 9, 2) := by decide +kernel
theorem n_113_218 : pm_ins 113 218 = some (.iconst 1, 1) := by decide +kernel
theorem n_113_219 : pm_ins 113 219 = some (.iadd, 1) := by decide +kernel
theorem n_113_220 : pm_ins 113 220 = some (.iastore, 1) := by decide +kernel
theorem n_113_221 : pm_ins 113 221 = some (.aload_n 0, 1) := by decide +kernel
theorem n_113_222 : pm_ins 113 222 = some (.getfield 16, 3) := by decide +kernel
theorem n_113_225 : pm_ins 113 225 = some (.bipush 8, 2) := by decide +kernel
theorem n_113_227 : pm_ins 113 227 = some (.aload_n 0, 1) := by decide +kernel
theorem n_113_228 : pm_ins 113 228 = some (.getfield 50, 3) := by decide +kernel
theorem n_113_231 : pm_ins 113 231 = some (.iload_n 1, 1) := by decide +kernel
theorem n_113_232 : pm_ins 113 232 = some (.iaload, 1) := by decide +kernel
theorem n_113_233 : pm_ins 113 233 = some (.imul, 1) := by decide +kernel
theorem n_113_234 : pm_ins 113 234 = some (.iload 9, 2) := by decide +kernel
theorem n_113_236 : pm_ins 113 236 = some (.iconst 1, 1) := by decide +kernel
theorem n_113_237 : pm_ins 113 237 = some (.iadd, 1) := by decide +kernel
theorem n_113_238 : pm_ins 113 238 = some (.iastore, 1) := by decide +kernel
theorem n_113_239 : pm_ins 113 239 = some (.aload_n 0, 1) := by decide +kernel
theorem n_113_240 : pm_ins 113 240 = some (.iload 6, 2) := by decide +kernel
theorem n_113_242 : pm_ins 113 242 = some (.aload_n 0, 1) := by decide +kernel
theorem n_113_243 : pm_ins 113 243 = some (.getfield 59, 3) := by decide +kernel
theorem n_113_246 : pm_ins 113 246 = some (.iload_n 1, 1) := by decide +kernel
theorem n_113_247 : pm_ins 113 247 = some (.iaload, 1) := by decide +kernel
theorem n_113_248 : pm_ins 113 248 = some (.invokevirtual 159, 3) := by decide +kernel
theorem n_113_251 : pm_ins 113 251 = some (.pop, 1) := by decide +kernel
theorem n_113_252 : pm_ins 113 252 = some (.iload 9, 2) := by decide +kernel
theorem n_113_254 : pm_ins 113 254 = some (.ireturn, 1) := by decide +kernel
theorem n_114_0 : pm_ins 114 0 = some (.aload_n 0, 1) := by decide +kernel
theorem n_114_1 : pm_ins 114 1 = some (.iload_n 1, 1) := by decide +kernel
theorem n_114_2 : pm_ins 114 2 = some (.invokevirtual 156, 3) := by decide +kernel
theorem n_114_5 : pm_ins 114 5 = some (.istore_n 2, 1) := by decide +kernel
theorem n_114_6 : pm_ins 114 6 = some (.iload_n 2, 1) := by decide +kernel
theorem n_114_7 : pm_ins 114 7 = some (.ifCond .ge 5, 3) := by decide +kernel
theorem n_114_10 : pm_ins 114 10 = some (.iload_n 2, 1) := by decide +kernel
theorem n_114_11 : pm_ins 114 11 = some (.ireturn, 1) := by decide +kernel
theorem n_114_12 : pm_ins 114 12 = some (.bipush 8, 2) := by decide +kernel
theorem n_114_14 : pm_ins 114 14 = some (.aload_n 0, 1) := by decide +kernel
theorem n_114_15 : pm_ins 114 15 = some (.getfield 50, 3) := by decide +kernel
theorem n_114_18 : pm_ins 114 18 = some (.iload_n 1, 1) := by decide +kernel
theorem n_114_19 : pm_ins 114 19 = some (.iaload, 1) := by decide +kernel
theorem n_114_20 : pm_ins 114 20 = some (.imul, 1) := by decide +kernel
theorem n_114_21 : pm_ins 114 21 = some (.istore_n 3, 1) := by decide +kernel
theorem n_114_22 : pm_ins 114 22 = some (.aload_n 0, 1) := by decide +kernel
theorem n_114_23 : pm_ins 114 23 = some (.getfield 71, 3) := by decide +kernel
theorem n_114_26 : pm_ins 114 26 = some (.iload_n 1, 1) := by decide +kernel
theorem n_114_27 : pm_ins 114 27 = some (.iaload, 1) := by decide +kernel
theorem n_114_28 : pm_ins 114 28 = some (.istore 4, 2) := by decide +kernel
theorem n_114_30 : pm_ins 114 30 = some (.aload_n 0, 1) := by decide +kernel
theorem n_114_31 : pm_ins 114 31 = some (.getfield 16, 3) := by decide +kernel
theorem n_114_34 : pm_ins 114 34 = some (.iload_n 3, 1) := by decide +kernel
theorem n_114_35 : pm_ins 114 35 = some (.iaload, 1) := by decide +kernel
theorem n_114_36 : pm_ins 114 36 = some (.i2l, 1) := by decide +kernel
theorem n_114_37 : pm_ins 114 37 = some (.iload 4, 2) := by decide +kernel
theorem n_114_39 : pm_ins 114 39 = some (.i2l, 1) := by decide +kernel
theorem n_114_40 : pm_ins 114 40 = some (.lsub, 1) := by decide +kernel
theorem n_114_41 : pm_ins 114 41 = some (.lstore 5, 2) := by decide +kernel
theorem n_114_43 : pm_ins 114 43 = some (.lload 5, 2) := by decide +kernel
theorem n_114_45 : pm_ins 114 45 = some (.lconst 1, 1) := by decide +kernel
theorem n_114_46 : pm_ins 114 46 = some (.lcmp, 1) := by decide +kernel
theorem n_114_47 : pm_ins 114 47 = some (.ifCond .lt 12, 3) := by decide +kernel
theorem n_114_50 : pm_ins 114 50 = some (.lload 5, 2) := by decide +kernel
theorem n_114_52 : pm_ins 114 52 = some (.ldc2_w 162, 3) := by decide +kernel
theorem n_114_55 : pm_ins 114 55 = some (.lcmp, 1) := by decide +kernel
theorem n_114_56 : pm_ins 114 56 = some (.ifCond .le 18, 3) := by decide +kernel
theorem n_114_59 : pm_ins 114 59 = some (.lload 5, 2) := by decide +kernel
theorem n_114_61 : pm_ins 114 61 = some (.lconst 0, 1) := by decide +kernel
theorem n_114_62 : pm_ins 114 62 = some (.lcmp, 1) := by decide +kernel
theorem n_114_63 : pm_ins 114 63 = some (.ifCond .ne 8, 3) := by decide +kernel
theorem n_114_66 : pm_ins 114 66 = some (.bipush (-11), 2) := by decide +kernel
theorem n_114_68 : pm_ins 114 68 = some (.goto 5, 3) := by decide +kernel
theorem n_114_71 : pm_ins 114 71 = some (.bipush (-12), 2) := by decide +kernel
theorem n_114_73 : pm_ins 114 73 = some (.ireturn, 1) := by decide +kernel
theorem n_114_74 : pm_ins 114 74 = some (.aload_n 0, 1) := by decide +kernel
theorem n_114_75 : pm_ins 114 75 = some (.getfield 16, 3) := by decide +kernel
theorem n_114_78 : pm_ins 114 78 = some (.iload_n 3, 1) := by decide +kernel
theorem n_114_79 : pm_ins 114 79 = some (.iconst 2, 1) := by decide +kernel
theorem n_114_80 : pm_ins 114 80 = some (.iadd, 1) := by decide +kernel
theorem n_114_81 : pm_ins 114 81 = some (.iload 4, 2) := by decide +kernel
theorem n_114_83 : pm_ins 114 83 = some (.iconst 3, 1) := by decide +kernel
theorem n_114_84 : pm_ins 114 84 = some (.irem, 1) := by decide +kernel
theorem n_114_85 : pm_ins 114 85 = some (.iadd, 1) := by decide +kernel
theorem n_114_86 : pm_ins 114 86 = some (.iaload, 1) := by decide +kernel
theorem n_114_87 : pm_ins 114 87 = some (.istore 7, 2) := by decide +kernel
theorem n_114_89 : pm_ins 114 89 = some (.iload 7, 2) := by decide +kernel
theorem n_114_91 : pm_ins 114 91 = some (.bipush 8, 2) := by decide +kernel
theorem n_114_93 : pm_ins 114 93 = some (.iand, 1) := by decide +kernel
theorem n_114_94 : pm_ins 114 94 = some (.ifCond .eq 7, 3) := by decide +kernel
theorem n_114_97 : pm_ins 114 97 = some (.iconst 1, 1) := by decide +kernel
theorem n_114_98 : pm_ins 114 98 = some (.goto 4, 3) := by decide +kernel
theorem n_114_101 : pm_ins 114 101 = some (.iconst 0, 1) := by decide +kernel
theorem n_114_102 : pm_ins 114 102 = some (.istore 8, 2) := by decide +kernel
theorem n_114_104 : pm_ins 114 104 = some (.aload_n 0, 1) := by decide +kernel
theorem n_114_105 : pm_ins 114 105 = some (.getfield 44, 3) := by decide +kernel
theorem n_114_108 : pm_ins 114 108 = some (.iload_n 1, 1) := by decide +kernel
theorem n_114_109 : pm_ins 114 109 = some (.iaload, 1) := by decide +kernel
theorem n_114_110 : pm_ins 114 110 = some (.iconst 1, 1) := by decide +kernel
theorem n_114_111 : pm_ins 114 111 = some (.isub, 1) := by decide +kernel
theorem n_114_112 : pm_ins 114 112 = some (.istore 9, 2) := by decide +kernel
theorem n_114_114 : pm_ins 114 114 = some (.aload_n 0, 1) := by decide +kernel
theorem n_114_115 : pm_ins 114 115 = some (.aload_n 0, 1) := by decide +kernel
theorem n_114_116 : pm_ins 114 116 = some (.getfield 47, 3) := by decide +kernel
theorem n_114_119 : pm_ins 114 119 = some (.iload_n 1, 1) := by decide +kernel
theorem n_114_120 : pm_ins 114 120 = some (.iaload, 1) := by decide +kernel
theorem n_114_121 : pm_ins 114 121 = some (.iload 9, 2) := by decide +kernel
theorem n_114_123 : pm_ins 114 123 = some (.iload 7, 2) := by decide +kernel
theorem n_114_125 : pm_ins 114 125 = some (.iconst 4, 1) := by decide +kernel
theorem n_114_126 : pm_ins 114 126 = some (.ishr, 1) := by decide +kernel
theorem n_114_127 : pm_ins 114 127 = some (.iload 8, 2) := by decide +kernel
theorem n_114_129 : pm_ins 114 129 = some (.ifCond .ne 7, 3) := by decide +kernel
theorem n_114_132 : pm_ins 114 132 = some (.iconst 1, 1) := by decide +kernel
theorem n_114_133 : pm_ins 114 133 = some (.goto 4, 3) := by decide +kernel
theorem n_114_136 : pm_ins 114 136 = some (.iconst 0, 1) := by decide +kernel
theorem n_114_137 : pm_ins 114 137 = some (.invokevirtual 146, 3) := by decide +kernel
theorem n_114_140 : pm_ins 114 140 = some (.istore 10, 2) := by decide +kernel
theorem n_114_142 : pm_ins 114 142 = some (.iload 10, 2) := by decide +kernel
theorem n_114_144 : pm_ins 114 144 = some (.ifCond .ge 8, 3) := by decide +kernel
theorem n_114_147 : pm_ins 114 147 = some (.iload 10, 2) := by decide +kernel
theorem n_114_149 : pm_ins 114 149 = some (.goto 4, 3) := by decide +kernel
theorem n_114_152 : pm_ins 114 152 = some (.iconst 0, 1) := by decide +kernel
theorem n_114_153 : pm_ins 114 153 = some (.istore 11, 2) := by decide +kernel
theorem n_114_155 : pm_ins 114 155 = some (.iload 10, 2) := by decide +kernel
theorem n_114_157 : pm_ins 114 157 = some (.ifCond .lt 86, 3) := by decide +kernel
theorem n_114_160 : pm_ins 114 160 = some (.bipush 8, 2) := by decide +kernel
theorem n_114_162 : pm_ins 114 162 = some (.aload_n 0, 1) := by decide +kernel
theorem n_114_163 : pm_ins 114 163 = some (.getfield 25, 3) := by decide +kernel
theorem n_114_166 : pm_ins 114 166 = some (.bipush 6, 2) := by decide +kernel
theorem n_114_168 : pm_ins 114 168 = some (.iload 9, 2) := by decide +kernel
theorem n_114_170 : pm_ins 114 170 = some (.imul, 1) := by decide +kernel
theorem n_114_171 : pm_ins 114 171 = some (.iload 7, 2) := by decide +kernel
theorem n_114_173 : pm_ins 114 173 = some (.iconst 4, 1) := by decide +kernel
theorem n_114_174 : pm_ins 114 174 = some (.ishr, 1) := by decide +kernel
theorem n_114_175 : pm_ins 114 175 = some (.iadd, 1) := by decide +kernel
theorem n_114_176 : pm_ins 114 176 = some (.iaload, 1) := by decide +kernel
theorem n_114_177 : pm_ins 114 177 = some (.imul, 1) := by decide +kernel
theorem n_114_178 : pm_ins 114 178 = some (.istore 12, 2) := by decide +kernel
theorem n_114_180 : pm_ins 114 180 = some (.bipush 8, 2) := by decide +kernel
theorem n_114_182 : pm_ins 114 182 = some (.iload_n 1, 1) := by decide +kernel
theorem n_114_183 : pm_ins 114 183 = some (.imul, 1) := by decide +kernel
theorem n_114_184 : pm_ins 114 184 = some (.iload 7, 2) := by decide +kernel
theorem n_114_186 : pm_ins 114 186 = some (.bipush 7, 2) := by decide +kernel
theorem n_114_188 : pm_ins 114 188 = some (.iand, 1) := by decide +kernel
theorem n_114_189 : pm_ins 114 189 = some (.iadd, 1) := by decide +kernel
theorem n_114_190 : pm_ins 114 190 = some (.istore 13, 2) := by decide +kernel
theorem n_114_192 : pm_ins 114 192 = some (.iload 8, 2) := by decide +kernel
theorem n_114_194 : pm_ins 114 194 = some (.ifCond .eq 20, 3) := by decide +kernel
theorem n_114_197 : pm_ins 114 197 = some (.aload_n 0, 1) := by decide +kernel
theorem n_114_198 : pm_ins 114 198 = some (.getfield 80, 3) := by decide +kernel
theorem n_114_201 : pm_ins 114 201 = some (.iload 13, 2) := by decide +kernel
theorem n_114_203 : pm_ins 114 203 = some (.aload_n 0, 1) := by decide +kernel
theorem n_114_204 : pm_ins 114 204 = some (.getfield 16, 3) := by decide +kernel
theorem n_114_207 : pm_ins 114 207 = some (.iload 12, 2) := by decide +kernel
theorem n_114_209 : pm_ins 114 209 = some (.iaload, 1) := by decide +kernel
theorem n_114_210 : pm_ins 114 210 = some (.iastore, 1) := by decide +kernel
theorem n_114_211 : pm_ins 114 211 = some (.goto 17, 3) := by decide +kernel
theorem n_114_214 : pm_ins 114 214 = some (.aload_n 0, 1) := by decide +kernel
theorem n_114_215 : pm_ins 114 215 = some (.getfield 16, 3) := by decide +kernel
theorem n_114_218 : pm_ins 114 218 = some (.iload 12, 2) := by decide +kernel
theorem n_114_220 : pm_ins 114 220 = some (.aload_n 0, 1) := by decide +kernel
theorem n_114_221 : pm_ins 114 221 = some (.getfield 80, 3) := by decide +kernel
theorem n_114_224 : pm_ins 114 224 = some (.iload 13, 2) := by decide +kernel
theorem n_114_226 : pm_ins 114 226 = some (.iaload, 1) := by decide +kernel
theorem n_114_227 : pm_ins 114 227 = some (.iastore, 1) := by decide +kernel
theorem n_114_228 : pm_ins 114 228 = some (.aload_n 0, 1) := by decide +kernel
theorem n_114_229 : pm_ins 114 229 = some (.iconst 5, 1) := by decide +kernel
theorem n_114_230 : pm_ins 114 230 = some (.aload_n 0, 1) := by decide +kernel
theorem n_114_231 : pm_ins 114 231 = some (.getfield 47, 3) := by decide +kernel
theorem n_114_234 : pm_ins 114 234 = some (.iload_n 1, 1) := by decide +kernel
theorem n_114_235 : pm_ins 114 235 = some (.iaload, 1) := by decide +kernel
theorem n_114_236 : pm_ins 114 236 = some (.imul, 1) := by decide +kernel
theorem n_114_237 : pm_ins 114 237 = some (.iload 10, 2) := by decide +kernel
theorem n_114_239 : pm_ins 114 239 = some (.iadd, 1) := by decide +kernel
theorem n_114_240 : pm_ins 114 240 = some (.invokevirtual 98, 3) := by decide +kernel
theorem n_114_243 : pm_ins 114 243 = some (.aload_n 0, 1) := by decide +kernel
theorem n_114_244 : pm_ins 114 244 = some (.getfield 16, 3) := by decide +kernel
theorem n_114_247 : pm_ins 114 247 = some (.iload_n 3, 1) := by decide +kernel
theorem n_114_248 : pm_ins 114 248 = some (.iconst 5, 1) := by decide +kernel
theorem n_114_249 : pm_ins 114 249 = some (.iadd, 1) := by decide +kernel
theorem n_114_250 : pm_ins 114 250 = some (.iload 4, 2) := by decide +kernel
theorem n_114_252 : pm_ins 114 252 = some (.iconst 3, 1) := by decide +kernel
theorem n_114_253 : pm_ins 114 253 = some (.irem, 1) := by decide +kernel
theorem n_114_254 : pm_ins 114 254 = some (.iadd, 1) := by decide +kernel
theorem n_114_255 : pm_ins 114 255 = some (.iload 11, 2) := by decide +kernel
theorem n_114_257 : pm_ins 114 257 = some (.iastore, 1) := by decide +kernel
theorem n_114_258 : pm_ins 114 258 = some (.aload_n 0, 1) := by decide +kernel
theorem n_114_259 : pm_ins 114 259 = some (.getfield 71, 3) := by decide +kernel
theorem n_114_262 : pm_ins 114 262 = some (.iload_n 1, 1) := by decide +kernel
theorem n_114_263 : pm_ins 114 263 = some (.iload 4, 2) := by decide +kernel
theorem n_114_265 : pm_ins 114 265 = some (.iconst 1, 1) := by decide +kernel
theorem n_114_266 : pm_ins 114 266 = some (.iadd, 1) := by decide +kernel
theorem n_114_267 : pm_ins 114 267 = some (.iastore, 1) := by decide +kernel
theorem n_114_268 : pm_ins 114 268 = some (.aload_n 0, 1) := by decide +kernel
theorem n_114_269 : pm_ins 114 269 = some (.getfield 16, 3) := by decide +kernel
theorem n_114_272 : pm_ins 114 272 = some (.iload_n 3, 1) := by decide +kernel
theorem n_114_273 : pm_ins 114 273 = some (.iconst 1, 1) := by decide +kernel
theorem n_114_274 : pm_ins 114 274 = some (.iadd, 1) := by decide +kernel
theorem n_114_275 : pm_ins 114 275 = some (.iload 4, 2) := by decide +kernel
theorem n_114_277 : pm_ins 114 277 = some (.iconst 1, 1) := by decide +kernel
theorem n_114_278 : pm_ins 114 278 = some (.iadd, 1) := by decide +kernel
theorem n_114_279 : pm_ins 114 279 = some (.iastore, 1) := by decide +kernel
theorem n_114_280 : pm_ins 114 280 = some (.aload_n 0, 1) := by decide +kernel
theorem n_114_281 : pm_ins 114 281 = some (.aload_n 0, 1) := by decide +kernel
theorem n_114_282 : pm_ins 114 282 = some (.getfield 47, 3) := by decide +kernel
theorem n_114_285 : pm_ins 114 285 = some (.iload_n 1, 1) := by decide +kernel
theorem n_114_286 : pm_ins 114 286 = some (.iaload, 1) := by decide +kernel
theorem n_114_287 : pm_ins 114 287 = some (.aload_n 0, 1) := by decide +kernel
theorem n_114_288 : pm_ins 114 288 = some (.getfield 62, 3) := by decide +kernel
theorem n_114_291 : pm_ins 114 291 = some (.iload_n 1, 1) := by decide +kernel
theorem n_114_292 : pm_ins 114 292 = some (.iaload, 1) := by decide +kernel
theorem n_114_293 : pm_ins 114 293 = some (.invokevirtual 159, 3) := by decide +kernel
theorem n_114_296 : pm_ins 114 296 = some (.pop, 1) := by decide +kernel
theorem n_114_297 : pm_ins 114 297 = some (.iload 11, 2) := by decide +kernel
theorem n_114_299 : pm_ins 114 299 = some (.ireturn, 1) := by decide +kernel
theorem n_115_0 : pm_ins 115 0 = some (.aload_n 0, 1) := by decide +kernel
theorem n_115_1 : pm_ins 115 1 = some (.iload_n 1, 1) := by decide +kernel
theorem n_115_2 : pm_ins 115 2 = some (.invokevirtual 156, 3) := by decide +kernel
theorem n_115_5 : pm_ins 115 5 = some (.istore_n 2, 1) := by decide +kernel
theorem n_115_6 : pm_ins 115 6 = some (.iload_n 2, 1) := by decide +kernel
theorem n_115_7 : pm_ins 115 7 = some (.ifCond .ge 6, 3) := by decide +kernel
theorem n_115_10 : pm_ins 115 10 = some (.iload_n 2, 1) := by decide +kernel
theorem n_115_11 : pm_ins 115 11 = some (.i2l, 1) := by decide +kernel
theorem n_115_12 : pm_ins 115 12 = some (.lreturn, 1) := by decide +kernel
theorem n_115_13 : pm_ins 115 13 = some (.bipush 8, 2) := by decide +kernel
theorem n_115_15 : pm_ins 115 15 = some (.aload_n 0, 1) := by decide +kernel
theorem n_115_16 : pm_ins 115 16 = some (.getfield 50, 3) := by decide +kernel
theorem n_115_19 : pm_ins 115 19 = some (.iload_n 1, 1) := by decide +kernel
theorem n_115_20 : pm_ins 115 20 = some (.iaload, 1) := by decide +kernel
theorem n_115_21 : pm_ins 115 21 = some (.imul, 1) := by decide +kernel
theorem n_115_22 : pm_ins 115 22 = some (.istore_n 3, 1) := by decide +kernel
theorem n_115_23 : pm_ins 115 23 = some (.aload_n 0, 1) := by decide +kernel
theorem n_115_24 : pm_ins 115 24 = some (.getfield 68, 3) := by decide +kernel
theorem n_115_27 : pm_ins 115 27 = some (.iload_n 1, 1) := by decide +kernel
theorem n_115_28 : pm_ins 115 28 = some (.iaload, 1) := by decide +kernel
theorem n_115_29 : pm_ins 115 29 = some (.istore 4, 2) := by decide +kernel
theorem n_115_31 : pm_ins 115 31 = some (.aload_n 0, 1) := by decide +kernel
theorem n_115_32 : pm_ins 115 32 = some (.getfield 16, 3) := by decide +kernel
theorem n_115_35 : pm_ins 115 35 = some (.iload_n 3, 1) := by decide +kernel
theorem n_115_36 : pm_ins 115 36 = some (.iconst 1, 1) := by decide +kernel
theorem n_115_37 : pm_ins 115 37 = some (.iadd, 1) := by decide +kernel
theorem n_115_38 : pm_ins 115 38 = some (.iaload, 1) := by decide +kernel
theorem n_115_39 : pm_ins 115 39 = some (.i2l, 1) := by decide +kernel
theorem n_115_40 : pm_ins 115 40 = some (.iload 4, 2) := by decide +kernel
theorem n_115_42 : pm_ins 115 42 = some (.i2l, 1) := by decide +kernel
theorem n_115_43 : pm_ins 115 43 = some (.lsub, 1) := by decide +kernel
theorem n_115_44 : pm_ins 115 44 = some (.lstore 5, 2) := by decide +kernel
theorem n_115_46 : pm_ins 115 46 = some (.lload 5, 2) := by decide +kernel
theorem n_115_48 : pm_ins 115 48 = some (.lconst 0, 1) := by decide +kernel
theorem n_115_49 : pm_ins 115 49 = some (.lcmp, 1) := by decide +kernel
theorem n_115_50 : pm_ins 115 50 = some (.ifCond .ne 7, 3) := by decide +kernel
theorem n_115_53 : pm_ins 115 53 = some (.ldc2_w 164, 3) := by decide +kernel
theorem n_115_56 : pm_ins 115 56 = some (.lreturn, 1) := by decide +kernel
theorem n_115_57 : pm_ins 115 57 = some (.lload 5, 2) := by decide +kernel
theorem n_115_59 : pm_ins 115 59 = some (.lconst 0, 1) := by decide +kernel
theorem n_115_60 : pm_ins 115 60 = some (.lcmp, 1) := by decide +kernel
theorem n_115_61 : pm_ins 115 61 = some (.ifCond .lt 19, 3) := by decide +kernel
theorem n_115_64 : pm_ins 115 64 = some (.lload 5, 2) := by decide +kernel
theorem n_115_66 : pm_ins 115 66 = some (.aload_n 0, 1) := by decide +kernel
theorem n_115_67 : pm_ins 115 67 = some (.getfield 65, 3) := by decide +kernel
theorem n_115_70 : pm_ins 115 70 = some (.iload_n 1, 1) := by decide +kernel
theorem n_115_71 : pm_ins 115 71 = some (.iaload, 1) := by decide +kernel
theorem n_115_72 : pm_ins 115 72 = some (.iload 4, 2) := by decide +kernel
theorem n_115_74 : pm_ins 115 74 = some (.isub, 1) := by decide +kernel
theorem n_115_75 : pm_ins 115 75 = some (.i2l, 1) := by decide +kernel
theorem n_115_76 : pm_ins 115 76 = some (.lcmp, 1) := by decide +kernel
theorem n_115_77 : pm_ins 115 77 = some (.ifCond .le 7, 3) := by decide +kernel
theorem n_115_80 : pm_ins 115 80 = some (.ldc2_w 166, 3) := by decide +kernel
theorem n_115_83 : pm_ins 115 83 = some (.lreturn, 1) := by decide +kernel
theorem n_115_84 : pm_ins 115 84 = some (.aload_n 0, 1) := by decide +kernel
theorem n_115_85 : pm_ins 115 85 = some (.getfield 16, 3) := by decide +kernel
theorem n_115_88 : pm_ins 115 88 = some (.iload_n 3, 1) := by decide +kernel
theorem n_115_89 : pm_ins 115 89 = some (.iconst 5, 1) := by decide +kernel
theorem n_115_90 : pm_ins 115 90 = some (.iadd, 1) := by decide +kernel
theorem n_115_91 : pm_ins 115 91 = some (.iload 4, 2) := by decide +kernel
theorem n_115_93 : pm_ins 115 93 = some (.iconst 3, 1) := by decide +kernel
theorem n_115_94 : pm_ins 115 94 = some (.irem, 1) := by decide +kernel
theorem n_115_95 : pm_ins 115 95 = some (.iadd, 1) := by decide +kernel
theorem n_115_96 : pm_ins 115 96 = some (.iaload, 1) := by decide +kernel
theorem n_115_97 : pm_ins 115 97 = some (.istore 7, 2) := by decide +kernel
theorem n_115_99 : pm_ins 115 99 = some (.aload_n 0, 1) := by decide +kernel
theorem n_115_100 : pm_ins 115 100 = some (.getfield 68, 3) := by decide +kernel
theorem n_115_103 : pm_ins 115 103 = some (.iload_n 1, 1) := by decide +kernel
theorem n_115_104 : pm_ins 115 104 = some (.iload 4, 2) := by decide +kernel
theorem n_115_106 : pm_ins 115 106 = some (.iconst 1, 1) := by decide +kernel
theorem n_115_107 : pm_ins 115 107 = some (.iadd, 1) := by decide +kernel
theorem n_115_108 : pm_ins 115 108 = some (.iastore, 1) := by decide +kernel
theorem n_115_109 : pm_ins 115 109 = some (.aload_n 0, 1) := by decide +kernel
theorem n_115_110 : pm_ins 115 110 = some (.getfield 44, 3) := by decide +kernel
theorem n_115_113 : pm_ins 115 113 = some (.iload_n 1, 1) := by decide +kernel
theorem n_115_114 : pm_ins 115 114 = some (.iaload, 1) := by decide +kernel
theorem n_115_115 : pm_ins 115 115 = some (.iconst 1, 1) := by decide +kernel
theorem n_115_116 : pm_ins 115 116 = some (.isub, 1) := by decide +kernel
theorem n_115_117 : pm_ins 115 117 = some (.istore 8, 2) := by decide +kernel
theorem n_115_119 : pm_ins 115 119 = some (.aload_n 0, 1) := by decide +kernel
theorem n_115_120 : pm_ins 115 120 = some (.getfield 74, 3) := by decide +kernel
theorem n_115_123 : pm_ins 115 123 = some (.iconst 3, 1) := by decide +kernel
theorem n_115_124 : pm_ins 115 124 = some (.iload_n 1, 1) := by decide +kernel
theorem n_115_125 : pm_ins 115 125 = some (.imul, 1) := by decide +kernel
theorem n_115_126 : pm_ins 115 126 = some (.iload 4, 2) := by decide +kernel
theorem n_115_128 : pm_ins 115 128 = some (.iconst 3, 1) := by decide +kernel
theorem n_115_129 : pm_ins 115 129 = some (.irem, 1) := by decide +kernel
theorem n_115_130 : pm_ins 115 130 = some (.iadd, 1) := by decide +kernel
theorem n_115_131 : pm_ins 115 131 = some (.iaload, 1) := by decide +kernel
theorem n_115_132 : pm_ins 115 132 = some (.istore 9, 2) := by decide +kernel
theorem n_115_134 : pm_ins 115 134 = some (.aload_n 0, 1) := by decide +kernel
theorem n_115_135 : pm_ins 115 135 = some (.iload 8, 2) := by decide +kernel
theorem n_115_137 : pm_ins 115 137 = some (.iload 9, 2) := by decide +kernel
theorem n_115_139 : pm_ins 115 139 = some (.iconst 0, 1) := by decide +kernel
theorem n_115_140 : pm_ins 115 140 = some (.invokevirtual 168, 3) := by decide +kernel
theorem n_115_143 : pm_ins 115 143 = some (.lstore 10, 2) := by decide +kernel
theorem n_115_145 : pm_ins 115 145 = some (.aload_n 0, 1) := by decide +kernel
theorem n_115_146 : pm_ins 115 146 = some (.iload 8, 2) := by decide +kernel
theorem n_115_148 : pm_ins 115 148 = some (.aload_n 0, 1) := by decide +kernel
theorem n_115_149 : pm_ins 115 149 = some (.getfield 77, 3) := by decide +kernel
theorem n_115_152 : pm_ins 115 152 = some (.iconst 3, 1) := by decide +kernel
theorem n_115_153 : pm_ins 115 153 = some (.iload_n 1, 1) := by decide +kernel
theorem n_115_154 : pm_ins 115 154 = some (.imul, 1) := by decide +kernel
theorem n_115_155 : pm_ins 115 155 = some (.iload 4, 2) := by decide +kernel
theorem n_115_157 : pm_ins 115 157 = some (.iconst 3, 1) := by decide +kernel
theorem n_115_158 : pm_ins 115 158 = some (.irem, 1) := by decide +kernel
theorem n_115_159 : pm_ins 115 159 = some (.iadd, 1) := by decide +kernel
theorem n_115_160 : pm_ins 115 160 = some (.iaload, 1) := by decide +kernel
theorem n_115_161 : pm_ins 115 161 = some (.invokevirtual 172, 3) := by decide +kernel
theorem n_115_164 : pm_ins 115 164 = some (.pop, 1) := by decide +kernel
theorem n_115_165 : pm_ins 115 165 = some (.aload_n 0, 1) := by decide +kernel
theorem n_115_166 : pm_ins 115 166 = some (.iload 8, 2) := by decide +kernel
theorem n_115_168 : pm_ins 115 168 = some (.iload 9, 2) := by decide +kernel
theorem n_115_170 : pm_ins 115 170 = some (.invokevirtual 175, 3) := by decide +kernel
theorem n_115_173 : pm_ins 115 173 = some (.pop, 1) := by decide +kernel
theorem n_115_174 : pm_ins 115 174 = some (.iload 7, 2) := by decide +kernel
theorem n_115_176 : pm_ins 115 176 = some (.ifCond .eq 9, 3) := by decide +kernel
theorem n_115_179 : pm_ins 115 179 = some (.ldc2_w 178, 3) := by decide +kernel
theorem n_115_182 : pm_ins 115 182 = some (.goto 5, 3) := by decide +kernel
theorem n_115_185 : pm_ins 115 185 = some (.lload 10, 2) := by decide +kernel
theorem n_115_187 : pm_ins 115 187 = some (.lreturn, 1) := by decide +kernel
theorem n_116_0 : pm_ins 116 0 = some (.iload_n 2, 1) := by decide +kernel
theorem n_116_1 : pm_ins 116 1 = some (.ifCond .lt 22, 3) := by decide +kernel
theorem n_116_4 : pm_ins 116 4 = some (.iload_n 3, 1) := by decide +kernel
theorem n_116_5 : pm_ins 116 5 = some (.ifCond .ge 22, 3) := by decide +kernel
theorem n_116_8 : pm_ins 116 8 = some (.iload_n 1, 1) := by decide +kernel
theorem n_116_9 : pm_ins 116 9 = some (.iconst 2, 1) := by decide +kernel
theorem n_116_10 : pm_ins 116 10 = some (.if_icmp .eq 13, 3) := by decide +kernel
theorem n_116_13 : pm_ins 116 13 = some (.iload_n 1, 1) := by decide +kernel
theorem n_116_14 : pm_ins 116 14 = some (.iconst 3, 1) := by decide +kernel
theorem n_116_15 : pm_ins 116 15 = some (.if_icmp .eq 8, 3) := by decide +kernel
theorem n_116_18 : pm_ins 116 18 = some (.iload_n 1, 1) := by decide +kernel
theorem n_116_19 : pm_ins 116 19 = some (.iconst 5, 1) := by decide +kernel
theorem n_116_20 : pm_ins 116 20 = some (.if_icmp .ne 7, 3) := by decide +kernel
theorem n_116_23 : pm_ins 116 23 = some (.ldc2_w 180, 3) := by decide +kernel
theorem n_116_26 : pm_ins 116 26 = some (.lreturn, 1) := by decide +kernel
theorem n_116_27 : pm_ins 116 27 = some (.iload_n 1, 1) := by decide +kernel
theorem n_116_28 : pm_ins 116 28 = some (.tableswitch 269 0 6 #[44, 63, 85, 127, 175, 193, 234], 44) := by decide +kernel
theorem n_116_72 : pm_ins 116 72 = some (.iload_n 2, 1) := by decide +kernel
theorem n_116_73 : pm_ins 116 73 = some (.iconst 4, 1) := by decide +kernel
theorem n_116_74 : pm_ins 116 74 = some (.if_icmp .le 9, 3) := by decide +kernel
theorem n_116_77 : pm_ins 116 77 = some (.ldc2_w 180, 3) := by decide +kernel
theorem n_116_80 : pm_ins 116 80 = some (.goto 10, 3) := by decide +kernel
theorem n_116_83 : pm_ins 116 83 = some (.aload_n 0, 1) := by decide +kernel
theorem n_116_84 : pm_ins 116 84 = some (.getfield 7, 3) := by decide +kernel
theorem n_116_87 : pm_ins 116 87 = some (.iload_n 2, 1) := by decide +kernel
theorem n_116_88 : pm_ins 116 88 = some (.iaload, 1) := by decide +kernel
theorem n_116_89 : pm_ins 116 89 = some (.i2l, 1) := by decide +kernel
theorem n_116_90 : pm_ins 116 90 = some (.lreturn, 1) := by decide +kernel
theorem n_116_91 : pm_ins 116 91 = some (.iload_n 2, 1) := by decide +kernel
theorem n_116_92 : pm_ins 116 92 = some (.bipush 19, 2) := by decide +kernel
theorem n_116_94 : pm_ins 116 94 = some (.if_icmp .le 9, 3) := by decide +kernel
theorem n_116_97 : pm_ins 116 97 = some (.ldc2_w 180, 3) := by decide +kernel
theorem n_116_100 : pm_ins 116 100 = some (.goto 12, 3) := by decide +kernel
theorem n_116_103 : pm_ins 116 103 = some (.aload_n 0, 1) := by decide +kernel
theorem n_116_104 : pm_ins 116 104 = some (.getfield 13, 3) := by decide +kernel
theorem n_116_107 : pm_ins 116 107 = some (.iload_n 2, 1) := by decide +kernel
theorem n_116_108 : pm_ins 116 108 = some (.iaload, 1) := by decide +kernel
theorem n_116_109 : pm_ins 116 109 = some (.i2l, 1) := by decide +kernel
theorem n_116_110 : pm_ins 116 110 = some (.lconst 1, 1) := by decide +kernel
theorem n_116_111 : pm_ins 116 111 = some (.lsub, 1) := by decide +kernel
theorem n_116_112 : pm_ins 116 112 = some (.lreturn, 1) := by decide +kernel
theorem n_116_113 : pm_ins 116 113 = some (.iload_n 2, 1) := by decide +kernel
theorem n_116_114 : pm_ins 116 114 = some (.iconst 4, 1) := by decide +kernel
theorem n_116_115 : pm_ins 116 115 = some (.if_icmp .gt 22, 3) := by decide +kernel
theorem n_116_118 : pm_ins 116 118 = some (.iload_n 3, 1) := by decide +kernel
theorem n_116_119 : pm_ins 116 119 = some (.iconst 5, 1) := by decide +kernel
theorem n_116_120 : pm_ins 116 120 = some (.if_icmp .gt 17, 3) := by decide +kernel
theorem n_116_123 : pm_ins 116 123 = some (.aload_n 0, 1) := by decide +kernel
theorem n_116_124 : pm_ins 116 124 = some (.getfield 19, 3) := by decide +kernel
theorem n_116_127 : pm_ins 116 127 = some (.bipush 6, 2) := by decide +kernel
theorem n_116_129 : pm_ins 116 129 = some (.iload_n 2, 1) := by decide +kernel
theorem n_116_130 : pm_ins 116 130 = some (.imul, 1) := by decide +kernel
theorem n_116_131 : pm_ins 116 131 = some (.iload_n 3, 1) := by decide +kernel
theorem n_116_132 : pm_ins 116 132 = some (.iadd, 1) := by decide +kernel
theorem n_116_133 : pm_ins 116 133 = some (.iaload, 1) := by decide +kernel
theorem n_116_134 : pm_ins 116 134 = some (.ifCond .ne 9, 3) := by decide +kernel
theorem n_116_137 : pm_ins 116 137 = some (.ldc2_w 180, 3) := by decide +kernel
theorem n_116_140 : pm_ins 116 140 = some (.goto 14, 3) := by decide +kernel
theorem n_116_143 : pm_ins 116 143 = some (.aload_n 0, 1) := by decide +kernel
theorem n_116_144 : pm_ins 116 144 = some (.bipush 6, 2) := by decide +kernel
theorem n_116_146 : pm_ins 116 146 = some (.iload_n 2, 1) := by decide +kernel
theorem n_116_147 : pm_ins 116 147 = some (.imul, 1) := by decide +kernel
theorem n_116_148 : pm_ins 116 148 = some (.iload_n 3, 1) := by decide +kernel
theorem n_116_149 : pm_ins 116 149 = some (.iadd, 1) := by decide +kernel
theorem n_116_150 : pm_ins 116 150 = some (.invokevirtual 83, 3) := by decide +kernel
theorem n_116_153 : pm_ins 116 153 = some (.i2l, 1) := by decide +kernel
theorem n_116_154 : pm_ins 116 154 = some (.lreturn, 1) := by decide +kernel
theorem n_116_155 : pm_ins 116 155 = some (.iload_n 2, 1) := by decide +kernel
theorem n_116_156 : pm_ins 116 156 = some (.iconst 4, 1) := by decide +kernel
theorem n_116_157 : pm_ins 116 157 = some (.if_icmp .gt 21, 3) := by decide +kernel
theorem n_116_160 : pm_ins 116 160 = some (.iload_n 3, 1) := by decide +kernel
theorem n_116_161 : pm_ins 116 161 = some (.iconst 4, 1) := by decide +kernel
theorem n_116_162 : pm_ins 116 162 = some (.if_icmp .gt 16, 3) := by decide +kernel
theorem n_116_165 : pm_ins 116 165 = some (.aload_n 0, 1) := by decide +kernel
theorem n_116_166 : pm_ins 116 166 = some (.getfield 28, 3) := by decide +kernel
theorem n_116_169 : pm_ins 116 169 = some (.iconst 5, 1) := by decide +kernel
theorem n_116_170 : pm_ins 116 170 = some (.iload_n 2, 1) := by decide +kernel
theorem n_116_171 : pm_ins 116 171 = some (.imul, 1) := by decide +kernel
theorem n_116_172 : pm_ins 116 172 = some (.iload_n 3, 1) := by decide +kernel
theorem n_116_173 : pm_ins 116 173 = some (.iadd, 1) := by decide +kernel
theorem n_116_174 : pm_ins 116 174 = some (.iaload, 1) := by decide +kernel
theorem n_116_175 : pm_ins 116 175 = some (.ifCond .ne 9, 3) := by decide +kernel
theorem n_116_178 : pm_ins 116 178 = some (.ldc2_w 180, 3) := by decide +kernel
theorem n_116_181 : pm_ins 116 181 = some (.goto 21, 3) := by decide +kernel
theorem n_116_184 : pm_ins 116 184 = some (.aload_n 0, 1) := by decide +kernel
theorem n_116_185 : pm_ins 116 185 = some (.getfield 25, 3) := by decide +kernel
theorem n_116_188 : pm_ins 116 188 = some (.aload_n 0, 1) := by decide +kernel
theorem n_116_189 : pm_ins 116 189 = some (.getfield 28, 3) := by decide +kernel
theorem n_116_192 : pm_ins 116 192 = some (.iconst 5, 1) := by decide +kernel
theorem n_116_193 : pm_ins 116 193 = some (.iload_n 2, 1) := by decide +kernel
theorem n_116_194 : pm_ins 116 194 = some (.imul, 1) := by decide +kernel
theorem n_116_195 : pm_ins 116 195 = some (.iload_n 3, 1) := by decide +kernel
theorem n_116_196 : pm_ins 116 196 = some (.iadd, 1) := by decide +kernel
theorem n_116_197 : pm_ins 116 197 = some (.iaload, 1) := by decide +kernel
theorem n_116_198 : pm_ins 116 198 = some (.iconst 1, 1) := by decide +kernel
theorem n_116_199 : pm_ins 116 199 = some (.isub, 1) := by decide +kernel
theorem n_116_200 : pm_ins 116 200 = some (.iaload, 1) := by decide +kernel
theorem n_116_201 : pm_ins 116 201 = some (.i2l, 1) := by decide +kernel
theorem n_116_202 : pm_ins 116 202 = some (.lreturn, 1) := by decide +kernel
theorem n_116_203 : pm_ins 116 203 = some (.iload_n 2, 1) := by decide +kernel
theorem n_116_204 : pm_ins 116 204 = some (.iconst 4, 1) := by decide +kernel
theorem n_116_205 : pm_ins 116 205 = some (.if_icmp .le 9, 3) := by decide +kernel
theorem n_116_208 : pm_ins 116 208 = some (.ldc2_w 180, 3) := by decide +kernel
theorem n_116_211 : pm_ins 116 211 = some (.goto 9, 3) := by decide +kernel
theorem n_116_214 : pm_ins 116 214 = some (.aload_n 0, 1) := by decide +kernel
theorem n_116_215 : pm_ins 116 215 = some (.iload_n 2, 1) := by decide +kernel
theorem n_116_216 : pm_ins 116 216 = some (.invokevirtual 91, 3) := by decide +kernel
theorem n_116_219 : pm_ins 116 219 = some (.i2l, 1) := by decide +kernel
theorem n_116_220 : pm_ins 116 220 = some (.lreturn, 1) := by decide +kernel
theorem n_116_221 : pm_ins 116 221 = some (.iload_n 2, 1) := by decide +kernel
theorem n_116_222 : pm_ins 116 222 = some (.iconst 2, 1) := by decide +kernel
theorem n_116_223 : pm_ins 116 223 = some (.if_icmp .gt 18, 3) := by decide +kernel
theorem n_116_226 : pm_ins 116 226 = some (.iload_n 3, 1) := by decide +kernel
theorem n_116_227 : pm_ins 116 227 = some (.bipush 7, 2) := by decide +kernel
theorem n_116_229 : pm_ins 116 229 = some (.if_icmp .gt 12, 3) := by decide +kernel
theorem n_116_232 : pm_ins 116 232 = some (.aload_n 0, 1) := by decide +kernel
theorem n_116_233 : pm_ins 116 233 = some (.getfield 44, 3) := by decide +kernel
theorem n_116_236 : pm_ins 116 236 = some (.iload_n 2, 1) := by decide +kernel
theorem n_116_237 : pm_ins 116 237 = some (.iaload, 1) := by decide +kernel
theorem n_116_238 : pm_ins 116 238 = some (.ifCond .ne 9, 3) := by decide +kernel
theorem n_116_241 : pm_ins 116 241 = some (.ldc2_w 180, 3) := by decide +kernel
theorem n_116_244 : pm_ins 116 244 = some (.goto 17, 3) := by decide +kernel
theorem n_116_247 : pm_ins 116 247 = some (.aload_n 0, 1) := by decide +kernel
theorem n_116_248 : pm_ins 116 248 = some (.getfield 80, 3) := by decide +kernel
theorem n_116_251 : pm_ins 116 251 = some (.bipush 8, 2) := by decide +kernel
theorem n_116_253 : pm_ins 116 253 = some (.iload_n 2, 1) := by decide +kernel
theorem n_116_254 : pm_ins 116 254 = some (.imul, 1) := by decide +kernel
theorem n_116_255 : pm_ins 116 255 = some (.iload_n 3, 1) := by decide +kernel
theorem n_116_256 : pm_ins 116 256 = some (.iadd, 1) := by decide +kernel
theorem n_116_257 : pm_ins 116 257 = some (.iaload, 1) := by decide +kernel
theorem n_116_258 : pm_ins 116 258 = some (.invokestatic 132, 3) := by decide +kernel
theorem n_116_261 : pm_ins 116 261 = some (.lreturn, 1) := by decide +kernel
theorem n_116_262 : pm_ins 116 262 = some (.iload_n 2, 1) := by decide +kernel
theorem n_116_263 : pm_ins 116 263 = some (.iconst 2, 1) := by decide +kernel
theorem n_116_264 : pm_ins 116 264 = some (.if_icmp .gt 12, 3) := by decide +kernel
theorem n_116_267 : pm_ins 116 267 = some (.aload_n 0, 1) := by decide +kernel
theorem n_116_268 : pm_ins 116 268 = some (.getfield 44, 3) := by decide +kernel
theorem n_116_271 : pm_ins 116 271 = some (.iload_n 2, 1) := by decide +kernel
theorem n_116_272 : pm_ins 116 272 = some (.iaload, 1) := by decide +kernel
theorem n_116_273 : pm_ins 116 273 = some (.ifCond .ne 9, 3) := by decide +kernel
theorem n_116_276 : pm_ins 116 276 = some (.ldc2_w 180, 3) := by decide +kernel
theorem n_116_279 : pm_ins 116 279 = some (.goto 17, 3) := by decide +kernel
theorem n_116_282 : pm_ins 116 282 = some (.aload_n 0, 1) := by decide +kernel
theorem n_116_283 : pm_ins 116 283 = some (.getfield 65, 3) := by decide +kernel
theorem n_116_286 : pm_ins 116 286 = some (.iload_n 2, 1) := by decide +kernel
theorem n_116_287 : pm_ins 116 287 = some (.iaload, 1) := by decide +kernel
theorem n_116_288 : pm_ins 116 288 = some (.aload_n 0, 1) := by decide +kernel
theorem n_116_289 : pm_ins 116 289 = some (.getfield 68, 3) := by decide +kernel
theorem n_116_292 : pm_ins 116 292 = some (.iload_n 2, 1) := by decide +kernel
theorem n_116_293 : pm_ins 116 293 = some (.iaload, 1) := by decide +kernel
theorem n_116_294 : pm_ins 116 294 = some (.isub, 1) := by decide +kernel
theorem n_116_295 : pm_ins 116 295 = some (.i2l, 1) := by decide +kernel
theorem n_116_296 : pm_ins 116 296 = some (.lreturn, 1) := by decide +kernel
theorem n_116_297 : pm_ins 116 297 = some (.ldc2_w 180, 3) := by decide +kernel
theorem n_116_300 : pm_ins 116 300 = some (.lreturn, 1) := by decide +kernel
end
section
theorem n_119_0 : pm_ins 119 0 = some (.new 7, 3) := by decide +kernel
theorem n_119_3 : pm_ins 119 3 = some (.dup, 1) := by decide +kernel
theorem n_119_4 : pm_ins 119 4 = some (.invokespecial 9, 3) := by decide +kernel
theorem n_119_7 : pm_ins 119 7 = some (.astore_n 1, 1) := by decide +kernel
theorem n_119_8 : pm_ins 119 8 = some (.new 10, 3) := by decide +kernel
theorem n_119_11 : pm_ins 119 11 = some (.dup, 1) := by decide +kernel
theorem n_119_12 : pm_ins 119 12 = some (.invokespecial 12, 3) := by decide +kernel
theorem n_119_15 : pm_ins 119 15 = some (.astore_n 2, 1) := by decide +kernel
theorem n_119_16 : pm_ins 119 16 = some (.iconst 0, 1) := by decide +kernel
theorem n_119_17 : pm_ins 119 17 = some (.istore_n 3, 1) := by decide +kernel
theorem n_119_18 : pm_ins 119 18 = some (.iload_n 3, 1) := by decide +kernel
theorem n_119_19 : pm_ins 119 19 = some (.aload_n 0, 1) := by decide +kernel
theorem n_119_20 : pm_ins 119 20 = some (.arraylength, 1) := by decide +kernel
theorem n_119_21 : pm_ins 119 21 = some (.iconst 5, 1) := by decide +kernel
theorem n_119_22 : pm_ins 119 22 = some (.isub, 1) := by decide +kernel
theorem n_119_23 : pm_ins 119 23 = some (.if_icmp .gt 866, 3) := by decide +kernel
theorem n_119_26 : pm_ins 119 26 = some (.aload_n 0, 1) := by decide +kernel
theorem n_119_27 : pm_ins 119 27 = some (.iload_n 3, 1) := by decide +kernel
theorem n_119_28 : pm_ins 119 28 = some (.iaload, 1) := by decide +kernel
theorem n_119_29 : pm_ins 119 29 = some (.bipush 31, 2) := by decide +kernel
theorem n_119_31 : pm_ins 119 31 = some (.iand, 1) := by decide +kernel
theorem n_119_32 : pm_ins 119 32 = some (.tableswitch 851 0 19 #[96, 109, 132, 155, 188, 241, 274, 343, 376, 429, 482, 526, 559, 602, 635, 658, 691, 760, 783, 807], 96) := by decide +kernel
theorem n_119_128 : pm_ins 119 128 = some (.aload_n 1, 1) := by decide +kernel
theorem n_119_129 : pm_ins 119 129 = some (.invokevirtual 13, 3) := by decide +kernel
theorem n_119_132 : pm_ins 119 132 = some (.aload_n 2, 1) := by decide +kernel
theorem n_119_133 : pm_ins 119 133 = some (.invokevirtual 17, 3) := by decide +kernel
theorem n_119_136 : pm_ins 119 136 = some (.if_icmp .eq 747, 3) := by decide +kernel
theorem n_119_139 : pm_ins 119 139 = some (.iconst 0, 1) := by decide +kernel
theorem n_119_140 : pm_ins 119 140 = some (.ireturn, 1) := by decide +kernel
theorem n_119_141 : pm_ins 119 141 = some (.aload_n 1, 1) := by decide +kernel
theorem n_119_142 : pm_ins 119 142 = some (.aload_n 0, 1) := by decide +kernel
theorem n_119_143 : pm_ins 119 143 = some (.iload_n 3, 1) := by decide +kernel
theorem n_119_144 : pm_ins 119 144 = some (.iconst 1, 1) := by decide +kernel
theorem n_119_145 : pm_ins 119 145 = some (.iadd, 1) := by decide +kernel
theorem n_119_146 : pm_ins 119 146 = some (.iaload, 1) := by decide +kernel
theorem n_119_147 : pm_ins 119 147 = some (.invokevirtual 18, 3) := by decide +kernel
theorem n_119_150 : pm_ins 119 150 = some (.aload_n 2, 1) := by decide +kernel
theorem n_119_151 : pm_ins 119 151 = some (.aload_n 0, 1) := by decide +kernel
theorem n_119_152 : pm_ins 119 152 = some (.iload_n 3, 1) := by decide +kernel
theorem n_119_153 : pm_ins 119 153 = some (.iconst 1, 1) := by decide +kernel
theorem n_119_154 : pm_ins 119 154 = some (.iadd, 1) := by decide +kernel
theorem n_119_155 : pm_ins 119 155 = some (.iaload, 1) := by decide +kernel
theorem n_119_156 : pm_ins 119 156 = some (.invokevirtual 22, 3) := by decide +kernel
theorem n_119_159 : pm_ins 119 159 = some (.if_icmp .eq 724, 3) := by decide +kernel
theorem n_119_162 : pm_ins 119 162 = some (.iconst 0, 1) := by decide +kernel
theorem n_119_163 : pm_ins 119 163 = some (.ireturn, 1) := by decide +kernel
theorem n_119_164 : pm_ins 119 164 = some (.aload_n 1, 1) := by decide +kernel
theorem n_119_165 : pm_ins 119 165 = some (.aload_n 0, 1) := by decide +kernel
theorem n_119_166 : pm_ins 119 166 = some (.iload_n 3, 1) := by decide +kernel
theorem n_119_167 : pm_ins 119 167 = some (.iconst 1, 1) := by decide +kernel
theorem n_119_168 : pm_ins 119 168 = some (.iadd, 1) := by decide +kernel
theorem n_119_169 : pm_ins 119 169 = some (.iaload, 1) := by decide +kernel
theorem n_119_170 : pm_ins 119 170 = some (.invokevirtual 23, 3) := by decide +kernel
theorem n_119_173 : pm_ins 119 173 = some (.aload_n 2, 1) := by decide +kernel
theorem n_119_174 : pm_ins 119 174 = some (.aload_n 0, 1) := by decide +kernel
theorem n_119_175 : pm_ins 119 175 = some (.iload_n 3, 1) := by decide +kernel
theorem n_119_176 : pm_ins 119 176 = some (.iconst 1, 1) := by decide +kernel
theorem n_119_177 : pm_ins 119 177 = some (.iadd, 1) := by decide +kernel
theorem n_119_178 : pm_ins 119 178 = some (.iaload, 1) := by decide +kernel
theorem n_119_179 : pm_ins 119 179 = some (.invokevirtual 26, 3) := by decide +kernel
theorem n_119_182 : pm_ins 119 182 = some (.if_icmp .eq 701, 3) := by decide +kernel
theorem n_119_185 : pm_ins 119 185 = some (.iconst 0, 1) := by decide +kernel
theorem n_119_186 : pm_ins 119 186 = some (.ireturn, 1) := by decide +kernel
theorem n_119_187 : pm_ins 119 187 = some (.aload_n 1, 1) := by decide +kernel
theorem n_119_188 : pm_ins 119 188 = some (.aload_n 0, 1) := by decide +kernel
theorem n_119_189 : pm_ins 119 189 = some (.iload_n 3, 1) := by decide +kernel
theorem n_119_190 : pm_ins 119 190 = some (.iconst 1, 1) := by decide +kernel
theorem n_119_191 : pm_ins 119 191 = some (.iadd, 1) := by decide +kernel
theorem n_119_192 : pm_ins 119 192 = some (.iaload, 1) := by decide +kernel
theorem n_119_193 : pm_ins 119 193 = some (.aload_n 0, 1) := by decide +kernel
theorem n_119_194 : pm_ins 119 194 = some (.iload_n 3, 1) := by decide +kernel
theorem n_119_195 : pm_ins 119 195 = some (.iconst 2, 1) := by decide +kernel
theorem n_119_196 : pm_ins 119 196 = some (.iadd, 1) := by decide +kernel
theorem n_119_197 : pm_ins 119 197 = some (.iaload, 1) := by decide +kernel
theorem n_119_198 : pm_ins 119 198 = some (.invokevirtual 27, 3) := by decide +kernel
theorem n_119_201 : pm_ins 119 201 = some (.aload_n 2, 1) := by decide +kernel
theorem n_119_202 : pm_ins 119 202 = some (.aload_n 0, 1) := by decide +kernel
theorem n_119_203 : pm_ins 119 203 = some (.iload_n 3, 1) := by decide +kernel
theorem n_119_204 : pm_ins 119 204 = some (.iconst 1, 1) := by decide +kernel
theorem n_119_205 : pm_ins 119 205 = some (.iadd, 1) := by decide +kernel
theorem n_119_206 : pm_ins 119 206 = some (.iaload, 1) := by decide +kernel
theorem n_119_207 : pm_ins 119 207 = some (.aload_n 0, 1) := by decide +kernel
theorem n_119_208 : pm_ins 119 208 = some (.iload_n 3, 1) := by decide +kernel
theorem n_119_209 : pm_ins 119 209 = some (.iconst 2, 1) := by decide +kernel
theorem n_119_210 : pm_ins 119 210 = some (.iadd, 1) := by decide +kernel
theorem n_119_211 : pm_ins 119 211 = some (.iaload, 1) := by decide +kernel
theorem n_119_212 : pm_ins 119 212 = some (.invokevirtual 31, 3) := by decide +kernel
theorem n_119_215 : pm_ins 119 215 = some (.if_icmp .eq 668, 3) := by decide +kernel
theorem n_119_218 : pm_ins 119 218 = some (.iconst 0, 1) := by decide +kernel
theorem n_119_219 : pm_ins 119 219 = some (.ireturn, 1) := by decide +kernel
theorem n_119_220 : pm_ins 119 220 = some (.aload_n 1, 1) := by decide +kernel
theorem n_119_221 : pm_ins 119 221 = some (.aload_n 0, 1) := by decide +kernel
theorem n_119_222 : pm_ins 119 222 = some (.iload_n 3, 1) := by decide +kernel
theorem n_119_223 : pm_ins 119 223 = some (.iconst 1, 1) := by decide +kernel
theorem n_119_224 : pm_ins 119 224 = some (.iadd, 1) := by decide +kernel
theorem n_119_225 : pm_ins 119 225 = some (.iaload, 1) := by decide +kernel
theorem n_119_226 : pm_ins 119 226 = some (.aload_n 0, 1) := by decide +kernel
theorem n_119_227 : pm_ins 119 227 = some (.iload_n 3, 1) := by decide +kernel
theorem n_119_228 : pm_ins 119 228 = some (.iconst 2, 1) := by decide +kernel
theorem n_119_229 : pm_ins 119 229 = some (.iadd, 1) := by decide +kernel
theorem n_119_230 : pm_ins 119 230 = some (.iaload, 1) := by decide +kernel
theorem n_119_231 : pm_ins 119 231 = some (.aload_n 0, 1) := by decide +kernel
theorem n_119_232 : pm_ins 119 232 = some (.iload_n 3, 1) := by decide +kernel
theorem n_119_233 : pm_ins 119 233 = some (.iconst 3, 1) := by decide +kernel
theorem n_119_234 : pm_ins 119 234 = some (.iadd, 1) := by decide +kernel
theorem n_119_235 : pm_ins 119 235 = some (.iaload, 1) := by decide +kernel
theorem n_119_236 : pm_ins 119 236 = some (.aload_n 0, 1) := by decide +kernel
theorem n_119_237 : pm_ins 119 237 = some (.iload_n 3, 1) := by decide +kernel
theorem n_119_238 : pm_ins 119 238 = some (.iconst 4, 1) := by decide +kernel
theorem n_119_239 : pm_ins 119 239 = some (.iadd, 1) := by decide +kernel
theorem n_119_240 : pm_ins 119 240 = some (.iaload, 1) := by decide +kernel
theorem n_119_241 : pm_ins 119 241 = some (.invokevirtual 32, 3) := by decide +kernel
theorem n_119_244 : pm_ins 119 244 = some (.aload_n 2, 1) := by decide +kernel
theorem n_119_245 : pm_ins 119 245 = some (.aload_n 0, 1) := by decide +kernel
theorem n_119_246 : pm_ins 119 246 = some (.iload_n 3, 1) := by decide +kernel
theorem n_119_247 : pm_ins 119 247 = some (.iconst 1, 1) := by decide +kernel
theorem n_119_248 : pm_ins 119 248 = some (.iadd, 1) := by decide +kernel
theorem n_119_249 : pm_ins 119 249 = some (.iaload, 1) := by decide +kernel
theorem n_119_250 : pm_ins 119 250 = some (.aload_n 0, 1) := by decide +kernel
theorem n_119_251 : pm_ins 119 251 = some (.iload_n 3, 1) := by decide +kernel
theorem n_119_252 : pm_ins 119 252 = some (.iconst 2, 1) := by decide +kernel
theorem n_119_253 : pm_ins 119 253 = some (.iadd, 1) := by decide +kernel
theorem n_119_254 : pm_ins 119 254 = some (.iaload, 1) := by decide +kernel
theorem n_119_255 : pm_ins 119 255 = some (.aload_n 0, 1) := by decide +kernel
theorem n_119_256 : pm_ins 119 256 = some (.iload_n 3, 1) := by decide +kernel
theorem n_119_257 : pm_ins 119 257 = some (.iconst 3, 1) := by decide +kernel
theorem n_119_258 : pm_ins 119 258 = some (.iadd, 1) := by decide +kernel
theorem n_119_259 : pm_ins 119 259 = some (.iaload, 1) := by decide +kernel
theorem n_119_260 : pm_ins 119 260 = some (.aload_n 0, 1) := by decide +kernel
theorem n_119_261 : pm_ins 119 261 = some (.iload_n 3, 1) := by decide +kernel
theorem n_119_262 : pm_ins 119 262 = some (.iconst 4, 1) := by decide +kernel
theorem n_119_263 : pm_ins 119 263 = some (.iadd, 1) := by decide +kernel
theorem n_119_264 : pm_ins 119 264 = some (.iaload, 1) := by decide +kernel
theorem n_119_265 : pm_ins 119 265 = some (.invokevirtual 36, 3) := by decide +kernel
theorem n_119_268 : pm_ins 119 268 = some (.if_icmp .eq 615, 3) := by decide +kernel
theorem n_119_271 : pm_ins 119 271 = some (.iconst 0, 1) := by decide +kernel
theorem n_119_272 : pm_ins 119 272 = some (.ireturn, 1) := by decide +kernel
theorem n_119_273 : pm_ins 119 273 = some (.aload_n 1, 1) := by decide +kernel
theorem n_119_274 : pm_ins 119 274 = some (.aload_n 0, 1) := by decide +kernel
theorem n_119_275 : pm_ins 119 275 = some (.iload_n 3, 1) := by decide +kernel
theorem n_119_276 : pm_ins 119 276 = some (.iconst 1, 1) := by decide +kernel
theorem n_119_277 : pm_ins 119 277 = some (.iadd, 1) := by decide +kernel
theorem n_119_278 : pm_ins 119 278 = some (.iaload, 1) := by decide +kernel
theorem n_119_279 : pm_ins 119 279 = some (.aload_n 0, 1) := by decide +kernel
theorem n_119_280 : pm_ins 119 280 = some (.iload_n 3, 1) := by decide +kernel
theorem n_119_281 : pm_ins 119 281 = some (.iconst 2, 1) := by decide +kernel
theorem n_119_282 : pm_ins 119 282 = some (.iadd, 1) := by decide +kernel
theorem n_119_283 : pm_ins 119 283 = some (.iaload, 1) := by decide +kernel
theorem n_119_284 : pm_ins 119 284 = some (.invokevirtual 37, 3) := by decide +kernel
theorem n_119_287 : pm_ins 119 287 = some (.aload_n 2, 1) := by decide +kernel
theorem n_119_288 : pm_ins 119 288 = some (.aload_n 0, 1) := by decide +kernel
theorem n_119_289 : pm_ins 119 289 = some (.iload_n 3, 1) := by decide +kernel
theorem n_119_290 : pm_ins 119 290 = some (.iconst 1, 1) := by decide +kernel
theorem n_119_291 : pm_ins 119 291 = some (.iadd, 1) := by decide +kernel
theorem n_119_292 : pm_ins 119 292 = some (.iaload, 1) := by decide +kernel
theorem n_119_293 : pm_ins 119 293 = some (.aload_n 0, 1) := by decide +kernel
theorem n_119_294 : pm_ins 119 294 = some (.iload_n 3, 1) := by decide +kernel
theorem n_119_295 : pm_ins 119 295 = some (.iconst 2, 1) := by decide +kernel
theorem n_119_296 : pm_ins 119 296 = some (.iadd, 1) := by decide +kernel
theorem n_119_297 : pm_ins 119 297 = some (.iaload, 1) := by decide +kernel
theorem n_119_298 : pm_ins 119 298 = some (.invokevirtual 40, 3) := by decide +kernel
theorem n_119_301 : pm_ins 119 301 = some (.if_icmp .eq 582, 3) := by decide +kernel
theorem n_119_304 : pm_ins 119 304 = some (.iconst 0, 1) := by decide +kernel
theorem n_119_305 : pm_ins 119 305 = some (.ireturn, 1) := by decide +kernel
theorem n_119_306 : pm_ins 119 306 = some (.aload_n 1, 1) := by decide +kernel
theorem n_119_307 : pm_ins 119 307 = some (.aload_n 0, 1) := by decide +kernel
theorem n_119_308 : pm_ins 119 308 = some (.iload_n 3, 1) := by decide +kernel
theorem n_119_309 : pm_ins 119 309 = some (.iconst 1, 1) := by decide +kernel
theorem n_119_310 : pm_ins 119 310 = some (.iadd, 1) := by decide +kernel
theorem n_119_311 : pm_ins 119 311 = some (.iaload, 1) := by decide +kernel
theorem n_119_312 : pm_ins 119 312 = some (.aload_n 0, 1) := by decide +kernel
theorem n_119_313 : pm_ins 119 313 = some (.iload_n 3, 1) := by decide +kernel
theorem n_119_314 : pm_ins 119 314 = some (.iconst 2, 1) := by decide +kernel
theorem n_119_315 : pm_ins 119 315 = some (.iadd, 1) := by decide +kernel
theorem n_119_316 : pm_ins 119 316 = some (.iaload, 1) := by decide +kernel
theorem n_119_317 : pm_ins 119 317 = some (.aload_n 0, 1) := by decide +kernel
theorem n_119_318 : pm_ins 119 318 = some (.iload_n 3, 1) := by decide +kernel
theorem n_119_319 : pm_ins 119 319 = some (.iconst 3, 1) := by decide +kernel
theorem n_119_320 : pm_ins 119 320 = some (.iadd, 1) := by decide +kernel
theorem n_119_321 : pm_ins 119 321 = some (.iaload, 1) := by decide +kernel
theorem n_119_322 : pm_ins 119 322 = some (.aload_n 0, 1) := by decide +kernel
theorem n_119_323 : pm_ins 119 323 = some (.iload_n 3, 1) := by decide +kernel
theorem n_119_324 : pm_ins 119 324 = some (.iconst 4, 1) := by decide +kernel
theorem n_119_325 : pm_ins 119 325 = some (.iadd, 1) := by decide +kernel
theorem n_119_326 : pm_ins 119 326 = some (.iaload, 1) := by decide +kernel
theorem n_119_327 : pm_ins 119 327 = some (.ifCond .eq 7, 3) := by decide +kernel
theorem n_119_330 : pm_ins 119 330 = some (.iconst 1, 1) := by decide +kernel
theorem n_119_331 : pm_ins 119 331 = some (.goto 4, 3) := by decide +kernel
theorem n_119_334 : pm_ins 119 334 = some (.iconst 0, 1) := by decide +kernel
theorem n_119_335 : pm_ins 119 335 = some (.invokevirtual 41, 3) := by decide +kernel
theorem n_119_338 : pm_ins 119 338 = some (.aload_n 2, 1) := by decide +kernel
theorem n_119_339 : pm_ins 119 339 = some (.aload_n 0, 1) := by decide +kernel
theorem n_119_340 : pm_ins 119 340 = some (.iload_n 3, 1) := by decide +kernel
theorem n_119_341 : pm_ins 119 341 = some (.iconst 1, 1) := by decide +kernel
theorem n_119_342 : pm_ins 119 342 = some (.iadd, 1) := by decide +kernel
theorem n_119_343 : pm_ins 119 343 = some (.iaload, 1) := by decide +kernel
theorem n_119_344 : pm_ins 119 344 = some (.aload_n 0, 1) := by decide +kernel
theorem n_119_345 : pm_ins 119 345 = some (.iload_n 3, 1) := by decide +kernel
theorem n_119_346 : pm_ins 119 346 = some (.iconst 2, 1) := by decide +kernel
theorem n_119_347 : pm_ins 119 347 = some (.iadd, 1) := by decide +kernel
theorem n_119_348 : pm_ins 119 348 = some (.iaload, 1) := by decide +kernel
theorem n_119_349 : pm_ins 119 349 = some (.aload_n 0, 1) := by decide +kernel
theorem n_119_350 : pm_ins 119 350 = some (.iload_n 3, 1) := by decide +kernel
theorem n_119_351 : pm_ins 119 351 = some (.iconst 3, 1) := by decide +kernel
theorem n_119_352 : pm_ins 119 352 = some (.iadd, 1) := by decide +kernel
theorem n_119_353 : pm_ins 119 353 = some (.iaload, 1) := by decide +kernel
theorem n_119_354 : pm_ins 119 354 = some (.aload_n 0, 1) := by decide +kernel
theorem n_119_355 : pm_ins 119 355 = some (.iload_n 3, 1) := by decide +kernel
theorem n_119_356 : pm_ins 119 356 = some (.iconst 4, 1) := by decide +kernel
theorem n_119_357 : pm_ins 119 357 = some (.iadd, 1) := by decide +kernel
theorem n_119_358 : pm_ins 119 358 = some (.iaload, 1) := by decide +kernel
theorem n_119_359 : pm_ins 119 359 = some (.ifCond .eq 7, 3) := by decide +kernel
theorem n_119_362 : pm_ins 119 362 = some (.iconst 1, 1) := by decide +kernel
theorem n_119_363 : pm_ins 119 363 = some (.goto 4, 3) := by decide +kernel
theorem n_119_366 : pm_ins 119 366 = some (.iconst 0, 1) := by decide +kernel
theorem n_119_367 : pm_ins 119 367 = some (.invokevirtual 45, 3) := by decide +kernel
theorem n_119_370 : pm_ins 119 370 = some (.if_icmp .eq 513, 3) := by decide +kernel
theorem n_119_373 : pm_ins 119 373 = some (.iconst 0, 1) := by decide +kernel
theorem n_119_374 : pm_ins 119 374 = some (.ireturn, 1) := by decide +kernel
theorem n_119_375 : pm_ins 119 375 = some (.aload_n 1, 1) := by decide +kernel
theorem n_119_376 : pm_ins 119 376 = some (.aload_n 0, 1) := by decide +kernel
theorem n_119_377 : pm_ins 119 377 = some (.iload_n 3, 1) := by decide +kernel
theorem n_119_378 : pm_ins 119 378 = some (.iconst 1, 1) := by decide +kernel
theorem n_119_379 : pm_ins 119 379 = some (.iadd, 1) := by decide +kernel
theorem n_119_380 : pm_ins 119 380 = some (.iaload, 1) := by decide +kernel
theorem n_119_381 : pm_ins 119 381 = some (.aload_n 0, 1) := by decide +kernel
theorem n_119_382 : pm_ins 119 382 = some (.iload_n 3, 1) := by decide +kernel
theorem n_119_383 : pm_ins 119 383 = some (.iconst 2, 1) := by decide +kernel
theorem n_119_384 : pm_ins 119 384 = some (.iadd, 1) := by decide +kernel
theorem n_119_385 : pm_ins 119 385 = some (.iaload, 1) := by decide +kernel
theorem n_119_386 : pm_ins 119 386 = some (.invokevirtual 46, 3) := by decide +kernel
theorem n_119_389 : pm_ins 119 389 = some (.aload_n 2, 1) := by decide +kernel
theorem n_119_390 : pm_ins 119 390 = some (.aload_n 0, 1) := by decide +kernel
theorem n_119_391 : pm_ins 119 391 = some (.iload_n 3, 1) := by decide +kernel
theorem n_119_392 : pm_ins 119 392 = some (.iconst 1, 1) := by decide +kernel
theorem n_119_393 : pm_ins 119 393 = some (.iadd, 1) := by decide +kernel
theorem n_119_394 : pm_ins 119 394 = some (.iaload, 1) := by decide +kernel
theorem n_119_395 : pm_ins 119 395 = some (.aload_n 0, 1) := by decide +kernel
theorem n_119_396 : pm_ins 119 396 = some (.iload_n 3, 1) := by decide +kernel
theorem n_119_397 : pm_ins 119 397 = some (.iconst 2, 1) := by decide +kernel
theorem n_119_398 : pm_ins 119 398 = some (.iadd, 1) := by decide +kernel
theorem n_119_399 : pm_ins 119 399 = some (.iaload, 1) := by decide +kernel
theorem n_119_400 : pm_ins 119 400 = some (.invokevirtual 49, 3) := by decide +kernel
theorem n_119_403 : pm_ins 119 403 = some (.if_icmp .eq 480, 3) := by decide +kernel
theorem n_119_406 : pm_ins 119 406 = some (.iconst 0, 1) := by decide +kernel
theorem n_119_407 : pm_ins 119 407 = some (.ireturn, 1) := by decide +kernel
theorem n_119_408 : pm_ins 119 408 = some (.aload_n 1, 1) := by decide +kernel
theorem n_119_409 : pm_ins 119 409 = some (.aload_n 0, 1) := by decide +kernel
theorem n_119_410 : pm_ins 119 410 = some (.iload_n 3, 1) := by decide +kernel
theorem n_119_411 : pm_ins 119 411 = some (.iconst 1, 1) := by decide +kernel
theorem n_119_412 : pm_ins 119 412 = some (.iadd, 1) := by decide +kernel
theorem n_119_413 : pm_ins 119 413 = some (.iaload, 1) := by decide +kernel
theorem n_119_414 : pm_ins 119 414 = some (.aload_n 0, 1) := by decide +kernel
theorem n_119_415 : pm_ins 119 415 = some (.iload_n 3, 1) := by decide +kernel
theorem n_119_416 : pm_ins 119 416 = some (.iconst 2, 1) := by decide +kernel
theorem n_119_417 : pm_ins 119 417 = some (.iadd, 1) := by decide +kernel
theorem n_119_418 : pm_ins 119 418 = some (.iaload, 1) := by decide +kernel
theorem n_119_419 : pm_ins 119 419 = some (.aload_n 0, 1) := by decide +kernel
theorem n_119_420 : pm_ins 119 420 = some (.iload_n 3, 1) := by decide +kernel
theorem n_119_421 : pm_ins 119 421 = some (.iconst 3, 1) := by decide +kernel
theorem n_119_422 : pm_ins 119 422 = some (.iadd, 1) := by decide +kernel
theorem n_119_423 : pm_ins 119 423 = some (.iaload, 1) := by decide +kernel
theorem n_119_424 : pm_ins 119 424 = some (.aload_n 0, 1) := by decide +kernel
theorem n_119_425 : pm_ins 119 425 = some (.iload_n 3, 1) := by decide +kernel
theorem n_119_426 : pm_ins 119 426 = some (.iconst 4, 1) := by decide +kernel
theorem n_119_427 : pm_ins 119 427 = some (.iadd, 1) := by decide +kernel
theorem n_119_428 : pm_ins 119 428 = some (.iaload, 1) := by decide +kernel
theorem n_119_429 : pm_ins 119 429 = some (.invokevirtual 50, 3) := by decide +kernel
theorem n_119_432 : pm_ins 119 432 = some (.aload_n 2, 1) := by decide +kernel
theorem n_119_433 : pm_ins 119 433 = some (.aload_n 0, 1) := by decide +kernel
theorem n_119_434 : pm_ins 119 434 = some (.iload_n 3, 1) := by decide +kernel
theorem n_119_435 : pm_ins 119 435 = some (.iconst 1, 1) := by decide +kernel
theorem n_119_436 : pm_ins 119 436 = some (.iadd, 1) := by decide +kernel
theorem n_119_437 : pm_ins 119 437 = some (.iaload, 1) := by decide +kernel
theorem n_119_438 : pm_ins 119 438 = some (.aload_n 0, 1) := by decide +kernel
theorem n_119_439 : pm_ins 119 439 = some (.iload_n 3, 1) := by decide +kernel
theorem n_119_440 : pm_ins 119 440 = some (.iconst 2, 1) := by decide +kernel
theorem n_119_441 : pm_ins 119 441 = some (.iadd, 1) := by decide +kernel
theorem n_119_442 : pm_ins 119 442 = some (.iaload, 1) := by decide +kernel
theorem n_119_443 : pm_ins 119 443 = some (.aload_n 0, 1) := by decide +kernel
theorem n_119_444 : pm_ins 119 444 = some (.iload_n 3, 1) := by decide +kernel
theorem n_119_445 : pm_ins 119 445 = some (.iconst 3, 1) := by decide +kernel
theorem n_119_446 : pm_ins 119 446 = some (.iadd, 1) := by decide +kernel
theorem n_119_447 : pm_ins 119 447 = some (.iaload, 1) := by decide +kernel
theorem n_119_448 : pm_ins 119 448 = some (.aload_n 0, 1) := by decide +kernel
theorem n_119_449 : pm_ins 119 449 = some (.iload_n 3, 1) := by decide +kernel
theorem n_119_450 : pm_ins 119 450 = some (.iconst 4, 1) := by decide +kernel
theorem n_119_451 : pm_ins 119 451 = some (.iadd, 1) := by decide +kernel
theorem n_119_452 : pm_ins 119 452 = some (.iaload, 1) := by decide +kernel
theorem n_119_453 : pm_ins 119 453 = some (.invokevirtual 53, 3) := by decide +kernel
theorem n_119_456 : pm_ins 119 456 = some (.if_icmp .eq 427, 3) := by decide +kernel
theorem n_119_459 : pm_ins 119 459 = some (.iconst 0, 1) := by decide +kernel
theorem n_119_460 : pm_ins 119 460 = some (.ireturn, 1) := by decide +kernel
theorem n_119_461 : pm_ins 119 461 = some (.aload_n 1, 1) := by decide +kernel
theorem n_119_462 : pm_ins 119 462 = some (.aload_n 0, 1) := by decide +kernel
theorem n_119_463 : pm_ins 119 463 = some (.iload_n 3, 1) := by decide +kernel
theorem n_119_464 : pm_ins 119 464 = some (.iconst 1, 1) := by decide +kernel
theorem n_119_465 : pm_ins 119 465 = some (.iadd, 1) := by decide +kernel
theorem n_119_466 : pm_ins 119 466 = some (.iaload, 1) := by decide +kernel
theorem n_119_467 : pm_ins 119 467 = some (.aload_n 0, 1) := by decide +kernel
theorem n_119_468 : pm_ins 119 468 = some (.iload_n 3, 1) := by decide +kernel
theorem n_119_469 : pm_ins 119 469 = some (.iconst 2, 1) := by decide +kernel
theorem n_119_470 : pm_ins 119 470 = some (.iadd, 1) := by decide +kernel
theorem n_119_471 : pm_ins 119 471 = some (.iaload, 1) := by decide +kernel
theorem n_119_472 : pm_ins 119 472 = some (.aload_n 0, 1) := by decide +kernel
theorem n_119_473 : pm_ins 119 473 = some (.iload_n 3, 1) := by decide +kernel
theorem n_119_474 : pm_ins 119 474 = some (.iconst 3, 1) := by decide +kernel
theorem n_119_475 : pm_ins 119 475 = some (.iadd, 1) := by decide +kernel
theorem n_119_476 : pm_ins 119 476 = some (.iaload, 1) := by decide +kernel
theorem n_119_477 : pm_ins 119 477 = some (.aload_n 0, 1) := by decide +kernel
theorem n_119_478 : pm_ins 119 478 = some (.iload_n 3, 1) := by decide +kernel
theorem n_119_479 : pm_ins 119 479 = some (.iconst 4, 1) := by decide +kernel
theorem n_119_480 : pm_ins 119 480 = some (.iadd, 1) := by decide +kernel
theorem n_119_481 : pm_ins 119 481 = some (.iaload, 1) := by decide +kernel
theorem n_119_482 : pm_ins 119 482 = some (.invokevirtual 54, 3) := by decide +kernel
theorem n_119_485 : pm_ins 119 485 = some (.aload_n 2, 1) := by decide +kernel
theorem n_119_486 : pm_ins 119 486 = some (.aload_n 0, 1) := by decide +kernel
theorem n_119_487 : pm_ins 119 487 = some (.iload_n 3, 1) := by decide +kernel
theorem n_119_488 : pm_ins 119 488 = some (.iconst 1, 1) := by decide +kernel
theorem n_119_489 : pm_ins 119 489 = some (.iadd, 1) := by decide +kernel
theorem n_119_490 : pm_ins 119 490 = some (.iaload, 1) := by decide +kernel
theorem n_119_491 : pm_ins 119 491 = some (.aload_n 0, 1) := by decide +kernel
theorem n_119_492 : pm_ins 119 492 = some (.iload_n 3, 1) := by decide +kernel
theorem n_119_493 : pm_ins 119 493 = some (.iconst 2, 1) := by decide +kernel
theorem n_119_494 : pm_ins 119 494 = some (.iadd, 1) := by decide +kernel
theorem n_119_495 : pm_ins 119 495 = some (.iaload, 1) := by decide +kernel
theorem n_119_496 : pm_ins 119 496 = some (.aload_n 0, 1) := by decide +kernel
theorem n_119_497 : pm_ins 119 497 = some (.iload_n 3, 1) := by decide +kernel
theorem n_119_498 : pm_ins 119 498 = some (.iconst 3, 1) := by decide +kernel
theorem n_119_499 : pm_ins 119 499 = some (.iadd, 1) := by decide +kernel
theorem n_119_500 : pm_ins 119 500 = some (.iaload, 1) := by decide +kernel
theorem n_119_501 : pm_ins 119 501 = some (.aload_n 0, 1) := by decide +kernel
theorem n_119_502 : pm_ins 119 502 = some (.iload_n 3, 1) := by decide +kernel
theorem n_119_503 : pm_ins 119 503 = some (.iconst 4, 1) := by decide +kernel
theorem n_119_504 : pm_ins 119 504 = some (.iadd, 1) := by decide +kernel
theorem n_119_505 : pm_ins 119 505 = some (.iaload, 1) := by decide +kernel
theorem n_119_506 : pm_ins 119 506 = some (.invokevirtual 57, 3) := by decide +kernel
theorem n_119_509 : pm_ins 119 509 = some (.if_icmp .eq 374, 3) := by decide +kernel
theorem n_119_512 : pm_ins 119 512 = some (.iconst 0, 1) := by decide +kernel
theorem n_119_513 : pm_ins 119 513 = some (.ireturn, 1) := by decide +kernel
theorem n_119_514 : pm_ins 119 514 = some (.aload_n 1, 1) := by decide +kernel
theorem n_119_515 : pm_ins 119 515 = some (.aload_n 0, 1) := by decide +kernel
theorem n_119_516 : pm_ins 119 516 = some (.iload_n 3, 1) := by decide +kernel
theorem n_119_517 : pm_ins 119 517 = some (.iconst 1, 1) := by decide +kernel
theorem n_119_518 : pm_ins 119 518 = some (.iadd, 1) := by decide +kernel
theorem n_119_519 : pm_ins 119 519 = some (.iaload, 1) := by decide +kernel
theorem n_119_520 : pm_ins 119 520 = some (.aload_n 0, 1) := by decide +kernel
theorem n_119_521 : pm_ins 119 521 = some (.iload_n 3, 1) := by decide +kernel
theorem n_119_522 : pm_ins 119 522 = some (.iconst 2, 1) := by decide +kernel
theorem n_119_523 : pm_ins 119 523 = some (.iadd, 1) := by decide +kernel
theorem n_119_524 : pm_ins 119 524 = some (.iaload, 1) := by decide +kernel
theorem n_119_525 : pm_ins 119 525 = some (.aload_n 0, 1) := by decide +kernel
theorem n_119_526 : pm_ins 119 526 = some (.iload_n 3, 1) := by decide +kernel
theorem n_119_527 : pm_ins 119 527 = some (.iconst 3, 1) := by decide +kernel
theorem n_119_528 : pm_ins 119 528 = some (.iadd, 1) := by decide +kernel
theorem n_119_529 : pm_ins 119 529 = some (.iaload, 1) := by decide +kernel
theorem n_119_530 : pm_ins 119 530 = some (.invokevirtual 58, 3) := by decide +kernel
theorem n_119_533 : pm_ins 119 533 = some (.aload_n 2, 1) := by decide +kernel
theorem n_119_534 : pm_ins 119 534 = some (.aload_n 0, 1) := by decide +kernel
theorem n_119_535 : pm_ins 119 535 = some (.iload_n 3, 1) := by decide +kernel
theorem n_119_536 : pm_ins 119 536 = some (.iconst 1, 1) := by decide +kernel
theorem n_119_537 : pm_ins 119 537 = some (.iadd, 1) := by decide +kernel
theorem n_119_538 : pm_ins 119 538 = some (.iaload, 1) := by decide +kernel
theorem n_119_539 : pm_ins 119 539 = some (.aload_n 0, 1) := by decide +kernel
theorem n_119_540 : pm_ins 119 540 = some (.iload_n 3, 1) := by decide +kernel
theorem n_119_541 : pm_ins 119 541 = some (.iconst 2, 1) := by decide +kernel
theorem n_119_542 : pm_ins 119 542 = some (.iadd, 1) := by decide +kernel
theorem n_119_543 : pm_ins 119 543 = some (.iaload, 1) := by decide +kernel
theorem n_119_544 : pm_ins 119 544 = some (.aload_n 0, 1) := by decide +kernel
theorem n_119_545 : pm_ins 119 545 = some (.iload_n 3, 1) := by decide +kernel
theorem n_119_546 : pm_ins 119 546 = some (.iconst 3, 1) := by decide +kernel
theorem n_119_547 : pm_ins 119 547 = some (.iadd, 1) := by decide +kernel
theorem n_119_548 : pm_ins 119 548 = some (.iaload, 1) := by decide +kernel
theorem n_119_549 : pm_ins 119 549 = some (.invokevirtual 62, 3) := by decide +kernel
theorem n_119_552 : pm_ins 119 552 = some (.lcmp, 1) := by decide +kernel
theorem n_119_553 : pm_ins 119 553 = some (.ifCond .eq 330, 3) := by decide +kernel
theorem n_119_556 : pm_ins 119 556 = some (.iconst 0, 1) := by decide +kernel
theorem n_119_557 : pm_ins 119 557 = some (.ireturn, 1) := by decide +kernel
theorem n_119_558 : pm_ins 119 558 = some (.aload_n 1, 1) := by decide +kernel
theorem n_119_559 : pm_ins 119 559 = some (.aload_n 0, 1) := by decide +kernel
theorem n_119_560 : pm_ins 119 560 = some (.iload_n 3, 1) := by decide +kernel
theorem n_119_561 : pm_ins 119 561 = some (.iconst 1, 1) := by decide +kernel
theorem n_119_562 : pm_ins 119 562 = some (.iadd, 1) := by decide +kernel
theorem n_119_563 : pm_ins 119 563 = some (.iaload, 1) := by decide +kernel
theorem n_119_564 : pm_ins 119 564 = some (.aload_n 0, 1) := by decide +kernel
theorem n_119_565 : pm_ins 119 565 = some (.iload_n 3, 1) := by decide +kernel
theorem n_119_566 : pm_ins 119 566 = some (.iconst 2, 1) := by decide +kernel
theorem n_119_567 : pm_ins 119 567 = some (.iadd, 1) := by decide +kernel
theorem n_119_568 : pm_ins 119 568 = some (.iaload, 1) := by decide +kernel
theorem n_119_569 : pm_ins 119 569 = some (.invokevirtual 63, 3) := by decide +kernel
theorem n_119_572 : pm_ins 119 572 = some (.aload_n 2, 1) := by decide +kernel
theorem n_119_573 : pm_ins 119 573 = some (.aload_n 0, 1) := by decide +kernel
theorem n_119_574 : pm_ins 119 574 = some (.iload_n 3, 1) := by decide +kernel
theorem n_119_575 : pm_ins 119 575 = some (.iconst 1, 1) := by decide +kernel
theorem n_119_576 : pm_ins 119 576 = some (.iadd, 1) := by decide +kernel
theorem n_119_577 : pm_ins 119 577 = some (.iaload, 1) := by decide +kernel
theorem n_119_578 : pm_ins 119 578 = some (.aload_n 0, 1) := by decide +kernel
theorem n_119_579 : pm_ins 119 579 = some (.iload_n 3, 1) := by decide +kernel
theorem n_119_580 : pm_ins 119 580 = some (.iconst 2, 1) := by decide +kernel
theorem n_119_581 : pm_ins 119 581 = some (.iadd, 1) := by decide +kernel
theorem n_119_582 : pm_ins 119 582 = some (.iaload, 1) := by decide +kernel
theorem n_119_583 : pm_ins 119 583 = some (.invokevirtual 66, 3) := by decide +kernel
theorem n_119_586 : pm_ins 119 586 = some (.if_icmp .eq 297, 3) := by decide +kernel
theorem n_119_589 : pm_ins 119 589 = some (.iconst 0, 1) := by decide +kernel
theorem n_119_590 : pm_ins 119 590 = some (.ireturn, 1) := by decide +kernel
theorem n_119_591 : pm_ins 119 591 = some (.aload_n 1, 1) := by decide +kernel
theorem n_119_592 : pm_ins 119 592 = some (.aload_n 0, 1) := by decide +kernel
theorem n_119_593 : pm_ins 119 593 = some (.iload_n 3, 1) := by decide +kernel
theorem n_119_594 : pm_ins 119 594 = some (.iconst 1, 1) := by decide +kernel
theorem n_119_595 : pm_ins 119 595 = some (.iadd, 1) := by decide +kernel
theorem n_119_596 : pm_ins 119 596 = some (.iaload, 1) := by decide +kernel
theorem n_119_597 : pm_ins 119 597 = some (.aload_n 0, 1) := by decide +kernel
theorem n_119_598 : pm_ins 119 598 = some (.iload_n 3, 1) := by decide +kernel
theorem n_119_599 : pm_ins 119 599 = some (.iconst 2, 1) := by decide +kernel
theorem n_119_600 : pm_ins 119 600 = some (.iadd, 1) := by decide +kernel
theorem n_119_601 : pm_ins 119 601 = some (.iaload, 1) := by decide +kernel
theorem n_119_602 : pm_ins 119 602 = some (.aload_n 0, 1) := by decide +kernel
theorem n_119_603 : pm_ins 119 603 = some (.iload_n 3, 1) := by decide +kernel
theorem n_119_604 : pm_ins 119 604 = some (.iconst 3, 1) := by decide +kernel
theorem n_119_605 : pm_ins 119 605 = some (.iadd, 1) := by decide +kernel
theorem n_119_606 : pm_ins 119 606 = some (.iaload, 1) := by decide +kernel
theorem n_119_607 : pm_ins 119 607 = some (.invokevirtual 67, 3) := by decide +kernel
theorem n_119_610 : pm_ins 119 610 = some (.aload_n 2, 1) := by decide +kernel
theorem n_119_611 : pm_ins 119 611 = some (.aload_n 0, 1) := by decide +kernel
theorem n_119_612 : pm_ins 119 612 = some (.iload_n 3, 1) := by decide +kernel
theorem n_119_613 : pm_ins 119 613 = some (.iconst 1, 1) := by decide +kernel
theorem n_119_614 : pm_ins 119 614 = some (.iadd, 1) := by decide +kernel
theorem n_119_615 : pm_ins 119 615 = some (.iaload, 1) := by decide +kernel
theorem n_119_616 : pm_ins 119 616 = some (.aload_n 0, 1) := by decide +kernel
theorem n_119_617 : pm_ins 119 617 = some (.iload_n 3, 1) := by decide +kernel
theorem n_119_618 : pm_ins 119 618 = some (.iconst 2, 1) := by decide +kernel
theorem n_119_619 : pm_ins 119 619 = some (.iadd, 1) := by decide +kernel
theorem n_119_620 : pm_ins 119 620 = some (.iaload, 1) := by decide +kernel
theorem n_119_621 : pm_ins 119 621 = some (.aload_n 0, 1) := by decide +kernel
theorem n_119_622 : pm_ins 119 622 = some (.iload_n 3, 1) := by decide +kernel
theorem n_119_623 : pm_ins 119 623 = some (.iconst 3, 1) := by decide +kernel
theorem n_119_624 : pm_ins 119 624 = some (.iadd, 1) := by decide +kernel
theorem n_119_625 : pm_ins 119 625 = some (.iaload, 1) := by decide +kernel
theorem n_119_626 : pm_ins 119 626 = some (.invokevirtual 71, 3) := by decide +kernel
theorem n_119_629 : pm_ins 119 629 = some (.if_icmp .eq 254, 3) := by decide +kernel
theorem n_119_632 : pm_ins 119 632 = some (.iconst 0, 1) := by decide +kernel
theorem n_119_633 : pm_ins 119 633 = some (.ireturn, 1) := by decide +kernel
theorem n_119_634 : pm_ins 119 634 = some (.aload_n 1, 1) := by decide +kernel
theorem n_119_635 : pm_ins 119 635 = some (.aload_n 0, 1) := by decide +kernel
theorem n_119_636 : pm_ins 119 636 = some (.iload_n 3, 1) := by decide +kernel
theorem n_119_637 : pm_ins 119 637 = some (.iconst 1, 1) := by decide +kernel
theorem n_119_638 : pm_ins 119 638 = some (.iadd, 1) := by decide +kernel
theorem n_119_639 : pm_ins 119 639 = some (.iaload, 1) := by decide +kernel
theorem n_119_640 : pm_ins 119 640 = some (.aload_n 0, 1) := by decide +kernel
theorem n_119_641 : pm_ins 119 641 = some (.iload_n 3, 1) := by decide +kernel
theorem n_119_642 : pm_ins 119 642 = some (.iconst 2, 1) := by decide +kernel
theorem n_119_643 : pm_ins 119 643 = some (.iadd, 1) := by decide +kernel
theorem n_119_644 : pm_ins 119 644 = some (.iaload, 1) := by decide +kernel
theorem n_119_645 : pm_ins 119 645 = some (.invokevirtual 72, 3) := by decide +kernel
theorem n_119_648 : pm_ins 119 648 = some (.aload_n 2, 1) := by decide +kernel
theorem n_119_649 : pm_ins 119 649 = some (.aload_n 0, 1) := by decide +kernel
theorem n_119_650 : pm_ins 119 650 = some (.iload_n 3, 1) := by decide +kernel
theorem n_119_651 : pm_ins 119 651 = some (.iconst 1, 1) := by decide +kernel
theorem n_119_652 : pm_ins 119 652 = some (.iadd, 1) := by decide +kernel
theorem n_119_653 : pm_ins 119 653 = some (.iaload, 1) := by decide +kernel
theorem n_119_654 : pm_ins 119 654 = some (.aload_n 0, 1) := by decide +kernel
theorem n_119_655 : pm_ins 119 655 = some (.iload_n 3, 1) := by decide +kernel
theorem n_119_656 : pm_ins 119 656 = some (.iconst 2, 1) := by decide +kernel
theorem n_119_657 : pm_ins 119 657 = some (.iadd, 1) := by decide +kernel
theorem n_119_658 : pm_ins 119 658 = some (.iaload, 1) := by decide +kernel
theorem n_119_659 : pm_ins 119 659 = some (.invokevirtual 75, 3) := by decide +kernel
theorem n_119_662 : pm_ins 119 662 = some (.if_icmp .eq 221, 3) := by decide +kernel
theorem n_119_665 : pm_ins 119 665 = some (.iconst 0, 1) := by decide +kernel
theorem n_119_666 : pm_ins 119 666 = some (.ireturn, 1) := by decide +kernel
theorem n_119_667 : pm_ins 119 667 = some (.aload_n 1, 1) := by decide +kernel
theorem n_119_668 : pm_ins 119 668 = some (.aload_n 0, 1) := by decide +kernel
theorem n_119_669 : pm_ins 119 669 = some (.iload_n 3, 1) := by decide +kernel
theorem n_119_670 : pm_ins 119 670 = some (.iconst 1, 1) := by decide +kernel
theorem n_119_671 : pm_ins 119 671 = some (.iadd, 1) := by decide +kernel
theorem n_119_672 : pm_ins 119 672 = some (.iaload, 1) := by decide +kernel
theorem n_119_673 : pm_ins 119 673 = some (.invokevirtual 76, 3) := by decide +kernel
theorem n_119_676 : pm_ins 119 676 = some (.aload_n 2, 1) := by decide +kernel
theorem n_119_677 : pm_ins 119 677 = some (.aload_n 0, 1) := by decide +kernel
theorem n_119_678 : pm_ins 119 678 = some (.iload_n 3, 1) := by decide +kernel
theorem n_119_679 : pm_ins 119 679 = some (.iconst 1, 1) := by decide +kernel
theorem n_119_680 : pm_ins 119 680 = some (.iadd, 1) := by decide +kernel
theorem n_119_681 : pm_ins 119 681 = some (.iaload, 1) := by decide +kernel
theorem n_119_682 : pm_ins 119 682 = some (.invokevirtual 79, 3) := by decide +kernel
theorem n_119_685 : pm_ins 119 685 = some (.if_icmp .eq 198, 3) := by decide +kernel
theorem n_119_688 : pm_ins 119 688 = some (.iconst 0, 1) := by decide +kernel
theorem n_119_689 : pm_ins 119 689 = some (.ireturn, 1) := by decide +kernel
theorem n_119_690 : pm_ins 119 690 = some (.aload_n 1, 1) := by decide +kernel
theorem n_119_691 : pm_ins 119 691 = some (.aload_n 0, 1) := by decide +kernel
theorem n_119_692 : pm_ins 119 692 = some (.iload_n 3, 1) := by decide +kernel
theorem n_119_693 : pm_ins 119 693 = some (.iconst 1, 1) := by decide +kernel
theorem n_119_694 : pm_ins 119 694 = some (.iadd, 1) := by decide +kernel
theorem n_119_695 : pm_ins 119 695 = some (.iaload, 1) := by decide +kernel
theorem n_119_696 : pm_ins 119 696 = some (.aload_n 0, 1) := by decide +kernel
theorem n_119_697 : pm_ins 119 697 = some (.iload_n 3, 1) := by decide +kernel
theorem n_119_698 : pm_ins 119 698 = some (.iconst 2, 1) := by decide +kernel
theorem n_119_699 : pm_ins 119 699 = some (.iadd, 1) := by decide +kernel
theorem n_119_700 : pm_ins 119 700 = some (.iaload, 1) := by decide +kernel
theorem n_119_701 : pm_ins 119 701 = some (.invokevirtual 80, 3) := by decide +kernel
theorem n_119_704 : pm_ins 119 704 = some (.aload_n 2, 1) := by decide +kernel
theorem n_119_705 : pm_ins 119 705 = some (.aload_n 0, 1) := by decide +kernel
theorem n_119_706 : pm_ins 119 706 = some (.iload_n 3, 1) := by decide +kernel
theorem n_119_707 : pm_ins 119 707 = some (.iconst 1, 1) := by decide +kernel
theorem n_119_708 : pm_ins 119 708 = some (.iadd, 1) := by decide +kernel
theorem n_119_709 : pm_ins 119 709 = some (.iaload, 1) := by decide +kernel
theorem n_119_710 : pm_ins 119 710 = some (.aload_n 0, 1) := by decide +kernel
theorem n_119_711 : pm_ins 119 711 = some (.iload_n 3, 1) := by decide +kernel
theorem n_119_712 : pm_ins 119 712 = some (.iconst 2, 1) := by decide +kernel
theorem n_119_713 : pm_ins 119 713 = some (.iadd, 1) := by decide +kernel
theorem n_119_714 : pm_ins 119 714 = some (.iaload, 1) := by decide +kernel
theorem n_119_715 : pm_ins 119 715 = some (.invokevirtual 83, 3) := by decide +kernel
theorem n_119_718 : pm_ins 119 718 = some (.if_icmp .eq 165, 3) := by decide +kernel
theorem n_119_721 : pm_ins 119 721 = some (.iconst 0, 1) := by decide +kernel
theorem n_119_722 : pm_ins 119 722 = some (.ireturn, 1) := by decide +kernel
theorem n_119_723 : pm_ins 119 723 = some (.aload_n 1, 1) := by decide +kernel
theorem n_119_724 : pm_ins 119 724 = some (.aload_n 0, 1) := by decide +kernel
theorem n_119_725 : pm_ins 119 725 = some (.iload_n 3, 1) := by decide +kernel
theorem n_119_726 : pm_ins 119 726 = some (.iconst 1, 1) := by decide +kernel
theorem n_119_727 : pm_ins 119 727 = some (.iadd, 1) := by decide +kernel
theorem n_119_728 : pm_ins 119 728 = some (.iaload, 1) := by decide +kernel
theorem n_119_729 : pm_ins 119 729 = some (.aload_n 0, 1) := by decide +kernel
theorem n_119_730 : pm_ins 119 730 = some (.iload_n 3, 1) := by decide +kernel
theorem n_119_731 : pm_ins 119 731 = some (.iconst 2, 1) := by decide +kernel
theorem n_119_732 : pm_ins 119 732 = some (.iadd, 1) := by decide +kernel
theorem n_119_733 : pm_ins 119 733 = some (.iaload, 1) := by decide +kernel
theorem n_119_734 : pm_ins 119 734 = some (.ifCond .eq 7, 3) := by decide +kernel
theorem n_119_737 : pm_ins 119 737 = some (.iconst 1, 1) := by decide +kernel
theorem n_119_738 : pm_ins 119 738 = some (.goto 4, 3) := by decide +kernel
theorem n_119_741 : pm_ins 119 741 = some (.iconst 0, 1) := by decide +kernel
theorem n_119_742 : pm_ins 119 742 = some (.aload_n 0, 1) := by decide +kernel
theorem n_119_743 : pm_ins 119 743 = some (.iload_n 3, 1) := by decide +kernel
theorem n_119_744 : pm_ins 119 744 = some (.iconst 3, 1) := by decide +kernel
theorem n_119_745 : pm_ins 119 745 = some (.iadd, 1) := by decide +kernel
theorem n_119_746 : pm_ins 119 746 = some (.iaload, 1) := by decide +kernel
theorem n_119_747 : pm_ins 119 747 = some (.aload_n 0, 1) := by decide +kernel
theorem n_119_748 : pm_ins 119 748 = some (.iload_n 3, 1) := by decide +kernel
theorem n_119_749 : pm_ins 119 749 = some (.iconst 4, 1) := by decide +kernel
theorem n_119_750 : pm_ins 119 750 = some (.iadd, 1) := by decide +kernel
theorem n_119_751 : pm_ins 119 751 = some (.iaload, 1) := by decide +kernel
theorem n_119_752 : pm_ins 119 752 = some (.invokevirtual 84, 3) := by decide +kernel
theorem n_119_755 : pm_ins 119 755 = some (.aload_n 2, 1) := by decide +kernel
theorem n_119_756 : pm_ins 119 756 = some (.aload_n 0, 1) := by decide +kernel
theorem n_119_757 : pm_ins 119 757 = some (.iload_n 3, 1) := by decide +kernel
theorem n_119_758 : pm_ins 119 758 = some (.iconst 1, 1) := by decide +kernel
theorem n_119_759 : pm_ins 119 759 = some (.iadd, 1) := by decide +kernel
theorem n_119_760 : pm_ins 119 760 = some (.iaload, 1) := by decide +kernel
theorem n_119_761 : pm_ins 119 761 = some (.aload_n 0, 1) := by decide +kernel
theorem n_119_762 : pm_ins 119 762 = some (.iload_n 3, 1) := by decide +kernel
theorem n_119_763 : pm_ins 119 763 = some (.iconst 2, 1) := by decide +kernel
theorem n_119_764 : pm_ins 119 764 = some (.iadd, 1) := by decide +kernel
theorem n_119_765 : pm_ins 119 765 = some (.iaload, 1) := by decide +kernel
theorem n_119_766 : pm_ins 119 766 = some (.ifCond .eq 7, 3) := by decide +kernel
theorem n_119_769 : pm_ins 119 769 = some (.iconst 1, 1) := by decide +kernel
theorem n_119_770 : pm_ins 119 770 = some (.goto 4, 3) := by decide +kernel
theorem n_119_773 : pm_ins 119 773 = some (.iconst 0, 1) := by decide +kernel
theorem n_119_774 : pm_ins 119 774 = some (.aload_n 0, 1) := by decide +kernel
theorem n_119_775 : pm_ins 119 775 = some (.iload_n 3, 1) := by decide +kernel
theorem n_119_776 : pm_ins 119 776 = some (.iconst 3, 1) := by decide +kernel
theorem n_119_777 : pm_ins 119 777 = some (.iadd, 1) := by decide +kernel
theorem n_119_778 : pm_ins 119 778 = some (.iaload, 1) := by decide +kernel
theorem n_119_779 : pm_ins 119 779 = some (.aload_n 0, 1) := by decide +kernel
theorem n_119_780 : pm_ins 119 780 = some (.iload_n 3, 1) := by decide +kernel
theorem n_119_781 : pm_ins 119 781 = some (.iconst 4, 1) := by decide +kernel
theorem n_119_782 : pm_ins 119 782 = some (.iadd, 1) := by decide +kernel
theorem n_119_783 : pm_ins 119 783 = some (.iaload, 1) := by decide +kernel
theorem n_119_784 : pm_ins 119 784 = some (.invokevirtual 88, 3) := by decide +kernel
theorem n_119_787 : pm_ins 119 787 = some (.if_icmp .eq 96, 3) := by decide +kernel
theorem n_119_790 : pm_ins 119 790 = some (.iconst 0, 1) := by decide +kernel
theorem n_119_791 : pm_ins 119 791 = some (.ireturn, 1) := by decide +kernel
theorem n_119_792 : pm_ins 119 792 = some (.aload_n 1, 1) := by decide +kernel
theorem n_119_793 : pm_ins 119 793 = some (.aload_n 0, 1) := by decide +kernel
theorem n_119_794 : pm_ins 119 794 = some (.iload_n 3, 1) := by decide +kernel
theorem n_119_795 : pm_ins 119 795 = some (.iconst 1, 1) := by decide +kernel
theorem n_119_796 : pm_ins 119 796 = some (.iadd, 1) := by decide +kernel
theorem n_119_797 : pm_ins 119 797 = some (.iaload, 1) := by decide +kernel
theorem n_119_798 : pm_ins 119 798 = some (.invokevirtual 89, 3) := by decide +kernel
theorem n_119_801 : pm_ins 119 801 = some (.aload_n 2, 1) := by decide +kernel
theorem n_119_802 : pm_ins 119 802 = some (.aload_n 0, 1) := by decide +kernel
theorem n_119_803 : pm_ins 119 803 = some (.iload_n 3, 1) := by decide +kernel
theorem n_119_804 : pm_ins 119 804 = some (.iconst 1, 1) := by decide +kernel
theorem n_119_805 : pm_ins 119 805 = some (.iadd, 1) := by decide +kernel
theorem n_119_806 : pm_ins 119 806 = some (.iaload, 1) := by decide +kernel
theorem n_119_807 : pm_ins 119 807 = some (.invokevirtual 92, 3) := by decide +kernel
theorem n_119_810 : pm_ins 119 810 = some (.if_icmp .eq 73, 3) := by decide +kernel
theorem n_119_813 : pm_ins 119 813 = some (.iconst 0, 1) := by decide +kernel
theorem n_119_814 : pm_ins 119 814 = some (.ireturn, 1) := by decide +kernel
theorem n_119_815 : pm_ins 119 815 = some (.aload_n 1, 1) := by decide +kernel
theorem n_119_816 : pm_ins 119 816 = some (.aload_n 0, 1) := by decide +kernel
theorem n_119_817 : pm_ins 119 817 = some (.iload_n 3, 1) := by decide +kernel
theorem n_119_818 : pm_ins 119 818 = some (.iconst 1, 1) := by decide +kernel
theorem n_119_819 : pm_ins 119 819 = some (.iadd, 1) := by decide +kernel
theorem n_119_820 : pm_ins 119 820 = some (.iaload, 1) := by decide +kernel
theorem n_119_821 : pm_ins 119 821 = some (.invokevirtual 93, 3) := by decide +kernel
theorem n_119_824 : pm_ins 119 824 = some (.aload_n 2, 1) := by decide +kernel
theorem n_119_825 : pm_ins 119 825 = some (.aload_n 0, 1) := by decide +kernel
theorem n_119_826 : pm_ins 119 826 = some (.iload_n 3, 1) := by decide +kernel
theorem n_119_827 : pm_ins 119 827 = some (.iconst 1, 1) := by decide +kernel
theorem n_119_828 : pm_ins 119 828 = some (.iadd, 1) := by decide +kernel
theorem n_119_829 : pm_ins 119 829 = some (.iaload, 1) := by decide +kernel
theorem n_119_830 : pm_ins 119 830 = some (.invokevirtual 97, 3) := by decide +kernel
theorem n_119_833 : pm_ins 119 833 = some (.lcmp, 1) := by decide +kernel
theorem n_119_834 : pm_ins 119 834 = some (.ifCond .eq 49, 3) := by decide +kernel
theorem n_119_837 : pm_ins 119 837 = some (.iconst 0, 1) := by decide +kernel
theorem n_119_838 : pm_ins 119 838 = some (.ireturn, 1) := by decide +kernel
theorem n_119_839 : pm_ins 119 839 = some (.aload_n 1, 1) := by decide +kernel
theorem n_119_840 : pm_ins 119 840 = some (.aload_n 0, 1) := by decide +kernel
theorem n_119_841 : pm_ins 119 841 = some (.iload_n 3, 1) := by decide +kernel
theorem n_119_842 : pm_ins 119 842 = some (.iconst 1, 1) := by decide +kernel
theorem n_119_843 : pm_ins 119 843 = some (.iadd, 1) := by decide +kernel
theorem n_119_844 : pm_ins 119 844 = some (.iaload, 1) := by decide +kernel
theorem n_119_845 : pm_ins 119 845 = some (.aload_n 0, 1) := by decide +kernel
theorem n_119_846 : pm_ins 119 846 = some (.iload_n 3, 1) := by decide +kernel
theorem n_119_847 : pm_ins 119 847 = some (.iconst 2, 1) := by decide +kernel
theorem n_119_848 : pm_ins 119 848 = some (.iadd, 1) := by decide +kernel
theorem n_119_849 : pm_ins 119 849 = some (.iaload, 1) := by decide +kernel
theorem n_119_850 : pm_ins 119 850 = some (.aload_n 0, 1) := by decide +kernel
theorem n_119_851 : pm_ins 119 851 = some (.iload_n 3, 1) := by decide +kernel
theorem n_119_852 : pm_ins 119 852 = some (.iconst 3, 1) := by decide +kernel
theorem n_119_853 : pm_ins 119 853 = some (.iadd, 1) := by decide +kernel
theorem n_119_854 : pm_ins 119 854 = some (.iaload, 1) := by decide +kernel
theorem n_119_855 : pm_ins 119 855 = some (.invokevirtual 98, 3) := by decide +kernel
theorem n_119_858 : pm_ins 119 858 = some (.aload_n 2, 1) := by decide +kernel
theorem n_119_859 : pm_ins 119 859 = some (.aload_n 0, 1) := by decide +kernel
theorem n_119_860 : pm_ins 119 860 = some (.iload_n 3, 1) := by decide +kernel
theorem n_119_861 : pm_ins 119 861 = some (.iconst 1, 1) := by decide +kernel
theorem n_119_862 : pm_ins 119 862 = some (.iadd, 1) := by decide +kernel
theorem n_119_863 : pm_ins 119 863 = some (.iaload, 1) := by decide +kernel
theorem n_119_864 : pm_ins 119 864 = some (.aload_n 0, 1) := by decide +kernel
theorem n_119_865 : pm_ins 119 865 = some (.iload_n 3, 1) := by decide +kernel
theorem n_119_866 : pm_ins 119 866 = some (.iconst 2, 1) := by decide +kernel
theorem n_119_867 : pm_ins 119 867 = some (.iadd, 1) := by decide +kernel
theorem n_119_868 : pm_ins 119 868 = some (.iaload, 1) := by decide +kernel
theorem n_119_869 : pm_ins 119 869 = some (.aload_n 0, 1) := by decide +kernel
theorem n_119_870 : pm_ins 119 870 = some (.iload_n 3, 1) := by decide +kernel
theorem n_119_871 : pm_ins 119 871 = some (.iconst 3, 1) := by decide +kernel
theorem n_119_872 : pm_ins 119 872 = some (.iadd, 1) := by decide +kernel
theorem n_119_873 : pm_ins 119 873 = some (.iaload, 1) := by decide +kernel
theorem n_119_874 : pm_ins 119 874 = some (.invokevirtual 101, 3) := by decide +kernel
theorem n_119_877 : pm_ins 119 877 = some (.lcmp, 1) := by decide +kernel
theorem n_119_878 : pm_ins 119 878 = some (.ifCond .eq 5, 3) := by decide +kernel
theorem n_119_881 : pm_ins 119 881 = some (.iconst 0, 1) := by decide +kernel
theorem n_119_882 : pm_ins 119 882 = some (.ireturn, 1) := by decide +kernel
theorem n_119_883 : pm_ins 119 883 = some (.iinc 3 5, 3) := by decide +kernel
theorem n_119_886 : pm_ins 119 886 = some (.goto (-868), 3) := by decide +kernel
theorem n_119_889 : pm_ins 119 889 = some (.iconst 1, 1) := by decide +kernel
theorem n_119_890 : pm_ins 119 890 = some (.ireturn, 1) := by decide +kernel
end
section
abbrev gS : Type := Nat → Nat → Nat → Int32
abbrev pm_S : Type := Nat ⊕ (Nat × Nat × Nat)
def cD (a : Nat) : Nat := 4 + 19 * a
def cE (a i : Nat) : Nat := 8 + 19 * a + i
def cH (a h : Nat) : Nat := 14 + 19 * a + h
def cQ (a k : Nat) : Nat := 19 + 19 * a + k
def cP (p : Nat) : Nat := 99 + 2 * p
def cV (v : Nat) : Nat := 139 + 4 * v
def cM (j : Nat) : Nat := 152 + j
def sh_dom (a : Nat) : List (Nat × List pm_S) := [(1, [.inr (0, a, 0), .inl (cD a + 2), .inl (cD a + 3), .inl (cD a + 4)]), (105, (List.range 6).map fun i => .inl (cE a i + 1)), (106, (List.range 5).map fun i => .inl (cH a i + 1)), (107, (List.range 4).map fun i => .inl (cQ a i + 1))] ++
  (List.range 6).map (fun i => (4, [.inr (3, a, i), .inr (4, a, i), .inr (5, a, i), .inr (6, a, i)])) ++ (List.range 5).map (fun i => (5, [.inr (7, a, i), .inr (8, a, i), .inr (9, a, i)])) ++ (List.range 4).map (fun i => (6, [.inr (10, a, i), .inr (11, a, i), .inr (12, a, i), .inr (13, a, i)]))
def sh_page (p : Nat) : List (Nat × List pm_S) := [(2, [.inr (1, p, 0), .inl (cP p + 2)]), (100, (List.range 8).map fun w => .inr (2, p, w))]
def sh_dev (v : Nat) : List (Nat × List pm_S) := [(3, ((List.range 11).map fun j => .inr (14 + j, v, 0)) ++ [.inl (cV v + 2), .inl (cV v + 3), .inl (cV v + 4)]), (100, (List.range 3).map fun i => .inr (25, v, i)), (100, (List.range 3).map fun i => .inr (26, v, i)), (100, (List.range 8).map fun i => .inr (27, v, i))]
def sh_X : List (Nat × List pm_S) := [(0, [.inl 2, .inl 3, .inl 4]), (102, (List.range 5).map fun a => .inl (cD a + 1)), (103, (List.range 20).map fun p => .inl (cP p + 1)), (104, (List.range 3).map fun v => .inl (cV v + 1))] ++ (List.range 5).flatMap sh_dom ++ (List.range 20).flatMap sh_page ++ (List.range 3).flatMap sh_dev
def sh_Ms : List (Nat × Nat) := [(100, 5), (100, 20), (100, 160), (100, 30), (100, 30), (100, 30), (100, 25), (101, 25), (100, 20), (100, 20), (101, 20), (100, 3), (100, 3), (100, 3), (100, 3), (100, 3), (100, 3), (100, 3), (100, 3), (100, 3), (100, 3), (100, 9), (100, 9), (100, 24)]
def sh_M : List (Nat × List pm_S) := (7, (List.range 24).map fun j => .inl (cM j + 1)) :: (List.range 24).map (fun j => match sh_Ms[j]? with
  | some q => (q.1, (List.range q.2).map fun i => .inr (50 + j, i, 0))
  | none => (100, []))
def sh_T : List (Nat × List pm_S) := sh_X ++ sh_M
def sh_loc (kd a b : Nat) : Nat × Nat :=
  if kd = 0 then (cD a, 0) else if kd = 1 then (cP a, 0) else if kd = 2 then (cP a + 1, b) else if kd < 7 then (cE a b, kd - 3) else if kd < 10 then (cH a b, kd - 7) else if kd < 14 then (cQ a b, kd - 10) else if kd < 25 then (cV a, kd - 14) else if kd = 25 then (cV a + 1, b) else if kd = 26 then (cV a + 2, b) else if kd = 27 then (cV a + 3, b) else (cM (kd - 50), a)
def pm_val (X M : gS) (s : pm_S) : Value := match s with
  | .inl r => .ref r
  | .inr (kd, a, b) => .int (if kd < 50 then X kd a b else M kd a b)
def pm_cells (X M : gS) (l : List (Nat × List pm_S)) : pm_H := l.map fun q => (q.1, q.2.map (pm_val X M))
def gE (X M : gS) : pm_H := pm_cells X M sh_T
def gup (X : gS) (kd a b : Nat) (v : Int32) : gS := fun kd' a' b' => if kd' = kd ∧ a' = a ∧ b' = b then v else X kd' a' b'
def pm_sh (k t j : Nat) : Option pm_S := match sh_T[k]? with
  | some q => if q.1 = t then q.2[j]? else none
  | none => none
theorem sh_at : (sh_T.zipIdx.all fun q => q.1.2.zipIdx.all fun z => match z.1 with
  | .inl _ => true
  | .inr (kd, a, b) => decide (sh_loc kd a b = (q.2, z.2))) = true := by decide +kernel
theorem sh_inv {k j kd a b : Nat} {q : Nat × List pm_S} (h1 : sh_T[k]? = some q) (h2 : q.2[j]? = some (.inr (kd, a, b))) : sh_loc kd a b = (k, j) := by
  have h := List.all_eq_true.mp sh_at (q, k) (List.mem_zipIdx_iff_getElem?.mpr h1)
  have h' := List.all_eq_true.mp h (.inr (kd, a, b), j) (List.mem_zipIdx_iff_getElem?.mpr h2)
  simpa using h'
theorem E_at (X M : gS) (k : Nat) : (gE X M)[k]? = (sh_T[k]?).map fun q => (q.1, q.2.map (pm_val X M)) := by
  unfold gE pm_cells
  rw [List.getElem?_map]
theorem pm_sh_spec {k t j : Nat} {s : pm_S} (h : pm_sh k t j = some s) : ∃ l, sh_T[k]? = some (t, l) ∧ l[j]? = some s := by
  unfold pm_sh at h
  split at h
  · next q hq =>
    split at h
    · next ht =>
      obtain ⟨t', l⟩ := q
      cases ht
      exact ⟨l, hq, h⟩
    · cases h
  · cases h
theorem E_rd {X M : gS} {k t j : Nat} {s : pm_S} (h : pm_sh k t j = some s) : pm_rd (gE X M) k t j = some (pm_val X M s) := by
  obtain ⟨l, h1, h2⟩ := pm_sh_spec h
  unfold pm_rd
  rw [E_at, h1]
  simp [h2]
theorem E_tg {X M : gS} {k t j : Nat} {s : pm_S} (h : pm_sh k t j = some s) : pm_tg (gE X M) k = some t := by
  obtain ⟨l, h1, h2⟩ := pm_sh_spec h
  unfold pm_tg
  rw [E_at, h1]
  rfl
theorem rdR {X M : gS} {k t j r : Nat} (h : pm_sh k t j = some (.inl r)) : pm_rd (gE X M) k t j = some (.ref r) := E_rd h
theorem rdX {X M : gS} {k t j kd a b : Nat} (h : pm_sh k t j = some (.inr (kd, a, b))) (hk : kd < 50) : pm_rd (gE X M) k t j = some (.int (X kd a b)) := by
  rw [E_rd h]
  simp [pm_val, hk]
theorem rdM {X M : gS} {k t j kd a b : Nat} (h : pm_sh k t j = some (.inr (kd, a, b))) (hk : ¬ kd < 50) : pm_rd (gE X M) k t j = some (.int (M kd a b)) := by
  rw [E_rd h]
  simp [pm_val, hk]
theorem E_wr {X M X' M' : gS} {k t j kd a b : Nat} {v : Int32} (h : pm_sh k t j = some (.inr (kd, a, b))) (hv : pm_val X' M' (.inr (kd, a, b)) = .int v) (ho : ∀ s : pm_S, s ≠ .inr (kd, a, b) → pm_val X' M' s = pm_val X M s) : pm_wr (gE X M) k t j (.int v) = some (gE X' M') := by
  obtain ⟨l, h1, h2⟩ := pm_sh_spec h
  have hj := (List.getElem?_eq_some_iff.mp h2).1
  have hk := (List.getElem?_eq_some_iff.mp h1).1
  have hE : (gE X M)[k]? = some (t, l.map (pm_val X M)) := by rw [E_at, h1]; rfl
  unfold pm_wr
  rw [hE]
  simp only [List.length_map, hj, and_self, if_true]
  congr 1
  apply List.ext_getElem?
  intro k'
  by_cases hkk : k' = k
  · subst hkk
    rw [List.getElem?_set_self (by rw [gE, pm_cells, List.length_map]; exact hk), E_at, h1]
    simp only [Option.map_some]
    congr 2
    apply List.ext_getElem?
    intro j'
    by_cases hjj : j' = j
    · subst hjj
      rw [List.getElem?_set_self (by rw [List.length_map]; exact hj), List.getElem?_map, h2]
      simp [hv]
    · rw [List.getElem?_set_ne (Ne.symm hjj), List.getElem?_map, List.getElem?_map]
      cases h3 : l[j']? with
      | none => rfl
      | some s =>
        simp only [Option.map_some]
        rw [ho s fun he => ?_]
        subst he
        have e1 := sh_inv h1 h2
        have e2 := sh_inv h1 h3
        rw [e1] at e2
        exact hjj (Prod.mk.inj e2).2.symm
  · rw [List.getElem?_set_ne (Ne.symm hkk), E_at, E_at]
    cases h3 : sh_T[k']? with
    | none => rfl
    | some q =>
      simp only [Option.map_some]
      congr 2
      apply List.map_congr_left
      intro s hs
      rw [ho s fun he => ?_]
      subst he
      obtain ⟨j', hj'⟩ := List.getElem?_of_mem hs
      have e1 := sh_inv h1 h2
      have e2 := sh_inv h3 hj'
      rw [e1] at e2
      exact hkk (Prod.mk.inj e2).1.symm
theorem wrX {X M : gS} {k t j kd a b : Nat} {v : Int32} (h : pm_sh k t j = some (.inr (kd, a, b))) (hk : kd < 50) : pm_wr (gE X M) k t j (.int v) = some (gE (gup X kd a b v) M) := by
  refine E_wr h (by simp [pm_val, gup, hk]) fun s hs => ?_
  match s with
  | .inl r => rfl
  | .inr (kd', a', b') =>
    have hne : ¬ (kd' = kd ∧ a' = a ∧ b' = b) := fun q => hs (by rw [q.1, q.2.1, q.2.2])
    simp [pm_val, gup, hne]
theorem wrM {X M : gS} {k t j kd a b : Nat} {v : Int32} (h : pm_sh k t j = some (.inr (kd, a, b))) (hk : ¬ kd < 50) : pm_wr (gE X M) k t j (.int v) = some (gE X (gup M kd a b v)) := by
  refine E_wr h (by simp [pm_val, gup, hk]) fun s hs => ?_
  match s with
  | .inl r => rfl
  | .inr (kd', a', b') =>
    have hne : ¬ (kd' = kd ∧ a' = a ∧ b' = b) := fun q => hs (by rw [q.1, q.2.1, q.2.2])
    simp [pm_val, gup, hne]
theorem all2 {m n : Nat} {p : Nat → Nat → Bool} (h : ((List.range m).all fun a => (List.range n).all fun i => p a i) = true) : ∀ a, a < m → ∀ i, i < n → p a i = true := fun a ha i hi => List.all_eq_true.mp (List.all_eq_true.mp h a (List.mem_range.mpr ha)) i (List.mem_range.mpr hi)
theorem sh_G_domains : pm_sh 0 0 0 = some (.inl 2) := by decide +kernel
theorem sh_G_pages : pm_sh 0 0 1 = some (.inl 3) := by decide +kernel
theorem sh_G_devices : pm_sh 0 0 2 = some (.inl 4) := by decide +kernel
theorem sh_DA : ∀ a, a < 5 → pm_sh 1 102 a = some (.inl (cD a + 1)) := by decide +kernel
theorem sh_PA : ∀ p, p < 20 → pm_sh 2 103 p = some (.inl (cP p + 1)) := by decide +kernel
theorem sh_VA : ∀ v, v < 3 → pm_sh 3 104 v = some (.inl (cV v + 1)) := by decide +kernel
theorem sh_D_state : ∀ a, a < 5 → pm_sh (cD a) 1 0 = some (.inr (0, a, 0)) := by decide +kernel
theorem sh_D_entries : ∀ a, a < 5 → pm_sh (cD a) 1 1 = some (.inl (cD a + 2)) := by decide +kernel
theorem sh_D_handles : ∀ a, a < 5 → pm_sh (cD a) 1 2 = some (.inl (cD a + 3)) := by decide +kernel
theorem sh_D_ports : ∀ a, a < 5 → pm_sh (cD a) 1 3 = some (.inl (cD a + 4)) := by decide +kernel
theorem sh_EA : ∀ a, a < 5 → ∀ i, i < 6 → pm_sh (cD a + 1) 105 i = some (.inl (cE a i + 1)) := fun a ha i hb => of_decide_eq_true (all2 (m := 5) (n := 6) (p := fun a i => decide (pm_sh (cD a + 1) 105 i = some (.inl (cE a i + 1)))) (by decide +kernel) a ha i hb)
theorem sh_HA : ∀ a, a < 5 → ∀ i, i < 5 → pm_sh (cD a + 2) 106 i = some (.inl (cH a i + 1)) := fun a ha i hb => of_decide_eq_true (all2 (m := 5) (n := 5) (p := fun a i => decide (pm_sh (cD a + 2) 106 i = some (.inl (cH a i + 1)))) (by decide +kernel) a ha i hb)
theorem sh_QA : ∀ a, a < 5 → ∀ i, i < 4 → pm_sh (cD a + 3) 107 i = some (.inl (cQ a i + 1)) := fun a ha i hb => of_decide_eq_true (all2 (m := 5) (n := 4) (p := fun a i => decide (pm_sh (cD a + 3) 107 i = some (.inl (cQ a i + 1)))) (by decide +kernel) a ha i hb)
theorem sh_E_target : ∀ a, a < 5 → ∀ i, i < 6 → pm_sh (cE a i) 4 0 = some (.inr (3, a, i)) := fun a ha i hb => of_decide_eq_true (all2 (m := 5) (n := 6) (p := fun a i => decide (pm_sh (cE a i) 4 0 = some (.inr (3, a, i)))) (by decide +kernel) a ha i hb)
theorem sh_E_kind : ∀ a, a < 5 → ∀ i, i < 6 → pm_sh (cE a i) 4 1 = some (.inr (4, a, i)) := fun a ha i hb => of_decide_eq_true (all2 (m := 5) (n := 6) (p := fun a i => decide (pm_sh (cE a i) 4 1 = some (.inr (4, a, i)))) (by decide +kernel) a ha i hb)
theorem sh_E_page : ∀ a, a < 5 → ∀ i, i < 6 → pm_sh (cE a i) 4 2 = some (.inr (5, a, i)) := fun a ha i hb => of_decide_eq_true (all2 (m := 5) (n := 6) (p := fun a i => decide (pm_sh (cE a i) 4 2 = some (.inr (5, a, i)))) (by decide +kernel) a ha i hb)
theorem sh_E_mappings : ∀ a, a < 5 → ∀ i, i < 6 → pm_sh (cE a i) 4 3 = some (.inr (6, a, i)) := fun a ha i hb => of_decide_eq_true (all2 (m := 5) (n := 6) (p := fun a i => decide (pm_sh (cE a i) 4 3 = some (.inr (6, a, i)))) (by decide +kernel) a ha i hb)
theorem sh_H_from : ∀ a, a < 5 → ∀ i, i < 5 → pm_sh (cH a i) 5 0 = some (.inr (7, a, i)) := fun a ha i hb => of_decide_eq_true (all2 (m := 5) (n := 5) (p := fun a i => decide (pm_sh (cH a i) 5 0 = some (.inr (7, a, i)))) (by decide +kernel) a ha i hb)
theorem sh_H_ref : ∀ a, a < 5 → ∀ i, i < 5 → pm_sh (cH a i) 5 1 = some (.inr (8, a, i)) := fun a ha i hb => of_decide_eq_true (all2 (m := 5) (n := 5) (p := fun a i => decide (pm_sh (cH a i) 5 1 = some (.inr (8, a, i)))) (by decide +kernel) a ha i hb)
theorem sh_H_writing : ∀ a, a < 5 → ∀ i, i < 5 → pm_sh (cH a i) 5 2 = some (.inr (9, a, i)) := fun a ha i hb => of_decide_eq_true (all2 (m := 5) (n := 5) (p := fun a i => decide (pm_sh (cH a i) 5 2 = some (.inr (9, a, i)))) (by decide +kernel) a ha i hb)
theorem sh_Q_state : ∀ a, a < 5 → ∀ i, i < 4 → pm_sh (cQ a i) 6 0 = some (.inr (10, a, i)) := fun a ha i hb => of_decide_eq_true (all2 (m := 5) (n := 4) (p := fun a i => decide (pm_sh (cQ a i) 6 0 = some (.inr (10, a, i)))) (by decide +kernel) a ha i hb)
theorem sh_Q_other : ∀ a, a < 5 → ∀ i, i < 4 → pm_sh (cQ a i) 6 1 = some (.inr (11, a, i)) := fun a ha i hb => of_decide_eq_true (all2 (m := 5) (n := 4) (p := fun a i => decide (pm_sh (cQ a i) 6 1 = some (.inr (11, a, i)))) (by decide +kernel) a ha i hb)
theorem sh_Q_otherPort : ∀ a, a < 5 → ∀ i, i < 4 → pm_sh (cQ a i) 6 2 = some (.inr (12, a, i)) := fun a ha i hb => of_decide_eq_true (all2 (m := 5) (n := 4) (p := fun a i => decide (pm_sh (cQ a i) 6 2 = some (.inr (12, a, i)))) (by decide +kernel) a ha i hb)
theorem sh_Q_pending : ∀ a, a < 5 → ∀ i, i < 4 → pm_sh (cQ a i) 6 3 = some (.inr (13, a, i)) := fun a ha i hb => of_decide_eq_true (all2 (m := 5) (n := 4) (p := fun a i => decide (pm_sh (cQ a i) 6 3 = some (.inr (13, a, i)))) (by decide +kernel) a ha i hb)
theorem sh_P_owner : ∀ p, p < 20 → pm_sh (cP p) 2 0 = some (.inr (1, p, 0)) := by decide +kernel
theorem sh_P_words : ∀ p, p < 20 → pm_sh (cP p) 2 1 = some (.inl (cP p + 2)) := by decide +kernel
theorem sh_PW : ∀ p, p < 20 → ∀ w, w < 8 → pm_sh (cP p + 1) 100 w = some (.inr (2, p, w)) := fun p ha w hb => of_decide_eq_true (all2 (m := 20) (n := 8) (p := fun p w => decide (pm_sh (cP p + 1) 100 w = some (.inr (2, p, w)))) (by decide +kernel) p ha w hb)
theorem sh_V_present : ∀ v, v < 3 → pm_sh (cV v) 3 0 = some (.inr (14, v, 0)) := by decide +kernel
theorem sh_V_front : ∀ v, v < 3 → pm_sh (cV v) 3 1 = some (.inr (15, v, 0)) := by decide +kernel
theorem sh_V_back : ∀ v, v < 3 → pm_sh (cV v) 3 2 = some (.inr (16, v, 0)) := by decide +kernel
theorem sh_V_ringPage : ∀ v, v < 3 → pm_sh (cV v) 3 3 = some (.inr (17, v, 0)) := by decide +kernel
theorem sh_V_ringEntry : ∀ v, v < 3 → pm_sh (cV v) 3 4 = some (.inr (18, v, 0)) := by decide +kernel
theorem sh_V_ringHandle : ∀ v, v < 3 → pm_sh (cV v) 3 5 = some (.inr (19, v, 0)) := by decide +kernel
theorem sh_V_frontPort : ∀ v, v < 3 → pm_sh (cV v) 3 6 = some (.inr (20, v, 0)) := by decide +kernel
theorem sh_V_backPort : ∀ v, v < 3 → pm_sh (cV v) 3 7 = some (.inr (21, v, 0)) := by decide +kernel
theorem sh_V_posted : ∀ v, v < 3 → pm_sh (cV v) 3 8 = some (.inr (22, v, 0)) := by decide +kernel
theorem sh_V_reaped : ∀ v, v < 3 → pm_sh (cV v) 3 9 = some (.inr (23, v, 0)) := by decide +kernel
theorem sh_V_taken : ∀ v, v < 3 → pm_sh (cV v) 3 10 = some (.inr (24, v, 0)) := by decide +kernel
theorem sh_V_notedPages : ∀ v, v < 3 → pm_sh (cV v) 3 11 = some (.inl (cV v + 2)) := by decide +kernel
theorem sh_NP : ∀ v, v < 3 → ∀ s, s < 3 → pm_sh (cV v + 1) 100 s = some (.inr (25, v, s)) := fun v ha s hb => of_decide_eq_true (all2 (m := 3) (n := 3) (p := fun v s => decide (pm_sh (cV v + 1) 100 s = some (.inr (25, v, s)))) (by decide +kernel) v ha s hb)
theorem sh_V_notedEntries : ∀ v, v < 3 → pm_sh (cV v) 3 12 = some (.inl (cV v + 3)) := by decide +kernel
theorem sh_NE : ∀ v, v < 3 → ∀ s, s < 3 → pm_sh (cV v + 2) 100 s = some (.inr (26, v, s)) := fun v ha s hb => of_decide_eq_true (all2 (m := 3) (n := 3) (p := fun v s => decide (pm_sh (cV v + 2) 100 s = some (.inr (26, v, s)))) (by decide +kernel) v ha s hb)
theorem sh_V_disk : ∀ v, v < 3 → pm_sh (cV v) 3 13 = some (.inl (cV v + 4)) := by decide +kernel
theorem sh_DK : ∀ v, v < 3 → ∀ s, s < 8 → pm_sh (cV v + 3) 100 s = some (.inr (27, v, s)) := fun v ha s hb => of_decide_eq_true (all2 (m := 3) (n := 8) (p := fun v s => decide (pm_sh (cV v + 3) 100 s = some (.inr (27, v, s)))) (by decide +kernel) v ha s hb)
theorem sh_R_state : pm_sh 151 7 0 = some (.inl (cM 0 + 1)) := by decide +kernel
theorem sh_M_state : ∀ i, i < 5 → pm_sh (cM 0) 100 i = some (.inr (50, i, 0)) := by decide +kernel
theorem sh_R_owner : pm_sh 151 7 1 = some (.inl (cM 1 + 1)) := by decide +kernel
theorem sh_M_owner : ∀ i, i < 20 → pm_sh (cM 1) 100 i = some (.inr (51, i, 0)) := by decide +kernel
theorem sh_R_words : pm_sh 151 7 2 = some (.inl (cM 2 + 1)) := by decide +kernel
theorem sh_M_words : ∀ i, i < 160 → pm_sh (cM 2) 100 i = some (.inr (52, i, 0)) := by decide +kernel
theorem sh_R_target : pm_sh 151 7 3 = some (.inl (cM 3 + 1)) := by decide +kernel
theorem sh_M_target : ∀ i, i < 30 → pm_sh (cM 3) 100 i = some (.inr (53, i, 0)) := by decide +kernel
theorem sh_R_kinds : pm_sh 151 7 4 = some (.inl (cM 4 + 1)) := by decide +kernel
theorem sh_M_kinds : ∀ i, i < 30 → pm_sh (cM 4) 100 i = some (.inr (54, i, 0)) := by decide +kernel
theorem sh_R_entryPage : pm_sh 151 7 5 = some (.inl (cM 5 + 1)) := by decide +kernel
theorem sh_M_entryPage : ∀ i, i < 30 → pm_sh (cM 5) 100 i = some (.inr (55, i, 0)) := by decide +kernel
theorem sh_R_mapped : pm_sh 151 7 6 = some (.inl (cM 6 + 1)) := by decide +kernel
theorem sh_M_mapped : ∀ i, i < 25 → pm_sh (cM 6) 100 i = some (.inr (56, i, 0)) := by decide +kernel
theorem sh_R_writes : pm_sh 151 7 7 = some (.inl (cM 7 + 1)) := by decide +kernel
theorem sh_M_writes : ∀ i, i < 25 → pm_sh (cM 7) 101 i = some (.inr (57, i, 0)) := by decide +kernel
theorem sh_R_port : pm_sh 151 7 8 = some (.inl (cM 8 + 1)) := by decide +kernel
theorem sh_M_port : ∀ i, i < 20 → pm_sh (cM 8) 100 i = some (.inr (58, i, 0)) := by decide +kernel
theorem sh_R_far : pm_sh 151 7 9 = some (.inl (cM 9 + 1)) := by decide +kernel
theorem sh_M_far : ∀ i, i < 20 → pm_sh (cM 9) 100 i = some (.inr (59, i, 0)) := by decide +kernel
theorem sh_R_pending : pm_sh 151 7 10 = some (.inl (cM 10 + 1)) := by decide +kernel
theorem sh_M_pending : ∀ i, i < 20 → pm_sh (cM 10) 101 i = some (.inr (60, i, 0)) := by decide +kernel
theorem sh_R_front : pm_sh 151 7 11 = some (.inl (cM 11 + 1)) := by decide +kernel
theorem sh_M_front : ∀ i, i < 3 → pm_sh (cM 11) 100 i = some (.inr (61, i, 0)) := by decide +kernel
theorem sh_R_back : pm_sh 151 7 12 = some (.inl (cM 12 + 1)) := by decide +kernel
theorem sh_M_back : ∀ i, i < 3 → pm_sh (cM 12) 100 i = some (.inr (62, i, 0)) := by decide +kernel
theorem sh_R_ring : pm_sh 151 7 13 = some (.inl (cM 13 + 1)) := by decide +kernel
theorem sh_M_ring : ∀ i, i < 3 → pm_sh (cM 13) 100 i = some (.inr (63, i, 0)) := by decide +kernel
theorem sh_R_ringEntry : pm_sh 151 7 14 = some (.inl (cM 14 + 1)) := by decide +kernel
theorem sh_M_ringEntry : ∀ i, i < 3 → pm_sh (cM 14) 100 i = some (.inr (64, i, 0)) := by decide +kernel
theorem sh_R_ringHandle : pm_sh 151 7 15 = some (.inl (cM 15 + 1)) := by decide +kernel
theorem sh_M_ringHandle : ∀ i, i < 3 → pm_sh (cM 15) 100 i = some (.inr (65, i, 0)) := by decide +kernel
theorem sh_R_frontPort : pm_sh 151 7 16 = some (.inl (cM 16 + 1)) := by decide +kernel
theorem sh_M_frontPort : ∀ i, i < 3 → pm_sh (cM 16) 100 i = some (.inr (66, i, 0)) := by decide +kernel
theorem sh_R_backPort : pm_sh 151 7 17 = some (.inl (cM 17 + 1)) := by decide +kernel
theorem sh_M_backPort : ∀ i, i < 3 → pm_sh (cM 17) 100 i = some (.inr (67, i, 0)) := by decide +kernel
theorem sh_R_posted : pm_sh 151 7 18 = some (.inl (cM 18 + 1)) := by decide +kernel
theorem sh_M_posted : ∀ i, i < 3 → pm_sh (cM 18) 100 i = some (.inr (68, i, 0)) := by decide +kernel
theorem sh_R_reaped : pm_sh 151 7 19 = some (.inl (cM 19 + 1)) := by decide +kernel
theorem sh_M_reaped : ∀ i, i < 3 → pm_sh (cM 19) 100 i = some (.inr (69, i, 0)) := by decide +kernel
theorem sh_R_taken : pm_sh 151 7 20 = some (.inl (cM 20 + 1)) := by decide +kernel
theorem sh_M_taken : ∀ i, i < 3 → pm_sh (cM 20) 100 i = some (.inr (70, i, 0)) := by decide +kernel
theorem sh_R_notePage : pm_sh 151 7 21 = some (.inl (cM 21 + 1)) := by decide +kernel
theorem sh_M_notePage : ∀ i, i < 9 → pm_sh (cM 21) 100 i = some (.inr (71, i, 0)) := by decide +kernel
theorem sh_R_noteEntry : pm_sh 151 7 22 = some (.inl (cM 22 + 1)) := by decide +kernel
theorem sh_M_noteEntry : ∀ i, i < 9 → pm_sh (cM 22) 100 i = some (.inr (72, i, 0)) := by decide +kernel
theorem sh_R_disk : pm_sh 151 7 23 = some (.inl (cM 23 + 1)) := by decide +kernel
theorem sh_M_disk : ∀ i, i < 24 → pm_sh (cM 23) 100 i = some (.inr (73, i, 0)) := by decide +kernel
end
section
abbrev tN (z : Int32) : Nat := z.toNatClampNeg
def ffst (p : Nat → Bool) : Nat → Nat → Int32
  | 0, _ => -1
  | n + 1, i => if p i = true then nI i else ffst p n (i + 1)
def anyb (p : Nat → Bool) : Nat → Nat → Bool
  | 0, _ => false
  | n + 1, i => if p i = true then true else anyb p n (i + 1)
def cntb (p : Nat → Bool) : Nat → Nat → Int32 → Int32
  | 0, _, c => c
  | n + 1, i, c => cntb p n (i + 1) (if p i = true then c + 1 else c)
def lpS (f : Nat → gS → gS) : Nat → Nat → gS → gS
  | 0, _, X => X
  | n + 1, i, X => lpS f n (i + 1) (f i X)
def fstS (p : Nat → Bool) (g : Nat → gS) (e : Int32) (X : gS) : Nat → Nat → Int32 × gS
  | 0, _ => (e, X)
  | n + 1, i => if p i = true then (nI i, g i) else fstS p g e X n (i + 1)
def xDom (d : Int32) : Bool := decide (0 ≤ d) && decide (d < 5)
def xPag (p : Int32) : Bool := decide (0 ≤ p) && decide (p < 20)
def xPrt (k : Int32) : Bool := decide (0 ≤ k) && decide (k < 4)
def xOth (d t : Int32) : Bool := xDom t && !decide (t = d)
def xLive (X : gS) (d : Int32) : Bool := xDom d && decide (X 0 (tN d) 0 = 1)
def xPres (X : gS) (v : Int32) : Bool := decide (0 ≤ v) && decide (v < 3) && !decide (X 14 (tN v) 0 = 0)
def xOwns (X : gS) (d p : Int32) : Bool := xPag p && decide (X 1 (tN p) 0 = d)
def xCnt (X : gS) (d : Int32) : Int32 := cntb (fun p => decide (X 1 p 0 = d)) 20 0 0
def xFpg (X : gS) : Int32 := ffst (fun p => decide (X 1 p 0 = -1)) 20 0
def xGet (X : gS) (d : Int32) : Int32 := if 6 ≤ xCnt X d then -1 else xFpg X
def xHasE (X : gS) (a : Nat) (r : Int32) : Bool := decide (0 ≤ r) && decide (r < 6) && !decide (X 3 a (tN r) = -1)
def xHasH (X : gS) (a : Nat) (h : Int32) : Bool := decide (0 ≤ h) && decide (h < 5) && !decide (X 7 a (tN h) = -1)
def xEW (X : gS) (a : Nat) (p : Int32) : Bool := anyb (fun i => decide (X 5 a i = p)) 6 0
def xMEW (X : gS) (a : Nat) (p : Int32) : Bool := anyb (fun i => decide (X 5 a i = p) && decide (0 < X 6 a i)) 6 0
def xFe (X : gS) (a : Nat) : Int32 := ffst (fun i => decide (X 3 a i = -1)) 6 0
def xFh (X : gS) (a : Nat) : Int32 := ffst (fun i => decide (X 7 a i = -1)) 5 0
def xFq (X : gS) (a : Nat) : Int32 := ffst (fun i => decide (X 10 a i = 0)) 4 0
def eSet (X : gS) (a i : Nat) (t k p : Int32) : gS := gup (gup (gup X 3 a i t) 4 a i k) 5 a i p
def hSet (X : gS) (a h : Nat) (f r w : Int32) : gS := gup (gup (gup X 7 a h f) 8 a h r) 9 a h w
def qSet (X : gS) (a k : Nat) (s o p : Int32) : gS := gup (gup (gup (gup X 10 a k s) 11 a k o) 12 a k p) 13 a k 0
def eClr (X : gS) (a i : Nat) : gS := eSet X a i (-1) 0 (-1)
def hClr (X : gS) (a h : Nat) : gS := hSet X a h (-1) (-1) 0
def qCls (X : gS) (a k : Nat) : gS := qSet X a k 0 (-1) (-1)
def xClrE (X : gS) (a : Nat) : gS := lpS (fun i Y => if 0 < Y 6 a i then Y else eClr Y a i) 6 0 X
def xWipe (X : gS) (p : Nat) : gS := lpS (fun w Y => gup Y 2 p w 0) 8 0 X
def xPgO (X : gS) (a h : Nat) : Int32 := X 5 (tN (X 7 a h)) (tN (X 8 a h))
def xMof (X : gS) (a : Nat) (p : Int32) (w : Bool) : Bool := anyb (fun h => !decide (X 7 a h = -1) && (!decide (X 9 a h = 0) || !w) && decide (xPgO X a h = p)) 5 0
def xAcc (X : gS) (d p w : Int32) (wr : Bool) : Int32 := if xLive X d = true then (if (xPag p && decide (0 ≤ w) && decide (w < 8)) = true then (if (xOwns X d p || xMof X (tN d) p wr) = true then 0 else -3) else -2) else -1
def xBury (X : gS) (d : Int32) : gS := if xCnt X d = 0 then gup X 0 (tN d) 0 0 else X
def xRel0 (X : gS) (d p : Int32) : gS := if xMEW X (tN d) p = true then X else gup X 1 (tN p) 0 (-1)
def xRel (X : gS) (d : Int32) (f e : Nat) : gS := xBury (xRel0 (eClr X f e) d (X 5 f e)) d
def xTk1 (X : gS) (a h f e : Nat) : gS := gup (hClr X a h) 6 f e (hClr X a h 6 f e - 1)
def xTk2 (X : gS) (d : Int32) (f e : Nat) : gS := if X 0 f 0 = 2 ∧ ¬ 0 < X 6 f e then xRel X d f e else X
def xTk (X : gS) (a h : Nat) : gS := xTk2 (xTk1 X a h (tN (X 7 a h)) (tN (X 8 a h))) (X 7 a h) (tN (X 7 a h)) (tN (X 8 a h))
def xRmD (X : gS) (d : Int32) : gS := lpS (fun i Y => if Y 15 i 0 = d ∨ Y 16 i 0 = d then gup Y 14 i 0 0 else Y) 3 0 X
def xTkA (X : gS) (a : Nat) : gS := lpS (fun h Y => if Y 7 a h = -1 then Y else xTk Y a h) 5 0 X
def xClQ1 (X : gS) (a k : Nat) : gS := if X 10 a k = 2 then qCls X (tN (X 11 a k)) (tN (X 12 a k)) else X
def xClQ (X : gS) (a : Nat) : gS := lpS (fun k Y => qCls (xClQ1 Y a k) a k) 4 0 X
def xFrP (X : gS) (a : Nat) (d : Int32) : gS := lpS (fun p Y => if Y 1 p 0 = d ∧ xMEW Y a (nI p) = false then gup Y 1 p 0 (-1) else Y) 20 0 X
def xCreate (X : gS) : Int32 × gS := fstS (fun d => decide (X 0 d 0 = 0)) (fun d => gup X 0 d 0 1) (-7) X 5 0
def xDes1 (X : gS) (d : Int32) : gS := xClQ (xTkA (xRmD X d) (tN d)) (tN d)
def xDes2 (X : gS) (d : Int32) : gS := xBury (xFrP (xClrE (gup X 0 (tN d) 0 2) (tN d)) (tN d) d) d
def xDestroy (X : gS) (d : Int32) : Int32 × gS := if xLive X d = true then (0, xDes2 (xDes1 X d) d) else (-1, X)
def xAlloc (X : gS) (d : Int32) : Int32 × gS := if xLive X d = true then (if xGet X d = -1 then (-7, X) else (xGet X d, xWipe (gup X 1 (tN (xGet X d)) 0 d) (tN (xGet X d)))) else (-1, X)
def xFree (X : gS) (d p : Int32) : Int32 × gS := if xLive X d = true then (if xOwns X d p = true then (if xEW X (tN d) p = true then (-4, X) else (0, gup X 1 (tN p) 0 (-1))) else (-3, X)) else (-1, X)
def xGrant (X : gS) (d t p k : Int32) : Int32 × gS := if xLive X d = true then (if xOth d t = true ∧ ¬ k < 0 ∧ ¬ 2 < k then (if k = 2 ∨ xOwns X d p = true then (if xFe X (tN d) = -1 then (-7, X) else (xFe X (tN d), eSet X (tN d) (tN (xFe X (tN d))) t k (if k = 2 then -1 else p))) else (-3, X)) else (-2, X)) else (-1, X)
def xEnd (X : gS) (d r : Int32) : Int32 × gS := if xLive X d = true then (if xHasE X (tN d) r = true then (if 0 < X 6 (tN d) (tN r) then (-4, X) else (0, eClr X (tN d) (tN r))) else (-5, X)) else (-1, X)
def xMap1 (X : gS) (f r : Nat) : gS := gup X 6 f r (X 6 f r + 1)
def xMap (X : gS) (d f r : Int32) (w : Bool) : Int32 × gS := if xLive X d = true ∧ xLive X f = true then (if xHasE X (tN f) r = true then (if X 4 (tN f) (tN r) = 2 ∨ ¬ X 3 (tN f) (tN r) = d then (-5, X) else (if w = true ∧ X 4 (tN f) (tN r) = 0 then (-6, X) else (if xFh X (tN d) = -1 then (-7, X) else (xFh X (tN d), xMap1 (hSet X (tN d) (tN (xFh X (tN d))) f r (bI w)) (tN f) (tN r))))) else (-5, X)) else (-1, X)
def xUnmap (X : gS) (d h : Int32) : Int32 × gS := if xLive X d = true then (if xHasH X (tN d) h = true then (0, xTk X (tN d) (tN h)) else (-5, X)) else (-1, X)
def xGive (X : gS) (d p t r : Int32) : Int32 × gS := if xLive X d = true ∧ xLive X t = true then (if xOwns X d p = true then (if xEW X (tN d) p = true then (-4, X) else (if xHasE X (tN t) r = true then (if ¬ X 4 (tN t) (tN r) = 2 ∨ ¬ X 3 (tN t) (tN r) = d then (-5, X) else (if 6 ≤ xCnt X t then (-7, X) else (0, eClr (gup X 1 (tN p) 0 t) (tN t) (tN r)))) else (-5, X))) else (-3, X)) else (-1, X)
def xStore (X : gS) (d p w v : Int32) : Int32 × gS := if xAcc X d p w true = 0 then (0, gup X 2 (tN p) (tN w) v) else (xAcc X d p w true, X)
def xLoad (X : gS) (d p w : Int32) : Int64 := if xAcc X d p w false = 0 then (X 2 (tN p) (tN w)).toInt64 &&& 4294967295 else (xAcc X d p w false).toInt64
def xOpen (X : gS) (d t : Int32) : Int32 × gS := if xLive X d = true then (if xOth d t = true then (if xFq X (tN d) = -1 then (-7, X) else (xFq X (tN d), qSet X (tN d) (tN (xFq X (tN d))) 1 t (-1))) else (-2, X)) else (-1, X)
def xWt (X : gS) (a k : Nat) (d : Int32) : Bool := decide (X 10 a k = 1) && decide (X 11 a k = d)
def xBind (X : gS) (d t k : Int32) : Int32 × gS := if xLive X d = true ∧ xLive X t = true then (if xPrt k = true ∧ xWt X (tN t) (tN k) d = true then (if xFq X (tN d) = -1 then (-7, X) else (xFq X (tN d), qSet (qSet X (tN d) (tN (xFq X (tN d))) 2 t k) (tN t) (tN k) 2 d (xFq X (tN d)))) else (-8, X)) else (-1, X)
def xSend (X : gS) (d k : Int32) : Int32 × gS := if xLive X d = true then (if xPrt k = true ∧ X 10 (tN d) (tN k) = 2 then (if X 13 (tN (X 11 (tN d) (tN k))) (tN (X 12 (tN d) (tN k))) = 0 then 1 else 0, gup X 13 (tN (X 11 (tN d) (tN k))) (tN (X 12 (tN d) (tN k))) 1) else (-8, X)) else (-1, X)
def xNext (X : gS) (d : Int32) : Int32 × gS := if xLive X d = true then fstS (fun k => !decide (X 13 (tN d) k = 0)) (fun k => gup X 13 (tN d) k 0) (-11) X 4 0 else (-1, X)
def rem3 (z : Int32) : Int32 := z - z / 3 * 3
def vBeg (X : gS) (v : Nat) (f b : Int32) : gS := lpS (fun s Y => gup Y 27 v s 0) 8 0 (gup (gup (gup (gup (gup (gup X 14 v 0 1) 15 v 0 f) 16 v 0 b) 22 v 0 0) 23 v 0 0) 24 v 0 0)
def xUw (X : gS) (v : Nat) : Int32 := X 22 v 0 - X 23 v 0
def xAbs (X : gS) : Int32 := ffst (fun i => decide (X 14 i 0 = 0)) 3 0
def xCgn (X : gS) (d : Int32) : Bool := !decide (xGet X d = -1) && !decide (xFe X (tN d) = -1)
def xRf (X : gS) (f : Int32) : Bool := xCgn X f && !decide (xFq X (tN f) = -1)
def xRb (X : gS) (b : Int32) : Bool := !decide (xFh X (tN b) = -1) && !decide (xFq X (tN b) = -1)
def xA1 (X : gS) (v : Nat) (f b : Int32) : Int32 × gS := xAlloc (vBeg X v f b) f
def xA2 (A : Int32 × gS) (v : Nat) (f b : Int32) : Int32 × gS := xGrant (gup A.2 17 v 0 A.1) f b A.1 1
def xA3 (A : Int32 × gS) (v : Nat) (f b : Int32) : Int32 × gS := xMap (gup A.2 18 v 0 A.1) b f A.1 true
def xA4 (A : Int32 × gS) (v : Nat) (f b : Int32) : Int32 × gS := xOpen (gup A.2 19 v 0 A.1) f b
def xA5 (A : Int32 × gS) (v : Nat) (f b : Int32) : Int32 × gS := xBind (gup A.2 20 v 0 A.1) b f A.1
def xA6 (A : Int32 × gS) (v : Nat) : gS := gup A.2 21 v 0 A.1
def xAtt (X : gS) (v : Nat) (f b : Int32) : gS := xA6 (xA5 (xA4 (xA3 (xA2 (xA1 X v f b) v f b) v f b) v f b) v f b) v
def xAttach (X : gS) (f b : Int32) : Int32 × gS := if xLive X f = true ∧ xLive X b = true then (if f = b then (-2, X) else (if xAbs X = -1 ∨ xRf X f = false ∨ xRb X b = false then (-7, X) else (xAbs X, xAtt X (tN (xAbs X)) f b))) else (-1, X)
def xWhole (X : gS) (v : Nat) : Bool := decide (X 7 (tN (X 16 v 0)) (tN (X 19 v 0)) = X 15 v 0) && decide (X 8 (tN (X 16 v 0)) (tN (X 19 v 0)) = X 18 v 0) && !decide (X 9 (tN (X 16 v 0)) (tN (X 19 v 0)) = 0) && decide (xPgO X (tN (X 16 v 0)) (tN (X 19 v 0)) = X 17 v 0)
def xDc (X : gS) (v : Int32) : Int32 := if xPres X v = true then (if xWhole X (tN v) = true then 0 else -10) else -9
def xPo (X : gS) (v : Nat) (p r q : Int32) : gS := gup (gup (gup (gup (gup X 25 v (tN (rem3 (X 22 v 0))) p) 26 v (tN (rem3 (X 22 v 0))) r) 2 (tN (X 17 v 0)) (tN (2 + rem3 (X 22 v 0))) q) 22 v 0 (X 22 v 0 + 1)) 2 (tN (X 17 v 0)) 0 (X 22 v 0 + 1)
def xPost (X : gS) (v : Nat) (p r q : Int32) : gS := (xSend (xPo X v p r q) (X 15 v 0) (X 20 v 0)).2
def xSu1 (X : gS) (A : Int32 × gS) (v : Nat) (w : Bool) (x : Int32) : gS := if w = true then (xStore A.2 (X 15 v 0) A.1 0 x).2 else A.2
def xSu2 (X Y : gS) (v : Nat) (w : Bool) (p : Int32) : Int32 × gS := xGrant Y (X 15 v 0) (X 16 v 0) p (if w = true then 0 else 1)
def xSu3 (A : Int32 × gS) (v : Nat) (w : Bool) (s p : Int32) : Int32 × gS := (A.2 22 v 0, xPost A.2 v p A.1 (s + (if w = true then 8 else 0) + (A.1 <<< ((4 : Int32) &&& 31))))
def xSu (X : gS) (v : Nat) (w : Bool) (s x : Int32) : Int32 × gS := xSu3 (xSu2 X (xSu1 X (xAlloc X (X 15 v 0)) v w x) v w (xAlloc X (X 15 v 0)).1) v w s (xAlloc X (X 15 v 0)).1
def xSubmit (X : gS) (v : Int32) (w : Bool) (s x : Int32) : Int32 × gS := if xDc X v = 0 then (if s < 0 ∨ 8 ≤ s then (-2, X) else (if 3 ≤ xUw X (tN v) ∨ xCgn X (X 15 (tN v) 0) = false then (-7, X) else xSu X (tN v) w s x)) else (xDc X v, X)
def xCo1 (X Y : gS) (v : Nat) (q b h : Int32) (w : Bool) : gS := if w = true then gup Y 2 (tN (xPgO Y (tN b) (tN h))) 0 (X 27 v (tN (q &&& 7))) else gup Y 27 v (tN (q &&& 7)) (X 2 (tN (xPgO Y (tN b) (tN h))) 0)
def xCom (X : gS) (v : Nat) (q : Int32) (w : Bool) : Int32 × gS := xMap X (X 16 v 0) (X 15 v 0) (q >>> ((4 : Int32) &&& 31)) w
def xCo2 (X : gS) (A : Int32 × gS) (v : Nat) (q : Int32) (w : Bool) : Int32 × gS := if A.1 < 0 then A else (0, (xUnmap (xCo1 X A.2 v q (X 16 v 0) A.1 w) (X 16 v 0) A.1).2)
def xCo (X : gS) (v : Nat) (q : Int32) (w : Bool) : Int32 × gS := xCo2 X (xCom X v q w) v q w
def xSq (X : gS) (v rp : Nat) : Int32 := X 2 rp (tN (2 + rem3 (X 24 v 0)))
def xSc (X : gS) (v rp : Nat) : Int32 × gS := xCo X v (xSq X v rp) (decide (xSq X v rp &&& 8 = 0))
def xSe1 (X : gS) (B : Int32 × gS) (v rp : Nat) : gS := gup (gup (gup B.2 2 rp (tN (5 + rem3 (X 24 v 0))) B.1) 24 v 0 (X 24 v 0 + 1)) 2 rp 1 (X 24 v 0 + 1)
def xSe2 (X : gS) (B : Int32 × gS) (v rp : Nat) : Int32 × gS := (B.1, (xSend (xSe1 X B v rp) (X 16 v 0) (X 21 v 0)).2)
def xSe (X : gS) (v rp : Nat) : Int32 × gS := xSe2 X (xSc X v rp) v rp
def xSn (X : gS) (v : Nat) : Int64 := (X 2 (tN (X 17 v 0)) 0).toInt64 - (X 24 v 0).toInt64
def xServe (X : gS) (v : Int32) : Int32 × gS := if xDc X v = 0 then (if xSn X (tN v) = 0 then (-11, X) else (if xSn X (tN v) < 1 ∨ 3 < xSn X (tN v) then (-12, X) else xSe X (tN v) (tN (X 17 (tN v) 0)))) else (xDc X v, X)
def xRn (X : gS) (v : Nat) : Int64 := (X 2 (tN (X 17 v 0)) 1).toInt64 - (X 23 v 0).toInt64
def xRe1 (X : gS) (v : Nat) : gS := gup X 23 v 0 (X 23 v 0 + 1)
def xRe2 (X : gS) (v : Nat) : Int32 × gS := xEnd (xRe1 X v) (X 15 v 0) (X 26 v (tN (rem3 (X 23 v 0))))
def xRe3 (X : gS) (E : Int32 × gS) (v : Nat) : Int32 × gS := xFree E.2 (X 15 v 0) (X 25 v (tN (rem3 (X 23 v 0))))
def xRe (X : gS) (v : Nat) : Int64 × gS := (if X 2 (tN (X 17 v 0)) (tN (5 + rem3 (X 23 v 0))) = 0 then xLoad (xRe1 X v) (X 15 v 0) (X 25 v (tN (rem3 (X 23 v 0)))) 0 else -13, (xRe3 X (xRe2 X v) v).2)
def xReap (X : gS) (v : Int32) : Int64 × gS := if xDc X v = 0 then (if xRn X (tN v) = 0 then (-11, X) else (if xRn X (tN v) < 1 ∨ (xUw X (tN v)).toInt64 < xRn X (tN v) then (-12, X) else xRe X (tN v))) else ((xDc X v).toInt64, X)
def xLook (X : gS) (w a b : Int32) : Int64 :=
  if w = 0 then (if xDom a = true then (X 0 (tN a) 0).toInt64 else -1)
  else if w = 1 then (if xPag a = true then (X 1 (tN a) 0).toInt64 else -1)
  else if w = 2 then (if xDom a = true ∧ xHasE X (tN a) b = true then (X 6 (tN a) (tN b)).toInt64 else -1)
  else if w = 3 then (if xDom a = true ∧ xHasH X (tN a) b = true then (xPgO X (tN a) (tN b)).toInt64 else -1)
  else if w = 4 then (if xDom a = true then (xCnt X a).toInt64 else -1)
  else if w = 5 then (if xPres X a = true ∧ 0 ≤ b ∧ b < 8 then (X 27 (tN a) (tN b)).toInt64 &&& 4294967295 else -1)
  else if w = 6 then (if xPres X a = true then (xUw X (tN a)).toInt64 else -1)
  else -1
end
section
def mLive (M : gS) (x : Int32) : Bool := decide (0 ≤ x) && decide (x ≤ 4) && decide (M 50 (tN x) 0 = 1)
def mOwns (M : gS) (x p : Int32) : Bool := decide (0 ≤ p) && decide (p ≤ 19) && decide (M 51 (tN p) 0 = x + 1)
def mCnt (M : gS) (x : Int32) : Int32 := cntb (fun p => decide (M 51 p 0 = x + 1)) 20 0 0
def mFpg (M : gS) : Int32 := ffst (fun p => decide (M 51 p 0 = 0)) 20 0
def mFe (M : gS) (a : Nat) : Int32 := ffst (fun r => decide (M 53 (6 * a + r) 0 = 0)) 6 0
def mFh (M : gS) (a : Nat) : Int32 := ffst (fun h => decide (M 56 (5 * a + h) 0 = 0)) 5 0
def mFq (M : gS) (a : Nat) : Int32 := ffst (fun k => decide (M 58 (4 * a + k) 0 = 0)) 4 0
def mMps (M : gS) (e : Nat) : Int32 := cntb (fun h => decide (M 56 h 0 = nI (e + 1))) 25 0 0
def mHeld (M : gS) (a : Nat) (p : Int32) (b : Bool) : Bool := anyb (fun e => decide (0 < M 53 e 0) && decide (M 54 e 0 < 2) && decide (M 55 e 0 = p) && (!b || decide (0 < mMps M e))) 6 (6 * a)
def mCreate (M : gS) : Int32 × gS := fstS (fun d => decide (M 50 d 0 = 0)) (fun d => gup M 50 d 0 1) (-7) M 5 0
def mTk0 (M : gS) (e : Nat) : gS := if mHeld M (e / 6) (M 55 e 0) true = true then M else gup M 51 (tN (M 55 e 0)) 0 0
def mTk3 (M : gS) (a : Nat) : gS := if mCnt M (nI a) = 0 then gup M 50 a 0 0 else M
def mTk2 (M : gS) (e : Nat) : gS := if ¬ M 50 (e / 6) 0 = 2 ∨ 0 < mMps M e then M else mTk3 (mTk0 (gup M 53 e 0 0) e) (e / 6)
def mTk (M : gS) (h e : Nat) : gS := mTk2 (gup M 56 h 0 0) e
def mE (M : gS) (h : Nat) : Nat := tN (M 56 h 0 - 1)
def mCls (M : gS) (k : Nat) : gS := gup (gup M 58 k 0 0) 60 k 0 0
def mDe1 (M : gS) (a : Nat) : gS := lpS (fun v Z => if 0 < Z 61 v 0 ∧ (Z 61 v 0 = nI (a + 1) ∨ Z 62 v 0 = nI a) then gup Z 61 v 0 0 else Z) 3 0 M
def mDe2 (M : gS) (a : Nat) : gS := lpS (fun h Z => if 0 < Z 56 h 0 then mTk Z h (mE Z h) else Z) 5 (5 * a) M
def mCl1 (M : gS) (k : Nat) : gS := if M 58 k 0 = 2 then mCls M (tN (M 59 k 0)) else M
def mDe3 (M : gS) (a : Nat) : gS := lpS (fun k Z => mCls (mCl1 Z k) k) 4 (4 * a) M
def mDe4 (M : gS) (a : Nat) : gS := lpS (fun e Z => if mMps Z e = 0 then gup Z 53 e 0 0 else Z) 6 (6 * a) M
def mDe5 (M : gS) (a : Nat) : gS := lpS (fun p Z => if mOwns Z (nI a) (nI p) = true ∧ mHeld Z a (nI p) true = false then gup Z 51 p 0 0 else Z) 20 0 M
def mDe6 (M : gS) (a : Nat) : gS := gup M 50 a 0 (if 0 < mCnt M (nI a) then 2 else 0)
def mDestroy (M : gS) (x : Int32) : Int32 × gS := if mLive M x = true then (0, mDe6 (mDe5 (mDe4 (mDe3 (mDe2 (mDe1 M (tN x)) (tN x)) (tN x)) (tN x)) (tN x)) (tN x)) else (-1, M)
def mWipe (M : gS) (p : Nat) : gS := lpS (fun w Z => gup Z 52 (8 * p + w) 0 0) 8 0 M
def mAlloc (M : gS) (x : Int32) : Int32 × gS := if mLive M x = true then (if mFpg M < 0 ∨ 6 ≤ mCnt M x then (-7, M) else (mFpg M, mWipe (gup M 51 (tN (mFpg M)) 0 (x + 1)) (tN (mFpg M)))) else (-1, M)
def mFree (M : gS) (x p : Int32) : Int32 × gS := if mLive M x = true then (if mOwns M x p = true then (if mHeld M (tN x) p false = true then (-4, M) else (0, gup M 51 (tN p) 0 0)) else (-3, M)) else (-1, M)
def mGr1 (M : gS) (e : Nat) (t k p : Int32) : gS := gup (gup (gup M 53 e 0 (t + 1)) 54 e 0 k) 55 e 0 p
def mGrant (M : gS) (x t p k : Int32) : Int32 × gS := if mLive M x = true then (if t < 0 ∨ 4 < t ∨ t = x ∨ k < 0 ∨ 2 < k then (-2, M) else (if k < 2 ∧ mOwns M x p = false then (-3, M) else (if mFe M (tN x) < 0 then (-7, M) else (mFe M (tN x), mGr1 M (6 * tN x + tN (mFe M (tN x))) t k (if k < 2 then p else 0))))) else (-1, M)
def mEnt (M : gS) (a : Nat) (r : Int32) : Int32 := if r < 0 ∨ 5 < r ∨ M 53 (6 * a + tN r) 0 = 0 then -1 else nI (6 * a + tN r)
def mEnd (M : gS) (x r : Int32) : Int32 × gS := if mLive M x = true then (if mEnt M (tN x) r < 0 then (-5, M) else (if 0 < mMps M (tN (mEnt M (tN x) r)) then (-4, M) else (0, gup M 53 (tN (mEnt M (tN x) r)) 0 0))) else (-1, M)
def mMp1 (M : gS) (h e : Nat) (w : Bool) : gS := gup (gup M 56 h 0 (nI (e + 1))) 57 h 0 (bI w)
def mMap (M : gS) (x f r : Int32) (w : Bool) : Int32 × gS := if mLive M x = true ∧ mLive M f = true then (if mEnt M (tN f) r < 0 ∨ M 54 (tN (mEnt M (tN f) r)) 0 = 2 ∨ ¬ M 53 (tN (mEnt M (tN f) r)) 0 = x + 1 then (-5, M) else (if w = true ∧ M 54 (tN (mEnt M (tN f) r)) 0 = 0 then (-6, M) else (if mFh M (tN x) < 0 then (-7, M) else (mFh M (tN x), mMp1 M (5 * tN x + tN (mFh M (tN x))) (tN (mEnt M (tN f) r)) w)))) else (-1, M)
def mUnmap (M : gS) (x h : Int32) : Int32 × gS := if mLive M x = true then (if h < 0 ∨ 4 < h ∨ M 56 (5 * tN x + tN h) 0 = 0 then (-5, M) else (0, mTk M (5 * tN x + tN h) (mE M (5 * tN x + tN h)))) else (-1, M)
def mGive (M : gS) (x p t r : Int32) : Int32 × gS := if mLive M x = true ∧ mLive M t = true then (if mOwns M x p = true then (if mHeld M (tN x) p false = true then (-4, M) else (if mEnt M (tN t) r < 0 ∨ ¬ M 54 (tN (mEnt M (tN t) r)) 0 = 2 ∨ ¬ M 53 (tN (mEnt M (tN t) r)) 0 = x + 1 then (-5, M) else (if 6 ≤ mCnt M t then (-7, M) else (0, gup (gup M 51 (tN p) 0 (t + 1)) 53 (tN (mEnt M (tN t) r)) 0 0)))) else (-3, M)) else (-1, M)
def orb (p : Nat → Bool) : Nat → Nat → Bool → Bool
  | 0, _, c => c
  | n + 1, i, c => orb p n (i + 1) (c || p i)
def mMay (M : gS) (a : Nat) (p : Int32) (s : Bool) : Bool := orb (fun h => decide (0 < M 56 h 0) && decide (M 55 (mE M h) 0 = p) && (!decide (M 57 h 0 = 0) || !s)) 5 (5 * a) (mOwns M (nI a) p)
def mRef (M : gS) (x p w : Int32) (s : Bool) : Int32 := if mLive M x = true then (if p < 0 ∨ 19 < p ∨ w < 0 ∨ 7 < w then -2 else (if mMay M (tN x) p s = true then 0 else -3)) else -1
def mStore (M : gS) (x p w v : Int32) : Int32 × gS := if mRef M x p w true = 0 then (0, gup M 52 (8 * tN p + tN w) 0 v) else (mRef M x p w true, M)
def mPl (v : Int32) : Int64 := if v < 0 then v.toInt64 + 4294967296 else v.toInt64
def mLoad (M : gS) (x p w : Int32) : Int64 := if mRef M x p w false < 0 then (mRef M x p w false).toInt64 else mPl (M 52 (8 * tN p + tN w) 0)
def mOpen (M : gS) (x t : Int32) : Int32 × gS := if mLive M x = true then (if t < 0 ∨ 4 < t ∨ t = x then (-2, M) else (if mFq M (tN x) < 0 then (-7, M) else (mFq M (tN x), gup (gup M 58 (4 * tN x + tN (mFq M (tN x))) 0 1) 59 (4 * tN x + tN (mFq M (tN x))) 0 t))) else (-1, M)
def mBd1 (M : gS) (k : Nat) (j : Int32) : gS := gup (gup M 58 k 0 2) 59 k 0 j
def mBind (M : gS) (x t k : Int32) : Int32 × gS := if mLive M x = true ∧ mLive M t = true then (if k < 0 ∨ 3 < k ∨ ¬ M 58 (4 * tN t + tN k) 0 = 1 ∨ ¬ M 59 (4 * tN t + tN k) 0 = x then (-8, M) else (if mFq M (tN x) < 0 then (-7, M) else (mFq M (tN x), mBd1 (mBd1 M (4 * tN x + tN (mFq M (tN x))) (nI (4 * tN t + tN k))) (4 * tN t + tN k) (nI (4 * tN x + tN (mFq M (tN x))))))) else (-1, M)
def mSend (M : gS) (x k : Int32) : Int32 × gS := if mLive M x = true then (if k < 0 ∨ 3 < k ∨ ¬ M 58 (4 * tN x + tN k) 0 = 2 then (-8, M) else (if M 60 (tN (M 59 (4 * tN x + tN k) 0)) 0 = 0 then 1 else 0, gup M 60 (tN (M 59 (4 * tN x + tN k) 0)) 0 1)) else (-1, M)
def mNext (M : gS) (x : Int32) : Int32 × gS := if mLive M x = true then fstS (fun k => !decide (M 60 (4 * tN x + k) 0 = 0)) (fun k => gup M 60 (4 * tN x + k) 0 0) (-11) M 4 0 else (-1, M)
def mF (M : gS) (v : Nat) : Nat := tN (M 61 v 0 - 1)
def mB (M : gS) (v : Nat) : Nat := tN (M 62 v 0)
def mRp (M : gS) (v : Nat) : Nat := tN (M 63 v 0)
def mRe (M : gS) (v : Nat) : Nat := tN (M 64 v 0)
def mG (M : gS) (v : Nat) : Nat := tN (M 65 v 0)
def mPo (M : gS) (v : Nat) : Nat := tN (M 68 v 0)
def mRa (M : gS) (v : Nat) : Nat := tN (M 69 v 0)
def mTa (M : gS) (v : Nat) : Nat := tN (M 70 v 0)
def mWh (M : gS) (v : Nat) : Bool := decide (M 56 (5 * mB M v + mG M v) 0 = nI (6 * mF M v + mRe M v + 1)) && !decide (M 57 (5 * mB M v + mG M v) 0 = 0) && decide (M 55 (6 * mF M v + mRe M v) 0 = M 63 v 0)
def mTr (M : gS) (x : Int32) : Int32 := if x < 0 ∨ 2 < x ∨ M 61 (tN x) 0 = 0 then -9 else (if mWh M (tN x) = true then 0 else -10)
def fidx (p : Nat → Bool) : Nat → Nat → Nat
  | 0, i => i
  | n + 1, i => if p i = true then i else fidx p n (i + 1)
def mAbs (M : gS) : Nat := fidx (fun v => decide (M 61 v 0 ≤ 0)) 3 0
def mA1 (M : gS) (v : Nat) (f b : Int32) : Int32 × gS := mAlloc (gup (gup M 61 v 0 (f + 1)) 62 v 0 b) f
def mA2 (A : Int32 × gS) (v : Nat) (f b : Int32) : Int32 × gS := mGrant (gup A.2 63 v 0 A.1) f b A.1 1
def mA3 (A : Int32 × gS) (v : Nat) (f b : Int32) : Int32 × gS := mMap (gup A.2 64 v 0 A.1) b f A.1 true
def mA4 (A : Int32 × gS) (v : Nat) (f b : Int32) : Int32 × gS := mOpen (gup A.2 65 v 0 A.1) f b
def mA5 (A : Int32 × gS) (v : Nat) (f b : Int32) : Int32 × gS := mBind (gup A.2 66 v 0 A.1) b f A.1
def mA6 (A : Int32 × gS) (v : Nat) : gS := lpS (fun s Z => gup Z 73 (8 * v + s) 0 0) 8 0 (gup (gup (gup (gup A.2 67 v 0 A.1) 68 v 0 0) 69 v 0 0) 70 v 0 0)
def mAtt (M : gS) (v : Nat) (f b : Int32) : gS := mA6 (mA5 (mA4 (mA3 (mA2 (mA1 M v f b) v f b) v f b) v f b) v f b) v
def mAttach (M : gS) (f b : Int32) : Int32 × gS := if mLive M f = true ∧ mLive M b = true then (if f = b then (-2, M) else (if 3 ≤ nI (mAbs M) ∨ 6 ≤ mCnt M f ∨ mFpg M < 0 ∨ mFe M (tN f) < 0 ∨ mFh M (tN b) < 0 ∨ mFq M (tN f) < 0 ∨ mFq M (tN b) < 0 then (-7, M) else (nI (mAbs M), mAtt M (mAbs M) f b))) else (-1, M)
def mSuA (M : gS) (v : Nat) : Int32 × gS := mAlloc M (nI (mF M v))
def mSu1 (A : Int32 × gS) (w : Bool) (x : Int32) : gS := if w = true then gup A.2 52 (8 * tN A.1) 0 x else A.2
def mSu2 (M N : gS) (v : Nat) (w : Bool) (p : Int32) : Int32 × gS := mGrant N (nI (mF M v)) (nI (mB M v)) p (if w = true then 0 else 1)
def mSu3 (M : gS) (G : Int32 × gS) (v : Nat) (w : Bool) (s p : Int32) : gS := gup (gup (gup (gup (gup G.2 71 (3 * v + mPo M v % 3) 0 p) 72 (3 * v + mPo M v % 3) 0 G.1) 52 (8 * mRp M v + 2 + mPo M v % 3) 0 (s + (if w = true then 8 else 0) + 16 * G.1)) 68 v 0 (nI (mPo M v + 1))) 52 (8 * mRp M v) 0 (nI (mPo M v + 1))
def mSu (M : gS) (v : Nat) (w : Bool) (s x : Int32) : Int32 × gS := (nI (mPo M v), (mSend (mSu3 M (mSu2 M (mSu1 (mSuA M v) w x) v w (mSuA M v).1) v w s (mSuA M v).1) (nI (mF M v)) (M 66 v 0)).2)
def mSubmit (M : gS) (v : Int32) (w : Bool) (s x : Int32) : Int32 × gS := if mTr M v < 0 then (mTr M v, M) else (if s < 0 ∨ 7 < s then (-2, M) else (if nI (mPo M (tN v)) - M 69 (tN v) 0 = 3 ∨ 6 ≤ mCnt M (nI (mF M (tN v))) ∨ mFpg M < 0 ∨ mFe M (mF M (tN v)) < 0 then (-7, M) else mSu M (tN v) w s x))
def mSq (M : gS) (v : Nat) : Int32 := M 52 (8 * mRp M v + 2 + mTa M v % 3) 0
def mCom (M : gS) (v : Nat) (q : Int32) (w : Bool) : Int32 × gS := mMap M (nI (mB M v)) (nI (mF M v)) (q >>> ((4 : Int32) &&& 31)) w
def mPg (M : gS) (v : Nat) (q : Int32) : Nat := tN (M 55 (6 * mF M v + tN (q >>> ((4 : Int32) &&& 31))) 0)
def mCo1 (M : gS) (A : Int32 × gS) (v : Nat) (q : Int32) (w : Bool) : gS := if w = true then gup A.2 52 (8 * tN (M 55 (6 * mF M v + tN (q >>> ((4 : Int32) &&& 31))) 0)) 0 (M 73 (8 * v + tN (q &&& 7)) 0) else gup A.2 73 (8 * v + tN (q &&& 7)) 0 (M 52 (8 * tN (M 55 (6 * mF M v + tN (q >>> ((4 : Int32) &&& 31))) 0)) 0)
def mCo2 (M : gS) (A : Int32 × gS) (v : Nat) (q : Int32) (w : Bool) : Int32 × gS := if A.1 < 0 then A else (0, mTk (mCo1 M A v q w) (5 * mB M v + tN A.1) (mE (mCo1 M A v q w) (5 * mB M v + tN A.1)))
def mSe1 (M : gS) (B : Int32 × gS) (v : Nat) : gS := gup (gup (gup B.2 52 (8 * mRp M v + 5 + mTa M v % 3) 0 B.1) 70 v 0 (nI (mTa M v + 1))) 52 (8 * mRp M v + 1) 0 (nI (mTa M v + 1))
def mSe2 (M : gS) (B : Int32 × gS) (v : Nat) : Int32 × gS := (B.1, (mSend (mSe1 M B v) (nI (mB M v)) (M 67 v 0)).2)
def mSe (M : gS) (v : Nat) : Int32 × gS := mSe2 M (mCo2 M (mCom M v (mSq M v) (decide (mSq M v &&& 8 = 0))) v (mSq M v) (decide (mSq M v &&& 8 = 0))) v
def mSn (M : gS) (v : Nat) : Int64 := (M 52 (8 * mRp M v) 0).toInt64 - (nI (mTa M v)).toInt64
def mServe (M : gS) (v : Int32) : Int32 × gS := if mTr M v < 0 then (mTr M v, M) else (if mSn M (tN v) < 1 ∨ 3 < mSn M (tN v) then (if mSn M (tN v) = 0 then -11 else -12, M) else mSe M (tN v))
def mRn (M : gS) (v : Nat) : Int64 := (M 52 (8 * mRp M v + 1) 0).toInt64 - (nI (mRa M v)).toInt64
def mR1 (M : gS) (v : Nat) : gS := gup M 69 v 0 (nI (mRa M v + 1))
def mR2 (M : gS) (v : Nat) : Int32 × gS := mEnd (mR1 M v) (nI (mF M v)) (M 72 (3 * v + mRa M v % 3) 0)
def mR3 (M : gS) (E : Int32 × gS) (v : Nat) : Int32 × gS := mFree E.2 (nI (mF M v)) (M 71 (3 * v + mRa M v % 3) 0)
def mRe0 (M : gS) (v : Nat) : Int64 × gS := (if M 52 (8 * mRp M v + 5 + mRa M v % 3) 0 = 0 then mLoad (mR1 M v) (nI (mF M v)) (M 71 (3 * v + mRa M v % 3) 0) 0 else -13, (mR3 M (mR2 M v) v).2)
def mReap (M : gS) (v : Int32) : Int64 × gS := if mTr M v < 0 then ((mTr M v).toInt64, M) else (if mRn M (tN v) = 0 then (-11, M) else (if mRn M (tN v) < 0 ∨ (M 68 (tN v) 0 - nI (mRa M (tN v))).toInt64 < mRn M (tN v) then (-12, M) else mRe0 M (tN v)))
def mLook (M : gS) (w a b : Int32) : Int64 :=
  if a < 0 ∨ (b < 0 ∧ (w = 2 ∨ w = 3 ∨ w = 5)) then -1
  else if w = 0 then (if 4 < a then -1 else (M 50 (tN a) 0).toInt64)
  else if w = 1 then (if 19 < a then -1 else (M 51 (tN a) 0).toInt64 - 1)
  else if w = 2 then (if 4 < a ∨ 5 < b ∨ M 53 (6 * tN a + tN b) 0 = 0 then -1 else (mMps M (6 * tN a + tN b)).toInt64)
  else if w = 3 then (if 4 < a ∨ 4 < b ∨ M 56 (5 * tN a + tN b) 0 = 0 then -1 else (M 55 (mE M (5 * tN a + tN b)) 0).toInt64)
  else if w = 4 then (if 4 < a then -1 else (mCnt M a).toInt64)
  else if w = 5 then (if 2 < a ∨ 7 < b ∨ M 61 (tN a) 0 = 0 then -1 else mPl (M 73 (8 * tN a + tN b) 0))
  else if w = 6 then (if 2 < a ∨ M 61 (tN a) 0 = 0 then -1 else (M 68 (tN a) 0 - M 69 (tN a) 0).toInt64)
  else -1
end
section
theorem tN_def (z : Int32) : tN z = z.toInt.toNat := rfl
theorem tN_lt {z : Int32} {k : Nat} (hk : 0 < k ∧ k < 2 ^ 31) (h : ¬ nI k ≤ z) : tN z < k := by
  rw [Int32.le_iff_toInt_le, nI_toInt hk.2] at h
  rw [tN_def]
  omega
theorem tN_lt2 {z : Int32} {k : Nat} (hk : 0 < k ∧ k < 2 ^ 31) (h : z < nI k) : tN z < k := by
  rw [Int32.lt_iff_toInt_lt, nI_toInt hk.2] at h
  rw [tN_def]
  omega
theorem tN_le {z : Int32} {k : Nat} (hk : 0 < k ∧ k < 2 ^ 31) (h : ¬ nI k < z) : tN z < k + 1 := by
  rw [Int32.lt_iff_toInt_lt, nI_toInt hk.2] at h
  rw [tN_def]
  omega
theorem tN_le2 {z : Int32} {k : Nat} (hk : 0 < k ∧ k < 2 ^ 31) (h : z ≤ nI k) : tN z < k + 1 := by
  rw [Int32.le_iff_toInt_le, nI_toInt hk.2] at h
  rw [tN_def]
  omega
theorem ge0 {z : Int32} (h : 0 ≤ z) : ¬ z < 0 := by
  rw [Int32.lt_iff_toInt_lt]
  rw [Int32.le_iff_toInt_le] at h
  omega
theorem ir_dom {z : Int32} (h : xDom z = true) : ¬ z < 0 ∧ tN z < 5 := by
  simp only [xDom, Bool.and_eq_true, decide_eq_true_eq] at h
  exact ⟨ge0 h.1, tN_lt2 (k := 5) (by decide) h.2⟩
theorem ir_pag {z : Int32} (h : xPag z = true) : ¬ z < 0 ∧ tN z < 20 := by
  simp only [xPag, Bool.and_eq_true, decide_eq_true_eq] at h
  exact ⟨ge0 h.1, tN_lt2 (k := 20) (by decide) h.2⟩
theorem ir_prt {z : Int32} (h : xPrt z = true) : ¬ z < 0 ∧ tN z < 4 := by
  simp only [xPrt, Bool.and_eq_true, decide_eq_true_eq] at h
  exact ⟨ge0 h.1, tN_lt2 (k := 4) (by decide) h.2⟩
theorem ir_oth {d z : Int32} (h : xOth d z = true) : ¬ z < 0 ∧ tN z < 5 := by
  simp only [xOth, Bool.and_eq_true] at h
  exact ir_dom h.1
theorem ir_live {X : gS} {z : Int32} (h : xLive X z = true) : ¬ z < 0 ∧ tN z < 5 := by
  simp only [xLive, Bool.and_eq_true] at h
  exact ir_dom h.1
theorem ir_pres {X : gS} {z : Int32} (h : xPres X z = true) : ¬ z < 0 ∧ tN z < 3 := by
  simp only [xPres, Bool.and_eq_true, decide_eq_true_eq] at h
  exact ⟨ge0 h.1.1, tN_lt2 (k := 3) (by decide) h.1.2⟩
theorem ir_owns {X : gS} {d z : Int32} (h : xOwns X d z = true) : ¬ z < 0 ∧ tN z < 20 := by
  simp only [xOwns, Bool.and_eq_true] at h
  exact ir_pag h.1
theorem ir_hasE {X : gS} {a : Nat} {z : Int32} (h : xHasE X a z = true) : ¬ z < 0 ∧ tN z < 6 := by
  simp only [xHasE, Bool.and_eq_true, decide_eq_true_eq] at h
  exact ⟨ge0 h.1.1, tN_lt2 (k := 6) (by decide) h.1.2⟩
theorem ir_hasH {X : gS} {a : Nat} {z : Int32} (h : xHasH X a z = true) : ¬ z < 0 ∧ tN z < 5 := by
  simp only [xHasH, Bool.and_eq_true, decide_eq_true_eq] at h
  exact ⟨ge0 h.1.1, tN_lt2 (k := 5) (by decide) h.1.2⟩
theorem ffst_ir (p : Nat → Bool) : ∀ (n i : Nat), i + n < 2 ^ 31 → ¬ ffst p n i = -1 → ∃ j, i ≤ j ∧ j < i + n ∧ ffst p n i = nI j ∧ p j = true := by
  intro n
  induction n with
  | zero => intro i _ h; exact absurd rfl h
  | succ n ih =>
    intro i hi h
    by_cases hp : p i = true
    · exact ⟨i, by omega, by omega, by simp [ffst, hp], hp⟩
    · rw [show ffst p (n + 1) i = ffst p n (i + 1) from by simp [ffst, hp]] at h ⊢
      obtain ⟨j, h1, h2, h3, h4⟩ := ih (i + 1) (by omega) h
      exact ⟨j, by omega, by omega, h3, h4⟩
theorem ffst_ir0 {p : Nat → Bool} {n : Nat} (hn : n < 2 ^ 31) (h : ¬ ffst p n 0 = -1) : ¬ ffst p n 0 < 0 ∧ tN (ffst p n 0) < n := by
  obtain ⟨j, -, h2, h3, -⟩ := ffst_ir p n 0 (by omega) h
  rw [h3]
  exact ⟨nI_pos (by omega), by show (nI j).toNatClampNeg < n; rw [nI_clamp (by omega)]; omega⟩
theorem ir_fpg {X : gS} (h : ¬ xFpg X = -1) : ¬ xFpg X < 0 ∧ tN (xFpg X) < 20 := ffst_ir0 (by decide) h
theorem ir_get {X : gS} {d : Int32} (h : ¬ xGet X d = -1) : ¬ xGet X d < 0 ∧ tN (xGet X d) < 20 := by
  unfold xGet at h ⊢
  split at h
  · exact absurd rfl h
  · next hc => rw [if_neg hc]; exact ir_fpg h
theorem ir_fe {X : gS} {a : Nat} (h : ¬ xFe X a = -1) : ¬ xFe X a < 0 ∧ tN (xFe X a) < 6 := ffst_ir0 (by decide) h
theorem ir_fh {X : gS} {a : Nat} (h : ¬ xFh X a = -1) : ¬ xFh X a < 0 ∧ tN (xFh X a) < 5 := ffst_ir0 (by decide) h
theorem ir_fq {X : gS} {a : Nat} (h : ¬ xFq X a = -1) : ¬ xFq X a < 0 ∧ tN (xFq X a) < 4 := ffst_ir0 (by decide) h
theorem ir_abs {X : gS} (h : ¬ xAbs X = -1) : ¬ xAbs X < 0 ∧ tN (xAbs X) < 3 := ffst_ir0 (by decide) h
theorem ir_acc {X : gS} {d p w : Int32} {b : Bool} (h : xAcc X d p w b = 0) : (¬ p < 0 ∧ tN p < 20) ∧ ¬ w < 0 ∧ tN w < 8 := by
  unfold xAcc at h
  split at h
  · split at h
    · next h2 =>
      simp only [Bool.and_eq_true, decide_eq_true_eq] at h2
      exact ⟨ir_pag h2.1.1, ge0 h2.1.2, tN_lt2 (k := 8) (by decide) h2.2⟩
    · exact absurd h (by decide)
  · exact absurd h (by decide)
def hOk (X : gS) (a : Nat) : Prop := ∀ h, h < 5 → decide (X 7 a h = -1) = false → ¬ X 7 a h < 0 ∧ tN (X 7 a h) < 5 ∧ ¬ X 8 a h < 0 ∧ tN (X 8 a h) < 6
def tkF (X : gS) (a h : Nat) : Prop := ¬ X 7 a h < 0 ∧ tN (X 7 a h) < 5 ∧ ¬ X 8 a h < 0 ∧ tN (X 8 a h) < 6 ∧ ¬ xTk1 X a h (tN (X 7 a h)) (tN (X 8 a h)) 5 (tN (X 7 a h)) (tN (X 8 a h)) < 0 ∧ tN (xTk1 X a h (tN (X 7 a h)) (tN (X 8 a h)) 5 (tN (X 7 a h)) (tN (X 8 a h))) < 20
def tkOk (a h : Nat) (Y : gS) : Prop := decide (Y 7 a h = -1) = false → tkF Y a h
def pqF (X : gS) (a k : Nat) : Prop := ¬ X 11 a k < 0 ∧ tN (X 11 a k) < 5 ∧ ¬ X 12 a k < 0 ∧ tN (X 12 a k) < 4
def pqOk (a k : Nat) (Y : gS) : Prop := Y 10 a k = 2 → pqF Y a k
def lpOk (f : Nat → gS → gS) (ok : Nat → gS → Prop) : Nat → Nat → gS → Prop
  | 0, _, _ => True
  | n + 1, i, Y => ok i Y ∧ lpOk f ok n (i + 1) (f i Y)
theorem gup_k {X : gS} {kd kd' a b a' b' : Nat} {v : Int32} (h : ¬ kd' = kd) : gup X kd a b v kd' a' b' = X kd' a' b' := if_neg fun q => h q.1
theorem gup_s {X : gS} {kd a b : Nat} {v : Int32} : gup X kd a b v kd a b = v := if_pos ⟨rfl, rfl, rfl⟩
theorem eSet_k {X : gS} {kd a i a' b' : Nat} {t k p : Int32} (h3 : ¬ kd = 3) (h4 : ¬ kd = 4) (h5 : ¬ kd = 5) : eSet X a i t k p kd a' b' = X kd a' b' := by rw [eSet, gup_k h5, gup_k h4, gup_k h3]
theorem eClr_k {X : gS} {kd a i a' b' : Nat} (h3 : ¬ kd = 3) (h4 : ¬ kd = 4) (h5 : ¬ kd = 5) : eClr X a i kd a' b' = X kd a' b' := eSet_k h3 h4 h5
theorem hSet_k {X : gS} {kd a i a' b' : Nat} {t k p : Int32} (h3 : ¬ kd = 7) (h4 : ¬ kd = 8) (h5 : ¬ kd = 9) : hSet X a i t k p kd a' b' = X kd a' b' := by rw [hSet, gup_k h5, gup_k h4, gup_k h3]
theorem hClr_k {X : gS} {kd a i a' b' : Nat} (h3 : ¬ kd = 7) (h4 : ¬ kd = 8) (h5 : ¬ kd = 9) : hClr X a i kd a' b' = X kd a' b' := hSet_k h3 h4 h5
theorem qSet_k {X : gS} {kd a i a' b' : Nat} {t k p : Int32} (h2 : ¬ kd = 10) (h3 : ¬ kd = 11) (h4 : ¬ kd = 12) (h5 : ¬ kd = 13) : qSet X a i t k p kd a' b' = X kd a' b' := by rw [qSet, gup_k h5, gup_k h4, gup_k h3, gup_k h2]
theorem qCls_k {X : gS} {kd a i a' b' : Nat} (h2 : ¬ kd = 10) (h3 : ¬ kd = 11) (h4 : ¬ kd = 12) (h5 : ¬ kd = 13) : qCls X a i kd a' b' = X kd a' b' := qSet_k h2 h3 h4 h5
theorem nI_div6 {e : Nat} (h : e < 30) : nI e / 6 = nI (e / 6) := by
  have : ∀ e, e < 30 → nI e / 6 = nI (e / 6) := by decide +kernel
  exact this e h
theorem live_nI {M : gS} {x : Int32} (h : mLive M x = true) : ∃ a, a < 5 ∧ x = nI a := by
  simp only [mLive, Bool.and_eq_true, decide_eq_true_eq] at h
  refine ⟨tN x, tN_le2 (k := 4) (by decide) h.1.2, ?_⟩
  have h0 := Int32.le_iff_toInt_le.mp h.1.1
  have h4 := Int32.le_iff_toInt_le.mp h.1.2
  apply Int32.toInt_inj.mp
  have e : (x.toInt.toNat : Int) = x.toInt := Int.toNat_of_nonneg h0
  rw [nI_toInt (by rw [tN_def]; have : x.toInt ≤ 4 := h4; omega), tN_def, e]
theorem ir_mowns {M : gS} {x z : Int32} (h : mOwns M x z = true) : ¬ z < 0 ∧ tN z < 20 := by
  simp only [mOwns, Bool.and_eq_true, decide_eq_true_eq] at h
  exact ⟨ge0 h.1.1, tN_le2 (k := 19) (by decide) h.1.2⟩
theorem nI_add1 (a : Nat) : nI a + 1 = nI (a + 1) := (nI_succ a).symm
theorem nI_tN {z : Int32} (h : ¬ z < 0) : z = nI (tN z) := by
  rw [Int32.lt_iff_toInt_lt] at h
  have h0 : 0 ≤ z.toInt := by have : ¬ z.toInt < 0 := h; omega
  have h1 := z.toInt_lt
  apply Int32.toInt_inj.mp
  have e : (z.toInt.toNat : Int) = z.toInt := Int.toNat_of_nonneg h0
  rw [nI_toInt (by rw [tN_def]; omega), tN_def, e]
theorem nJ_of {z : Int32} {k : Nat} (hk : 0 < k ∧ k < 2 ^ 31) (h0 : ¬ z < 0) (h : ¬ nI k < z) : ∃ a, a < k + 1 ∧ z = nI a := ⟨tN z, tN_le hk h, nI_tN h0⟩
theorem le_nlt {x y : Int32} (h : x ≤ y) : ¬ y < x := by
  rw [Int32.lt_iff_toInt_lt]
  rw [Int32.le_iff_toInt_le] at h
  omega
theorem owns_nI {M : gS} {x z : Int32} (h : mOwns M x z = true) : ∃ a, a < 20 ∧ z = nI a := ⟨tN z, (ir_mowns h).2, nI_tN (ir_mowns h).1⟩
theorem ffst_nn {p : Nat → Bool} {n : Nat} (hn : n < 2 ^ 31) (h : ¬ ffst p n 0 < 0) : ∃ j, j < n ∧ ffst p n 0 = nI j := by
  obtain ⟨j, -, h2, h3, -⟩ := ffst_ir p n 0 (by omega) (fun q => h (by rw [q]; decide))
  exact ⟨j, by omega, h3⟩
theorem ir_mFpg {M : gS} (h : ¬ mFpg M < 0) : ∃ j, j < 20 ∧ mFpg M = nI j := ffst_nn (by decide) h
theorem ir_mFe {M : gS} {a : Nat} (h : ¬ mFe M a < 0) : ∃ j, j < 6 ∧ mFe M a = nI j := ffst_nn (by decide) h
theorem ir_mFh {M : gS} {a : Nat} (h : ¬ mFh M a < 0) : ∃ j, j < 5 ∧ mFh M a = nI j := ffst_nn (by decide) h
theorem ir_mFq {M : gS} {a : Nat} (h : ¬ mFq M a < 0) : ∃ j, j < 4 ∧ mFq M a = nI j := ffst_nn (by decide) h
theorem ir_mEnt {M : gS} {a : Nat} {r : Int32} (h : ¬ mEnt M a r < 0) : ∃ j, j < 6 * a + 6 ∧ mEnt M a r = nI j := by
  unfold mEnt at h ⊢
  split at h
  · exact absurd (by decide) h
  · next hc =>
    rw [if_neg hc]
    have h2 := tN_le (z := r) (k := 5) (by decide) (fun q => hc (Or.inr (Or.inl q)))
    exact ⟨6 * a + tN r, by omega, rfl⟩
theorem i32_a {x y : Int32} (h : x ≤ y) : ¬ y < x := by
  rw [Int32.lt_iff_toInt_lt]
  rw [Int32.le_iff_toInt_le] at h
  omega
theorem i32_b {x y : Int32} (h : ¬ x ≤ y) : y < x := by
  rw [Int32.lt_iff_toInt_lt]
  rw [Int32.le_iff_toInt_le] at h
  omega
theorem i32_c {x y : Int32} (h : x < y) : ¬ y ≤ x := by
  rw [Int32.le_iff_toInt_le]
  rw [Int32.lt_iff_toInt_lt] at h
  omega
theorem i32_d {x y : Int32} (h : ¬ x < y) : y ≤ x := by
  rw [Int32.le_iff_toInt_le]
  rw [Int32.lt_iff_toInt_lt] at h
  omega
theorem i64_a {x y : Int64} (h : x ≤ y) : ¬ y < x := by
  rw [Int64.lt_iff_toInt_lt]
  rw [Int64.le_iff_toInt_le] at h
  omega
theorem i64_b {x y : Int64} (h : ¬ x ≤ y) : y < x := by
  rw [Int64.lt_iff_toInt_lt]
  rw [Int64.le_iff_toInt_le] at h
  omega
theorem i64_c {x y : Int64} (h : x < y) : ¬ y ≤ x := by
  rw [Int64.le_iff_toInt_le]
  rw [Int64.lt_iff_toInt_lt] at h
  omega
theorem i64_d {x y : Int64} (h : ¬ x < y) : y ≤ x := by
  rw [Int64.le_iff_toInt_le]
  rw [Int64.lt_iff_toInt_lt] at h
  omega
theorem bI_fit (c : Bool) : fits .boolean (.int (bI c)) = true := by cases c <;> rfl
def mtF (Z : gS) (h : Nat) : Prop := Z 56 h 0 = nI (mE Z h + 1) ∧ mE Z h < 30 ∧ ¬ Z 55 (mE Z h) 0 < 0 ∧ tN (Z 55 (mE Z h) 0) < 20
def mtOk (h : Nat) (Z : gS) : Prop := ¬ Z 56 h 0 ≤ 0 → mtF Z h
def mpOk (k : Nat) (Z : gS) : Prop := Z 58 k 0 = 2 → ¬ Z 59 k 0 < 0 ∧ tN (Z 59 k 0) < 20
def hOkM (M : gS) (a : Nat) : Prop := ∀ h, h < 5 * a + 5 → ¬ M 56 h 0 ≤ 0 → M 56 h 0 = nI (mE M h + 1) ∧ mE M h < 30
theorem mE_eq {M : gS} {h : Nat} (hm : M 56 h 0 = nI (mE M h + 1)) : M 56 h 0 - 1 = nI (mE M h) := by
  have e : nI (mE M h + 1) - 1 = nI (mE M h) := nI_pred _
  rw [← hm] at e
  exact e
def coF (X : gS) (A : Int32 × gS) (v : Nat) (q : Int32) (w : Bool) : Prop := ¬ X 16 v 0 < 0 ∧ tN (X 16 v 0) < 5 ∧ tN A.1 < 5 ∧ ¬ A.2 7 (tN (X 16 v 0)) (tN A.1) < 0 ∧ tN (A.2 7 (tN (X 16 v 0)) (tN A.1)) < 5 ∧ ¬ A.2 8 (tN (X 16 v 0)) (tN A.1) < 0 ∧ tN (A.2 8 (tN (X 16 v 0)) (tN A.1)) < 6 ∧ ¬ xPgO A.2 (tN (X 16 v 0)) (tN A.1) < 0 ∧ tN (xPgO A.2 (tN (X 16 v 0)) (tN A.1)) < 20 ∧
  (xLive (xCo1 X A.2 v q (X 16 v 0) A.1 w) (X 16 v 0) = true → xHasH (xCo1 X A.2 v q (X 16 v 0) A.1 w) (tN (X 16 v 0)) A.1 = true → tkF (xCo1 X A.2 v q (X 16 v 0) A.1 w) (tN (X 16 v 0)) (tN A.1))
def dvF (X : gS) (v : Nat) : Prop := ¬ X 16 v 0 < 0 ∧ tN (X 16 v 0) < 5 ∧ ¬ X 19 v 0 < 0 ∧ tN (X 19 v 0) < 5 ∧ (X 7 (tN (X 16 v 0)) (tN (X 19 v 0)) = X 15 v 0 → X 8 (tN (X 16 v 0)) (tN (X 19 v 0)) = X 18 v 0 → ¬ X 7 (tN (X 16 v 0)) (tN (X 19 v 0)) < 0 ∧ tN (X 7 (tN (X 16 v 0)) (tN (X 19 v 0))) < 5 ∧ ¬ X 8 (tN (X 16 v 0)) (tN (X 19 v 0)) < 0 ∧ tN (X 8 (tN (X 16 v 0)) (tN (X 19 v 0))) < 6)
theorem ir_dc {X : gS} {v : Int32} (h : xDc X v = 0) : ¬ v < 0 ∧ tN v < 3 := by
  unfold xDc at h
  split at h
  · next hp => exact ir_pres hp
  · exact absurd h (by decide)
theorem and7_ir (q : Int32) : ¬ q &&& 7 < 0 ∧ tN (q &&& 7) < 8 := by
  obtain ⟨j, hj, e⟩ := pk_andE q (m := 7) 3 (by decide)
  rw [e]
  exact ⟨nI_pos (by omega), by show (nI j).toNatClampNeg < 8; rw [nI_clamp (by omega)]; omega⟩
theorem rem3_nI {n : Nat} (h : n < 2 ^ 31) : rem3 (nI n) = nI (n % 3) := pk_rem (d := 3) h (by decide) (by decide)
theorem rem3_ir {x : Int32} (h : ¬ x < 0) : ¬ rem3 x < 0 ∧ tN (rem3 x) < 3 ∧ ¬ 2 + rem3 x < 0 ∧ tN (2 + rem3 x) < 8 ∧ ¬ 5 + rem3 x < 0 ∧ tN (5 + rem3 x) < 8 := by
  have hx := nI_tN h
  have hlt : tN x < 2 ^ 31 := by rw [tN_def]; have := x.toInt_lt; omega
  rw [hx, rem3_nI hlt]
  have e2 : 2 + nI (tN x % 3) = nI (2 + tN x % 3) := nJ_add 2 _
  have e5 : 5 + nI (tN x % 3) = nI (5 + tN x % 3) := nJ_add 5 _
  rw [e2, e5]
  refine ⟨nI_pos (by omega), ?_, nI_pos (by omega), ?_, nI_pos (by omega), ?_⟩
  all_goals (show (nI _).toNatClampNeg < _; rw [nI_clamp (by omega)]; omega)
theorem sw7 {w : Int32} (h0 : ¬ w = 0) (h1 : ¬ w = 1) (h2 : ¬ w = 2) (h3 : ¬ w = 3) (h4 : ¬ w = 4) (h5 : ¬ w = 5) (h6 : ¬ w = 6) : w.toInt < 0 ∨ 6 < w.toInt := by
  rw [← Int32.toInt_inj] at h0 h1 h2 h3 h4 h5 h6
  have e0 : (0 : Int32).toInt = 0 := by decide
  have e1 : (1 : Int32).toInt = 1 := by decide
  have e2 : (2 : Int32).toInt = 2 := by decide
  have e3 : (3 : Int32).toInt = 3 := by decide
  have e4 : (4 : Int32).toInt = 4 := by decide
  have e5 : (5 : Int32).toInt = 5 := by decide
  have e6 : (6 : Int32).toInt = 6 := by decide
  rw [e0] at h0; rw [e1] at h1; rw [e2] at h2; rw [e3] at h3; rw [e4] at h4; rw [e5] at h5; rw [e6] at h6
  omega
theorem has_nf {X : gS} {a : Nat} {h : Int32} (q : xHasH X a h = true) : decide (X 7 a (tN h) = -1) = false := by
  simp only [xHasH, Bool.and_eq_true] at q
  simpa using q.2
end
section
theorem lpS_k {f : Nat → gS → gS} {kd : Nat} (hf : ∀ i Y a b, f i Y kd a b = Y kd a b) : ∀ (n i : Nat) (X : gS) (a b : Nat), lpS f n i X kd a b = X kd a b := by
  intro n
  induction n with
  | zero => intro i X a b; rfl
  | succ n ih =>
    intro i X a b
    show lpS f n (i + 1) (f i X) kd a b = _
    rw [ih, hf]
theorem xWipe_k {X : gS} {p kd a b : Nat} (h : ¬ kd = 2) : xWipe X p kd a b = X kd a b := lpS_k (fun i Y a b => gup_k h) _ _ _ _ _
theorem vBeg_k {X : gS} {v kd a b : Nat} {x y : Int32} (h0 : ¬ kd = 14) (h1 : ¬ kd = 15) (h2 : ¬ kd = 16) (h3 : ¬ kd = 22) (h4 : ¬ kd = 23) (h5 : ¬ kd = 24) (h6 : ¬ kd = 27) : vBeg X v x y kd a b = X kd a b := by
  unfold vBeg
  rw [lpS_k (fun i Y a b => gup_k h6), gup_k h5, gup_k h4, gup_k h3, gup_k h2, gup_k h1, gup_k h0]
theorem xAlloc_k {X : gS} {kd a b : Nat} {d : Int32} (h1 : ¬ kd = 1) (h2 : ¬ kd = 2) : (xAlloc X d).2 kd a b = X kd a b := by
  unfold xAlloc
  split
  · split
    · rfl
    · exact (xWipe_k h2).trans (gup_k h1)
  · rfl
theorem xGrant_k {X : gS} {kd a b : Nat} {d t p k : Int32} (h1 : ¬ kd = 3) (h2 : ¬ kd = 4) (h3 : ¬ kd = 5) : (xGrant X d t p k).2 kd a b = X kd a b := by
  unfold xGrant
  repeat' split
  all_goals first | rfl | exact eSet_k h1 h2 h3
theorem xMap_k {X : gS} {kd a b : Nat} {d f r : Int32} {w : Bool} (h1 : ¬ kd = 6) (h2 : ¬ kd = 7) (h3 : ¬ kd = 8) (h4 : ¬ kd = 9) : (xMap X d f r w).2 kd a b = X kd a b := by
  unfold xMap xMap1
  repeat' split
  all_goals first | rfl | exact (gup_k h1).trans (hSet_k h2 h3 h4)
theorem xOpen_k {X : gS} {kd a b : Nat} {d t : Int32} (h1 : ¬ kd = 10) (h2 : ¬ kd = 11) (h3 : ¬ kd = 12) (h4 : ¬ kd = 13) : (xOpen X d t).2 kd a b = X kd a b := by
  unfold xOpen
  repeat' split
  all_goals first | rfl | exact qSet_k h1 h2 h3 h4
theorem xBind_k {X : gS} {kd a b : Nat} {d t k : Int32} (h1 : ¬ kd = 10) (h2 : ¬ kd = 11) (h3 : ¬ kd = 12) (h4 : ¬ kd = 13) : (xBind X d t k).2 kd a b = X kd a b := by
  unfold xBind
  repeat' split
  all_goals first | rfl | exact (qSet_k h1 h2 h3 h4).trans (qSet_k h1 h2 h3 h4)
theorem xSend_k {X : gS} {kd a b : Nat} {d k : Int32} (h : ¬ kd = 13) : (xSend X d k).2 kd a b = X kd a b := by
  unfold xSend
  repeat' split
  all_goals first | rfl | exact gup_k h
theorem xStore_k {X : gS} {kd a b : Nat} {d p w v : Int32} (h : ¬ kd = 2) : (xStore X d p w v).2 kd a b = X kd a b := by
  unfold xStore
  repeat' split
  all_goals first | rfl | exact gup_k h
theorem xEnd_k {X : gS} {kd a b : Nat} {d r : Int32} (h1 : ¬ kd = 3) (h2 : ¬ kd = 4) (h3 : ¬ kd = 5) : (xEnd X d r).2 kd a b = X kd a b := by
  unfold xEnd
  repeat' split
  all_goals first | rfl | exact eClr_k h1 h2 h3
theorem xFree_k {X : gS} {kd a b : Nat} {d p : Int32} (h : ¬ kd = 1) : (xFree X d p).2 kd a b = X kd a b := by
  unfold xFree
  repeat' split
  all_goals first | rfl | exact gup_k h
theorem xBury_k {X : gS} {kd a b : Nat} {d : Int32} (h : ¬ kd = 0) : xBury X d kd a b = X kd a b := by
  unfold xBury
  split
  · exact gup_k h
  · rfl
theorem xRel_k {X : gS} {kd f e a b : Nat} {d : Int32} (h0 : ¬ kd = 0) (h1 : ¬ kd = 1) (h3 : ¬ kd = 3) (h4 : ¬ kd = 4) (h5 : ¬ kd = 5) : xRel X d f e kd a b = X kd a b := by
  unfold xRel xRel0
  rw [xBury_k h0]
  split
  · exact eClr_k h3 h4 h5
  · rw [gup_k h1]; exact eClr_k h3 h4 h5
theorem xTk_k {X : gS} {kd q h a b : Nat} (h0 : ¬ kd = 0) (h1 : ¬ kd = 1) (h3 : ¬ kd = 3) (h4 : ¬ kd = 4) (h5 : ¬ kd = 5) (h6 : ¬ kd = 6) (h7 : ¬ kd = 7) (h8 : ¬ kd = 8) (h9 : ¬ kd = 9) : xTk X q h kd a b = X kd a b := by
  unfold xTk xTk2 xTk1
  split
  · rw [xRel_k h0 h1 h3 h4 h5, gup_k h6, hClr_k h7 h8 h9]
  · rw [gup_k h6, hClr_k h7 h8 h9]
theorem xUnmap_k {X : gS} {kd a b : Nat} {d h : Int32} (h0 : ¬ kd = 0) (h1 : ¬ kd = 1) (h3 : ¬ kd = 3) (h4 : ¬ kd = 4) (h5 : ¬ kd = 5) (h6 : ¬ kd = 6) (h7 : ¬ kd = 7) (h8 : ¬ kd = 8) (h9 : ¬ kd = 9) : (xUnmap X d h).2 kd a b = X kd a b := by
  unfold xUnmap
  repeat' split
  all_goals first | rfl | exact xTk_k h0 h1 h3 h4 h5 h6 h7 h8 h9
theorem mWipe_k {M : gS} {p kd a b : Nat} (h : ¬ kd = 52) : mWipe M p kd a b = M kd a b := lpS_k (fun i Y a b => gup_k h) _ _ _ _ _
theorem mAlloc_k {M : gS} {kd a b : Nat} {x : Int32} (h1 : ¬ kd = 51) (h2 : ¬ kd = 52) : (mAlloc M x).2 kd a b = M kd a b := by
  unfold mAlloc
  repeat' split
  all_goals first | rfl | exact (mWipe_k h2).trans (gup_k h1)
theorem mGrant_k {M : gS} {kd a b : Nat} {x t p k : Int32} (h1 : ¬ kd = 53) (h2 : ¬ kd = 54) (h3 : ¬ kd = 55) : (mGrant M x t p k).2 kd a b = M kd a b := by
  unfold mGrant mGr1
  repeat' split
  all_goals first | rfl | (show gup _ 55 _ _ _ kd a b = _; rw [gup_k h3, gup_k h2, gup_k h1])
theorem mMap_k {M : gS} {kd a b : Nat} {x f r : Int32} {w : Bool} (h1 : ¬ kd = 56) (h2 : ¬ kd = 57) : (mMap M x f r w).2 kd a b = M kd a b := by
  unfold mMap mMp1
  repeat' split
  all_goals first | rfl | (show gup _ 57 _ _ _ kd a b = _; rw [gup_k h2, gup_k h1])
theorem mOpen_k {M : gS} {kd a b : Nat} {x t : Int32} (h1 : ¬ kd = 58) (h2 : ¬ kd = 59) : (mOpen M x t).2 kd a b = M kd a b := by
  unfold mOpen
  repeat' split
  all_goals first | rfl | (show gup _ 59 _ _ _ kd a b = _; rw [gup_k h2, gup_k h1])
theorem mBind_k {M : gS} {kd a b : Nat} {x t k : Int32} (h1 : ¬ kd = 58) (h2 : ¬ kd = 59) : (mBind M x t k).2 kd a b = M kd a b := by
  unfold mBind mBd1
  repeat' split
  all_goals first | rfl | (show gup _ 59 _ _ _ kd a b = _; rw [gup_k h2, gup_k h1, gup_k h2, gup_k h1])
theorem mSend_k {M : gS} {kd a b : Nat} {x k : Int32} (h : ¬ kd = 60) : (mSend M x k).2 kd a b = M kd a b := by
  unfold mSend
  repeat' split
  all_goals first | rfl | exact gup_k h
theorem mEnd_k {M : gS} {kd a b : Nat} {x r : Int32} (h : ¬ kd = 53) : (mEnd M x r).2 kd a b = M kd a b := by
  unfold mEnd
  repeat' split
  all_goals first | rfl | exact gup_k h
theorem mFree_k {M : gS} {kd a b : Nat} {x p : Int32} (h : ¬ kd = 51) : (mFree M x p).2 kd a b = M kd a b := by
  unfold mFree
  repeat' split
  all_goals first | rfl | exact gup_k h
theorem mTk_k {M : gS} {kd h e a b : Nat} (h0 : ¬ kd = 50) (h1 : ¬ kd = 51) (h3 : ¬ kd = 53) (h6 : ¬ kd = 56) : mTk M h e kd a b = M kd a b := by
  unfold mTk mTk2 mTk3 mTk0
  repeat' split
  all_goals first | exact gup_k h6 | (rw [gup_k h0]; first | (rw [gup_k h1]; exact (gup_k h3).trans (gup_k h6)) | exact (gup_k h3).trans (gup_k h6)) | (rw [gup_k h1]; exact (gup_k h3).trans (gup_k h6)) | exact (gup_k h3).trans (gup_k h6)
theorem xCo1_k {X Y : gS} {v kd a c : Nat} {q b h : Int32} {w : Bool} (h2 : ¬ kd = 2) (h27 : ¬ kd = 27) : xCo1 X Y v q b h w kd a c = Y kd a c := by
  unfold xCo1
  split
  · exact gup_k h2
  · exact gup_k h27
theorem xCo_k {X : gS} {v kd a b : Nat} {q : Int32} {w : Bool} (h0 : ¬ kd = 0) (h1 : ¬ kd = 1) (h2 : ¬ kd = 2) (h3 : ¬ kd = 3) (h4 : ¬ kd = 4) (h5 : ¬ kd = 5) (h6 : ¬ kd = 6) (h7 : ¬ kd = 7) (h8 : ¬ kd = 8) (h9 : ¬ kd = 9) (h27 : ¬ kd = 27) : (xCo X v q w).2 kd a b = X kd a b := by
  unfold xCo xCo2 xCom
  split
  · exact xMap_k h6 h7 h8 h9
  · show (xUnmap _ _ _).2 kd a b = _
    rw [xUnmap_k h0 h1 h3 h4 h5 h6 h7 h8 h9, xCo1_k h2 h27, xMap_k h6 h7 h8 h9]
def hOkA (X : gS) : Prop := ∀ a, a < 5 → hOk X a
def pqA (X : gS) : Prop := ∀ a, a < 5 → ∀ k, k < 4 → X 10 a k = 2 → pqF X a k
theorem hOk_k {X Y : gS} {a : Nat} (h7 : ∀ b, Y 7 a b = X 7 a b) (h8 : ∀ b, Y 8 a b = X 8 a b) (h : hOk X a) : hOk Y a := by
  intro q hq hf
  rw [h7] at hf
  rw [h7, h8]
  exact h q hq hf
theorem pqA_k {X Y : gS} (h10 : ∀ a b, Y 10 a b = X 10 a b) (h11 : ∀ a b, Y 11 a b = X 11 a b) (h12 : ∀ a b, Y 12 a b = X 12 a b) (h : pqA X) : pqA Y := by
  intro a ha k hk hs
  rw [h10] at hs
  have q := h a ha k hk hs
  unfold pqF at q ⊢
  rw [h11, h12]
  exact q
theorem sq_of {Y : gS} {x k : Int32} (h : pqA Y) : xLive Y x = true → xPrt k = true → Y 10 (tN x) (tN k) = 2 → pqF Y (tN x) (tN k) := fun h1 h2 h3 => h _ (ir_live h1).2 _ (ir_prt h2).2 h3
def mpA (M : gS) : Prop := ∀ k, k < 20 → mpOk k M
theorem mpA_k {M N : gS} (h58 : ∀ a, N 58 a 0 = M 58 a 0) (h59 : ∀ a, N 59 a 0 = M 59 a 0) (h : mpA M) : mpA N := by
  intro k hk hs
  rw [h58] at hs
  rw [h59]
  exact h k hk hs
def dvM (M : gS) (v : Nat) : Prop := M 61 v 0 = nI (mF M v + 1) ∧ mF M v < 5 ∧ M 62 v 0 = nI (mB M v) ∧ mB M v < 5 ∧ M 65 v 0 = nI (mG M v) ∧ mG M v < 5 ∧ M 64 v 0 = nI (mRe M v) ∧ mRe M v < 6 ∧ M 63 v 0 = nI (mRp M v) ∧ mRp M v < 20
theorem mF_eq {M : gS} {v : Nat} (h : M 61 v 0 = nI (mF M v + 1)) : M 61 v 0 - 1 = nI (mF M v) := by
  have e : nI (mF M v + 1) - 1 = nI (mF M v) := nI_pred _
  rw [← h] at e
  exact e
theorem ref_nn {M : gS} {x p w : Int32} {s : Bool} (h : mRef M x p w s = 0) : (∃ a, a < 20 ∧ p = nI a) ∧ ∃ b, b < 8 ∧ w = nI b := by
  unfold mRef at h
  split at h
  · split at h
    · exact absurd h (by decide)
    · next hc =>
      have c1 : ¬ p < 0 := fun q => hc (Or.inl q)
      have c2 : ¬ (nI 19 : Int32) < p := fun q => hc (Or.inr (Or.inl q))
      have c3 : ¬ w < 0 := fun q => hc (Or.inr (Or.inr (Or.inl q)))
      have c4 : ¬ (nI 7 : Int32) < w := fun q => hc (Or.inr (Or.inr (Or.inr q)))
      obtain ⟨a, ha, e⟩ := nJ_of (by decide) c1 c2
      obtain ⟨b, hb, e'⟩ := nJ_of (by decide) c3 c4
      exact ⟨⟨a, by omega, e⟩, b, by omega, e'⟩
  · exact absurd h (by decide)
theorem ref_0 {M : gS} {x p w : Int32} {s : Bool} (h : ¬ mRef M x p w s < 0) : mRef M x p w s = 0 := by
  unfold mRef at h ⊢
  split at h
  · next h1 =>
    rw [if_pos h1]
    split at h
    · exact absurd (by decide) h
    · next h2 =>
      rw [if_neg h2]
      split at h
      · next h3 => rw [if_pos h3]
      · exact absurd (by decide) h
  · exact absurd (by decide) h
theorem nI_nle3 {n k : Nat} (hn : n < 2 ^ 31) (h : ¬ nI k ≤ nI n) : n < k := Nat.not_le.mp fun q => h (nI_le q hn)
theorem fidx_le (p : Nat → Bool) : ∀ n i, fidx p n i ≤ i + n := by
  intro n
  induction n with
  | zero => intro i; exact Nat.le_refl _
  | succ n ih =>
    intro i
    unfold fidx
    split
    · omega
    · have := ih (i + 1); omega
theorem mAbs_le (M : gS) : mAbs M ≤ 3 := fidx_le _ 3 0
theorem tr_nn {M : gS} {x : Int32} (h : ¬ mTr M x < 0) : ∃ v, v < 3 ∧ x = nI v ∧ ¬ M 61 v 0 = 0 := by
  unfold mTr at h
  split at h
  · exact absurd (by decide) h
  · next hc =>
    have c1 : ¬ x < 0 := fun q => hc (Or.inl q)
    have c2 : ¬ (nI 2 : Int32) < x := fun q => hc (Or.inr (Or.inl q))
    obtain ⟨a, ha, rfl⟩ := nJ_of (by decide) c1 c2
    refine ⟨a, by omega, rfl, fun q => hc (Or.inr (Or.inr ?_))⟩
    rw [show tN (nI a) = a from nI_clamp (by omega)]
    exact q
theorem mAlloc_1 {M : gS} {x : Int32} (hl : mLive M x = true) (h1 : ¬ mFpg M < 0) (h2 : ¬ 6 ≤ mCnt M x) : (mAlloc M x).1 = mFpg M := by
  unfold mAlloc
  rw [if_pos hl, if_neg (fun q => q.elim h1 h2)]
theorem hOkM_k {M N : gS} {a : Nat} (h56 : ∀ h, N 56 h 0 = M 56 h 0) (h : hOkM M a) : hOkM N a := by
  intro q hq hp
  have e : mE N q = mE M q := by unfold mE; rw [h56]
  rw [h56] at hp ⊢
  rw [e]
  exact h q hq hp
def coMF (M : gS) (A : Int32 × gS) (v : Nat) (q : Int32) (w : Bool) : Prop := ¬ q >>> ((4 : Int32) &&& 31) < 0 ∧ tN (q >>> ((4 : Int32) &&& 31)) < 6 ∧ tN A.1 < 5 ∧ ¬ M 55 (6 * mF M v + tN (q >>> ((4 : Int32) &&& 31))) 0 < 0 ∧ tN (M 55 (6 * mF M v + tN (q >>> ((4 : Int32) &&& 31))) 0) < 20 ∧ mtF (mCo1 M A v q w) (5 * mB M v + tN A.1)
theorem nJ_add8 (a : Nat) : nI a + 8 = nI (a + 8) := nJ_add a 8
theorem mCo1_k {M : gS} {A : Int32 × gS} {v kd a b : Nat} {q : Int32} {w : Bool} (h1 : ¬ kd = 52) (h2 : ¬ kd = 73) : mCo1 M A v q w kd a b = A.2 kd a b := by
  unfold mCo1
  split
  · exact gup_k h1
  · exact gup_k h2
end
section
def gX0 : gS := fun kd _ _ => if kd = 1 ∨ kd = 3 ∨ kd = 5 ∨ kd = 7 ∨ kd = 8 ∨ kd = 11 ∨ kd = 12 ∨ (15 ≤ kd ∧ kd ≤ 21) then -1 else 0
def gM0 : gS := fun _ _ _ => 0
def gP0 : pm_H := [(0, [.null, .null, .null])]
def gP1 : pm_H := pm_cells gX0 gM0 sh_X
def gP2 : pm_H := gP1 ++ [(7, List.replicate 24 .null)]
theorem run_X : pm_run 2000 8 0 [.ref 1] gP0 = some (none, gP1) := by decide +kernel
theorem run_M : pm_run 2000 8 80 [.ref 152] gP2 = some (none, gE gX0 gM0) := by decide +kernel
theorem gP1_len : gP1.length = 151 := by decide +kernel
theorem gE_len (X M : gS) : (gE X M).length = 176 := by
  unfold gE pm_cells
  rw [List.length_map]
  decide +kernel
theorem cells_sl (X M : gS) (l : List (Nat × List pm_S)) : pm_sl (pm_cells X M l) = (l.map fun q => q.2.length).sum := by
  unfold pm_cells pm_sl
  rw [List.map_map]
  have e : ((fun q : Nat × List Value => q.2.length) ∘ fun q : Nat × List pm_S => (q.1, q.2.map (pm_val X M))) = fun q => q.2.length := by
    funext q
    simp
  rw [e]
theorem gE_sl (X M : gS) : pm_sl (gE X M) = (sh_T.map fun q => q.2.length).sum := cells_sl X M sh_T
theorem sh_sl : (sh_T.map fun q => q.2.length).sum ≤ 7130403 := by decide +kernel
end
section
theorem ffst_c {p q : Nat → Bool} : ∀ (n i j : Nat), (∀ k, k < n → p (i + k) = q (j + k)) → i = j → ffst p n i = ffst q n j := by
  intro n
  induction n with
  | zero => intro i j _ _; rfl
  | succ n ih =>
    intro i j h e
    subst e
    have h0 := h 0 (by omega)
    simp only [Nat.add_zero] at h0
    unfold ffst
    rw [h0, ih (i + 1) (i + 1) (fun k hk => by have := h (k + 1) (by omega); rw [show i + 1 + k = i + (k + 1) by omega]; exact this) rfl]
theorem anyb_c {p q : Nat → Bool} : ∀ (n i j : Nat), (∀ k, k < n → p (i + k) = q (j + k)) → anyb p n i = anyb q n j := by
  intro n
  induction n with
  | zero => intro i j _; rfl
  | succ n ih =>
    intro i j h
    have h0 := h 0 (by omega)
    simp only [Nat.add_zero] at h0
    unfold anyb
    rw [h0, ih (i + 1) (j + 1) (fun k hk => by have := h (k + 1) (by omega); rw [show i + 1 + k = i + (k + 1) by omega, show j + 1 + k = j + (k + 1) by omega]; exact this)]
theorem cntb_c {p q : Nat → Bool} : ∀ (n i j : Nat) (c : Int32), (∀ k, k < n → p (i + k) = q (j + k)) → cntb p n i c = cntb q n j c := by
  intro n
  induction n with
  | zero => intro i j c _; rfl
  | succ n ih =>
    intro i j c h
    have h0 := h 0 (by omega)
    simp only [Nat.add_zero] at h0
    unfold cntb
    rw [h0, ih (i + 1) (j + 1) _ (fun k hk => by have := h (k + 1) (by omega); rw [show i + 1 + k = i + (k + 1) by omega, show j + 1 + k = j + (k + 1) by omega]; exact this)]
theorem i_add1 {x y : Int32} : x + 1 = y + 1 ↔ x = y := by
  constructor
  · intro h
    have h2 : x + 1 - 1 = y + 1 - 1 := by rw [h]
    rwa [Int32.add_sub_cancel, Int32.add_sub_cancel] at h2
  · intro h; rw [h]
theorem i_m1 {x : Int32} : x + 1 = 0 ↔ x = -1 := by
  have e : (0 : Int32) = -1 + 1 := by decide
  rw [e]
  exact i_add1
theorem nI_inj {a b : Nat} (ha : a < 2 ^ 31) (hb : b < 2 ^ 31) (h : nI a = nI b) : a = b := by
  have h1 := congrArg Int32.toInt h
  rw [nI_toInt ha, nI_toInt hb] at h1
  omega
theorem nI_nm1 {a : Nat} (ha : a < 2 ^ 31) : ¬ nI a = -1 := by
  intro h
  have h1 := congrArg Int32.toInt h
  rw [nI_toInt ha] at h1
  have : (-1 : Int32).toInt = -1 := by decide
  omega
theorem tN_nI {a : Nat} (ha : a < 2 ^ 31) : tN (nI a) = a := nI_clamp ha
def rOwn (X M : gS) : Prop := ∀ p, p < 20 → M 51 p 0 = X 1 p 0 + 1 ∧ (X 1 p 0 = -1 ∨ ∃ a, a < 5 ∧ X 1 p 0 = nI a)
def rSta (X M : gS) : Prop := ∀ a, a < 5 → M 50 a 0 = X 0 a 0
def rWrd (X M : gS) : Prop := ∀ p, p < 20 → ∀ w, w < 8 → M 52 (8 * p + w) 0 = X 2 p w
def eRel (X M : gS) (a i : Nat) : Prop := (X 3 a i = -1 ∧ M 53 (6 * a + i) 0 = 0 ∧ X 5 a i = -1) ∨ (∃ t, t < 5 ∧ X 3 a i = nI t ∧ M 53 (6 * a + i) 0 = nI (t + 1) ∧ M 54 (6 * a + i) 0 = X 4 a i ∧ ((X 4 a i = 2 ∧ X 5 a i = -1) ∨ ((X 4 a i = 0 ∨ X 4 a i = 1) ∧ ∃ p, p < 20 ∧ X 5 a i = nI p ∧ M 55 (6 * a + i) 0 = nI p)))
def rEnt (X M : gS) : Prop := ∀ a, a < 5 → ∀ i, i < 6 → eRel X M a i
def rCnt (X M : gS) : Prop := ∀ a, a < 5 → ∀ i, i < 6 → X 6 a i = mMps M (6 * a + i)
def hRel (X M : gS) (a h : Nat) : Prop := (X 7 a h = -1 ∧ M 56 (5 * a + h) 0 = 0) ∨ (∃ f e, f < 5 ∧ e < 6 ∧ X 7 a h = nI f ∧ X 8 a h = nI e ∧ M 56 (5 * a + h) 0 = nI (6 * f + e + 1) ∧ M 57 (5 * a + h) 0 = X 9 a h ∧ ¬ X 3 f e = -1 ∧ ¬ X 4 f e = 2)
def rHnd (X M : gS) : Prop := ∀ a, a < 5 → ∀ h, h < 5 → hRel X M a h
def pRel (X M : gS) (a k : Nat) : Prop := M 58 (4 * a + k) 0 = X 10 a k ∧ M 60 (4 * a + k) 0 = X 13 a k ∧ (X 13 a k = 0 ∨ (X 13 a k = 1 ∧ X 10 a k = 2)) ∧ ((X 10 a k = 0) ∨ (X 10 a k = 1 ∧ M 59 (4 * a + k) 0 = X 11 a k) ∨ (X 10 a k = 2 ∧ ∃ b j, b < 5 ∧ j < 4 ∧ X 11 a k = nI b ∧ X 12 a k = nI j ∧ M 59 (4 * a + k) 0 = nI (4 * b + j) ∧ X 10 b j = 2 ∧ X 11 b j = nI a ∧ X 12 b j = nI k))
def rPrt (X M : gS) : Prop := ∀ a, a < 5 → ∀ k, k < 4 → pRel X M a k
def rNot (X M : gS) : Prop := ∀ v, v < 3 → ∀ s, s < 3 → M 71 (3 * v + s) 0 = X 25 v s ∧ M 72 (3 * v + s) 0 = X 26 v s
def dRel (X M : gS) (n v : Nat) : Prop := (X 14 v 0 = 0 ∧ M 61 v 0 = 0) ∨ (X 14 v 0 = 1 ∧ ∃ f b rp re rh po ra ta, f < 5 ∧ b < 5 ∧ ¬ f = b ∧ rp < 20 ∧ re < 6 ∧ rh < 5 ∧ ra ≤ po ∧ po ≤ ra + 3 ∧ po ≤ n ∧ ta ≤ n ∧ X 0 f 0 = 1 ∧ X 15 v 0 = nI f ∧ X 16 v 0 = nI b ∧ X 17 v 0 = nI rp ∧ X 18 v 0 = nI re ∧ X 19 v 0 = nI rh ∧ X 22 v 0 = nI po ∧ X 23 v 0 = nI ra ∧ X 24 v 0 = nI ta ∧ M 61 v 0 = nI (f + 1) ∧ M 62 v 0 = nI b ∧ M 63 v 0 = nI rp ∧ M 64 v 0 = nI re ∧ M 65 v 0 = nI rh ∧ M 66 v 0 = X 20 v 0 ∧ M 67 v 0 = X 21 v 0 ∧ M 68 v 0 = nI po ∧ M 69 v 0 = nI ra ∧ M 70 v 0 = nI ta ∧ ∀ s, s < 8 → M 73 (8 * v + s) 0 = X 27 v s)
def rDev (X M : gS) (n : Nat) : Prop := ∀ v, v < 3 → dRel X M n v
def Rl (X M : gS) (n : Nat) : Prop := rSta X M ∧ rOwn X M ∧ rWrd X M ∧ rEnt X M ∧ rCnt X M ∧ rHnd X M ∧ rPrt X M ∧ rNot X M ∧ rDev X M n
theorem l_dom {d : Int32} : xDom d = (decide (0 ≤ d) && decide (d ≤ 4)) := by
  unfold xDom
  congr 1
  apply decide_eq_decide.mpr
  rw [Int32.lt_iff_toInt_lt, Int32.le_iff_toInt_le]
  have e5 : (5 : Int32).toInt = 5 := by decide
  have e4 : (4 : Int32).toInt = 4 := by decide
  omega
theorem l_pag {d : Int32} : xPag d = (decide (0 ≤ d) && decide (d ≤ 19)) := by
  unfold xPag
  congr 1
  apply decide_eq_decide.mpr
  rw [Int32.lt_iff_toInt_lt, Int32.le_iff_toInt_le]
  have e5 : (20 : Int32).toInt = 20 := by decide
  have e4 : (19 : Int32).toInt = 19 := by decide
  omega
theorem l_live {X M : gS} (h : rSta X M) (d : Int32) : xLive X d = mLive M d := by
  unfold xLive mLive
  rw [← l_dom]
  cases hd : xDom d
  · rfl
  · rw [h _ (ir_dom hd).2]
theorem l_owns {X M : gS} (h : rOwn X M) (d p : Int32) : xOwns X d p = mOwns M d p := by
  unfold xOwns mOwns
  rw [← l_pag]
  cases hd : xPag p
  · rfl
  · rw [(h _ (ir_pag hd).2).1]
    simp only [Bool.true_and]
    exact decide_eq_decide.mpr i_add1.symm
theorem l_cnt {X M : gS} (h : rOwn X M) (d : Int32) : xCnt X d = mCnt M d := by
  refine cntb_c 20 0 0 0 fun k hk => ?_
  simp only [Nat.zero_add]
  rw [(h k hk).1]
  exact decide_eq_decide.mpr i_add1.symm
theorem l_fpg {X M : gS} (h : rOwn X M) : xFpg X = mFpg M := by
  refine ffst_c 20 0 0 (fun k hk => ?_) rfl
  simp only [Nat.zero_add]
  rw [(h k hk).1]
  exact decide_eq_decide.mpr i_m1.symm
theorem e_free {X M : gS} {a i : Nat} (h : eRel X M a i) : X 3 a i = -1 ↔ M 53 (6 * a + i) 0 = 0 := by
  rcases h with ⟨h1, h2, -⟩ | ⟨t, ht, h1, h2, -⟩
  · exact ⟨fun _ => h2, fun _ => h1⟩
  · rw [h1, h2]
    exact ⟨fun q => absurd q (nI_nm1 (by omega)), fun q => absurd q (nI_ne0 (by omega) (by omega))⟩
theorem l_fe {X M : gS} (h : rEnt X M) {a : Nat} (ha : a < 5) : xFe X a = mFe M a := by
  refine ffst_c 6 0 0 (fun k hk => ?_) rfl
  simp only [Nat.zero_add]
  exact decide_eq_decide.mpr (e_free (h a ha k hk))
theorem h_free {X M : gS} {a i : Nat} (h : hRel X M a i) : X 7 a i = -1 ↔ M 56 (5 * a + i) 0 = 0 := by
  rcases h with ⟨h1, h2⟩ | ⟨f, e, hf, he, h1, -, h2, -⟩
  · exact ⟨fun _ => h2, fun _ => h1⟩
  · rw [h1, h2]
    exact ⟨fun q => absurd q (nI_nm1 (by omega)), fun q => absurd q (nI_ne0 (by omega) (by omega))⟩
theorem l_fh {X M : gS} (h : rHnd X M) {a : Nat} (ha : a < 5) : xFh X a = mFh M a := by
  refine ffst_c 5 0 0 (fun k hk => ?_) rfl
  simp only [Nat.zero_add]
  exact decide_eq_decide.mpr (h_free (h a ha k hk))
theorem l_fq {X M : gS} (h : rPrt X M) {a : Nat} (ha : a < 5) : xFq X a = mFq M a := by
  refine ffst_c 4 0 0 (fun k hk => ?_) rfl
  simp only [Nat.zero_add]
  rw [(h a ha k hk).1]
theorem i32_small {a : Nat} (ha : a < 2 ^ 31) (h0 : 0 < a) : 0 < nI a := by
  rw [Int32.lt_iff_toInt_lt, nI_toInt ha]
  have : (0 : Int32).toInt = 0 := by decide
  omega
theorem l_ew {X M : gS} (h : rEnt X M) {a p : Nat} (ha : a < 5) (hp : p < 20) : xEW X a (nI p) = mHeld M a (nI p) false := by
  unfold xEW mHeld
  refine anyb_c 6 0 (6 * a) fun k hk => ?_
  simp only [Nat.zero_add, Bool.not_false, Bool.true_or, Bool.and_true]
  rcases h a ha k hk with ⟨h1, h2, h3⟩ | ⟨t, ht, h1, h2, h3, h4⟩
  · rw [h2, h3]
    have e : ¬ (-1 : Int32) = nI p := fun q => nI_nm1 (by omega) q.symm
    simp [e]
  · have g1 : (0 : Int32) < nI (t + 1) := i32_small (by omega) (by omega)
    rw [h2, h3]
    rcases h4 with ⟨g2, g3⟩ | ⟨g2, q, hq, g3, g4⟩
    · rw [g2, g3]
      have e : ¬ (-1 : Int32) = nI p := fun q => nI_nm1 (by omega) q.symm
      simp [e]
    · rw [g3, g4]
      have e : X 4 a k < 2 := by rcases g2 with g2 | g2 <;> rw [g2] <;> decide
      simp [g1, e]
theorem l_mew {X M : gS} (h : rEnt X M) (hc : rCnt X M) {a p : Nat} (ha : a < 5) (hp : p < 20) : xMEW X a (nI p) = mHeld M a (nI p) true := by
  unfold xMEW mHeld
  refine anyb_c 6 0 (6 * a) fun k hk => ?_
  simp only [Nat.zero_add, Bool.not_true, Bool.false_or]
  rw [hc a ha k hk]
  rcases h a ha k hk with ⟨h1, h2, h3⟩ | ⟨t, ht, h1, h2, h3, h4⟩
  · rw [h2, h3]
    have e : ¬ (-1 : Int32) = nI p := fun q => nI_nm1 (by omega) q.symm
    simp [e]
  · have g1 : (0 : Int32) < nI (t + 1) := i32_small (by omega) (by omega)
    rw [h2, h3]
    rcases h4 with ⟨g2, g3⟩ | ⟨g2, q, hq, g3, g4⟩
    · rw [g2, g3]
      have e : ¬ (-1 : Int32) = nI p := fun q => nI_nm1 (by omega) q.symm
      simp [e]
    · rw [g3, g4]
      have e : X 4 a k < 2 := by rcases g2 with g2 | g2 <;> rw [g2] <;> decide
      simp [g1, e]
end
section
theorem gup_r {X : gS} {kd a b a' b' : Nat} {v : Int32} : gup X kd a b v kd a' b' = if a' = a ∧ b' = b then v else X kd a' b' := by
  unfold gup
  simp
theorem gup_n {X : gS} {kd a b a' b' : Nat} {v : Int32} (h : ¬ (a' = a ∧ b' = b)) : gup X kd a b v kd a' b' = X kd a' b' := by rw [gup_r, if_neg h]
theorem rSta_k {X M X' M' : gS} (h0 : ∀ a b, X' 0 a b = X 0 a b) (h50 : ∀ a b, M' 50 a b = M 50 a b) (h : rSta X M) : rSta X' M' := fun a ha => by rw [h0, h50]; exact h a ha
theorem rOwn_k {X M X' M' : gS} (h1 : ∀ a b, X' 1 a b = X 1 a b) (h51 : ∀ a b, M' 51 a b = M 51 a b) (h : rOwn X M) : rOwn X' M' := fun p hp => by rw [h1, h51]; exact h p hp
theorem rWrd_k {X M X' M' : gS} (h2 : ∀ a b, X' 2 a b = X 2 a b) (h52 : ∀ a b, M' 52 a b = M 52 a b) (h : rWrd X M) : rWrd X' M' := fun p hp w hw => by rw [h2, h52]; exact h p hp w hw
theorem rEnt_k {X M X' M' : gS} (h3 : ∀ a b, X' 3 a b = X 3 a b) (h4 : ∀ a b, X' 4 a b = X 4 a b) (h5 : ∀ a b, X' 5 a b = X 5 a b) (h53 : ∀ a b, M' 53 a b = M 53 a b) (h54 : ∀ a b, M' 54 a b = M 54 a b) (h55 : ∀ a b, M' 55 a b = M 55 a b) (h : rEnt X M) : rEnt X' M' := fun a ha i hi => by
  unfold eRel
  rw [h3, h4, h5, h53, h54, h55]
  exact h a ha i hi
theorem mMps_k {M M' : gS} (h56 : ∀ a b, M' 56 a b = M 56 a b) (e : Nat) : mMps M' e = mMps M e := cntb_c 25 0 0 0 fun k hk => by simp only [Nat.zero_add, h56]
theorem rCnt_k {X M X' M' : gS} (h6 : ∀ a b, X' 6 a b = X 6 a b) (h56 : ∀ a b, M' 56 a b = M 56 a b) (h : rCnt X M) : rCnt X' M' := fun a ha i hi => by rw [h6, mMps_k h56]; exact h a ha i hi
theorem rHnd_k {X M X' M' : gS} (h3 : ∀ a b, X' 3 a b = X 3 a b) (h4 : ∀ a b, X' 4 a b = X 4 a b) (h7 : ∀ a b, X' 7 a b = X 7 a b) (h8 : ∀ a b, X' 8 a b = X 8 a b) (h9 : ∀ a b, X' 9 a b = X 9 a b) (h56 : ∀ a b, M' 56 a b = M 56 a b) (h57 : ∀ a b, M' 57 a b = M 57 a b) (h : rHnd X M) : rHnd X' M' := fun a ha i hi => by
  unfold hRel
  simp only [h3, h4, h7, h8, h9, h56, h57]
  exact h a ha i hi
theorem rPrt_k {X M X' M' : gS} (h10 : ∀ a b, X' 10 a b = X 10 a b) (h11 : ∀ a b, X' 11 a b = X 11 a b) (h12 : ∀ a b, X' 12 a b = X 12 a b) (h13 : ∀ a b, X' 13 a b = X 13 a b) (h58 : ∀ a b, M' 58 a b = M 58 a b) (h59 : ∀ a b, M' 59 a b = M 59 a b) (h60 : ∀ a b, M' 60 a b = M 60 a b) (h : rPrt X M) : rPrt X' M' := fun a ha i hi => by
  unfold pRel
  simp only [h10, h11, h12, h13, h58, h59, h60]
  exact h a ha i hi
theorem rNot_k {X M X' M' : gS} (h25 : ∀ a b, X' 25 a b = X 25 a b) (h26 : ∀ a b, X' 26 a b = X 26 a b) (h71 : ∀ a b, M' 71 a b = M 71 a b) (h72 : ∀ a b, M' 72 a b = M 72 a b) (h : rNot X M) : rNot X' M' := fun v hv s hs => by rw [h25, h26, h71, h72]; exact h v hv s hs
theorem rDev_k {X M X' M' : gS} {n : Nat} (h0 : ∀ f, f < 5 → X 0 f 0 = 1 → X' 0 f 0 = 1) (hx : ∀ kd, 14 ≤ kd → kd ≤ 27 → ¬ kd = 25 → ¬ kd = 26 → ∀ a b, X' kd a b = X kd a b) (hm : ∀ kd, 61 ≤ kd → kd ≤ 73 → ¬ kd = 71 → ¬ kd = 72 → ∀ a b, M' kd a b = M kd a b) (h : rDev X M n) : rDev X' M' (n + 1) := by
  intro v hv
  rcases h v hv with ⟨g1, g2⟩ | ⟨g1, f, b, rp, re, rh, po, ra, ta, c1, c2, c3, c4, c5, c6, c7, c8, c9, c10, c11, c12, c13, c14, c15, c16, c17, c18, c19, c20, c21, c22, c23, c24, c25, c26, c27, c28, c29, c30⟩
  · exact Or.inl ⟨by rw [hx 14 (by decide) (by decide) (by decide) (by decide)]; exact g1, by rw [hm 61 (by decide) (by decide) (by decide) (by decide)]; exact g2⟩
  · refine Or.inr ⟨by rw [hx 14 (by decide) (by decide) (by decide) (by decide)]; exact g1, f, b, rp, re, rh, po, ra, ta, c1, c2, c3, c4, c5, c6, c7, c8, by omega, by omega, h0 f c1 c11, ?_⟩
    rw [hx 15 (by decide) (by decide) (by decide) (by decide), hx 16 (by decide) (by decide) (by decide) (by decide), hx 17 (by decide) (by decide) (by decide) (by decide), hx 18 (by decide) (by decide) (by decide) (by decide), hx 19 (by decide) (by decide) (by decide) (by decide), hx 20 (by decide) (by decide) (by decide) (by decide), hx 21 (by decide) (by decide) (by decide) (by decide), hx 22 (by decide) (by decide) (by decide) (by decide), hx 23 (by decide) (by decide) (by decide) (by decide), hx 24 (by decide) (by decide) (by decide) (by decide), hm 61 (by decide) (by decide) (by decide) (by decide), hm 62 (by decide) (by decide) (by decide) (by decide), hm 63 (by decide) (by decide) (by decide) (by decide), hm 64 (by decide) (by decide) (by decide) (by decide), hm 65 (by decide) (by decide) (by decide) (by decide), hm 66 (by decide) (by decide) (by decide) (by decide), hm 67 (by decide) (by decide) (by decide) (by decide), hm 68 (by decide) (by decide) (by decide) (by decide), hm 69 (by decide) (by decide) (by decide) (by decide), hm 70 (by decide) (by decide) (by decide) (by decide)]
    refine ⟨c12, c13, c14, c15, c16, c17, c18, c19, c20, c21, c22, c23, c24, c25, c26, c27, c28, c29, fun s hs => ?_⟩
    rw [hm 73 (by decide) (by decide) (by decide) (by decide), hx 27 (by decide) (by decide) (by decide) (by decide)]
    exact c30 s hs
theorem Rl_next {X M : gS} {n : Nat} (h : Rl X M n) : Rl X M (n + 1) := ⟨h.1, h.2.1, h.2.2.1, h.2.2.2.1, h.2.2.2.2.1, h.2.2.2.2.2.1, h.2.2.2.2.2.2.1, h.2.2.2.2.2.2.2.1, rDev_k (fun _ _ q => q) (fun _ _ _ _ _ _ _ => rfl) (fun _ _ _ _ _ _ _ => rfl) h.2.2.2.2.2.2.2.2⟩
theorem fst_c {p q : Nat → Bool} {g g' : Nat → gS} {e : Int32} {X M : gS} : ∀ n i, (∀ k, k < n → p (i + k) = q (i + k)) → (fstS p g e X n i = (e, X) ∧ fstS q g' e M n i = (e, M)) ∨ ∃ k, i ≤ k ∧ k < i + n ∧ p k = true ∧ fstS p g e X n i = (nI k, g k) ∧ fstS q g' e M n i = (nI k, g' k) := by
  intro n
  induction n with
  | zero => intro i _; exact Or.inl ⟨rfl, rfl⟩
  | succ n ih =>
    intro i h
    have h0 := h 0 (by omega)
    simp only [Nat.add_zero] at h0
    unfold fstS
    rw [← h0]
    by_cases hp : p i = true
    · rw [if_pos hp, if_pos hp]
      exact Or.inr ⟨i, by omega, by omega, hp, rfl, rfl⟩
    · rw [if_neg hp, if_neg hp]
      rcases ih (i + 1) (fun k hk => by have := h (k + 1) (by omega); rw [show i + 1 + k = i + (k + 1) by omega]; exact this) with h1 | ⟨k, h1, h2, h3⟩
      · exact Or.inl h1
      · exact Or.inr ⟨k, by omega, by omega, h3⟩
theorem wipe_at {kd : Nat} {ix : Nat → Nat} {iy : Nat → Nat} : ∀ (n i : Nat) (X : gS) (a b : Nat), lpS (fun w Y => gup Y kd (ix w) (iy w) 0) n i X kd a b = 0 ∧ (∃ w, i ≤ w ∧ w < i + n ∧ a = ix w ∧ b = iy w) ∨ lpS (fun w Y => gup Y kd (ix w) (iy w) 0) n i X kd a b = X kd a b ∧ ¬ (∃ w, i ≤ w ∧ w < i + n ∧ a = ix w ∧ b = iy w) := by
  intro n
  induction n with
  | zero => intro i X a b; exact Or.inr ⟨rfl, fun ⟨w, h1, h2, _⟩ => by omega⟩
  | succ n ih =>
    intro i X a b
    show lpS _ n (i + 1) (gup X kd (ix i) (iy i) 0) kd a b = 0 ∧ _ ∨ lpS _ n (i + 1) (gup X kd (ix i) (iy i) 0) kd a b = _ ∧ _
    rcases ih (i + 1) (gup X kd (ix i) (iy i) 0) a b with ⟨h1, w, h2, h3, h4⟩ | ⟨h1, h2⟩
    · exact Or.inl ⟨h1, w, by omega, by omega, h4⟩
    · by_cases hc : a = ix i ∧ b = iy i
      · left
        refine ⟨?_, i, by omega, by omega, hc⟩
        rw [h1, gup_r, if_pos hc]
      · right
        refine ⟨by rw [h1, gup_n hc], fun ⟨w, g1, g2, g3⟩ => ?_⟩
        by_cases hw : w = i
        · subst hw; exact hc g3
        · exact h2 ⟨w, by omega, by omega, g3⟩
theorem xWipe_r {X : gS} {p a b : Nat} : (a = p ∧ b < 8 → xWipe X p 2 a b = 0) ∧ (¬ (a = p ∧ b < 8) → xWipe X p 2 a b = X 2 a b) := by
  rcases wipe_at (kd := 2) (ix := fun _ => p) (iy := fun w => w) 8 0 X a b with ⟨h1, w, h2, h3, h4, h5⟩ | ⟨h1, h2⟩
  · exact ⟨fun _ => h1, fun q => absurd ⟨h4, by omega⟩ q⟩
  · exact ⟨fun q => absurd ⟨b, by omega, by omega, q.1, rfl⟩ h2, fun _ => h1⟩
theorem mWipe_r {M : gS} {p a : Nat} : (8 * p ≤ a ∧ a < 8 * p + 8 → mWipe M p 52 a 0 = 0) ∧ (¬ (8 * p ≤ a ∧ a < 8 * p + 8) → mWipe M p 52 a 0 = M 52 a 0) := by
  rcases wipe_at (kd := 52) (ix := fun w => 8 * p + w) (iy := fun _ => 0) 8 0 M a 0 with ⟨h1, w, h2, h3, h4, h5⟩ | ⟨h1, h2⟩
  · exact ⟨fun _ => h1, fun q => absurd (by omega) q⟩
  · exact ⟨fun q => absurd ⟨a - 8 * p, by omega, by omega, by omega, rfl⟩ h2, fun _ => h1⟩
def cntN (p : Nat → Bool) : Nat → Nat → Nat
  | 0, _ => 0
  | n + 1, i => (if p i = true then 1 else 0) + cntN p n (i + 1)
theorem cntb_N (p : Nat → Bool) : ∀ (n i : Nat) (c : Int32), cntb p n i c = c + nI (cntN p n i) := by
  intro n
  induction n with
  | zero => intro i c; show c = c + nI 0; rw [nI_0, Int32.add_zero]
  | succ n ih =>
    intro i c
    unfold cntb cntN
    rw [ih]
    by_cases hp : p i = true
    · rw [if_pos hp, if_pos hp, ← nJ_add, Int32.add_assoc]
      rfl
    · rw [if_neg hp, if_neg hp, Nat.zero_add]
theorem cntN_le (p : Nat → Bool) : ∀ n i, cntN p n i ≤ n := by
  intro n
  induction n with
  | zero => intro i; exact Nat.le_refl _
  | succ n ih =>
    intro i
    unfold cntN
    have := ih (i + 1)
    split <;> omega
theorem cntN_0 (p : Nat → Bool) : ∀ n i, cntN p n i = 0 → ∀ k, i ≤ k → k < i + n → p k = false := by
  intro n
  induction n with
  | zero => intro i _ k h1 h2; omega
  | succ n ih =>
    intro i h k h1 h2
    unfold cntN at h
    by_cases hk : k = i
    · subst hk
      cases hp : p k
      · rfl
      · rw [hp] at h; simp at h
    · exact ih (i + 1) (by omega) k (by omega) (by omega)
theorem cntN_c {p q : Nat → Bool} : ∀ (n i : Nat), (∀ k, i ≤ k → k < i + n → p k = q k) → cntN p n i = cntN q n i := by
  intro n
  induction n with
  | zero => intro i _; rfl
  | succ n ih =>
    intro i h
    unfold cntN
    rw [h i (by omega) (by omega), ih (i + 1) (fun k h1 h2 => h k (by omega) (by omega))]
theorem cntN_up {p q : Nat → Bool} {j : Nat} : ∀ (n i : Nat), i ≤ j → j < i + n → (∀ k, ¬ k = j → p k = q k) → p j = false → q j = true → cntN q n i = cntN p n i + 1 := by
  intro n
  induction n with
  | zero => intro i h1 h2; omega
  | succ n ih =>
    intro i h1 h2 h3 h4 h5
    unfold cntN
    by_cases hij : i = j
    · subst hij
      rw [h4, h5, cntN_c n (i + 1) (fun k g1 g2 => h3 k (by omega))]
      simp
      omega
    · rw [h3 i hij, ih (i + 1) (by omega) (by omega) h3 h4 h5]
      omega
def mC (M : gS) (e : Nat) : Nat := cntN (fun h => decide (M 56 h 0 = nI (e + 1))) 25 0
theorem mMps_N (M : gS) (e : Nat) : mMps M e = nI (mC M e) := by
  unfold mMps mC
  rw [cntb_N]
  exact Int32.zero_add _
theorem mC_le (M : gS) (e : Nat) : mC M e ≤ 25 := cntN_le _ 25 0
theorem mMps_pos (M : gS) (e : Nat) : 0 < mMps M e ↔ 0 < mC M e := by
  rw [mMps_N, Int32.lt_iff_toInt_lt, nI_toInt (by have := mC_le M e; omega)]
  have : (0 : Int32).toInt = 0 := by decide
  omega
theorem mC_none {M : gS} {e : Nat} (h : ¬ 0 < mMps M e) {k : Nat} (hk : k < 25) : ¬ M 56 k 0 = nI (e + 1) := by
  rw [mMps_pos] at h
  have := cntN_0 _ 25 0 (show mC M e = 0 by omega) k (by omega) (by omega)
  simpa using this
end
section
def Rc (X M : gS) : Prop := rSta X M ∧ rOwn X M ∧ rWrd X M ∧ rEnt X M ∧ rCnt X M ∧ rHnd X M ∧ rPrt X M
theorem Rl.c {X M : gS} {n : Nat} (h : Rl X M n) : Rc X M := ⟨h.1, h.2.1, h.2.2.1, h.2.2.2.1, h.2.2.2.2.1, h.2.2.2.2.2.1, h.2.2.2.2.2.2.1⟩
theorem Rl_of {X M X' M' : gS} {n : Nat} (h : Rl X M n) (hc : Rc X' M') (h0 : ∀ f, f < 5 → X 0 f 0 = 1 → X' 0 f 0 = 1) (hx : ∀ kd, 14 ≤ kd → kd ≤ 27 → ∀ a b, X' kd a b = X kd a b) (hm : ∀ kd, 61 ≤ kd → kd ≤ 73 → ∀ a b, M' kd a b = M kd a b) : Rl X' M' (n + 1) :=
  ⟨hc.1, hc.2.1, hc.2.2.1, hc.2.2.2.1, hc.2.2.2.2.1, hc.2.2.2.2.2.1, hc.2.2.2.2.2.2, rNot_k (hx 25 (by decide) (by decide)) (hx 26 (by decide) (by decide)) (hm 71 (by decide) (by decide)) (hm 72 (by decide) (by decide)) h.2.2.2.2.2.2.2.1, rDev_k h0 (fun kd h1 h2 _ _ => hx kd h1 h2) (fun kd h1 h2 _ _ => hm kd h1 h2) h.2.2.2.2.2.2.2.2⟩
theorem c_create {X M : gS} (h : Rc X M) : (xCreate X).1 = (mCreate M).1 ∧ Rc (xCreate X).2 (mCreate M).2 ∧ (∀ f, f < 5 → X 0 f 0 = 1 → (xCreate X).2 0 f 0 = 1) ∧ (∀ kd, ¬ kd = 0 → ∀ a b, (xCreate X).2 kd a b = X kd a b) ∧ ∀ kd, ¬ kd = 50 → ∀ a b, (mCreate M).2 kd a b = M kd a b := by
  obtain ⟨r1, r2, r3, r4, r5, r6, r7⟩ := h
  unfold xCreate mCreate
  rcases fst_c (p := fun d => decide (X 0 d 0 = 0)) (q := fun d => decide (M 50 d 0 = 0)) (g := fun d => gup X 0 d 0 1) (g' := fun d => gup M 50 d 0 1) (e := -7) (X := X) (M := M) 5 0 (fun k hk => by simp only [Nat.zero_add]; rw [r1 k hk]) with ⟨e1, e2⟩ | ⟨k, -, hk, hp, e1, e2⟩
  · rw [e1, e2]
    exact ⟨rfl, ⟨r1, r2, r3, r4, r5, r6, r7⟩, fun _ _ q => q, fun _ _ _ _ => rfl, fun _ _ _ _ => rfl⟩
  · rw [e1, e2]
    have fx : ∀ kd, ¬ kd = 0 → ∀ a b, gup X 0 k 0 1 kd a b = X kd a b := fun kd hk a b => gup_k hk
    have fm : ∀ kd, ¬ kd = 50 → ∀ a b, gup M 50 k 0 1 kd a b = M kd a b := fun kd hk a b => gup_k hk
    refine ⟨rfl, ⟨fun a ha => ?_, rOwn_k (fx 1 (by decide)) (fm 51 (by decide)) r2, rWrd_k (fx 2 (by decide)) (fm 52 (by decide)) r3, rEnt_k (fx 3 (by decide)) (fx 4 (by decide)) (fx 5 (by decide)) (fm 53 (by decide)) (fm 54 (by decide)) (fm 55 (by decide)) r4, rCnt_k (fx 6 (by decide)) (fm 56 (by decide)) r5, rHnd_k (fx 3 (by decide)) (fx 4 (by decide)) (fx 7 (by decide)) (fx 8 (by decide)) (fx 9 (by decide)) (fm 56 (by decide)) (fm 57 (by decide)) r6, rPrt_k (fx 10 (by decide)) (fx 11 (by decide)) (fx 12 (by decide)) (fx 13 (by decide)) (fm 58 (by decide)) (fm 59 (by decide)) (fm 60 (by decide)) r7⟩, fun f hf q => ?_, fx, fm⟩
    · show gup M 50 k 0 1 50 a 0 = gup X 0 k 0 1 0 a 0
      rw [gup_r, gup_r]
      split
      · rfl
      · exact r1 a ha
    · show gup X 0 k 0 1 0 f 0 = 1
      rw [gup_r]
      split
      · rfl
      · exact q
theorem get_eq {X M : gS} (h : rOwn X M) (d : Int32) : xGet X d = -1 ↔ (mFpg M < 0 ∨ 6 ≤ mCnt M d) := by
  unfold xGet
  rw [l_cnt h, l_fpg h]
  by_cases h6 : 6 ≤ mCnt M d
  · simp [h6]
  · rw [if_neg h6]
    constructor
    · intro q; left; rw [q]; decide
    · intro q
      rcases q with q | q
      · by_cases hm : mFpg M = -1
        · exact hm
        · obtain ⟨j, -, h2, e, -⟩ := ffst_ir (fun p => decide (M 51 p 0 = 0)) 20 0 (by decide) hm
          have e' : mFpg M = nI j := e
          rw [e'] at q
          exact absurd q (nI_pos (by omega))
      · exact absurd q h6
theorem c_alloc {X M : gS} (h : Rc X M) (d : Int32) : (xAlloc X d).1 = (mAlloc M d).1 ∧ Rc (xAlloc X d).2 (mAlloc M d).2 := by
  obtain ⟨r1, r2, r3, r4, r5, r6, r7⟩ := h
  unfold xAlloc mAlloc
  rw [l_live r1]
  by_cases hl : mLive M d = true
  · rw [if_pos hl, if_pos hl]
    by_cases hg : xGet X d = -1
    · rw [if_pos hg, if_pos ((get_eq r2 d).mp hg)]
      exact ⟨rfl, r1, r2, r3, r4, r5, r6, r7⟩
    · have hg' := fun q => hg ((get_eq r2 d).mpr q)
      rw [if_neg hg, if_neg hg']
      obtain ⟨j, hj, ej⟩ := ir_mFpg (fun q => hg' (Or.inl q))
      have eg : xGet X d = nI j := by
        unfold xGet
        rw [l_cnt r2, if_neg (fun q => hg' (Or.inr q)), l_fpg r2]
        exact ej
      obtain ⟨a, ha, rfl⟩ := live_nI hl
      rw [eg, ej, tN_nI (by omega)]
      have fx : ∀ kd, ¬ kd = 1 → ¬ kd = 2 → ∀ a' b, xWipe (gup X 1 j 0 (nI a)) j kd a' b = X kd a' b := fun kd h1 h2 a' b => (xWipe_k h2).trans (gup_k h1)
      have fm : ∀ kd, ¬ kd = 51 → ¬ kd = 52 → ∀ a' b, mWipe (gup M 51 j 0 (nI a + 1)) j kd a' b = M kd a' b := fun kd h1 h2 a' b => (mWipe_k h2).trans (gup_k h1)
      refine ⟨rfl, rSta_k (fx 0 (by decide) (by decide)) (fm 50 (by decide) (by decide)) r1, fun p hp => ?_, fun p hp w hw => ?_, rEnt_k (fx 3 (by decide) (by decide)) (fx 4 (by decide) (by decide)) (fx 5 (by decide) (by decide)) (fm 53 (by decide) (by decide)) (fm 54 (by decide) (by decide)) (fm 55 (by decide) (by decide)) r4, rCnt_k (fx 6 (by decide) (by decide)) (fm 56 (by decide) (by decide)) r5, rHnd_k (fx 3 (by decide) (by decide)) (fx 4 (by decide) (by decide)) (fx 7 (by decide) (by decide)) (fx 8 (by decide) (by decide)) (fx 9 (by decide) (by decide)) (fm 56 (by decide) (by decide)) (fm 57 (by decide) (by decide)) r6, rPrt_k (fx 10 (by decide) (by decide)) (fx 11 (by decide) (by decide)) (fx 12 (by decide) (by decide)) (fx 13 (by decide) (by decide)) (fm 58 (by decide) (by decide)) (fm 59 (by decide) (by decide)) (fm 60 (by decide) (by decide)) r7⟩
      · show mWipe (gup M 51 j 0 (nI a + 1)) j 51 p 0 = xWipe (gup X 1 j 0 (nI a)) j 1 p 0 + 1 ∧ (xWipe (gup X 1 j 0 (nI a)) j 1 p 0 = -1 ∨ ∃ b, b < 5 ∧ xWipe (gup X 1 j 0 (nI a)) j 1 p 0 = nI b)
        rw [mWipe_k (by decide), xWipe_k (by decide), gup_r, gup_r]
        by_cases hpj : p = j
        · rw [if_pos ⟨hpj, rfl⟩, if_pos ⟨hpj, rfl⟩]
          exact ⟨rfl, Or.inr ⟨a, ha, rfl⟩⟩
        · rw [if_neg (fun q => hpj q.1), if_neg (fun q => hpj q.1)]
          exact r2 p hp
      · show mWipe (gup M 51 j 0 (nI a + 1)) j 52 (8 * p + w) 0 = xWipe (gup X 1 j 0 (nI a)) j 2 p w
        by_cases hpj : p = j
        · rw [xWipe_r.1 ⟨hpj, hw⟩, mWipe_r.1 ⟨by omega, by omega⟩]
        · rw [xWipe_r.2 (fun q => hpj q.1), mWipe_r.2 (by omega), gup_k (by decide), gup_k (by decide)]
          exact r3 p hp w hw
  · rw [if_neg hl, if_neg hl]
    exact ⟨rfl, r1, r2, r3, r4, r5, r6, r7⟩
theorem c_free {X M : gS} (h : Rc X M) (d p : Int32) : (xFree X d p).1 = (mFree M d p).1 ∧ Rc (xFree X d p).2 (mFree M d p).2 := by
  obtain ⟨r1, r2, r3, r4, r5, r6, r7⟩ := h
  unfold xFree mFree
  rw [l_live r1, l_owns r2]
  by_cases hl : mLive M d = true
  · rw [if_pos hl, if_pos hl]
    by_cases ho : mOwns M d p = true
    · rw [if_pos ho, if_pos ho]
      obtain ⟨a, ha, rfl⟩ := live_nI hl
      obtain ⟨q, hq, rfl⟩ := owns_nI ho
      rw [tN_nI (by omega), tN_nI (by omega), l_ew r4 ha hq]
      by_cases he : mHeld M a (nI q) false = true
      · rw [if_pos he, if_pos he]
        exact ⟨rfl, r1, r2, r3, r4, r5, r6, r7⟩
      · rw [if_neg he, if_neg he]
        have fx : ∀ kd, ¬ kd = 1 → ∀ a b, gup X 1 q 0 (-1) kd a b = X kd a b := fun kd hk a b => gup_k hk
        have fm : ∀ kd, ¬ kd = 51 → ∀ a b, gup M 51 q 0 0 kd a b = M kd a b := fun kd hk a b => gup_k hk
        refine ⟨rfl, rSta_k (fx 0 (by decide)) (fm 50 (by decide)) r1, fun p hp => ?_, rWrd_k (fx 2 (by decide)) (fm 52 (by decide)) r3, rEnt_k (fx 3 (by decide)) (fx 4 (by decide)) (fx 5 (by decide)) (fm 53 (by decide)) (fm 54 (by decide)) (fm 55 (by decide)) r4, rCnt_k (fx 6 (by decide)) (fm 56 (by decide)) r5, rHnd_k (fx 3 (by decide)) (fx 4 (by decide)) (fx 7 (by decide)) (fx 8 (by decide)) (fx 9 (by decide)) (fm 56 (by decide)) (fm 57 (by decide)) r6, rPrt_k (fx 10 (by decide)) (fx 11 (by decide)) (fx 12 (by decide)) (fx 13 (by decide)) (fm 58 (by decide)) (fm 59 (by decide)) (fm 60 (by decide)) r7⟩
        show gup M 51 q 0 0 51 p 0 = gup X 1 q 0 (-1) 1 p 0 + 1 ∧ (gup X 1 q 0 (-1) 1 p 0 = -1 ∨ ∃ b, b < 5 ∧ gup X 1 q 0 (-1) 1 p 0 = nI b)
        rw [gup_r, gup_r]
        by_cases hpj : p = q
        · rw [if_pos ⟨hpj, rfl⟩, if_pos ⟨hpj, rfl⟩]
          exact ⟨by decide, Or.inl rfl⟩
        · rw [if_neg (fun q => hpj q.1), if_neg (fun q => hpj q.1)]
          exact r2 p hp
    · rw [if_neg ho, if_neg ho]
      exact ⟨rfl, r1, r2, r3, r4, r5, r6, r7⟩
  · rw [if_neg hl, if_neg hl]
    exact ⟨rfl, r1, r2, r3, r4, r5, r6, r7⟩
end
section
theorem l_hasE {X M : gS} (h : rEnt X M) {a : Nat} (ha : a < 5) (r : Int32) : (xHasE X a r = true ∧ ∃ i, i < 6 ∧ r = nI i ∧ ¬ X 3 a i = -1 ∧ mEnt M a r = nI (6 * a + i)) ∨ (xHasE X a r = false ∧ mEnt M a r < 0) := by
  by_cases h0 : r < 0
  · right
    refine ⟨?_, ?_⟩
    · unfold xHasE
      simp [i32_c h0]
    · unfold mEnt
      rw [if_pos (Or.inl h0)]
      decide
  · by_cases h5 : 5 < r
    · right
      have h6 : ¬ r < 6 := by
        rw [Int32.lt_iff_toInt_lt] at h5 ⊢
        have e5 : (5 : Int32).toInt = 5 := by decide
        have e6 : (6 : Int32).toInt = 6 := by decide
        omega
      refine ⟨?_, ?_⟩
      · unfold xHasE
        simp [h6]
      · unfold mEnt
        rw [if_pos (Or.inr (Or.inl h5))]
        decide
    · obtain ⟨i, hi, rfl⟩ := nJ_of (k := 5) (by decide) h0 h5
      have ti : tN (nI i) = i := tN_nI (by omega)
      have h6 : nI i < 6 := nI_lt (a := i) (b := 6) (by omega) (by decide)
      have he := e_free (h a ha i (by omega))
      by_cases hf : X 3 a i = -1
      · right
        refine ⟨?_, ?_⟩
        · unfold xHasE
          rw [ti]
          simp [hf]
        · unfold mEnt
          rw [ti, if_pos (Or.inr (Or.inr (he.mp hf)))]
          decide
      · left
        refine ⟨?_, i, by omega, rfl, hf, ?_⟩
        · unfold xHasE
          rw [ti]
          simp [hf, h6, i32_d h0]
        · unfold mEnt
          rw [ti, if_neg (fun q => q.elim h0 (fun q => q.elim h5 (fun q => hf (he.mpr q))))]
theorem rHnd_e {X M X' M' : gS} (h7 : ∀ a b, X' 7 a b = X 7 a b) (h8 : ∀ a b, X' 8 a b = X 8 a b) (h9 : ∀ a b, X' 9 a b = X 9 a b) (h56 : ∀ a b, M' 56 a b = M 56 a b) (h57 : ∀ a b, M' 57 a b = M 57 a b)
    (he : ∀ a h f e, a < 5 → h < 5 → f < 5 → e < 6 → M 56 (5 * a + h) 0 = nI (6 * f + e + 1) → ¬ X 3 f e = -1 → ¬ X 4 f e = 2 → ¬ X' 3 f e = -1 ∧ ¬ X' 4 f e = 2) (h : rHnd X M) : rHnd X' M' := by
  intro a ha i hi
  rcases h a ha i hi with ⟨g1, g2⟩ | ⟨f, e, hf, he', g1, g2, g3, g4, g5, g6⟩
  · left
    rw [h7, h56]
    exact ⟨g1, g2⟩
  · right
    refine ⟨f, e, hf, he', ?_, ?_, ?_, ?_, he a i f e ha hi hf he' g3 g5 g6⟩
    · rw [h7]; exact g1
    · rw [h8]; exact g2
    · rw [h56]; exact g3
    · rw [h57, h9]; exact g4
theorem eSet_r3 {X : gS} {a i a' i' : Nat} {t k p : Int32} : eSet X a i t k p 3 a' i' = if a' = a ∧ i' = i then t else X 3 a' i' := by rw [eSet, gup_k (by decide), gup_k (by decide), gup_r]
theorem eSet_r4 {X : gS} {a i a' i' : Nat} {t k p : Int32} : eSet X a i t k p 4 a' i' = if a' = a ∧ i' = i then k else X 4 a' i' := by rw [eSet, gup_k (by decide), gup_r, gup_k (by decide)]
theorem eSet_r5 {X : gS} {a i a' i' : Nat} {t k p : Int32} : eSet X a i t k p 5 a' i' = if a' = a ∧ i' = i then p else X 5 a' i' := by rw [eSet, gup_r, gup_k (by decide), gup_k (by decide)]
theorem mGr1_r3 {M : gS} {e e' : Nat} {t k p : Int32} : mGr1 M e t k p 53 e' 0 = if e' = e then t + 1 else M 53 e' 0 := by
  rw [mGr1, gup_k (by decide), gup_k (by decide), gup_r]
  simp
theorem mGr1_r4 {M : gS} {e e' : Nat} {t k p : Int32} : mGr1 M e t k p 54 e' 0 = if e' = e then k else M 54 e' 0 := by
  rw [mGr1, gup_k (by decide), gup_r, gup_k (by decide)]
  simp
theorem mGr1_r5 {M : gS} {e e' : Nat} {t k p : Int32} : mGr1 M e t k p 55 e' 0 = if e' = e then p else M 55 e' 0 := by
  rw [mGr1, gup_r, gup_k (by decide), gup_k (by decide)]
  simp
theorem l_oth {d t : Int32} : xOth d t = true ↔ ¬ (t < 0 ∨ 4 < t ∨ t = d) := by
  unfold xOth
  rw [l_dom]
  simp only [Bool.and_eq_true, decide_eq_true_eq, Bool.not_eq_true', decide_eq_false_iff_not]
  constructor
  · rintro ⟨⟨h1, h2⟩, h3⟩ q
    rcases q with q | q | q
    · exact i32_a h1 q
    · exact i32_a h2 q
    · exact h3 q
  · intro h
    exact ⟨⟨i32_d (fun q => h (Or.inl q)), i32_d (fun q => h (Or.inr (Or.inl q)))⟩, fun q => h (Or.inr (Or.inr q))⟩
theorem c_end {X M : gS} (h : Rc X M) (d r : Int32) : (xEnd X d r).1 = (mEnd M d r).1 ∧ Rc (xEnd X d r).2 (mEnd M d r).2 := by
  obtain ⟨r1, r2, r3, r4, r5, r6, r7⟩ := h
  unfold xEnd mEnd
  rw [l_live r1]
  by_cases hl : mLive M d = true
  · rw [if_pos hl, if_pos hl]
    obtain ⟨a, ha, rfl⟩ := live_nI hl
    rw [tN_nI (by omega)]
    rcases l_hasE r4 ha r with ⟨e1, i, hi, rfl, hf, e2⟩ | ⟨e1, e2⟩
    · rw [if_pos e1, e2, if_neg (nI_pos (by omega)), tN_nI (by omega), tN_nI (by omega), r5 a ha i hi]
      by_cases hm : 0 < mMps M (6 * a + i)
      · rw [if_pos hm, if_pos hm]
        exact ⟨rfl, r1, r2, r3, r4, r5, r6, r7⟩
      · rw [if_neg hm, if_neg hm]
        have fx : ∀ kd, ¬ kd = 3 → ¬ kd = 4 → ¬ kd = 5 → ∀ a' b, eClr X a i kd a' b = X kd a' b := fun kd h3 h4 h5 a' b => eClr_k h3 h4 h5
        have fm : ∀ kd, ¬ kd = 53 → ∀ a' b, gup M 53 (6 * a + i) 0 0 kd a' b = M kd a' b := fun kd hk a' b => gup_k hk
        refine ⟨rfl, rSta_k (fx 0 (by decide) (by decide) (by decide)) (fm 50 (by decide)) r1, rOwn_k (fx 1 (by decide) (by decide) (by decide)) (fm 51 (by decide)) r2, rWrd_k (fx 2 (by decide) (by decide) (by decide)) (fm 52 (by decide)) r3, fun a' ha' i' hi' => ?_, rCnt_k (fx 6 (by decide) (by decide) (by decide)) (fm 56 (by decide)) r5, rHnd_e (fx 7 (by decide) (by decide) (by decide)) (fx 8 (by decide) (by decide) (by decide)) (fx 9 (by decide) (by decide) (by decide)) (fm 56 (by decide)) (fm 57 (by decide)) (fun a' h' f' e' ha' hh' hf' he' g1 g2 g3 => ?_) r6, rPrt_k (fx 10 (by decide) (by decide) (by decide)) (fx 11 (by decide) (by decide) (by decide)) (fx 12 (by decide) (by decide) (by decide)) (fx 13 (by decide) (by decide) (by decide)) (fm 58 (by decide)) (fm 59 (by decide)) (fm 60 (by decide)) r7⟩
        · show eRel (eClr X a i) (gup M 53 (6 * a + i) 0 0) a' i'
          by_cases hc : a' = a ∧ i' = i
          · obtain ⟨rfl, rfl⟩ := hc
            left
            unfold eClr
            rw [eSet_r3, eSet_r5, gup_r]
            simp
          · have g := r4 a' ha' i' hi'
            unfold eRel eClr at *
            rw [eSet_r3, eSet_r4, eSet_r5, if_neg hc, if_neg hc, if_neg hc, gup_n (by omega), gup_k (by decide), gup_k (by decide)]
            exact g
        · show ¬ eClr X a i 3 f' e' = -1 ∧ ¬ eClr X a i 4 f' e' = 2
          have hc : ¬ (f' = a ∧ e' = i) := by
            rintro ⟨rfl, rfl⟩
            exact mC_none hm (by omega) g1
          unfold eClr
          rw [eSet_r3, eSet_r4, if_neg hc, if_neg hc]
          exact ⟨g2, g3⟩
    · rw [if_neg (by rw [e1]; decide), if_pos e2]
      exact ⟨rfl, r1, r2, r3, r4, r5, r6, r7⟩
  · rw [if_neg hl, if_neg hl]
    exact ⟨rfl, r1, r2, r3, r4, r5, r6, r7⟩
theorem ffst_is {p : Nat → Bool} {n : Nat} (hn : n < 2 ^ 31) : ffst p n 0 = -1 ∨ ∃ j, j < n ∧ ffst p n 0 = nI j ∧ p j = true := by
  by_cases h : ffst p n 0 = -1
  · exact Or.inl h
  · obtain ⟨j, -, h2, h3, h4⟩ := ffst_ir p n 0 (by omega) h
    exact Or.inr ⟨j, by omega, h3, h4⟩
theorem c_grant {X M : gS} (h : Rc X M) (d t p k : Int32) : (xGrant X d t p k).1 = (mGrant M d t p k).1 ∧ Rc (xGrant X d t p k).2 (mGrant M d t p k).2 := by
  have hR := h
  obtain ⟨r1, r2, r3, r4, r5, r6, r7⟩ := h
  unfold xGrant mGrant
  rw [l_live r1, l_owns r2]
  by_cases hl : mLive M d = true
  · rw [if_pos hl, if_pos hl]
    obtain ⟨a, ha, rfl⟩ := live_nI hl
    rw [tN_nI (by omega), l_fe r4 ha]
    by_cases hb : t < 0 ∨ 4 < t ∨ t = nI a ∨ k < 0 ∨ 2 < k
    · rw [if_pos hb, if_neg (fun q => ?_)]
      · exact ⟨rfl, hR⟩
      · have q1 := l_oth.mp q.1
        rcases hb with hb | hb | hb | hb | hb
        · exact q1 (Or.inl hb)
        · exact q1 (Or.inr (Or.inl hb))
        · exact q1 (Or.inr (Or.inr hb))
        · exact q.2.1 hb
        · exact q.2.2 hb
    · have t0 : ¬ t < 0 := fun q => hb (Or.inl q)
      have t4 : ¬ 4 < t := fun q => hb (Or.inr (Or.inl q))
      have ta : ¬ t = nI a := fun q => hb (Or.inr (Or.inr (Or.inl q)))
      have k0 : ¬ k < 0 := fun q => hb (Or.inr (Or.inr (Or.inr (Or.inl q))))
      have k2 : ¬ 2 < k := fun q => hb (Or.inr (Or.inr (Or.inr (Or.inr q))))
      rw [if_neg hb, if_pos ⟨l_oth.mpr (fun q => q.elim t0 (fun q => q.elim t4 ta)), k0, k2⟩]
      obtain ⟨tn, htn, rfl⟩ := nJ_of (k := 4) (by decide) t0 t4
      obtain ⟨kn, hkn, rfl⟩ := nJ_of (k := 2) (by decide) k0 k2
      have hk2 : nI kn = 2 ↔ ¬ nI kn < 2 := by
        have : ∀ kn, kn < 3 → (nI kn = 2 ↔ ¬ nI kn < 2) := by decide +kernel
        exact this kn hkn
      by_cases ho : nI kn < 2 ∧ mOwns M (nI a) p = false
      · rw [if_pos ho, if_neg (fun q => q.elim (fun q => hk2.mp q ho.1) (fun q => by rw [ho.2] at q; cases q))]
        exact ⟨rfl, hR⟩
      · have ho' : nI kn = 2 ∨ mOwns M (nI a) p = true := by
          by_cases hk : nI kn < 2
          · right
            cases hq : mOwns M (nI a) p
            · exact absurd ⟨hk, hq⟩ ho
            · rfl
          · exact Or.inl (hk2.mpr hk)
        rw [if_neg ho, if_pos ho']
        rcases ffst_is (p := fun r => decide (M 53 (6 * a + r) 0 = 0)) (n := 6) (by decide) with he | ⟨i, hi, he, hpi⟩
        · have he' : mFe M a = -1 := he
          rw [he', if_pos rfl, if_pos (by decide)]
          exact ⟨rfl, hR⟩
        · have he' : mFe M a = nI i := he
          rw [he', if_neg (nI_nm1 (by omega)), if_neg (nI_pos (by omega)), tN_nI (by omega)]
          have hfree : X 3 a i = -1 := (e_free (r4 a ha i hi)).mpr (by simpa using hpi)
          generalize hq1 : (if nI kn = 2 then (-1 : Int32) else p) = q1
          generalize hq2 : (if nI kn < 2 then p else (0 : Int32)) = q2
          have fx : ∀ kd, ¬ kd = 3 → ¬ kd = 4 → ¬ kd = 5 → ∀ a' b, eSet X a i (nI tn) (nI kn) q1 kd a' b = X kd a' b := fun kd h3 h4 h5 a' b => eSet_k h3 h4 h5
          have fm : ∀ kd, ¬ kd = 53 → ¬ kd = 54 → ¬ kd = 55 → ∀ a' b, mGr1 M (6 * a + i) (nI tn) (nI kn) q2 kd a' b = M kd a' b := fun kd h3 h4 h5 a' b => by rw [mGr1, gup_k h5, gup_k h4, gup_k h3]
          refine ⟨rfl, rSta_k (fx 0 (by decide) (by decide) (by decide)) (fm 50 (by decide) (by decide) (by decide)) r1, rOwn_k (fx 1 (by decide) (by decide) (by decide)) (fm 51 (by decide) (by decide) (by decide)) r2, rWrd_k (fx 2 (by decide) (by decide) (by decide)) (fm 52 (by decide) (by decide) (by decide)) r3, fun a' ha' i' hi' => ?_, rCnt_k (fx 6 (by decide) (by decide) (by decide)) (fm 56 (by decide) (by decide) (by decide)) r5, rHnd_e (fx 7 (by decide) (by decide) (by decide)) (fx 8 (by decide) (by decide) (by decide)) (fx 9 (by decide) (by decide) (by decide)) (fm 56 (by decide) (by decide) (by decide)) (fm 57 (by decide) (by decide) (by decide)) (fun a' h' f' e' ha' hh' hf' he' g1 g2 g3 => ?_) r6, rPrt_k (fx 10 (by decide) (by decide) (by decide)) (fx 11 (by decide) (by decide) (by decide)) (fx 12 (by decide) (by decide) (by decide)) (fx 13 (by decide) (by decide) (by decide)) (fm 58 (by decide) (by decide) (by decide)) (fm 59 (by decide) (by decide) (by decide)) (fm 60 (by decide) (by decide) (by decide)) r7⟩
          · show eRel (eSet X a i (nI tn) (nI kn) q1) (mGr1 M (6 * a + i) (nI tn) (nI kn) q2) a' i'
            unfold eRel
            rw [eSet_r3, eSet_r4, eSet_r5, mGr1_r3, mGr1_r4, mGr1_r5]
            by_cases hc : a' = a ∧ i' = i
            · obtain ⟨rfl, rfl⟩ := hc
              right
              refine ⟨tn, by omega, by simp, by simp [nI_add1], by simp, ?_⟩
              by_cases hk : nI kn = 2
              · left
                rw [← hq1, if_pos hk]
                simp [hk]
              · right
                have hk' : nI kn < 2 := Classical.byContradiction fun q => hk (hk2.mpr q)
                obtain ⟨pn, hpn, e⟩ := owns_nI (ho'.resolve_left hk)
                rw [← hq1, ← hq2, if_neg hk, if_pos hk', e]
                refine ⟨?_, pn, hpn, by simp, by simp⟩
                simp only [and_self, if_true]
                have : ∀ kn, kn < 3 → nI kn < 2 → nI kn = 0 ∨ nI kn = 1 := by decide +kernel
                exact this kn hkn hk'
            · rw [if_neg hc, if_neg hc, if_neg hc, if_neg (by omega), if_neg (by omega), if_neg (by omega)]
              exact r4 a' ha' i' hi'
          · show ¬ eSet X a i (nI tn) (nI kn) q1 3 f' e' = -1 ∧ ¬ eSet X a i (nI tn) (nI kn) q1 4 f' e' = 2
            have hc : ¬ (f' = a ∧ e' = i) := by
              rintro ⟨rfl, rfl⟩
              exact g2 hfree
            rw [eSet_r3, eSet_r4, if_neg hc, if_neg hc]
            exact ⟨g2, g3⟩
  · rw [if_neg hl, if_neg hl]
    exact ⟨rfl, hR⟩
end
section
theorem qSet_r0 {X : gS} {a k a' k' : Nat} {s o p : Int32} : qSet X a k s o p 10 a' k' = if a' = a ∧ k' = k then s else X 10 a' k' := by rw [qSet, gup_k (by decide), gup_k (by decide), gup_k (by decide), gup_r]
theorem qSet_r1 {X : gS} {a k a' k' : Nat} {s o p : Int32} : qSet X a k s o p 11 a' k' = if a' = a ∧ k' = k then o else X 11 a' k' := by rw [qSet, gup_k (by decide), gup_k (by decide), gup_r, gup_k (by decide)]
theorem qSet_r2 {X : gS} {a k a' k' : Nat} {s o p : Int32} : qSet X a k s o p 12 a' k' = if a' = a ∧ k' = k then p else X 12 a' k' := by rw [qSet, gup_k (by decide), gup_r, gup_k (by decide), gup_k (by decide)]
theorem qSet_r3 {X : gS} {a k a' k' : Nat} {s o p : Int32} : qSet X a k s o p 13 a' k' = if a' = a ∧ k' = k then 0 else X 13 a' k' := by rw [qSet, gup_r, gup_k (by decide), gup_k (by decide), gup_k (by decide)]
theorem p_pend {X M : gS} {a k : Nat} (h : pRel X M a k) (h2 : ¬ X 10 a k = 2) : X 13 a k = 0 ∧ M 60 (4 * a + k) 0 = 0 := by
  obtain ⟨h3, h4, h5, -⟩ := h
  rcases h5 with h5 | ⟨-, h5⟩
  · exact ⟨h5, by rw [h4]; exact h5⟩
  · exact absurd h5 h2
theorem rOth {X M X' M' : gS} (h : Rc X M) (hp : rPrt X' M') (fx : ∀ kd, kd < 10 → ∀ a b, X' kd a b = X kd a b) (fm : ∀ kd, 50 ≤ kd → kd < 58 → ∀ a b, M' kd a b = M kd a b) : Rc X' M' := by
  obtain ⟨r1, r2, r3, r4, r5, r6, r7⟩ := h
  exact ⟨rSta_k (fx 0 (by decide)) (fm 50 (by decide) (by decide)) r1, rOwn_k (fx 1 (by decide)) (fm 51 (by decide) (by decide)) r2, rWrd_k (fx 2 (by decide)) (fm 52 (by decide) (by decide)) r3, rEnt_k (fx 3 (by decide)) (fx 4 (by decide)) (fx 5 (by decide)) (fm 53 (by decide) (by decide)) (fm 54 (by decide) (by decide)) (fm 55 (by decide) (by decide)) r4, rCnt_k (fx 6 (by decide)) (fm 56 (by decide) (by decide)) r5, rHnd_k (fx 3 (by decide)) (fx 4 (by decide)) (fx 7 (by decide)) (fx 8 (by decide)) (fx 9 (by decide)) (fm 56 (by decide) (by decide)) (fm 57 (by decide) (by decide)) r6, hp⟩
theorem c_open {X M : gS} (h : Rc X M) (d t : Int32) : (xOpen X d t).1 = (mOpen M d t).1 ∧ Rc (xOpen X d t).2 (mOpen M d t).2 := by
  have hR := h
  obtain ⟨r1, r2, r3, r4, r5, r6, r7⟩ := h
  unfold xOpen mOpen
  rw [l_live r1]
  by_cases hl : mLive M d = true
  · rw [if_pos hl, if_pos hl]
    obtain ⟨a, ha, rfl⟩ := live_nI hl
    rw [tN_nI (by omega), l_fq r7 ha]
    by_cases hb : t < 0 ∨ 4 < t ∨ t = nI a
    · rw [if_pos hb, if_neg (fun q => l_oth.mp q hb)]
      exact ⟨rfl, hR⟩
    · rw [if_neg hb, if_pos (l_oth.mpr hb)]
      rcases ffst_is (p := fun k => decide (M 58 (4 * a + k) 0 = 0)) (n := 4) (by decide) with he | ⟨k, hk, he, hpk⟩
      · have he' : mFq M a = -1 := he
        rw [he', if_pos rfl, if_pos (by decide)]
        exact ⟨rfl, hR⟩
      · have he' : mFq M a = nI k := he
        rw [he', if_neg (nI_nm1 (by omega)), if_neg (nI_pos (by omega)), tN_nI (by omega)]
        have hfree : X 10 a k = 0 := by rw [← (r7 a ha k hk).1]; simpa using hpk
        obtain ⟨z1, z2⟩ := p_pend (r7 a ha k hk) (by rw [hfree]; decide)
        refine ⟨rfl, rOth hR (fun a' ha' k' hk' => ?_) (fun kd hkd a' b => qSet_k (by omega) (by omega) (by omega) (by omega)) (fun kd h1 h2 a' b => (gup_k (by omega)).trans (gup_k (by omega)))⟩
        show pRel (qSet X a k 1 t (-1)) (gup (gup M 58 (4 * a + k) 0 1) 59 (4 * a + k) 0 t) a' k'
        unfold pRel
        by_cases hc : a' = a ∧ k' = k
        · obtain ⟨rfl, rfl⟩ := hc
          rw [qSet_r0, qSet_r1, qSet_r2, qSet_r3, if_pos ⟨rfl, rfl⟩, if_pos ⟨rfl, rfl⟩, if_pos ⟨rfl, rfl⟩, if_pos ⟨rfl, rfl⟩, gup_k (by decide), gup_s, gup_k (by decide), gup_k (by decide), gup_s]
          exact ⟨rfl, z2, Or.inl rfl, Or.inr (Or.inl ⟨rfl, rfl⟩)⟩
        · obtain ⟨g1, g2, g3, g4⟩ := r7 a' ha' k' hk'
          rw [qSet_r0, qSet_r1, qSet_r2, qSet_r3, if_neg hc, if_neg hc, if_neg hc, if_neg hc, gup_k (by decide), gup_n (by omega), gup_k (by decide), gup_k (by decide), gup_n (by omega), gup_k (by decide)]
          refine ⟨g1, g2, g3, ?_⟩
          rcases g4 with g4 | g4 | ⟨g4, b, j, c1, c2, c3, c4, c5, c6, c7, c8⟩
          · exact Or.inl g4
          · exact Or.inr (Or.inl g4)
          · refine Or.inr (Or.inr ⟨g4, b, j, c1, c2, c3, c4, c5, ?_⟩)
            have hbj : ¬ (b = a ∧ j = k) := by
              rintro ⟨rfl, rfl⟩
              rw [hfree] at c6
              exact absurd c6 (by decide)
            rw [qSet_r0, qSet_r1, qSet_r2, if_neg hbj, if_neg hbj, if_neg hbj]
            exact ⟨c6, c7, c8⟩
  · rw [if_neg hl, if_neg hl]
    exact ⟨rfl, hR⟩
theorem mBd1_r8 {M : gS} {k k' : Nat} {j : Int32} : mBd1 M k j 58 k' 0 = if k' = k then 2 else M 58 k' 0 := by
  rw [mBd1, gup_k (by decide), gup_r]
  simp
theorem mBd1_r9 {M : gS} {k k' : Nat} {j : Int32} : mBd1 M k j 59 k' 0 = if k' = k then j else M 59 k' 0 := by
  rw [mBd1, gup_r, gup_k (by decide)]
  simp
theorem mBd1_k {M : gS} {k kd a b : Nat} {j : Int32} (h1 : ¬ kd = 58) (h2 : ¬ kd = 59) : mBd1 M k j kd a b = M kd a b := by rw [mBd1, gup_k h2, gup_k h1]
theorem l_prt {k : Int32} : xPrt k = true ↔ ¬ (k < 0 ∨ 3 < k) := by
  unfold xPrt
  simp only [Bool.and_eq_true, decide_eq_true_eq]
  rw [Int32.le_iff_toInt_le, Int32.lt_iff_toInt_lt, Int32.lt_iff_toInt_lt, Int32.lt_iff_toInt_lt]
  have e0 : (0 : Int32).toInt = 0 := by decide
  have e3 : (3 : Int32).toInt = 3 := by decide
  have e4 : (4 : Int32).toInt = 4 := by decide
  omega
theorem c_bind {X M : gS} (h : Rc X M) (d t k : Int32) : (xBind X d t k).1 = (mBind M d t k).1 ∧ Rc (xBind X d t k).2 (mBind M d t k).2 := by
  have hR := h
  obtain ⟨r1, r2, r3, r4, r5, r6, r7⟩ := h
  unfold xBind mBind
  rw [l_live r1, l_live r1]
  by_cases hl : mLive M d = true ∧ mLive M t = true
  · rw [if_pos hl, if_pos hl]
    obtain ⟨a, ha, rfl⟩ := live_nI hl.1
    obtain ⟨b, hb, rfl⟩ := live_nI hl.2
    rw [tN_nI (by omega), tN_nI (by omega), l_fq r7 ha]
    by_cases hk : k < 0 ∨ 3 < k
    · rw [if_pos (hk.imp id (fun q => Or.inl q)), if_neg (fun q => l_prt.mp q.1 hk)]
      exact ⟨rfl, hR⟩
    · obtain ⟨kn, hkn, rfl⟩ := nJ_of (k := 3) (by decide) (fun q => hk (Or.inl q)) (fun q => hk (Or.inr q))
      have hkn4 : kn < 4 := by omega
      rw [tN_nI (by omega)]
      obtain ⟨p1, p2, p3, p4⟩ := r7 b hb kn hkn4
      have hw : xWt X b kn (nI a) = true ↔ (M 58 (4 * b + kn) 0 = 1 ∧ M 59 (4 * b + kn) 0 = nI a) := by
        unfold xWt
        simp only [Bool.and_eq_true, decide_eq_true_eq]
        rw [p1]
        constructor
        · rintro ⟨q1, q2⟩
          rcases p4 with p4 | ⟨-, p4⟩ | ⟨p4, -⟩
          · rw [q1] at p4; exact absurd p4 (by decide)
          · exact ⟨q1, by rw [p4]; exact q2⟩
          · rw [q1] at p4; exact absurd p4 (by decide)
        · rintro ⟨q1, q2⟩
          rcases p4 with p4 | ⟨-, p4⟩ | ⟨p4, -⟩
          · rw [q1] at p4; exact absurd p4 (by decide)
          · exact ⟨q1, by rw [← p4]; exact q2⟩
          · rw [q1] at p4; exact absurd p4 (by decide)
      by_cases hq : M 58 (4 * b + kn) 0 = 1 ∧ M 59 (4 * b + kn) 0 = nI a
      · have hneg : ¬ (nI kn < 0 ∨ 3 < nI kn ∨ ¬ M 58 (4 * b + kn) 0 = 1 ∨ ¬ M 59 (4 * b + kn) 0 = nI a) := fun q => q.elim (fun q => hk (Or.inl q)) (fun q => q.elim (fun q => hk (Or.inr q)) (fun q => q.elim (fun q => q hq.1) (fun q => q hq.2)))
        rw [if_pos ⟨l_prt.mpr hk, hw.mpr hq⟩, if_neg hneg]
        rcases ffst_is (p := fun k => decide (M 58 (4 * a + k) 0 = 0)) (n := 4) (by decide) with he | ⟨o, ho, he, hpo⟩
        · have he' : mFq M a = -1 := he
          rw [he', if_pos rfl, if_pos (by decide)]
          exact ⟨rfl, hR⟩
        · have he' : mFq M a = nI o := he
          rw [he', if_neg (nI_nm1 (by omega)), if_neg (nI_pos (by omega)), tN_nI (by omega)]
          have hfree : X 10 a o = 0 := by rw [← (r7 a ha o ho).1]; simpa using hpo
          have hwait : X 10 b kn = 1 := by rw [← p1]; exact hq.1
          have hne : ¬ (a = b ∧ o = kn) := by
            rintro ⟨rfl, rfl⟩
            rw [hfree] at hwait
            exact absurd hwait (by decide)
          obtain ⟨z1, z2⟩ := p_pend (r7 a ha o ho) (by rw [hfree]; decide)
          obtain ⟨y1, y2⟩ := p_pend (r7 b hb kn hkn4) (by rw [hwait]; decide)
          refine ⟨rfl, rOth hR (fun a' ha' k' hk' => ?_) (fun kd hkd a' b => (qSet_k (by omega) (by omega) (by omega) (by omega)).trans (qSet_k (by omega) (by omega) (by omega) (by omega))) (fun kd h1 h2 a' b => (mBd1_k (by omega) (by omega)).trans (mBd1_k (by omega) (by omega)))⟩
          show pRel (qSet (qSet X a o 2 (nI b) (nI kn)) b kn 2 (nI a) (nI o)) (mBd1 (mBd1 M (4 * a + o) (nI (4 * b + kn))) (4 * b + kn) (nI (4 * a + o))) a' k'
          unfold pRel
          rw [mBd1_r8, mBd1_r8, mBd1_r9, mBd1_r9, mBd1_k (by decide) (by decide), mBd1_k (by decide) (by decide)]
          simp only [qSet_r0, qSet_r1, qSet_r2, qSet_r3]
          by_cases hc1 : a' = b ∧ k' = kn
          · obtain ⟨rfl, rfl⟩ := hc1
            have hne' : ¬ (a = a' ∧ o = k') := hne
            simp only [and_self, if_true, if_neg hne']
            exact ⟨by trivial, y2, Or.inl trivial, Or.inr (Or.inr ⟨trivial, a, o, ha, ho, rfl, rfl, rfl, by rw [if_neg hne', if_pos ⟨rfl, rfl⟩], by rw [if_neg hne', if_pos ⟨rfl, rfl⟩], by rw [if_neg hne', if_pos ⟨rfl, rfl⟩]⟩)⟩
          · by_cases hc2 : a' = a ∧ k' = o
            · obtain ⟨rfl, rfl⟩ := hc2
              simp only [and_self, if_true, if_neg hc1, if_neg (show ¬ (4 * a' + k' = 4 * b + kn) by omega)]
              exact ⟨by trivial, z2, Or.inl trivial, Or.inr (Or.inr ⟨trivial, b, kn, hb, hkn4, rfl, rfl, rfl, by rw [if_pos ⟨rfl, rfl⟩], by rw [if_pos ⟨rfl, rfl⟩], by rw [if_pos ⟨rfl, rfl⟩]⟩)⟩
            · obtain ⟨g1, g2, g3, g4⟩ := r7 a' ha' k' hk'
              simp only [if_neg hc1, if_neg hc2, if_neg (show ¬ (4 * a' + k' = 4 * b + kn) by omega), if_neg (show ¬ (4 * a' + k' = 4 * a + o) by omega)]
              refine ⟨g1, g2, g3, ?_⟩
              rcases g4 with g4 | g4 | ⟨g4, b', j, c1, c2, c3, c4, c5, c6, c7, c8⟩
              · exact Or.inl g4
              · exact Or.inr (Or.inl g4)
              · refine Or.inr (Or.inr ⟨g4, b', j, c1, c2, c3, c4, c5, ?_⟩)
                have hb1 : ¬ (b' = b ∧ j = kn) := by
                  rintro ⟨rfl, rfl⟩
                  rw [hwait] at c6
                  exact absurd c6 (by decide)
                have hb2 : ¬ (b' = a ∧ j = o) := by
                  rintro ⟨rfl, rfl⟩
                  rw [hfree] at c6
                  exact absurd c6 (by decide)
                simp only [if_neg hb1, if_neg hb2]
                exact ⟨c6, c7, c8⟩
      · rw [if_neg (fun q => hq (hw.mp q.2)), if_pos ?_]
        · exact ⟨rfl, hR⟩
        · right; right
          by_cases q1 : M 58 (4 * b + kn) 0 = 1
          · exact Or.inr (fun q2 => hq ⟨q1, q2⟩)
          · exact Or.inl q1
  · rw [if_neg hl, if_neg hl]
    exact ⟨rfl, hR⟩
theorem c_send {X M : gS} (h : Rc X M) (d k : Int32) : (xSend X d k).1 = (mSend M d k).1 ∧ Rc (xSend X d k).2 (mSend M d k).2 := by
  have hR := h
  obtain ⟨r1, r2, r3, r4, r5, r6, r7⟩ := h
  unfold xSend mSend
  rw [l_live r1]
  by_cases hl : mLive M d = true
  · rw [if_pos hl, if_pos hl]
    obtain ⟨a, ha, rfl⟩ := live_nI hl
    rw [tN_nI (by omega)]
    by_cases hk : k < 0 ∨ 3 < k
    · rw [if_pos (hk.imp id (fun q => Or.inl q)), if_neg (fun q => l_prt.mp q.1 hk)]
      exact ⟨rfl, hR⟩
    · obtain ⟨kn, hkn, rfl⟩ := nJ_of (k := 3) (by decide) (fun q => hk (Or.inl q)) (fun q => hk (Or.inr q))
      have hkn4 : kn < 4 := by omega
      rw [tN_nI (by omega)]
      obtain ⟨p1, p2, p3, p4⟩ := r7 a ha kn hkn4
      by_cases hj : X 10 a kn = 2
      · have hneg : ¬ (nI kn < 0 ∨ 3 < nI kn ∨ ¬ M 58 (4 * a + kn) 0 = 2) := fun q => q.elim (fun q => hk (Or.inl q)) (fun q => q.elim (fun q => hk (Or.inr q)) (fun q => q (by rw [p1]; exact hj)))
        rw [if_pos ⟨l_prt.mpr hk, hj⟩, if_neg hneg]
        rcases p4 with p4 | ⟨p4, -⟩ | ⟨-, b, j, c1, c2, c3, c4, c5, c6, c7, c8⟩
        · rw [hj] at p4; exact absurd p4 (by decide)
        · rw [hj] at p4; exact absurd p4 (by decide)
        · rw [c3, c4, c5, tN_nI (by omega), tN_nI (by omega), tN_nI (by omega), (r7 b c1 j c2).2.1]
          refine ⟨rfl, rOth hR (fun a' ha' k' hk' => ?_) (fun kd hkd a' b => gup_k (by omega)) (fun kd h1 h2 a' b => gup_k (by omega))⟩
          show pRel (gup X 13 b j 1) (gup M 60 (4 * b + j) 0 1) a' k'
          obtain ⟨g1, g2, g3, g4⟩ := r7 a' ha' k' hk'
          unfold pRel
          simp only [gup_k (show ¬ 10 = 13 by decide), gup_k (show ¬ 11 = 13 by decide), gup_k (show ¬ 12 = 13 by decide), gup_k (show ¬ 58 = 60 by decide), gup_k (show ¬ 59 = 60 by decide)]
          rw [gup_r, gup_r]
          by_cases hc : a' = b ∧ k' = j
          · obtain ⟨rfl, rfl⟩ := hc
            simp only [and_self, if_true]
            exact ⟨g1, trivial, Or.inr ⟨trivial, c6⟩, g4⟩
          · rw [if_neg hc, if_neg (by omega)]
            exact ⟨g1, g2, g3, g4⟩
      · rw [if_neg (fun q => hj q.2), if_pos (Or.inr (Or.inr (by rw [p1]; exact hj)))]
        exact ⟨rfl, hR⟩
  · rw [if_neg hl, if_neg hl]
    exact ⟨rfl, hR⟩
theorem c_next {X M : gS} (h : Rc X M) (d : Int32) : (xNext X d).1 = (mNext M d).1 ∧ Rc (xNext X d).2 (mNext M d).2 ∧ (∀ kd, ¬ kd = 13 → ∀ a b, (xNext X d).2 kd a b = X kd a b) ∧ ∀ kd, ¬ kd = 60 → ∀ a b, (mNext M d).2 kd a b = M kd a b := by
  have hR := h
  obtain ⟨r1, r2, r3, r4, r5, r6, r7⟩ := h
  unfold xNext mNext
  rw [l_live r1]
  by_cases hl : mLive M d = true
  · rw [if_pos hl, if_pos hl]
    obtain ⟨a, ha, rfl⟩ := live_nI hl
    rw [tN_nI (by omega)]
    rcases fst_c (p := fun k => !decide (X 13 a k = 0)) (q := fun k => !decide (M 60 (4 * a + k) 0 = 0)) (g := fun k => gup X 13 a k 0) (g' := fun k => gup M 60 (4 * a + k) 0 0) (e := -11) (X := X) (M := M) 4 0 (fun k hk => by simp only [Nat.zero_add]; rw [(r7 a ha k hk).2.1]) with ⟨e1, e2⟩ | ⟨k, -, hk, hp, e1, e2⟩
    · rw [e1, e2]
      exact ⟨rfl, hR, fun _ _ _ _ => rfl, fun _ _ _ _ => rfl⟩
    · rw [e1, e2]
      refine ⟨rfl, rOth hR (fun a' ha' k' hk' => ?_) (fun kd hkd a' b => gup_k (by omega)) (fun kd h1 h2 a' b => gup_k (by omega)), fun kd hkd a' b => gup_k hkd, fun kd hkd a' b => gup_k hkd⟩
      show pRel (gup X 13 a k 0) (gup M 60 (4 * a + k) 0 0) a' k'
      obtain ⟨g1, g2, g3, g4⟩ := r7 a' ha' k' hk'
      unfold pRel
      simp only [gup_k (show ¬ 10 = 13 by decide), gup_k (show ¬ 11 = 13 by decide), gup_k (show ¬ 12 = 13 by decide), gup_k (show ¬ 58 = 60 by decide), gup_k (show ¬ 59 = 60 by decide)]
      rw [gup_r, gup_r]
      by_cases hc : a' = a ∧ k' = k
      · obtain ⟨rfl, rfl⟩ := hc
        simp only [and_self, if_true]
        exact ⟨g1, trivial, Or.inl trivial, g4⟩
      · rw [if_neg hc, if_neg (by omega)]
        exact ⟨g1, g2, g3, g4⟩
  · rw [if_neg hl, if_neg hl]
    exact ⟨rfl, hR, fun _ _ _ _ => rfl, fun _ _ _ _ => rfl⟩
end
section
theorem c_own {X M : gS} (h : Rc X M) {p : Nat} {x : Int32} (hx : x = -1 ∨ ∃ a, a < 5 ∧ x = nI a) : Rc (gup X 1 p 0 x) (gup M 51 p 0 (x + 1)) := by
  obtain ⟨r1, r2, r3, r4, r5, r6, r7⟩ := h
  have fx : ∀ kd, ¬ kd = 1 → ∀ a b, gup X 1 p 0 x kd a b = X kd a b := fun kd hk a b => gup_k hk
  have fm : ∀ kd, ¬ kd = 51 → ∀ a b, gup M 51 p 0 (x + 1) kd a b = M kd a b := fun kd hk a b => gup_k hk
  refine ⟨rSta_k (fx 0 (by decide)) (fm 50 (by decide)) r1, fun q hq => ?_, rWrd_k (fx 2 (by decide)) (fm 52 (by decide)) r3, rEnt_k (fx 3 (by decide)) (fx 4 (by decide)) (fx 5 (by decide)) (fm 53 (by decide)) (fm 54 (by decide)) (fm 55 (by decide)) r4, rCnt_k (fx 6 (by decide)) (fm 56 (by decide)) r5, rHnd_k (fx 3 (by decide)) (fx 4 (by decide)) (fx 7 (by decide)) (fx 8 (by decide)) (fx 9 (by decide)) (fm 56 (by decide)) (fm 57 (by decide)) r6, rPrt_k (fx 10 (by decide)) (fx 11 (by decide)) (fx 12 (by decide)) (fx 13 (by decide)) (fm 58 (by decide)) (fm 59 (by decide)) (fm 60 (by decide)) r7⟩
  rw [gup_r, gup_r]
  by_cases hc : q = p
  · rw [if_pos ⟨hc, rfl⟩, if_pos ⟨hc, rfl⟩]
    exact ⟨rfl, hx⟩
  · rw [if_neg (fun z => hc z.1), if_neg (fun z => hc z.1)]
    exact r2 q hq
theorem c_sta {X M : gS} (h : Rc X M) {p : Nat} {x : Int32} : Rc (gup X 0 p 0 x) (gup M 50 p 0 x) := by
  obtain ⟨r1, r2, r3, r4, r5, r6, r7⟩ := h
  have fx : ∀ kd, ¬ kd = 0 → ∀ a b, gup X 0 p 0 x kd a b = X kd a b := fun kd hk a b => gup_k hk
  have fm : ∀ kd, ¬ kd = 50 → ∀ a b, gup M 50 p 0 x kd a b = M kd a b := fun kd hk a b => gup_k hk
  refine ⟨fun q hq => ?_, rOwn_k (fx 1 (by decide)) (fm 51 (by decide)) r2, rWrd_k (fx 2 (by decide)) (fm 52 (by decide)) r3, rEnt_k (fx 3 (by decide)) (fx 4 (by decide)) (fx 5 (by decide)) (fm 53 (by decide)) (fm 54 (by decide)) (fm 55 (by decide)) r4, rCnt_k (fx 6 (by decide)) (fm 56 (by decide)) r5, rHnd_k (fx 3 (by decide)) (fx 4 (by decide)) (fx 7 (by decide)) (fx 8 (by decide)) (fx 9 (by decide)) (fm 56 (by decide)) (fm 57 (by decide)) r6, rPrt_k (fx 10 (by decide)) (fx 11 (by decide)) (fx 12 (by decide)) (fx 13 (by decide)) (fm 58 (by decide)) (fm 59 (by decide)) (fm 60 (by decide)) r7⟩
  rw [gup_r, gup_r]
  by_cases hc : q = p
  · rw [if_pos ⟨hc, rfl⟩, if_pos ⟨hc, rfl⟩]
  · rw [if_neg (fun z => hc z.1), if_neg (fun z => hc z.1)]
    exact r1 q hq
theorem c_wrd {X M : gS} (h : Rc X M) {p w : Nat} (hp : p < 20) (hw : w < 8) {x : Int32} : Rc (gup X 2 p w x) (gup M 52 (8 * p + w) 0 x) := by
  obtain ⟨r1, r2, r3, r4, r5, r6, r7⟩ := h
  have fx : ∀ kd, ¬ kd = 2 → ∀ a b, gup X 2 p w x kd a b = X kd a b := fun kd hk a b => gup_k hk
  have fm : ∀ kd, ¬ kd = 52 → ∀ a b, gup M 52 (8 * p + w) 0 x kd a b = M kd a b := fun kd hk a b => gup_k hk
  refine ⟨rSta_k (fx 0 (by decide)) (fm 50 (by decide)) r1, rOwn_k (fx 1 (by decide)) (fm 51 (by decide)) r2, fun q hq v hv => ?_, rEnt_k (fx 3 (by decide)) (fx 4 (by decide)) (fx 5 (by decide)) (fm 53 (by decide)) (fm 54 (by decide)) (fm 55 (by decide)) r4, rCnt_k (fx 6 (by decide)) (fm 56 (by decide)) r5, rHnd_k (fx 3 (by decide)) (fx 4 (by decide)) (fx 7 (by decide)) (fx 8 (by decide)) (fx 9 (by decide)) (fm 56 (by decide)) (fm 57 (by decide)) r6, rPrt_k (fx 10 (by decide)) (fx 11 (by decide)) (fx 12 (by decide)) (fx 13 (by decide)) (fm 58 (by decide)) (fm 59 (by decide)) (fm 60 (by decide)) r7⟩
  rw [gup_r, gup_r]
  by_cases hc : q = p ∧ v = w
  · rw [if_pos hc, if_pos ⟨by omega, rfl⟩]
  · rw [if_neg hc, if_neg (by omega)]
    exact r3 q hq v hv
theorem c_clr {X M : gS} (h : Rc X M) {a i : Nat} (ha : a < 5) (hi : i < 6) (hno : ∀ a' h', a' < 5 → h' < 5 → ¬ M 56 (5 * a' + h') 0 = nI (6 * a + i + 1)) : Rc (eClr X a i) (gup M 53 (6 * a + i) 0 0) := by
  obtain ⟨r1, r2, r3, r4, r5, r6, r7⟩ := h
  have fx : ∀ kd, ¬ kd = 3 → ¬ kd = 4 → ¬ kd = 5 → ∀ a' b, eClr X a i kd a' b = X kd a' b := fun kd h3 h4 h5 a' b => eClr_k h3 h4 h5
  have fm : ∀ kd, ¬ kd = 53 → ∀ a' b, gup M 53 (6 * a + i) 0 0 kd a' b = M kd a' b := fun kd hk a' b => gup_k hk
  refine ⟨rSta_k (fx 0 (by decide) (by decide) (by decide)) (fm 50 (by decide)) r1, rOwn_k (fx 1 (by decide) (by decide) (by decide)) (fm 51 (by decide)) r2, rWrd_k (fx 2 (by decide) (by decide) (by decide)) (fm 52 (by decide)) r3, fun a' ha' i' hi' => ?_, rCnt_k (fx 6 (by decide) (by decide) (by decide)) (fm 56 (by decide)) r5, rHnd_e (fx 7 (by decide) (by decide) (by decide)) (fx 8 (by decide) (by decide) (by decide)) (fx 9 (by decide) (by decide) (by decide)) (fm 56 (by decide)) (fm 57 (by decide)) (fun a' h' f' e' ha' hh' hf' he' g1 g2 g3 => ?_) r6, rPrt_k (fx 10 (by decide) (by decide) (by decide)) (fx 11 (by decide) (by decide) (by decide)) (fx 12 (by decide) (by decide) (by decide)) (fx 13 (by decide) (by decide) (by decide)) (fm 58 (by decide)) (fm 59 (by decide)) (fm 60 (by decide)) r7⟩
  · by_cases hc : a' = a ∧ i' = i
    · obtain ⟨rfl, rfl⟩ := hc
      left
      unfold eClr
      rw [eSet_r3, eSet_r5, gup_r]
      simp
    · have g := r4 a' ha' i' hi'
      unfold eRel eClr at *
      rw [eSet_r3, eSet_r4, eSet_r5, if_neg hc, if_neg hc, if_neg hc, gup_n (by omega), gup_k (by decide), gup_k (by decide)]
      exact g
  · have hc : ¬ (f' = a ∧ e' = i) := by
      rintro ⟨rfl, rfl⟩
      exact hno a' h' ha' hh' g1
    unfold eClr
    rw [eSet_r3, eSet_r4, if_neg hc, if_neg hc]
    exact ⟨g2, g3⟩
theorem hSet_r7 {X : gS} {a k a' k' : Nat} {s o p : Int32} : hSet X a k s o p 7 a' k' = if a' = a ∧ k' = k then s else X 7 a' k' := by rw [hSet, gup_k (by decide), gup_k (by decide), gup_r]
theorem hSet_r8 {X : gS} {a k a' k' : Nat} {s o p : Int32} : hSet X a k s o p 8 a' k' = if a' = a ∧ k' = k then o else X 8 a' k' := by rw [hSet, gup_k (by decide), gup_r, gup_k (by decide)]
theorem hSet_r9 {X : gS} {a k a' k' : Nat} {s o p : Int32} : hSet X a k s o p 9 a' k' = if a' = a ∧ k' = k then p else X 9 a' k' := by rw [hSet, gup_r, gup_k (by decide), gup_k (by decide)]
theorem mC_c {M M' : gS} {e : Nat} (h : ∀ k, k < 25 → decide (M' 56 k 0 = nI (e + 1)) = decide (M 56 k 0 = nI (e + 1))) : mC M' e = mC M e := by
  unfold mC
  exact cntN_c 25 0 (fun k _ hk => h k (by omega))
theorem mC_add {M : gS} {j e : Nat} (hj : j < 25) (he : e < 30) (h0 : M 56 j 0 = 0) (e' : Nat) (he' : e' < 30) : mC (gup M 56 j 0 (nI (e + 1))) e' = mC M e' + (if e' = e then 1 else 0) := by
  by_cases hc : e' = e
  · subst hc
    rw [if_pos rfl]
    unfold mC
    refine cntN_up (j := j) 25 0 (by omega) (by omega) (fun k hk => ?_) ?_ ?_
    · rw [gup_n (fun q => hk q.1)]
    · rw [h0]
      simp only [decide_eq_false_iff_not]
      exact fun q => nI_ne0 (by omega) (by omega) q.symm
    · rw [gup_s]
      simp
  · rw [if_neg hc]
    refine (mC_c fun k hk => ?_).trans (Nat.add_zero _).symm
    by_cases hkj : k = j
    · subst hkj
      rw [gup_s, h0]
      have c1 : ¬ nI (e + 1) = nI (e' + 1) := fun q => hc (by have := nI_inj (by omega) (by omega) q; omega)
      have c2 : ¬ (0 : Int32) = nI (e' + 1) := fun q => nI_ne0 (by omega) (by omega) q.symm
      simp [c1, c2]
    · rw [gup_n (fun q => hkj q.1)]
theorem c_map1 {X M : gS} (h : Rc X M) {a k f e : Nat} {w : Bool} (ha : a < 5) (hk : k < 5) (hf : f < 5) (he : e < 6) (h0 : X 7 a k = -1) (h3 : ¬ X 3 f e = -1) (h4 : ¬ X 4 f e = 2) : Rc (xMap1 (hSet X a k (nI f) (nI e) (bI w)) f e) (mMp1 M (5 * a + k) (6 * f + e) w) := by
  obtain ⟨r1, r2, r3, r4, r5, r6, r7⟩ := h
  have fx : ∀ kd, ¬ kd = 6 → ¬ kd = 7 → ¬ kd = 8 → ¬ kd = 9 → ∀ a' b, xMap1 (hSet X a k (nI f) (nI e) (bI w)) f e kd a' b = X kd a' b := fun kd h6 h7 h8 h9 a' b => (gup_k h6).trans (hSet_k h7 h8 h9)
  have fm : ∀ kd, ¬ kd = 56 → ¬ kd = 57 → ∀ a' b, mMp1 M (5 * a + k) (6 * f + e) w kd a' b = M kd a' b := fun kd h6 h7 a' b => by rw [mMp1, gup_k h7, gup_k h6]
  have m0 : M 56 (5 * a + k) 0 = 0 := (h_free (r6 a ha k hk)).mp h0
  refine ⟨rSta_k (fx 0 (by decide) (by decide) (by decide) (by decide)) (fm 50 (by decide) (by decide)) r1, rOwn_k (fx 1 (by decide) (by decide) (by decide) (by decide)) (fm 51 (by decide) (by decide)) r2, rWrd_k (fx 2 (by decide) (by decide) (by decide) (by decide)) (fm 52 (by decide) (by decide)) r3, rEnt_k (fx 3 (by decide) (by decide) (by decide) (by decide)) (fx 4 (by decide) (by decide) (by decide) (by decide)) (fx 5 (by decide) (by decide) (by decide) (by decide)) (fm 53 (by decide) (by decide)) (fm 54 (by decide) (by decide)) (fm 55 (by decide) (by decide)) r4, fun a' ha' i' hi' => ?_, fun a' ha' k' hk' => ?_, rPrt_k (fx 10 (by decide) (by decide) (by decide) (by decide)) (fx 11 (by decide) (by decide) (by decide) (by decide)) (fx 12 (by decide) (by decide) (by decide) (by decide)) (fx 13 (by decide) (by decide) (by decide) (by decide)) (fm 58 (by decide) (by decide)) (fm 59 (by decide) (by decide)) (fm 60 (by decide) (by decide)) r7⟩
  · unfold xMap1 mMp1
    rw [gup_r, hSet_k (by decide) (by decide) (by decide), hSet_k (by decide) (by decide) (by decide), mMps_k (M := gup M 56 (5 * a + k) 0 (nI (6 * f + e + 1))) (fun a b => gup_k (by decide)), mMps_N, mC_add (by omega) (by omega) m0 _ (by omega)]
    by_cases hc : a' = f ∧ i' = e
    · obtain ⟨rfl, rfl⟩ := hc
      rw [if_pos ⟨rfl, rfl⟩, if_pos rfl, r5 a' ha' i' hi', mMps_N, nI_succ]
    · rw [if_neg hc, if_neg (by omega), Nat.add_zero, ← mMps_N]
      exact r5 a' ha' i' hi'
  · unfold hRel
    have e7 : xMap1 (hSet X a k (nI f) (nI e) (bI w)) f e 7 a' k' = if a' = a ∧ k' = k then nI f else X 7 a' k' := by rw [xMap1, gup_k (by decide), hSet_r7]
    have e8 : xMap1 (hSet X a k (nI f) (nI e) (bI w)) f e 8 a' k' = if a' = a ∧ k' = k then nI e else X 8 a' k' := by rw [xMap1, gup_k (by decide), hSet_r8]
    have e9 : xMap1 (hSet X a k (nI f) (nI e) (bI w)) f e 9 a' k' = if a' = a ∧ k' = k then bI w else X 9 a' k' := by rw [xMap1, gup_k (by decide), hSet_r9]
    have m6 : mMp1 M (5 * a + k) (6 * f + e) w 56 (5 * a' + k') 0 = if a' = a ∧ k' = k then nI (6 * f + e + 1) else M 56 (5 * a' + k') 0 := by
      rw [mMp1, gup_k (by decide), gup_r]
      by_cases hc : a' = a ∧ k' = k
      · rw [if_pos hc, if_pos ⟨by omega, rfl⟩]
      · rw [if_neg hc, if_neg (by omega)]
    have m7 : mMp1 M (5 * a + k) (6 * f + e) w 57 (5 * a' + k') 0 = if a' = a ∧ k' = k then bI w else M 57 (5 * a' + k') 0 := by
      rw [mMp1, gup_r, gup_k (by decide)]
      by_cases hc : a' = a ∧ k' = k
      · rw [if_pos hc, if_pos ⟨by omega, rfl⟩]
      · rw [if_neg hc, if_neg (by omega)]
    rw [e7, e8, e9, m6, m7]
    by_cases hc : a' = a ∧ k' = k
    · simp only [if_pos hc]
      right
      exact ⟨f, e, hf, he, rfl, rfl, rfl, trivial, by rw [fx 3 (by decide) (by decide) (by decide) (by decide)]; exact h3, by rw [fx 4 (by decide) (by decide) (by decide) (by decide)]; exact h4⟩
    · simp only [if_neg hc]
      rcases r6 a' ha' k' hk' with g | ⟨f', e', c1, c2, c3, c4, c5, c6, c7, c8⟩
      · exact Or.inl g
      · exact Or.inr ⟨f', e', c1, c2, c3, c4, c5, c6, by rw [fx 3 (by decide) (by decide) (by decide) (by decide)]; exact c7, by rw [fx 4 (by decide) (by decide) (by decide) (by decide)]; exact c8⟩
theorem c_map {X M : gS} (h : Rc X M) (d f r : Int32) (w : Bool) : (xMap X d f r w).1 = (mMap M d f r w).1 ∧ Rc (xMap X d f r w).2 (mMap M d f r w).2 := by
  have hR := h
  obtain ⟨r1, r2, r3, r4, r5, r6, r7⟩ := h
  unfold xMap mMap
  rw [l_live r1, l_live r1]
  by_cases hl : mLive M d = true ∧ mLive M f = true
  · rw [if_pos hl, if_pos hl]
    obtain ⟨a, ha, rfl⟩ := live_nI hl.1
    obtain ⟨b, hb, rfl⟩ := live_nI hl.2
    rw [tN_nI (by omega), tN_nI (by omega), l_fh r6 ha]
    rcases l_hasE r4 hb r with ⟨e1, i, hi, rfl, hf, e2⟩ | ⟨e1, e2⟩
    · rw [if_pos e1, e2, tN_nI (by omega), tN_nI (by omega)]
      rcases r4 b hb i hi with ⟨g1, -⟩ | ⟨t, ht, g1, g2, g3, g4⟩
      · exact absurd g1 hf
      · rw [g3, g2, g1]
        have ht1 : nI t = nI a ↔ nI (t + 1) = nI a + 1 := by rw [nI_add1]; exact ⟨fun q => by rw [nI_inj (by omega) (by omega) q], fun q => by have := nI_inj (by omega) (by omega) q; rw [show t = a by omega]⟩
        by_cases hbad : X 4 b i = 2 ∨ ¬ nI t = nI a
        · rw [if_pos hbad, if_pos (Or.inr (hbad.imp id (fun q z => q (ht1.mpr z))))]
          exact ⟨rfl, hR⟩
        · have hneg : ¬ (nI (6 * b + i) < 0 ∨ X 4 b i = 2 ∨ ¬ nI (t + 1) = nI a + 1) := fun q => q.elim (nI_pos (by omega)) (fun q => hbad (q.imp id (fun q z => q (ht1.mp z))))
          rw [if_neg hbad, if_neg hneg]
          by_cases hro : w = true ∧ X 4 b i = 0
          · rw [if_pos hro, if_pos hro]
            exact ⟨rfl, hR⟩
          · rw [if_neg hro, if_neg hro]
            rcases ffst_is (p := fun k => decide (M 56 (5 * a + k) 0 = 0)) (n := 5) (by decide) with he | ⟨k, hk, he, hpk⟩
            · have he' : mFh M a = -1 := he
              rw [he', if_pos rfl, if_pos (by decide)]
              exact ⟨rfl, hR⟩
            · have he' : mFh M a = nI k := he
              rw [he', if_neg (nI_nm1 (by omega)), if_neg (nI_pos (by omega)), tN_nI (by omega)]
              exact ⟨rfl, c_map1 hR ha hk hb hi ((h_free (r6 a ha k hk)).mpr (by simpa using hpk)) hf (fun q => hbad (Or.inl q))⟩
    · rw [if_neg (by rw [e1]; decide), if_pos (Or.inl e2)]
      exact ⟨rfl, hR⟩
  · rw [if_neg hl, if_neg hl]
    exact ⟨rfl, hR⟩
theorem no_map {X M : gS} (h : rHnd X M) {a i : Nat} (ha : a < 5) (hi : i < 6) (h2 : X 4 a i = 2) : ∀ a' h', a' < 5 → h' < 5 → ¬ M 56 (5 * a' + h') 0 = nI (6 * a + i + 1) := by
  intro a' h' ha' hh' q
  rcases h a' ha' h' hh' with ⟨-, g⟩ | ⟨f, e, hf, he, -, -, g, -, -, g2⟩
  · rw [g] at q
    exact nI_ne0 (by omega) (by omega) q.symm
  · rw [g] at q
    have := nI_inj (by omega) (by omega) q
    have e1 : f = a := by omega
    have e2 : e = i := by omega
    subst e1; subst e2
    exact g2 h2
theorem c_give {X M : gS} (h : Rc X M) (d p t r : Int32) : (xGive X d p t r).1 = (mGive M d p t r).1 ∧ Rc (xGive X d p t r).2 (mGive M d p t r).2 := by
  have hR := h
  obtain ⟨r1, r2, r3, r4, r5, r6, r7⟩ := h
  unfold xGive mGive
  rw [l_live r1, l_live r1, l_owns r2, l_cnt r2]
  by_cases hl : mLive M d = true ∧ mLive M t = true
  · rw [if_pos hl, if_pos hl]
    obtain ⟨a, ha, rfl⟩ := live_nI hl.1
    obtain ⟨b, hb, rfl⟩ := live_nI hl.2
    by_cases ho : mOwns M (nI a) p = true
    · rw [if_pos ho, if_pos ho]
      obtain ⟨q, hq, rfl⟩ := owns_nI ho
      rw [tN_nI (by omega), tN_nI (by omega), tN_nI (by omega), l_ew r4 ha hq]
      by_cases he : mHeld M a (nI q) false = true
      · rw [if_pos he, if_pos he]
        exact ⟨rfl, hR⟩
      · rw [if_neg he, if_neg he]
        rcases l_hasE r4 hb r with ⟨e1, i, hi, rfl, hf, e2⟩ | ⟨e1, e2⟩
        · rw [if_pos e1, e2, tN_nI (by omega), tN_nI (by omega)]
          rcases r4 b hb i hi with ⟨g1, -⟩ | ⟨tt, ht, g1, g2, g3, g4⟩
          · exact absurd g1 hf
          · rw [g3, g2, g1]
            have ht1 : nI tt = nI a ↔ nI (tt + 1) = nI a + 1 := by rw [nI_add1]; exact ⟨fun q => by rw [nI_inj (by omega) (by omega) q], fun q => by have := nI_inj (by omega) (by omega) q; rw [show tt = a by omega]⟩
            by_cases hbad : ¬ X 4 b i = 2 ∨ ¬ nI tt = nI a
            · rw [if_pos hbad, if_pos (Or.inr (hbad.imp id (fun q z => q (ht1.mpr z))))]
              exact ⟨rfl, hR⟩
            · have hneg : ¬ (nI (6 * b + i) < 0 ∨ ¬ X 4 b i = 2 ∨ ¬ nI (tt + 1) = nI a + 1) := fun q => q.elim (nI_pos (by omega)) (fun q => hbad (q.imp id (fun q z => q (ht1.mp z))))
              rw [if_neg hbad, if_neg hneg]
              by_cases h6 : 6 ≤ mCnt M (nI b)
              · rw [if_pos h6, if_pos h6]
                exact ⟨rfl, hR⟩
              · rw [if_neg h6, if_neg h6]
                have hk2 : X 4 b i = 2 := Classical.byContradiction fun q => hbad (Or.inl q)
                have c1 := c_own hR (p := q) (x := nI b) (Or.inr ⟨b, hb, rfl⟩)
                refine ⟨rfl, c_clr c1 hb hi (fun a' h' ha' hh' => ?_)⟩
                rw [gup_k (by decide)]
                exact no_map r6 hb hi hk2 a' h' ha' hh'
        · rw [if_neg (by rw [e1]; decide), if_pos (Or.inl e2)]
          exact ⟨rfl, hR⟩
    · rw [if_neg ho, if_neg ho]
      exact ⟨rfl, hR⟩
  · rw [if_neg hl, if_neg hl]
    exact ⟨rfl, hR⟩
end
section
theorem mC_sub {M : gS} {j e : Nat} (hj : j < 25) (he : e < 30) (h1 : M 56 j 0 = nI (e + 1)) (e' : Nat) (he' : e' < 30) : mC M e' = mC (gup M 56 j 0 0) e' + (if e' = e then 1 else 0) := by
  rw [← mC_add (M := gup M 56 j 0 0) hj he gup_s e' he']
  refine (mC_c fun k hk => ?_).symm
  by_cases hkj : k = j
  · subst hkj
    rw [gup_s, h1]
  · rw [gup_n (fun q => hkj q.1), gup_n (fun q => hkj q.1)]
theorem c_tk1 {X M : gS} (h : Rc X M) {a k f e : Nat} (ha : a < 5) (hk : k < 5) (hf : f < 5) (he : e < 6) (h1 : M 56 (5 * a + k) 0 = nI (6 * f + e + 1)) : Rc (xTk1 X a k f e) (gup M 56 (5 * a + k) 0 0) := by
  obtain ⟨r1, r2, r3, r4, r5, r6, r7⟩ := h
  have fx : ∀ kd, ¬ kd = 6 → ¬ kd = 7 → ¬ kd = 8 → ¬ kd = 9 → ∀ a' b, xTk1 X a k f e kd a' b = X kd a' b := fun kd h6 h7 h8 h9 a' b => (gup_k h6).trans (hClr_k h7 h8 h9)
  have fm : ∀ kd, ¬ kd = 56 → ∀ a' b, gup M 56 (5 * a + k) 0 0 kd a' b = M kd a' b := fun kd hk a' b => gup_k hk
  refine ⟨rSta_k (fx 0 (by decide) (by decide) (by decide) (by decide)) (fm 50 (by decide)) r1, rOwn_k (fx 1 (by decide) (by decide) (by decide) (by decide)) (fm 51 (by decide)) r2, rWrd_k (fx 2 (by decide) (by decide) (by decide) (by decide)) (fm 52 (by decide)) r3, rEnt_k (fx 3 (by decide) (by decide) (by decide) (by decide)) (fx 4 (by decide) (by decide) (by decide) (by decide)) (fx 5 (by decide) (by decide) (by decide) (by decide)) (fm 53 (by decide)) (fm 54 (by decide)) (fm 55 (by decide)) r4, fun a' ha' i' hi' => ?_, fun a' ha' k' hk' => ?_, rPrt_k (fx 10 (by decide) (by decide) (by decide) (by decide)) (fx 11 (by decide) (by decide) (by decide) (by decide)) (fx 12 (by decide) (by decide) (by decide) (by decide)) (fx 13 (by decide) (by decide) (by decide) (by decide)) (fm 58 (by decide)) (fm 59 (by decide)) (fm 60 (by decide)) r7⟩
  · have hs := mC_sub (j := 5 * a + k) (e := 6 * f + e) (by omega) (by omega) h1 (6 * a' + i') (by omega)
    have h5 := r5 a' ha' i' hi'
    rw [mMps_N] at h5 ⊢
    unfold xTk1
    rw [gup_r, hClr_k (by decide) (by decide) (by decide), hClr_k (by decide) (by decide) (by decide)]
    by_cases hc : a' = f ∧ i' = e
    · obtain ⟨rfl, rfl⟩ := hc
      rw [if_pos rfl] at hs
      rw [if_pos ⟨rfl, rfl⟩, h5, hs]
      exact nI_pred _
    · rw [if_neg (by omega)] at hs
      rw [if_neg hc, h5, hs]
      exact congrArg nI (Nat.add_zero _)
  · have e7 : xTk1 X a k f e 7 a' k' = if a' = a ∧ k' = k then -1 else X 7 a' k' := by rw [xTk1, gup_k (by decide), hClr, hSet_r7]
    have e8 : ¬ (a' = a ∧ k' = k) → xTk1 X a k f e 8 a' k' = X 8 a' k' := fun hc => by rw [xTk1, gup_k (by decide), hClr, hSet_r8, if_neg hc]
    have e9 : ¬ (a' = a ∧ k' = k) → xTk1 X a k f e 9 a' k' = X 9 a' k' := fun hc => by rw [xTk1, gup_k (by decide), hClr, hSet_r9, if_neg hc]
    by_cases hc : a' = a ∧ k' = k
    · left
      rw [e7, if_pos hc]
      obtain ⟨rfl, rfl⟩ := hc
      exact ⟨rfl, gup_s⟩
    · rcases r6 a' ha' k' hk' with ⟨g1, g2⟩ | ⟨f', e', c1, c2, c3, c4, c5, c6, c7, c8⟩
      · left
        rw [e7, if_neg hc, gup_n (by omega)]
        exact ⟨g1, g2⟩
      · right
        refine ⟨f', e', c1, c2, ?_, ?_, ?_, ?_, ?_, ?_⟩
        · rw [e7, if_neg hc]; exact c3
        · rw [e8 hc]; exact c4
        · rw [gup_n (by omega)]; exact c5
        · rw [gup_k (by decide), e9 hc]; exact c6
        · rw [fx 3 (by decide) (by decide) (by decide) (by decide)]; exact c7
        · rw [fx 4 (by decide) (by decide) (by decide) (by decide)]; exact c8
theorem xRel_c {X M : gS} (h : Rc X M) {f e p : Nat} (hf : f < 5) (he : e < 6) (hp : p < 20) (h5 : X 5 f e = nI p) (h55 : M 55 (6 * f + e) 0 = nI p) (hm : ¬ 0 < mMps M (6 * f + e)) : Rc (xRel X (nI f) f e) (mTk3 (mTk0 (gup M 53 (6 * f + e) 0 0) (6 * f + e)) f) := by
  have hA := c_clr h hf he (fun a' h' ha' hh' => mC_none hm (by omega))
  have hd : (6 * f + e) / 6 = f := by omega
  have hB : Rc (xRel0 (eClr X f e) (nI f) (X 5 f e)) (mTk0 (gup M 53 (6 * f + e) 0 0) (6 * f + e)) := by
    unfold xRel0 mTk0
    rw [gup_k (by decide), h55, h5, hd, tN_nI (by omega), tN_nI (by omega), l_mew hA.2.2.2.1 hA.2.2.2.2.1 hf hp]
    split
    · exact hA
    · exact c_own hA (Or.inl rfl)
  unfold xRel mTk3 xBury
  rw [l_cnt hB.2.1, tN_nI (by omega)]
  split
  · exact c_sta hB
  · exact hB
theorem mapped_of {X M : gS} (h : Rc X M) {a k : Nat} (ha : a < 5) (hk : k < 5) (hm : ¬ X 7 a k = -1) : ∃ f e p, f < 5 ∧ e < 6 ∧ p < 20 ∧ X 7 a k = nI f ∧ X 8 a k = nI e ∧ M 56 (5 * a + k) 0 = nI (6 * f + e + 1) ∧ M 57 (5 * a + k) 0 = X 9 a k ∧ ¬ X 3 f e = -1 ∧ ¬ X 4 f e = 2 ∧ X 5 f e = nI p ∧ M 55 (6 * f + e) 0 = nI p ∧ mE M (5 * a + k) = 6 * f + e := by
  rcases h.2.2.2.2.2.1 a ha k hk with ⟨g, -⟩ | ⟨f, e, c1, c2, c3, c4, c5, c6, c7, c8⟩
  · exact absurd g hm
  · rcases h.2.2.2.1 f c1 e c2 with ⟨g, -⟩ | ⟨t, ht, -, -, -, ⟨g, -⟩ | ⟨-, p, hp, g1, g2⟩⟩
    · exact absurd g c7
    · exact absurd g c8
    · refine ⟨f, e, p, c1, c2, hp, c3, c4, c5, c6, c7, c8, g1, g2, ?_⟩
      unfold mE
      rw [c5, nI_pred, tN_nI (by omega)]
theorem c_tk {X M : gS} (h : Rc X M) {a k : Nat} (ha : a < 5) (hk : k < 5) (hm : ¬ X 7 a k = -1) : tkF X a k ∧ mtF M (5 * a + k) ∧ Rc (xTk X a k) (mTk M (5 * a + k) (mE M (5 * a + k))) := by
  obtain ⟨f, e, p, c1, c2, c3, c4, c5, c6, c7, c8, c9, c10, c11, c12⟩ := mapped_of h ha hk hm
  have hA := c_tk1 h ha hk c1 c2 c6
  have x5 : xTk1 X a k f e 5 f e = nI p := by rw [xTk1, gup_k (by decide), hClr_k (by decide) (by decide) (by decide)]; exact c10
  refine ⟨?_, ?_, ?_⟩
  · unfold tkF
    rw [c4, c5, tN_nI (by omega), tN_nI (by omega), x5, tN_nI (by omega)]
    exact ⟨nI_pos (by omega), c1, nI_pos (by omega), c2, nI_pos (by omega), c3⟩
  · unfold mtF
    rw [c12, c6, c11, tN_nI (by omega)]
    exact ⟨rfl, by omega, nI_pos (by omega), c3⟩
  · unfold xTk mTk
    rw [c4, c5, tN_nI (by omega), tN_nI (by omega), c12]
    have hd : (6 * f + e) / 6 = f := by omega
    unfold xTk2 mTk2
    rw [hd, ← hA.1 f c1, hA.2.2.2.2.1 f c1 e c2]
    by_cases hc : gup M 56 (5 * a + k) 0 0 50 f 0 = 2 ∧ ¬ 0 < mMps (gup M 56 (5 * a + k) 0 0) (6 * f + e)
    · rw [if_pos hc, if_neg (fun q => q.elim (fun q => q hc.1) hc.2)]
      exact xRel_c hA c1 c2 c3 x5 (by rw [gup_k (by decide)]; exact c11) hc.2
    · rw [if_neg hc, if_pos ?_]
      · exact hA
      · by_cases q : gup M 56 (5 * a + k) 0 0 50 f 0 = 2
        · exact Or.inr (Classical.byContradiction fun z => hc ⟨q, z⟩)
        · exact Or.inl q
theorem l_hasH {X M : gS} (h : rHnd X M) {a : Nat} (ha : a < 5) (r : Int32) : (xHasH X a r = true ∧ ∃ i, i < 5 ∧ r = nI i ∧ ¬ X 7 a i = -1 ∧ ¬ (r < 0 ∨ 4 < r ∨ M 56 (5 * a + i) 0 = 0)) ∨ (xHasH X a r = false ∧ (r < 0 ∨ 4 < r ∨ M 56 (5 * a + tN r) 0 = 0)) := by
  by_cases h0 : r < 0
  · right
    refine ⟨?_, Or.inl h0⟩
    unfold xHasH
    simp [i32_c h0]
  · by_cases h5 : 4 < r
    · right
      have h6 : ¬ r < 5 := by
        rw [Int32.lt_iff_toInt_lt] at h5 ⊢
        have e5 : (5 : Int32).toInt = 5 := by decide
        have e6 : (4 : Int32).toInt = 4 := by decide
        omega
      refine ⟨?_, Or.inr (Or.inl h5)⟩
      unfold xHasH
      simp [h6]
    · obtain ⟨i, hi, rfl⟩ := nJ_of (k := 4) (by decide) h0 h5
      have ti : tN (nI i) = i := tN_nI (by omega)
      have h6 : nI i < 5 := nI_lt (a := i) (b := 5) (by omega) (by decide)
      have he := h_free (h a ha i (by omega))
      by_cases hf : X 7 a i = -1
      · right
        refine ⟨?_, Or.inr (Or.inr (by rw [ti]; exact he.mp hf))⟩
        unfold xHasH
        rw [ti]
        simp [hf]
      · left
        refine ⟨?_, i, by omega, rfl, hf, fun q => q.elim h0 (fun q => q.elim h5 (fun q => hf (he.mpr q)))⟩
        unfold xHasH
        rw [ti]
        simp [hf, h6, i32_d h0]
theorem c_unmap {X M : gS} (h : Rc X M) (d k : Int32) : (xUnmap X d k).1 = (mUnmap M d k).1 ∧ Rc (xUnmap X d k).2 (mUnmap M d k).2 := by
  have hR := h
  obtain ⟨r1, r2, r3, r4, r5, r6, r7⟩ := h
  unfold xUnmap mUnmap
  rw [l_live r1]
  by_cases hl : mLive M d = true
  · rw [if_pos hl, if_pos hl]
    obtain ⟨a, ha, rfl⟩ := live_nI hl
    rw [tN_nI (by omega)]
    rcases l_hasH r6 ha k with ⟨e1, i, hi, rfl, hf, e2⟩ | ⟨e1, e2⟩
    · rw [if_pos e1, tN_nI (by omega), if_neg e2]
      exact ⟨rfl, (c_tk hR ha hi hf).2.2⟩
    · rw [if_neg (by rw [e1]; decide), if_pos e2]
      exact ⟨rfl, hR⟩
  · rw [if_neg hl, if_neg hl]
    exact ⟨rfl, hR⟩
end
section
theorem orb_any (p : Nat → Bool) : ∀ n i c, orb p n i c = (c || anyb p n i) := by
  intro n
  induction n with
  | zero => intro i c; simp [orb, anyb]
  | succ n ih =>
    intro i c
    unfold orb anyb
    rw [ih]
    cases p i <;> simp
theorem l_may {X M : gS} (h : Rc X M) {a p : Nat} (ha : a < 5) (hp : p < 20) (s : Bool) : (xOwns X (nI a) (nI p) || xMof X a (nI p) s) = mMay M a (nI p) s := by
  unfold mMay
  rw [orb_any, l_owns h.2.1]
  congr 1
  unfold xMof
  refine anyb_c 5 0 (5 * a) fun k hk => ?_
  simp only [Nat.zero_add]
  by_cases hf : X 7 a k = -1
  · have e0 := (h_free (h.2.2.2.2.2.1 a ha k hk)).mp hf
    rw [e0]
    simp [hf]
  · obtain ⟨f, e, q, c1, c2, c3, c4, c5, c6, c7, c8, c9, c10, c11, c12⟩ := mapped_of h ha hk hf
    have e1 : xPgO X a k = nI q := by
      unfold xPgO
      rw [c4, c5, tN_nI (by omega), tN_nI (by omega)]
      exact c10
    have g1 : (0 : Int32) < nI (6 * f + e + 1) := i32_small (by omega) (by omega)
    rw [e1, c12, c11, c7, c6]
    simp only [hf, g1, decide_false, decide_true, Bool.not_false, Bool.true_and]
    exact Bool.and_comm _ _
theorem l_acc {X M : gS} (h : Rc X M) (d p w : Int32) (s : Bool) : xAcc X d p w s = mRef M d p w s := by
  unfold xAcc mRef
  rw [l_live h.1]
  by_cases hl : mLive M d = true
  · rw [if_pos hl, if_pos hl]
    obtain ⟨a, ha, rfl⟩ := live_nI hl
    rw [tN_nI (by omega)]
    have hr : (xPag p && decide (0 ≤ w) && decide (w < 8)) = true ↔ ¬ (p < 0 ∨ 19 < p ∨ w < 0 ∨ 7 < w) := by
      unfold xPag
      simp only [Bool.and_eq_true, decide_eq_true_eq]
      rw [Int32.le_iff_toInt_le, Int32.le_iff_toInt_le, Int32.lt_iff_toInt_lt, Int32.lt_iff_toInt_lt, Int32.lt_iff_toInt_lt, Int32.lt_iff_toInt_lt, Int32.lt_iff_toInt_lt, Int32.lt_iff_toInt_lt]
      have e0 : (0 : Int32).toInt = 0 := by decide
      have e7 : (7 : Int32).toInt = 7 := by decide
      have e8 : (8 : Int32).toInt = 8 := by decide
      have e19 : (19 : Int32).toInt = 19 := by decide
      have e20 : (20 : Int32).toInt = 20 := by decide
      omega
    by_cases hb : p < 0 ∨ 19 < p ∨ w < 0 ∨ 7 < w
    · rw [if_neg (fun q => hr.mp q hb), if_pos hb]
    · rw [if_pos (hr.mpr hb), if_neg hb]
      obtain ⟨pn, hpn, rfl⟩ := nJ_of (k := 19) (by decide) (fun q => hb (Or.inl q)) (fun q => hb (Or.inr (Or.inl q)))
      rw [l_may h ha hpn]
  · rw [if_neg hl, if_neg hl]
theorem c_store {X M : gS} (h : Rc X M) (d p w v : Int32) : (xStore X d p w v).1 = (mStore M d p w v).1 ∧ Rc (xStore X d p w v).2 (mStore M d p w v).2 := by
  unfold xStore mStore
  rw [l_acc h]
  by_cases hz : mRef M d p w true = 0
  · rw [if_pos hz, if_pos hz]
    obtain ⟨⟨pn, hpn, rfl⟩, wn, hwn, rfl⟩ := ref_nn hz
    rw [tN_nI (by omega), tN_nI (by omega)]
    exact ⟨rfl, c_wrd h hpn hwn⟩
  · rw [if_neg hz, if_neg hz]
    exact ⟨rfl, h⟩
theorem hOkA_of {X M : gS} (h : Rc X M) : hOkA X := by
  intro a ha k hk hf
  obtain ⟨f, e, q, c1, c2, c3, c4, c5, -⟩ := mapped_of h ha hk (by simpa using hf)
  rw [c4, c5, tN_nI (by omega), tN_nI (by omega)]
  exact ⟨nI_pos (by omega), c1, nI_pos (by omega), c2⟩
theorem hOkM_all {X M : gS} (h : Rc X M) : ∀ k, k < 25 → ¬ M 56 k 0 = 0 → M 56 k 0 = nI (mE M k + 1) ∧ mE M k < 30 ∧ mtF M k := by
  intro k hk h0
  have hk2 : k = 5 * (k / 5) + k % 5 := by omega
  have hm : ¬ X 7 (k / 5) (k % 5) = -1 := fun q => h0 (by rw [hk2]; exact (h_free (h.2.2.2.2.2.1 (k / 5) (by omega) (k % 5) (by omega))).mp q)
  obtain ⟨f, e, q, c1, c2, c3, c4, c5, c6, c7, c8, c9, c10, c11, c12⟩ := mapped_of h (by omega) (by omega) hm
  rw [← hk2] at c6 c12
  refine ⟨by rw [c12, c6], by omega, ?_⟩
  unfold mtF
  rw [c12, c6, c11, tN_nI (by omega)]
  exact ⟨rfl, by omega, nI_pos (by omega), c3⟩
theorem hOkM_of {X M : gS} (h : Rc X M) {a : Nat} (ha : a < 5) : hOkM M a := fun k hk hp => by
  have q := hOkM_all h k (by omega) (fun z => hp (by rw [z]; decide))
  exact ⟨q.1, q.2.1⟩
theorem pqA_of {X M : gS} (h : Rc X M) : pqA X := by
  intro a ha k hk h2
  obtain ⟨-, -, -, g⟩ := h.2.2.2.2.2.2 a ha k hk
  rcases g with g | ⟨g, -⟩ | ⟨-, b, j, c1, c2, c3, c4, -⟩
  · rw [h2] at g; exact absurd g (by decide)
  · rw [h2] at g; exact absurd g (by decide)
  · unfold pqF
    rw [c3, c4, tN_nI (by omega), tN_nI (by omega)]
    exact ⟨nI_pos (by omega), c1, nI_pos (by omega), c2⟩
theorem mpA_of {X M : gS} (h : Rc X M) : mpA M := by
  intro k hk h2
  have hk2 : k = 4 * (k / 4) + k % 4 := by omega
  obtain ⟨g1, -, -, g⟩ := h.2.2.2.2.2.2 (k / 4) (by omega) (k % 4) (by omega)
  rw [← hk2] at g1 g
  rw [h2] at g1
  rcases g with g | ⟨g, -⟩ | ⟨-, b, j, c1, c2, -, -, c5, -⟩
  · rw [g] at g1; exact absurd g1 (by decide)
  · rw [g] at g1; exact absurd g1 (by decide)
  · rw [c5, tN_nI (by omega)]
    exact ⟨nI_pos (by omega), by omega⟩
end
section
theorem pl_bits (v : Int32) : (v.toInt64 &&& 4294967295).toBitVec = v.toBitVec.setWidth 64 := by
  show v.toBitVec.signExtend 64 &&& 4294967295#64 = v.toBitVec.setWidth 64
  apply BitVec.eq_of_getLsbD_eq
  intro i hi
  rw [BitVec.getLsbD_and, BitVec.getLsbD_signExtend, BitVec.getLsbD_setWidth]
  by_cases h32 : i < 32
  · have e : (4294967295#64).getLsbD i = true := by
      have : ∀ i, i < 32 → (4294967295#64).getLsbD i = true := by decide +kernel
      exact this i h32
    rw [e]
    simp [hi, h32]
  · have e : (4294967295#64).getLsbD i = false := by
      have : ∀ i, i < 64 → ¬ i < 32 → (4294967295#64).getLsbD i = false := by decide +kernel
      exact this i hi h32
    rw [e]
    have : v.toBitVec.getLsbD i = false := BitVec.getLsbD_of_ge _ _ (by omega)
    simp [this]
theorem pl_int (v : Int32) : (v.toInt64 &&& 4294967295).toInt = (v.toBitVec.toNat : Int) := by
  have h : (v.toInt64 &&& 4294967295).toInt = (v.toBitVec.setWidth 64).toInt := by rw [← pl_bits]; rfl
  rw [h, BitVec.toInt_eq_toNat_of_lt]
  · rw [BitVec.toNat_setWidth]
    have := v.toBitVec.isLt
    omega
  · rw [BitVec.toNat_setWidth]
    have := v.toBitVec.isLt
    omega
theorem v_int (v : Int32) : v.toInt = if v.toBitVec.toNat < 2 ^ 31 then (v.toBitVec.toNat : Int) else (v.toBitVec.toNat : Int) - 2 ^ 32 := by
  show v.toBitVec.toInt = _
  rw [BitVec.toInt_eq_toNat_cond]
  have := v.toBitVec.isLt
  split <;> split <;> omega
theorem pl_eq (v : Int32) : v.toInt64 &&& 4294967295 = mPl v := by
  apply Int64.toInt_inj.mp
  rw [pl_int]
  have hv := v_int v
  have hb := v.toBitVec.isLt
  have h0 : (0 : Int32).toInt = 0 := by decide
  unfold mPl
  split
  · next hn =>
    rw [Int32.lt_iff_toInt_lt, h0] at hn
    have e1 : v.toInt64.toInt = v.toInt := Jvm.Kit.i64_of_i32 v
    rw [Int64.toInt_add, e1]
    show _ = (v.toInt + 4294967296).bmod (2 ^ 64)
    rw [Int.bmod_eq_of_le (by split at hv <;> omega) (by split at hv <;> omega)]
    split at hv <;> omega
  · next hn =>
    rw [Int32.lt_iff_toInt_lt, h0] at hn
    have e1 : v.toInt64.toInt = v.toInt := Jvm.Kit.i64_of_i32 v
    rw [e1]
    split at hv <;> omega
theorem c_load {X M : gS} (h : Rc X M) (d p w : Int32) : xLoad X d p w = mLoad M d p w := by
  unfold xLoad mLoad
  rw [l_acc h]
  by_cases hz : mRef M d p w false = 0
  · rw [if_pos hz, if_neg (by rw [hz]; decide)]
    obtain ⟨⟨pn, hpn, rfl⟩, wn, hwn, rfl⟩ := ref_nn hz
    rw [tN_nI (by omega), tN_nI (by omega), pl_eq, h.2.2.1 pn hpn wn hwn]
  · rw [if_neg hz, if_pos (Classical.byContradiction fun q => hz (ref_0 q))]
theorem Rl_0 : Rl gX0 gM0 0 := by
  refine ⟨fun a ha => by first | rfl | simp [gX0, gM0], fun p hp => ⟨by first | rfl | simp [gX0, gM0], Or.inl (by first | rfl | simp [gX0, gM0])⟩, fun p hp w hw => by first | rfl | simp [gX0, gM0], fun a ha i hi => Or.inl ⟨by first | rfl | simp [gX0, gM0], by first | rfl | simp [gX0, gM0], by first | rfl | simp [gX0, gM0]⟩, fun a ha i hi => ?_, fun a ha k hk => Or.inl ⟨by first | rfl | simp [gX0, gM0], by first | rfl | simp [gX0, gM0]⟩, fun a ha k hk => ⟨by first | rfl | simp [gX0, gM0], by first | rfl | simp [gX0, gM0], Or.inl (by first | rfl | simp [gX0, gM0]), Or.inl (by first | rfl | simp [gX0, gM0])⟩, fun v hv s hs => ⟨by first | rfl | simp [gX0, gM0], by first | rfl | simp [gX0, gM0]⟩, fun v hv => Or.inl ⟨by first | rfl | simp [gX0, gM0], by first | rfl | simp [gX0, gM0]⟩⟩
  have e : mC gM0 (6 * a + i) = 0 := by
    have : ∀ e, e < 30 → mC gM0 e = 0 := by decide +kernel
    exact this _ (by omega)
  rw [mMps_N, e]
  rfl
theorem d_pres {X M : gS} {n : Nat} (h : rDev X M n) (v : Int32) : xPres X v = true ↔ ¬ (v < 0 ∨ 2 < v ∨ M 61 (tN v) 0 = 0) := by
  unfold xPres
  simp only [Bool.and_eq_true, decide_eq_true_eq, Bool.not_eq_true', decide_eq_false_iff_not]
  by_cases h0 : v < 0
  · exact ⟨fun q => absurd h0 (i32_a q.1.1), fun q => absurd (Or.inl h0) q⟩
  · by_cases h2 : 2 < v
    · have h3 : ¬ v < 3 := by
        rw [Int32.lt_iff_toInt_lt] at h2 ⊢
        have e2 : (2 : Int32).toInt = 2 := by decide
        have e3 : (3 : Int32).toInt = 3 := by decide
        omega
      exact ⟨fun q => absurd q.1.2 h3, fun q => absurd (Or.inr (Or.inl h2)) q⟩
    · obtain ⟨vn, hvn, rfl⟩ := nJ_of (k := 2) (by decide) h0 h2
      rw [tN_nI (by omega)]
      have h3 : nI vn < 3 := nI_lt (a := vn) (b := 3) (by omega) (by decide)
      rcases h vn (by omega) with ⟨g1, g2⟩ | ⟨g1, f, b, rp, re, rh, po, ra, ta, c1, c2, c3, c4, c5, c6, c7, c8, c9, c10, c11, c12, c13, c14, c15, c16, c17, c18, c19, c20, c21, -⟩
      · exact ⟨fun q => absurd g1 q.2, fun q => absurd (Or.inr (Or.inr g2)) q⟩
      · constructor
        · intro _ q
          rcases q with q | q | q
          · exact h0 q
          · exact h2 q
          · rw [c20] at q
            exact nI_ne0 (by omega) (by omega) q
        · intro _
          exact ⟨⟨i32_d h0, h3⟩, by rw [g1]; decide⟩
end
section
theorem d_dev {X M : gS} {n v : Nat} (h : Rl X M n) (hv : v < 3) (hp : ¬ M 61 v 0 = 0) : ∃ f b rp re rh po ra ta, f < 5 ∧ b < 5 ∧ ¬ f = b ∧ rp < 20 ∧ re < 6 ∧ rh < 5 ∧ ra ≤ po ∧ po ≤ ra + 3 ∧ po ≤ n ∧ ta ≤ n ∧ X 0 f 0 = 1 ∧ X 15 v 0 = nI f ∧ X 16 v 0 = nI b ∧ X 17 v 0 = nI rp ∧ X 18 v 0 = nI re ∧ X 19 v 0 = nI rh ∧ X 22 v 0 = nI po ∧ X 23 v 0 = nI ra ∧ X 24 v 0 = nI ta ∧ M 61 v 0 = nI (f + 1) ∧ M 62 v 0 = nI b ∧ M 63 v 0 = nI rp ∧ M 64 v 0 = nI re ∧ M 65 v 0 = nI rh ∧ M 66 v 0 = X 20 v 0 ∧ M 67 v 0 = X 21 v 0 ∧ M 68 v 0 = nI po ∧ M 69 v 0 = nI ra ∧ M 70 v 0 = nI ta ∧ (∀ s, s < 8 → M 73 (8 * v + s) 0 = X 27 v s) ∧ X 14 v 0 = 1 := by
  rcases h.2.2.2.2.2.2.2.2 v hv with ⟨-, g2⟩ | ⟨g1, f, b, rp, re, rh, po, ra, ta, c1, c2, c3, c4, c5, c6, c7, c8, c9, c10, c11, c12, c13, c14, c15, c16, c17, c18, c19, c20, c21, c22, c23, c24, c25, c26, c27, c28, c29, c30⟩
  · exact absurd g2 hp
  · exact ⟨f, b, rp, re, rh, po, ra, ta, c1, c2, c3, c4, c5, c6, c7, c8, c9, c10, c11, c12, c13, c14, c15, c16, c17, c18, c19, c20, c21, c22, c23, c24, c25, c26, c27, c28, c29, c30, g1⟩
theorem d_whole {X M : gS} {n v : Nat} (h : Rl X M n) (hv : v < 3) (hp : ¬ M 61 v 0 = 0) : xWhole X v = mWh M v ∧ dvF X v ∧ dvM M v := by
  obtain ⟨f, b, rp, re, rh, po, ra, ta, c1, c2, c3, c4, c5, c6, c7, c8, c9, c10, c11, c12, c13, c14, c15, c16, c17, c18, c19, c20, c21, c22, c23, c24, c25, c26, c27, c28, c29, c30, -⟩ := d_dev h hv hp
  have eF : mF M v = f := by unfold mF; rw [c20, nI_pred, tN_nI (by omega)]
  have eB : mB M v = b := by unfold mB; rw [c21, tN_nI (by omega)]
  have eP : mRp M v = rp := by unfold mRp; rw [c22, tN_nI (by omega)]
  have eE : mRe M v = re := by unfold mRe; rw [c23, tN_nI (by omega)]
  have eG : mG M v = rh := by unfold mG; rw [c24, tN_nI (by omega)]
  refine ⟨?_, ?_, ?_⟩
  · unfold xWhole mWh
    rw [c12, c13, c14, c15, c16, eF, eB, eE, eG, c22, tN_nI (by omega), tN_nI (by omega)]
    by_cases hf : X 7 b rh = -1
    · have e0 := (h_free (h.c.2.2.2.2.2.1 b c2 rh c6)).mp hf
      rw [hf, e0]
      have q1 : ¬ (-1 : Int32) = nI f := fun q => nI_nm1 (by omega) q.symm
      have q2 : ¬ (0 : Int32) = nI (6 * f + re + 1) := fun q => nI_ne0 (by omega) (by omega) q.symm
      simp [q1, q2]
    · obtain ⟨f', e', q, d1, d2, d3, d4, d5, d6, d7, d8, d9, d10, d11, d12⟩ := mapped_of h.c c2 c6 hf
      have ep : xPgO X b rh = nI q := by
        unfold xPgO
        rw [d4, d5, tN_nI (by omega), tN_nI (by omega)]
        exact d10
      rw [ep, d4, d5, d6, d7]
      by_cases hq : f' = f ∧ e' = re
      · obtain ⟨rfl, rfl⟩ := hq
        rw [d11]
        simp
      · have q2 : ¬ nI (6 * f' + e' + 1) = nI (6 * f + re + 1) := fun z => by have := nI_inj (by omega) (by omega) z; omega
        by_cases hf' : f' = f
        · have q3 : ¬ nI e' = nI re := fun z => hq ⟨hf', nI_inj (by omega) (by omega) z⟩
          simp [q2, q3]
        · have q3 : ¬ nI f' = nI f := fun z => hf' (nI_inj (by omega) (by omega) z)
          simp [q2, q3]
  · unfold dvF
    rw [c13, c16, c12, c15, tN_nI (by omega), tN_nI (by omega)]
    refine ⟨nI_pos (by omega), c2, nI_pos (by omega), c6, fun q1 q2 => ?_⟩
    rw [q1, q2, tN_nI (by omega), tN_nI (by omega)]
    exact ⟨nI_pos (by omega), c1, nI_pos (by omega), c5⟩
  · unfold dvM
    rw [eF, eB, eP, eE, eG]
    exact ⟨c20, c1, c21, c2, c24, c6, c23, c5, c22, c4⟩
theorem d_dc {X M : gS} {n : Nat} (h : Rl X M n) (v : Int32) : xDc X v = mTr M v := by
  unfold xDc mTr
  have hp := d_pres h.2.2.2.2.2.2.2.2 v
  by_cases hb : v < 0 ∨ 2 < v ∨ M 61 (tN v) 0 = 0
  · rw [if_neg (fun q => hp.mp q hb), if_pos hb]
  · rw [if_pos (hp.mpr hb), if_neg hb, (d_whole h (tN_le (z := v) (k := 2) (by decide) (fun q => hb (Or.inr (Or.inl q)))) (fun q => hb (Or.inr (Or.inr q)))).1]
theorem own_long {x : Int32} (hx : x = -1 ∨ ∃ a, a < 5 ∧ x = nI a) : x.toInt64 = (x + 1).toInt64 - 1 := by
  rcases hx with rfl | ⟨a, ha, rfl⟩
  · decide
  · have : ∀ a, a < 5 → (nI a).toInt64 = (nI a + 1).toInt64 - 1 := by decide +kernel
    exact this a ha
theorem l_dom2 {a : Int32} : xDom a = true ↔ ¬ (a < 0 ∨ 4 < a) := by
  rw [l_dom]
  simp only [Bool.and_eq_true, decide_eq_true_eq]
  exact ⟨fun q z => z.elim (i32_a q.1) (i32_a q.2), fun q => ⟨i32_d (fun z => q (Or.inl z)), i32_d (fun z => q (Or.inr z))⟩⟩
theorem l_pag2 {a : Int32} : xPag a = true ↔ ¬ (a < 0 ∨ 19 < a) := by
  rw [l_pag]
  simp only [Bool.and_eq_true, decide_eq_true_eq]
  exact ⟨fun q z => z.elim (i32_a q.1) (i32_a q.2), fun q => ⟨i32_d (fun z => q (Or.inl z)), i32_d (fun z => q (Or.inr z))⟩⟩
end
section
theorem ent_neg {M : gS} {a : Nat} {r : Int32} (ha : a < 5) : mEnt M a r < 0 ↔ (r < 0 ∨ 5 < r ∨ M 53 (6 * a + tN r) 0 = 0) := by
  unfold mEnt
  by_cases hb : r < 0 ∨ 5 < r ∨ M 53 (6 * a + tN r) 0 = 0
  · rw [if_pos hb]
    exact ⟨fun _ => hb, fun _ => by decide⟩
  · rw [if_neg hb]
    have := tN_le (z := r) (k := 5) (by decide) (fun q => hb (Or.inr (Or.inl q)))
    exact ⟨fun q => absurd q (nI_pos (by omega)), fun q => absurd q hb⟩
theorem lk_2 {X M : gS} {n : Nat} (h : Rl X M n) {a : Nat} (ha : a < 5) (b : Int32) : (if xHasE X a b = true then (X 6 a (tN b)).toInt64 else (-1 : Int64)) = if b < 0 ∨ 5 < b ∨ M 53 (6 * a + tN b) 0 = 0 then -1 else (mMps M (6 * a + tN b)).toInt64 := by
  rcases l_hasE h.c.2.2.2.1 ha b with ⟨e1, i, hi, rfl, hf, e2⟩ | ⟨e1, e2⟩
  · rw [if_pos e1, if_neg (fun q => absurd ((ent_neg ha).mpr q) (by rw [e2]; exact nI_pos (by omega))), tN_nI (by omega), h.c.2.2.2.2.1 a ha i hi]
  · rw [if_neg (by rw [e1]; decide), if_pos ((ent_neg ha).mp e2)]
theorem lk_3 {X M : gS} {n : Nat} (h : Rl X M n) {a : Nat} (ha : a < 5) (b : Int32) : (if xHasH X a b = true then (xPgO X a (tN b)).toInt64 else (-1 : Int64)) = if b < 0 ∨ 4 < b ∨ M 56 (5 * a + tN b) 0 = 0 then -1 else (M 55 (mE M (5 * a + tN b)) 0).toInt64 := by
  rcases l_hasH h.c.2.2.2.2.2.1 ha b with ⟨e1, i, hi, rfl, hf, e2⟩ | ⟨e1, e2⟩
  · obtain ⟨f, e, q, c1, c2, c3, c4, c5, c6, c7, c8, c9, c10, c11, c12⟩ := mapped_of h.c ha hi hf
    have ep : xPgO X a i = nI q := by
      unfold xPgO
      rw [c4, c5, tN_nI (by omega), tN_nI (by omega)]
      exact c10
    rw [if_pos e1, tN_nI (by omega), if_neg e2, ep, c12, c11]
  · rw [if_neg (by rw [e1]; decide), if_pos e2]
theorem c_look {X M : gS} {n : Nat} (h : Rl X M n) (w a b : Int32) : xLook X w a b = mLook M w a b := by
  have hd := l_dom2 (a := a)
  have hp := l_pag2 (a := a)
  have hv := d_pres h.2.2.2.2.2.2.2.2 a
  unfold xLook mLook
  by_cases h0 : a < 0
  · have n1 : ¬ xDom a = true := fun q => hd.mp q (Or.inl h0)
    have n2 : ¬ xPag a = true := fun q => hp.mp q (Or.inl h0)
    have n3 : ¬ xPres X a = true := fun q => hv.mp q (Or.inl h0)
    rw [if_pos (Or.inl h0)]
    simp [n1, n2, n3]
  · by_cases hw : b < 0 ∧ (w = 2 ∨ w = 3 ∨ w = 5)
    · rw [if_pos (Or.inr hw)]
      have n1 : ∀ a, ¬ xHasE X a b = true := fun a q => (ir_hasE q).1 hw.1
      have n2 : ∀ a, ¬ xHasH X a b = true := fun a q => (ir_hasH q).1 hw.1
      have n3 : ¬ 0 ≤ b := i32_c hw.1
      rcases hw.2 with rfl | rfl | rfl
      · simp [n1]
      · simp [n2]
      · simp [n3]
    · have hneg0 : ¬ (a < 0 ∨ (b < 0 ∧ (w = 2 ∨ w = 3 ∨ w = 5))) := fun q => q.elim h0 hw
      rw [if_neg hneg0]
      by_cases w0 : w = 0
      · rw [if_pos w0, if_pos w0]
        by_cases h4 : 4 < a
        · rw [if_neg (fun q => hd.mp q (Or.inr h4)), if_pos h4]
        · rw [if_pos (hd.mpr (fun q => q.elim h0 h4)), if_neg h4, h.1 _ (tN_le (z := a) (k := 4) (by decide) h4)]
      · rw [if_neg w0, if_neg w0]
        by_cases w1 : w = 1
        · rw [if_pos w1, if_pos w1]
          by_cases h4 : 19 < a
          · rw [if_neg (fun q => hp.mp q (Or.inr h4)), if_pos h4]
          · rw [if_pos (hp.mpr (fun q => q.elim h0 h4)), if_neg h4]
            have g := h.2.1 _ (tN_le (z := a) (k := 19) (by decide) h4)
            rw [g.1]
            exact own_long g.2
        · rw [if_neg w1, if_neg w1]
          by_cases w2 : w = 2
          · rw [if_pos w2, if_pos w2]
            have hb : ¬ b < 0 := fun q => hw ⟨q, Or.inl w2⟩
            by_cases h4 : 4 < a
            · rw [if_neg (fun q => hd.mp q.1 (Or.inr h4)), if_pos (Or.inl h4)]
            · have ha := tN_le (z := a) (k := 4) (by decide) h4
              have g := lk_2 h ha b
              have hd' := hd.mpr (fun q => q.elim h0 h4)
              by_cases he : xHasE X (tN a) b = true
              · rw [if_pos he] at g
                rw [if_pos ⟨hd', he⟩, g]
                by_cases hq : 5 < b ∨ M 53 (6 * tN a + tN b) 0 = 0
                · rw [if_pos (Or.inr hq), if_pos (Or.inr hq)]
                · rw [if_neg (fun q => q.elim hb hq), if_neg (fun q => q.elim h4 hq)]
              · rw [if_neg he] at g
                rw [if_neg (fun q => he q.2), g]
                by_cases hq : 5 < b ∨ M 53 (6 * tN a + tN b) 0 = 0
                · rw [if_pos (Or.inr hq), if_pos (Or.inr hq)]
                · rw [if_neg (fun q => q.elim hb hq), if_neg (fun q => q.elim h4 hq)]
          · rw [if_neg w2, if_neg w2]
            by_cases w3 : w = 3
            · rw [if_pos w3, if_pos w3]
              have hb : ¬ b < 0 := fun q => hw ⟨q, Or.inr (Or.inl w3)⟩
              by_cases h4 : 4 < a
              · rw [if_neg (fun q => hd.mp q.1 (Or.inr h4)), if_pos (Or.inl h4)]
              · have ha := tN_le (z := a) (k := 4) (by decide) h4
                have g := lk_3 h ha b
                have hd' := hd.mpr (fun q => q.elim h0 h4)
                by_cases he : xHasH X (tN a) b = true
                · rw [if_pos he] at g
                  rw [if_pos ⟨hd', he⟩, g]
                  by_cases hq : 4 < b ∨ M 56 (5 * tN a + tN b) 0 = 0
                  · rw [if_pos (Or.inr hq), if_pos (Or.inr hq)]
                  · rw [if_neg (fun q => q.elim hb hq), if_neg (fun q => q.elim h4 hq)]
                · rw [if_neg he] at g
                  rw [if_neg (fun q => he q.2), g]
                  by_cases hq : 4 < b ∨ M 56 (5 * tN a + tN b) 0 = 0
                  · rw [if_pos (Or.inr hq), if_pos (Or.inr hq)]
                  · rw [if_neg (fun q => q.elim hb hq), if_neg (fun q => q.elim h4 hq)]
            · rw [if_neg w3, if_neg w3]
              by_cases w4 : w = 4
              · rw [if_pos w4, if_pos w4]
                by_cases h4 : 4 < a
                · rw [if_neg (fun q => hd.mp q (Or.inr h4)), if_pos h4]
                · rw [if_pos (hd.mpr (fun q => q.elim h0 h4)), if_neg h4, l_cnt h.2.1]
              · rw [if_neg w4, if_neg w4]
                by_cases w5 : w = 5
                · rw [if_pos w5, if_pos w5]
                  have hb : ¬ b < 0 := fun q => hw ⟨q, Or.inr (Or.inr w5)⟩
                  by_cases hq : 2 < a ∨ M 61 (tN a) 0 = 0
                  · rw [if_neg (fun q => hv.mp q.1 (Or.inr hq)), if_pos (hq.imp id Or.inr)]
                  · have hp1 := hv.mpr (fun q => q.elim h0 hq)
                    by_cases h7 : 7 < b
                    · have h8 : ¬ b < 8 := by
                        rw [Int32.lt_iff_toInt_lt] at h7 ⊢
                        have e7 : (7 : Int32).toInt = 7 := by decide
                        have e8 : (8 : Int32).toInt = 8 := by decide
                        omega
                      rw [if_neg (fun q => h8 q.2.2), if_pos (Or.inr (Or.inl h7))]
                    · obtain ⟨bn, hbn, rfl⟩ := nJ_of (k := 7) (by decide) hb h7
                      have h8 : nI bn < 8 := nI_lt (a := bn) (b := 8) (by omega) (by decide)
                      have hneg : ¬ (2 < a ∨ 7 < nI bn ∨ M 61 (tN a) 0 = 0) := fun q => q.elim (fun q => hq (Or.inl q)) (fun q => q.elim h7 (fun q => hq (Or.inr q)))
                      rw [if_pos ⟨hp1, i32_d hb, h8⟩, if_neg hneg, pl_eq, tN_nI (by omega)]
                      obtain ⟨f, b', rp, re, rh, po, ra, ta, c1, c2, c3, c4, c5, c6, c7, c8, c9, c10, c11, c12, c13, c14, c15, c16, c17, c18, c19, c20, c21, c22, c23, c24, c25, c26, c27, c28, c29, c30, -⟩ := d_dev h (tN_le (z := a) (k := 2) (by decide) (fun q => hq (Or.inl q))) (fun q => hq (Or.inr q))
                      rw [c30 bn (by omega)]
                · rw [if_neg w5, if_neg w5]
                  by_cases w6 : w = 6
                  · rw [if_pos w6, if_pos w6]
                    by_cases hq : 2 < a ∨ M 61 (tN a) 0 = 0
                    · rw [if_neg (fun q => hv.mp q (Or.inr hq)), if_pos hq]
                    · rw [if_pos (hv.mpr (fun q => q.elim h0 hq)), if_neg hq]
                      obtain ⟨f, b', rp, re, rh, po, ra, ta, c1, c2, c3, c4, c5, c6, c7, c8, c9, c10, c11, c12, c13, c14, c15, c16, c17, c18, c19, c20, c21, c22, c23, c24, c25, c26, c27, c28, c29, c30, -⟩ := d_dev h (tN_le (z := a) (k := 2) (by decide) (fun q => hq (Or.inl q))) (fun q => hq (Or.inr q))
                      unfold xUw
                      rw [c17, c18, c27, c28]
                  · rw [if_neg w6, if_neg w6]
end
section
theorem Rc_k {X M X' M' : gS} (h : Rc X M) (fx : ∀ kd, kd < 14 → ∀ a b, X' kd a b = X kd a b) (fm : ∀ kd, 50 ≤ kd → kd < 61 → ∀ a b, M' kd a b = M kd a b) : Rc X' M' :=
  rOth h (rPrt_k (fx 10 (by decide)) (fx 11 (by decide)) (fx 12 (by decide)) (fx 13 (by decide)) (fm 58 (by decide) (by decide)) (fm 59 (by decide) (by decide)) (fm 60 (by decide) (by decide)) h.2.2.2.2.2.2) (fun kd hk => fx kd (by omega)) (fun kd h1 h2 => fm kd h1 (by omega))
theorem xRmD_k {X : gS} {d : Int32} {kd a b : Nat} (h : ¬ kd = 14) : xRmD X d kd a b = X kd a b := lpS_k (fun i Y a b => by
  split
  · exact gup_k h
  · rfl) _ _ _ _ _
theorem mDe1_k {M : gS} {c kd a b : Nat} (h : ¬ kd = 61) : mDe1 M c kd a b = M kd a b := lpS_k (fun i Y a b => by
  split
  · exact gup_k h
  · rfl) _ _ _ _ _
theorem xTk_1 {X : gS} {a k f : Nat} (h : X 0 f 0 = 1) : xTk X a k 0 f 0 = 1 := by
  unfold xTk xTk2
  have e : ∀ p q, xTk1 X a k p q 0 f 0 = X 0 f 0 := fun p q => (gup_k (by decide)).trans (hClr_k (by decide) (by decide) (by decide))
  split
  · next hc =>
    have hne : ¬ f = tN (X 7 a k) := by
      intro q
      have h2 := hc.1
      rw [← q, e, h] at h2
      exact absurd h2 (by decide)
    have e2 : ∀ p q p' q', eClr (xTk1 X a k p q) p' q' 0 f 0 = 1 := fun p q p' q' => by rw [eClr_k (by decide) (by decide) (by decide), e]; exact h
    unfold xRel xBury xRel0
    repeat' split
    all_goals first
      | exact e2 _ _ _ _
      | (rw [gup_n (fun q => hne q.1)]; first | exact e2 _ _ _ _ | (rw [gup_k (by decide)]; exact e2 _ _ _ _))
      | (rw [gup_k (by decide)]; exact e2 _ _ _ _)
  · rw [e]; exact h
theorem tkA_ind {a : Nat} (ha : a < 5) : ∀ (n i : Nat) (Y Z : gS), i + n = 5 → Rc Y Z → lpOk (fun h Y => if Y 7 a h = -1 then Y else xTk Y a h) (tkOk a) n i Y ∧ lpOk (fun h Z => if 0 < Z 56 h 0 then mTk Z h (mE Z h) else Z) mtOk n (5 * a + i) Z ∧ Rc (lpS (fun h Y => if Y 7 a h = -1 then Y else xTk Y a h) n i Y) (lpS (fun h Z => if 0 < Z 56 h 0 then mTk Z h (mE Z h) else Z) n (5 * a + i) Z) ∧ ∀ f, Y 0 f 0 = 1 → lpS (fun h Y => if Y 7 a h = -1 then Y else xTk Y a h) n i Y 0 f 0 = 1 := by
  intro n
  induction n with
  | zero => intro i Y Z _ h; exact ⟨trivial, trivial, h, fun _ q => q⟩
  | succ n ih =>
    intro i Y Z hi h
    by_cases hf : Y 7 a i = -1
    · have e0 := (h_free (h.2.2.2.2.2.1 a ha i (by omega))).mp hf
      have e1 : (if Y 7 a i = -1 then Y else xTk Y a i) = Y := if_pos hf
      have e2 : (if 0 < Z 56 (5 * a + i) 0 then mTk Z (5 * a + i) (mE Z (5 * a + i)) else Z) = Z := if_neg (by rw [e0]; decide)
      obtain ⟨g1, g2, g3, g4⟩ := ih (i + 1) Y Z (by omega) h
      refine ⟨⟨fun q => absurd hf (by simpa using q), ?_⟩, ⟨fun q => absurd (show Z 56 (5 * a + i) 0 ≤ 0 by rw [e0]; decide) q, ?_⟩, ?_, ?_⟩
      · show lpOk _ _ n (i + 1) (if Y 7 a i = -1 then Y else xTk Y a i)
        rw [e1]; exact g1
      · show lpOk _ _ n (5 * a + i + 1) (if 0 < Z 56 (5 * a + i) 0 then mTk Z (5 * a + i) (mE Z (5 * a + i)) else Z)
        rw [e2]; exact g2
      · show Rc (lpS _ n (i + 1) (if Y 7 a i = -1 then Y else xTk Y a i)) (lpS _ n (5 * a + i + 1) (if 0 < Z 56 (5 * a + i) 0 then mTk Z (5 * a + i) (mE Z (5 * a + i)) else Z))
        rw [e1, e2]; exact g3
      · show ∀ f, Y 0 f 0 = 1 → lpS _ n (i + 1) (if Y 7 a i = -1 then Y else xTk Y a i) 0 f 0 = 1
        rw [e1]; exact g4
    · obtain ⟨t1, t2, t3⟩ := c_tk h ha (show i < 5 by omega) hf
      obtain ⟨f, e, p, c1, c2, c3, c4, c5, c6, -⟩ := mapped_of h ha (show i < 5 by omega) hf
      have hpos : 0 < Z 56 (5 * a + i) 0 := by rw [c6]; exact i32_small (by omega) (by omega)
      have e1 : (if Y 7 a i = -1 then Y else xTk Y a i) = xTk Y a i := if_neg hf
      have e2 : (if 0 < Z 56 (5 * a + i) 0 then mTk Z (5 * a + i) (mE Z (5 * a + i)) else Z) = mTk Z (5 * a + i) (mE Z (5 * a + i)) := if_pos hpos
      obtain ⟨g1, g2, g3, g4⟩ := ih (i + 1) _ _ (by omega) t3
      refine ⟨⟨fun _ => t1, ?_⟩, ⟨fun _ => t2, ?_⟩, ?_, ?_⟩
      · show lpOk _ _ n (i + 1) (if Y 7 a i = -1 then Y else xTk Y a i)
        rw [e1]; exact g1
      · show lpOk _ _ n (5 * a + i + 1) (if 0 < Z 56 (5 * a + i) 0 then mTk Z (5 * a + i) (mE Z (5 * a + i)) else Z)
        rw [e2]; exact g2
      · show Rc (lpS _ n (i + 1) (if Y 7 a i = -1 then Y else xTk Y a i)) (lpS _ n (5 * a + i + 1) (if 0 < Z 56 (5 * a + i) 0 then mTk Z (5 * a + i) (mE Z (5 * a + i)) else Z))
        rw [e1, e2]; exact g3
      · show ∀ f, Y 0 f 0 = 1 → lpS _ n (i + 1) (if Y 7 a i = -1 then Y else xTk Y a i) 0 f 0 = 1
        rw [e1]; exact fun f q => g4 f (xTk_1 q)
end
section
theorem mCls_8 {M : gS} {k k' : Nat} : mCls M k 58 k' 0 = if k' = k then 0 else M 58 k' 0 := by
  rw [mCls, gup_k (by decide), gup_r]
  simp
theorem mCls_0 {M : gS} {k k' : Nat} : mCls M k 60 k' 0 = if k' = k then 0 else M 60 k' 0 := by
  rw [mCls, gup_r, gup_k (by decide)]
  simp
theorem mCls_k {M : gS} {k kd a b : Nat} (h1 : ¬ kd = 58) (h2 : ¬ kd = 60) : mCls M k kd a b = M kd a b := by rw [mCls, gup_k h2, gup_k h1]
theorem qCls_0 {X : gS} {a k a' k' : Nat} : qCls X a k 10 a' k' = if a' = a ∧ k' = k then 0 else X 10 a' k' := qSet_r0
theorem qCls_1 {X : gS} {a k a' k' : Nat} : qCls X a k 11 a' k' = if a' = a ∧ k' = k then -1 else X 11 a' k' := qSet_r1
theorem qCls_2 {X : gS} {a k a' k' : Nat} : qCls X a k 12 a' k' = if a' = a ∧ k' = k then -1 else X 12 a' k' := qSet_r2
theorem qCls_3 {X : gS} {a k a' k' : Nat} : qCls X a k 13 a' k' = if a' = a ∧ k' = k then 0 else X 13 a' k' := qSet_r3
theorem c_cls {Y Z : gS} (h : Rc Y Z) {a k : Nat} (ha : a < 5) (hk : k < 4) : Rc (qCls (xClQ1 Y a k) a k) (mCls (mCl1 Z (4 * a + k)) (4 * a + k)) := by
  obtain ⟨p1, p2, p3, p4⟩ := h.2.2.2.2.2.2 a ha k hk
  by_cases h2 : Y 10 a k = 2
  · rcases p4 with p4 | ⟨p4, -⟩ | ⟨-, b, j, hb, hj, c3, c4, c5, c6, c7, c8⟩
    · rw [h2] at p4; exact absurd p4 (by decide)
    · rw [h2] at p4; exact absurd p4 (by decide)
    · have e1 : xClQ1 Y a k = qCls Y b j := by
        unfold xClQ1
        rw [if_pos h2, c3, c4, tN_nI (by omega), tN_nI (by omega)]
      have e2 : mCl1 Z (4 * a + k) = mCls Z (4 * b + j) := by
        unfold mCl1
        rw [if_pos (by rw [p1]; exact h2), c5, tN_nI (by omega)]
      rw [e1, e2]
      refine rOth h (fun a' ha' k' hk' => ?_) (fun kd hkd a' b' => (qCls_k (by omega) (by omega) (by omega) (by omega)).trans (qCls_k (by omega) (by omega) (by omega) (by omega))) (fun kd g1 g2 a' b' => (mCls_k (by omega) (by omega)).trans (mCls_k (by omega) (by omega)))
      unfold pRel
      rw [mCls_8, mCls_8, mCls_0, mCls_0, mCls_k (by decide) (by decide), mCls_k (by decide) (by decide)]
      simp only [qCls_0, qCls_1, qCls_2, qCls_3]
      by_cases hc1 : a' = a ∧ k' = k
      · rw [if_pos hc1, if_pos hc1, if_pos (show 4 * a' + k' = 4 * a + k by omega), if_pos (show 4 * a' + k' = 4 * a + k by omega)]
        exact ⟨rfl, rfl, Or.inl rfl, Or.inl rfl⟩
      · rw [if_neg hc1, if_neg hc1, if_neg hc1, if_neg hc1, if_neg (show ¬ 4 * a' + k' = 4 * a + k by omega), if_neg (show ¬ 4 * a' + k' = 4 * a + k by omega)]
        by_cases hc2 : a' = b ∧ k' = j
        · rw [if_pos hc2, if_pos hc2, if_pos (show 4 * a' + k' = 4 * b + j by omega), if_pos (show 4 * a' + k' = 4 * b + j by omega)]
          exact ⟨rfl, rfl, Or.inl rfl, Or.inl rfl⟩
        · rw [if_neg hc2, if_neg hc2, if_neg hc2, if_neg hc2, if_neg (show ¬ 4 * a' + k' = 4 * b + j by omega), if_neg (show ¬ 4 * a' + k' = 4 * b + j by omega)]
          obtain ⟨g1, g2, g3, g4⟩ := h.2.2.2.2.2.2 a' ha' k' hk'
          refine ⟨g1, g2, g3, ?_⟩
          rcases g4 with g4 | g4 | ⟨g4, b', j', d1, d2, d3, d4, d5, d6, d7, d8⟩
          · exact Or.inl g4
          · exact Or.inr (Or.inl g4)
          · refine Or.inr (Or.inr ⟨g4, b', j', d1, d2, d3, d4, d5, ?_⟩)
            have n1 : ¬ (b' = a ∧ j' = k) := by
              rintro ⟨rfl, rfl⟩
              rw [c3] at d7
              rw [c4] at d8
              exact hc2 ⟨(nI_inj (by omega) (by omega) d7).symm, (nI_inj (by omega) (by omega) d8).symm⟩
            have n2 : ¬ (b' = b ∧ j' = j) := by
              rintro ⟨rfl, rfl⟩
              rw [c7] at d7
              rw [c8] at d8
              exact hc1 ⟨(nI_inj (by omega) (by omega) d7).symm, (nI_inj (by omega) (by omega) d8).symm⟩
            rw [if_neg n1, if_neg n1, if_neg n1, if_neg n2, if_neg n2, if_neg n2]
            exact ⟨d6, d7, d8⟩
  · have e1 : xClQ1 Y a k = Y := if_neg h2
    have e2 : mCl1 Z (4 * a + k) = Z := if_neg (by rw [p1]; exact h2)
    rw [e1, e2]
    refine rOth h (fun a' ha' k' hk' => ?_) (fun kd hkd a' b' => qCls_k (by omega) (by omega) (by omega) (by omega)) (fun kd g1 g2 a' b' => mCls_k (by omega) (by omega))
    unfold pRel
    rw [mCls_8, mCls_0, mCls_k (by decide) (by decide)]
    simp only [qCls_0, qCls_1, qCls_2, qCls_3]
    by_cases hc1 : a' = a ∧ k' = k
    · rw [if_pos hc1, if_pos hc1, if_pos (show 4 * a' + k' = 4 * a + k by omega), if_pos (show 4 * a' + k' = 4 * a + k by omega)]
      exact ⟨rfl, rfl, Or.inl rfl, Or.inl rfl⟩
    · rw [if_neg hc1, if_neg hc1, if_neg hc1, if_neg hc1, if_neg (show ¬ 4 * a' + k' = 4 * a + k by omega), if_neg (show ¬ 4 * a' + k' = 4 * a + k by omega)]
      obtain ⟨g1, g2, g3, g4⟩ := h.2.2.2.2.2.2 a' ha' k' hk'
      refine ⟨g1, g2, g3, ?_⟩
      rcases g4 with g4 | g4 | ⟨g4, b', j', d1, d2, d3, d4, d5, d6, d7, d8⟩
      · exact Or.inl g4
      · exact Or.inr (Or.inl g4)
      · refine Or.inr (Or.inr ⟨g4, b', j', d1, d2, d3, d4, d5, ?_⟩)
        have n1 : ¬ (b' = a ∧ j' = k) := by
          rintro ⟨rfl, rfl⟩
          exact h2 d6
        rw [if_neg n1, if_neg n1, if_neg n1]
        exact ⟨d6, d7, d8⟩
theorem cls_ind {a : Nat} (ha : a < 5) : ∀ (n i : Nat) (Y Z : gS), i + n = 4 → Rc Y Z → lpOk (fun k Y => qCls (xClQ1 Y a k) a k) (pqOk a) n i Y ∧ lpOk (fun k Z => mCls (mCl1 Z k) k) mpOk n (4 * a + i) Z ∧ Rc (lpS (fun k Y => qCls (xClQ1 Y a k) a k) n i Y) (lpS (fun k Z => mCls (mCl1 Z k) k) n (4 * a + i) Z) := by
  intro n
  induction n with
  | zero => intro i Y Z _ h; exact ⟨trivial, trivial, h⟩
  | succ n ih =>
    intro i Y Z hi h
    obtain ⟨g1, g2, g3⟩ := ih (i + 1) _ _ (by omega) (c_cls h ha (show i < 4 by omega))
    exact ⟨⟨pqA_of h a ha i (by omega), g1⟩, ⟨mpA_of h (4 * a + i) (by omega), g2⟩, g3⟩
theorem clr_ind {a : Nat} (ha : a < 5) : ∀ (n i : Nat) (Y Z : gS), i + n = 6 → Rc Y Z → Rc (lpS (fun i Y => if 0 < Y 6 a i then Y else eClr Y a i) n i Y) (lpS (fun e Z => if mMps Z e = 0 then gup Z 53 e 0 0 else Z) n (6 * a + i) Z) := by
  intro n
  induction n with
  | zero => intro i Y Z _ h; exact h
  | succ n ih =>
    intro i Y Z hi h
    have h6 := h.2.2.2.2.1 a ha i (by omega)
    refine ih (i + 1) (if 0 < Y 6 a i then Y else eClr Y a i) (if mMps Z (6 * a + i) = 0 then gup Z 53 (6 * a + i) 0 0 else Z) (by omega) ?_
    rw [h6]
    by_cases hp : 0 < mMps Z (6 * a + i)
    · rw [if_pos hp, if_neg (fun q => by rw [q] at hp; exact absurd hp (by decide))]
      exact h
    · have hz : mMps Z (6 * a + i) = 0 := by
        rw [mMps_pos] at hp
        rw [mMps_N, show mC Z (6 * a + i) = 0 by omega]
        rfl
      rw [if_neg hp, if_pos hz]
      exact c_clr h ha (by omega) (fun a' h' ha' hh' => mC_none hp (by omega))
theorem frp_ind {a : Nat} (ha : a < 5) : ∀ (n i : Nat) (Y Z : gS), i + n = 20 → Rc Y Z → Rc (lpS (fun p Y => if Y 1 p 0 = nI a ∧ xMEW Y a (nI p) = false then gup Y 1 p 0 (-1) else Y) n i Y) (lpS (fun p Z => if mOwns Z (nI a) (nI p) = true ∧ mHeld Z a (nI p) true = false then gup Z 51 p 0 0 else Z) n i Z) := by
  intro n
  induction n with
  | zero => intro i Y Z _ h; exact h
  | succ n ih =>
    intro i Y Z hi h
    refine ih (i + 1) (if Y 1 i 0 = nI a ∧ xMEW Y a (nI i) = false then gup Y 1 i 0 (-1) else Y) (if mOwns Z (nI a) (nI i) = true ∧ mHeld Z a (nI i) true = false then gup Z 51 i 0 0 else Z) (by omega) ?_
    rw [← l_owns h.2.1, l_mew h.2.2.2.1 h.2.2.2.2.1 ha (show i < 20 by omega)]
    have ho : xOwns Y (nI a) (nI i) = true ↔ Y 1 i 0 = nI a := by
      unfold xOwns
      have hp : xPag (nI i) = true := l_pag2.mpr (fun q => q.elim (nI_pos (by omega)) (nI_nlt (a := 19) (b := i) (by omega) (by decide)))
      rw [hp, tN_nI (by omega)]
      simp
    by_cases hc : Y 1 i 0 = nI a ∧ mHeld Z a (nI i) true = false
    · rw [if_pos hc, if_pos ⟨ho.mpr hc.1, hc.2⟩]
      exact c_own h (Or.inl rfl)
    · rw [if_neg hc, if_neg (fun q => hc ⟨ho.mp q.1, q.2⟩)]
      exact h
end
section
theorem lpS_comm {f : Nat → gS → gS} {g : gS → gS} (h : ∀ i Y, f i (g Y) = g (f i Y)) : ∀ (n i : Nat) (Y : gS), lpS f n i (g Y) = g (lpS f n i Y) := by
  intro n
  induction n with
  | zero => intro i Y; rfl
  | succ n ih =>
    intro i Y
    show lpS f n (i + 1) (f i (g Y)) = g (lpS f n (i + 1) (f i Y))
    rw [h, ih]
theorem gup_cm {Y : gS} {kd kd' a b a' b' : Nat} {x y : Int32} (h : ¬ kd = kd') : gup (gup Y kd a b x) kd' a' b' y = gup (gup Y kd' a' b' y) kd a b x := by
  funext k p q
  by_cases h1 : k = kd
  · subst h1
    rw [gup_k h, gup_r, gup_r, gup_k h]
  · by_cases h2 : k = kd'
    · subst h2
      rw [gup_k h1, gup_r, gup_r, gup_k h1]
    · rw [gup_k h2, gup_k h1, gup_k h1, gup_k h2]
theorem gup_2 {Y : gS} {kd a b : Nat} {x y : Int32} : gup (gup Y kd a b x) kd a b y = gup Y kd a b y := by
  funext k p q
  by_cases h1 : k = kd
  · subst h1
    by_cases hc : p = a ∧ q = b
    · obtain ⟨rfl, rfl⟩ := hc
      rw [gup_s, gup_s]
    · rw [gup_n hc, gup_n hc, gup_n hc]
  · rw [gup_k h1, gup_k h1, gup_k h1]
theorem mHeld_k {M M' : gS} (h53 : ∀ a b, M' 53 a b = M 53 a b) (h54 : ∀ a b, M' 54 a b = M 54 a b) (h55 : ∀ a b, M' 55 a b = M 55 a b) (h56 : ∀ a b, M' 56 a b = M 56 a b) (a : Nat) (p : Int32) (b : Bool) : mHeld M' a p b = mHeld M a p b := by
  unfold mHeld
  simp only [h53, h54, h55, mMps_k h56]
theorem mDe4_c {M : gS} {a c : Nat} {x : Int32} : mDe4 (gup M 50 a 0 x) c = gup (mDe4 M c) 50 a 0 x := by
  unfold mDe4
  refine lpS_comm (g := fun Y => gup Y 50 a 0 x) (fun i Y => ?_) 6 (6 * c) M
  rw [mMps_k (fun p q => gup_k (by decide))]
  split
  · exact gup_cm (by decide)
  · rfl
theorem mDe5_c {M : gS} {a c : Nat} {x : Int32} : mDe5 (gup M 50 a 0 x) c = gup (mDe5 M c) 50 a 0 x := by
  unfold mDe5
  refine lpS_comm (g := fun Y => gup Y 50 a 0 x) (fun i Y => ?_) 20 0 M
  have e : ∀ u w, mOwns (gup Y 50 a 0 x) u w = mOwns Y u w := fun u w => by unfold mOwns; rw [gup_k (by decide)]
  rw [e, mHeld_k (fun p q => gup_k (by decide)) (fun p q => gup_k (by decide)) (fun p q => gup_k (by decide)) (fun p q => gup_k (by decide))]
  split
  · exact gup_cm (by decide)
  · rfl
theorem mCnt_N (M : gS) (x : Int32) : ∃ c, c ≤ 20 ∧ mCnt M x = nI c := by
  refine ⟨cntN (fun p => decide (M 51 p 0 = x + 1)) 20 0, cntN_le _ 20 0, ?_⟩
  unfold mCnt
  rw [cntb_N]
  exact Int32.zero_add _
theorem rm_at {kd : Nat} {c : Nat → gS → Prop} [∀ i Y, Decidable (c i Y)] (hc : ∀ i j Y, ¬ i = j → (c i (gup Y kd j 0 0) ↔ c i Y)) : ∀ (n i : Nat) (X : gS) (v : Nat), lpS (fun i Y => if c i Y then gup Y kd i 0 0 else Y) n i X kd v 0 = if i ≤ v ∧ v < i + n ∧ c v X then 0 else X kd v 0 := by
  intro n
  induction n with
  | zero =>
    intro i X v
    have hneg : ¬ (i ≤ v ∧ v < i + 0 ∧ c v X) := fun q => by omega
    rw [if_neg hneg]
    rfl
  | succ n ih =>
    intro i X v
    show lpS (fun i Y => if c i Y then gup Y kd i 0 0 else Y) n (i + 1) (if c i X then gup X kd i 0 0 else X) kd v 0 = _
    rw [ih]
    by_cases hv : v = i
    · subst hv
      have h1 : ¬ (v + 1 ≤ v ∧ v < v + 1 + n ∧ c v (if c v X then gup X kd v 0 0 else X)) := fun q => by omega
      rw [if_neg h1]
      by_cases hx : c v X
      · rw [if_pos hx, if_pos ⟨by omega, by omega, hx⟩]
        exact gup_s
      · have h2 : ¬ (v ≤ v ∧ v < v + (n + 1) ∧ c v X) := fun q => hx q.2.2
        rw [if_neg hx, if_neg h2]
    · have h1 : c v (if c i X then gup X kd i 0 0 else X) ↔ c v X := by
        split
        · exact hc v i X hv
        · exact Iff.rfl
      have h2 : (if c i X then gup X kd i 0 0 else X) kd v 0 = X kd v 0 := by
        split
        · exact gup_n (fun q => hv q.1)
        · rfl
      rw [h2]
      by_cases hx : i ≤ v ∧ v < i + (n + 1) ∧ c v X
      · rw [if_pos hx, if_pos ⟨by omega, by omega, h1.mpr hx.2.2⟩]
      · have h3 : ¬ (i + 1 ≤ v ∧ v < i + 1 + n ∧ c v (if c i X then gup X kd i 0 0 else X)) := fun q => hx ⟨by omega, by omega, h1.mp q.2.2⟩
        rw [if_neg hx, if_neg h3]
theorem rm_nz {kd v p : Nat} {c : Nat → gS → Prop} [∀ i Y, Decidable (c i Y)] (hp : ¬ p = 0) : ∀ (n i : Nat) (X : gS), lpS (fun i Y => if c i Y then gup Y kd i 0 0 else Y) n i X kd v p = X kd v p := by
  intro n
  induction n with
  | zero => intro i X; rfl
  | succ n ih =>
    intro i X
    show lpS (fun i Y => if c i Y then gup Y kd i 0 0 else Y) n (i + 1) (if c i X then gup X kd i 0 0 else X) kd v p = _
    rw [ih]
    split
    · exact gup_n (fun q => hp q.2)
    · rfl
theorem xRmD_r {X : gS} {d : Int32} {v : Nat} (hv : v < 3) : xRmD X d 14 v 0 = if X 15 v 0 = d ∨ X 16 v 0 = d then 0 else X 14 v 0 := by
  unfold xRmD
  rw [rm_at (kd := 14) (c := fun i Y => Y 15 i 0 = d ∨ Y 16 i 0 = d) (fun i j Y _ => by rw [gup_k (by decide), gup_k (by decide)]) 3 0 X v]
  by_cases hc : X 15 v 0 = d ∨ X 16 v 0 = d
  · rw [if_pos hc, if_pos ⟨by omega, by omega, hc⟩]
  · have h2 : ¬ (0 ≤ v ∧ v < 0 + 3 ∧ (X 15 v 0 = d ∨ X 16 v 0 = d)) := fun q => hc q.2.2
    rw [if_neg hc, if_neg h2]
theorem mDe1_r {M : gS} {a v : Nat} (hv : v < 3) : mDe1 M a 61 v 0 = if 0 < M 61 v 0 ∧ (M 61 v 0 = nI (a + 1) ∨ M 62 v 0 = nI a) then 0 else M 61 v 0 := by
  unfold mDe1
  rw [rm_at (kd := 61) (c := fun v Z => 0 < Z 61 v 0 ∧ (Z 61 v 0 = nI (a + 1) ∨ Z 62 v 0 = nI a)) (fun i j Y hij => by rw [gup_n (fun q => hij q.1), gup_k (by decide)]) 3 0 M v]
  by_cases hc : 0 < M 61 v 0 ∧ (M 61 v 0 = nI (a + 1) ∨ M 62 v 0 = nI a)
  · rw [if_pos hc, if_pos ⟨by omega, by omega, hc⟩]
  · have h2 : ¬ (0 ≤ v ∧ v < 0 + 3 ∧ (0 < M 61 v 0 ∧ (M 61 v 0 = nI (a + 1) ∨ M 62 v 0 = nI a))) := fun q => hc q.2.2
    rw [if_neg hc, if_neg h2]
theorem dRel_k {X M X' M' : gS} {n v : Nat} (h0 : ∀ f, f < 5 → X 15 v 0 = nI f → X 0 f 0 = 1 → X' 0 f 0 = 1) (hx : ∀ kd, 14 ≤ kd → kd ≤ 27 → ¬ kd = 25 → ¬ kd = 26 → ∀ b, X' kd v b = X kd v b) (hm : ∀ kd, 61 ≤ kd → kd ≤ 70 → M' kd v 0 = M kd v 0) (h73 : ∀ s, s < 8 → M' 73 (8 * v + s) 0 = M 73 (8 * v + s) 0) (h : dRel X M n v) : dRel X' M' (n + 1) v := by
  rcases h with ⟨g1, g2⟩ | ⟨g1, f, b, rp, re, rh, po, ra, ta, c1, c2, c3, c4, c5, c6, c7, c8, c9, c10, c11, c12, c13, c14, c15, c16, c17, c18, c19, c20, c21, c22, c23, c24, c25, c26, c27, c28, c29, c30⟩
  · exact Or.inl ⟨by rw [hx 14 (by decide) (by decide) (by decide) (by decide)]; exact g1, by rw [hm 61 (by decide) (by decide)]; exact g2⟩
  · refine Or.inr ⟨by rw [hx 14 (by decide) (by decide) (by decide) (by decide)]; exact g1, f, b, rp, re, rh, po, ra, ta, c1, c2, c3, c4, c5, c6, c7, c8, by omega, by omega, h0 f c1 c12 c11, ?_⟩
    rw [hx 15 (by decide) (by decide) (by decide) (by decide), hx 16 (by decide) (by decide) (by decide) (by decide), hx 17 (by decide) (by decide) (by decide) (by decide), hx 18 (by decide) (by decide) (by decide) (by decide), hx 19 (by decide) (by decide) (by decide) (by decide), hx 20 (by decide) (by decide) (by decide) (by decide), hx 21 (by decide) (by decide) (by decide) (by decide), hx 22 (by decide) (by decide) (by decide) (by decide), hx 23 (by decide) (by decide) (by decide) (by decide), hx 24 (by decide) (by decide) (by decide) (by decide), hm 61 (by decide) (by decide), hm 62 (by decide) (by decide), hm 63 (by decide) (by decide), hm 64 (by decide) (by decide), hm 65 (by decide) (by decide), hm 66 (by decide) (by decide), hm 67 (by decide) (by decide), hm 68 (by decide) (by decide), hm 69 (by decide) (by decide), hm 70 (by decide) (by decide)]
    refine ⟨c12, c13, c14, c15, c16, c17, c18, c19, c20, c21, c22, c23, c24, c25, c26, c27, c28, c29, fun s hs => ?_⟩
    rw [h73 s hs, hx 27 (by decide) (by decide) (by decide) (by decide)]
    exact c30 s hs
theorem xDes_k {X : gS} {a kd p q : Nat} (hk : 14 ≤ kd) : xDes2 (xDes1 X (nI a)) (nI a) kd p q = xRmD X (nI a) kd p q := by
  unfold xDes2 xDes1
  rw [xBury_k (by omega)]
  unfold xFrP
  rw [lpS_k (fun i Y p q => by split <;> first | exact gup_k (by omega) | rfl)]
  unfold xClrE
  rw [lpS_k (fun i Y p q => by split <;> first | exact eClr_k (by omega) (by omega) (by omega) | rfl), gup_k (by omega)]
  unfold xClQ
  rw [lpS_k (fun i Y p q => by
    rw [qCls_k (by omega) (by omega) (by omega) (by omega)]
    unfold xClQ1
    split <;> first | exact qCls_k (by omega) (by omega) (by omega) (by omega) | rfl)]
  unfold xTkA
  rw [lpS_k (fun i Y p q => by split <;> first | exact xTk_k (by omega) (by omega) (by omega) (by omega) (by omega) (by omega) (by omega) (by omega) (by omega) | rfl)]
theorem mDes_k {M : gS} {a kd p q : Nat} (hk : 61 ≤ kd) : mDe6 (mDe5 (mDe4 (mDe3 (mDe2 (mDe1 M a) a) a) a) a) a kd p q = mDe1 M a kd p q := by
  unfold mDe6
  rw [gup_k (by omega)]
  unfold mDe5
  rw [lpS_k (fun i Y p q => by split <;> first | exact gup_k (by omega) | rfl)]
  unfold mDe4
  rw [lpS_k (fun i Y p q => by split <;> first | exact gup_k (by omega) | rfl)]
  unfold mDe3
  rw [lpS_k (fun i Y p q => by
    rw [mCls_k (by omega) (by omega)]
    unfold mCl1
    split <;> first | exact mCls_k (by omega) (by omega) | rfl)]
  unfold mDe2
  rw [lpS_k (fun i Y p q => by split <;> first | exact mTk_k (by omega) (by omega) (by omega) (by omega) | rfl)]
theorem xDes2_1 {X : gS} {a f : Nat} (ha : a < 5) (hf : ¬ f = a) : xDes2 X (nI a) 0 f 0 = X 0 f 0 := by
  unfold xDes2
  rw [tN_nI (by omega)]
  have e : ∀ Y, xBury Y (nI a) 0 f 0 = Y 0 f 0 := fun Y => by
    unfold xBury
    rw [tN_nI (by omega)]
    split
    · exact gup_n (fun q => hf q.1)
    · rfl
  rw [e]
  unfold xFrP
  rw [lpS_k (fun i Y p q => by split <;> first | exact gup_k (by omega) | rfl)]
  unfold xClrE
  rw [lpS_k (fun i Y p q => by split <;> first | exact eClr_k (by omega) (by omega) (by omega) | rfl)]
  exact gup_n (fun q => hf q.1)
theorem xClQ_0 {X : gS} {a f : Nat} : xClQ X a 0 f 0 = X 0 f 0 := by
  unfold xClQ
  exact lpS_k (fun i Y p q => by
    rw [qCls_k (by omega) (by omega) (by omega) (by omega)]
    unfold xClQ1
    split <;> first | exact qCls_k (by omega) (by omega) (by omega) (by omega) | rfl) _ _ _ _ _
theorem c_destroy {X M : gS} {n a : Nat} (h : Rl X M n) (ha : a < 5) : lpOk (fun h Y => if Y 7 a h = -1 then Y else xTk Y a h) (tkOk a) 5 0 (xRmD X (nI a)) ∧ lpOk (fun k Y => qCls (xClQ1 Y a k) a k) (pqOk a) 4 0 (xTkA (xRmD X (nI a)) a) ∧ lpOk (fun h Z => if 0 < Z 56 h 0 then mTk Z h (mE Z h) else Z) mtOk 5 (5 * a) (mDe1 M a) ∧ lpOk (fun k Z => mCls (mCl1 Z k) k) mpOk 4 (4 * a) (mDe2 (mDe1 M a) a) ∧ Rl (xDes2 (xDes1 X (nI a)) (nI a)) (mDe6 (mDe5 (mDe4 (mDe3 (mDe2 (mDe1 M a) a) a) a) a) a) (n + 1) := by
  have h1 : Rc (xRmD X (nI a)) (mDe1 M a) := Rc_k h.c (fun kd hk p q => xRmD_k (by omega)) (fun kd _ hk p q => mDe1_k (by omega))
  obtain ⟨t1, t2, t3, t4⟩ := tkA_ind ha 5 0 (xRmD X (nI a)) (mDe1 M a) rfl h1
  have h2 : Rc (xTkA (xRmD X (nI a)) a) (mDe2 (mDe1 M a) a) := t3
  obtain ⟨s1, s2, s3⟩ := cls_ind ha 4 0 (xTkA (xRmD X (nI a)) a) (mDe2 (mDe1 M a) a) rfl h2
  have e1 : xDes1 X (nI a) = xClQ (xTkA (xRmD X (nI a)) a) a := by unfold xDes1; rw [tN_nI (by omega)]
  have h3 : Rc (xDes1 X (nI a)) (mDe3 (mDe2 (mDe1 M a) a) a) := by rw [e1]; exact s3
  have hst : ∀ f, ¬ f = a → X 0 f 0 = 1 → xDes2 (xDes1 X (nI a)) (nI a) 0 f 0 = 1 := fun f hf q => by
    rw [xDes2_1 ha hf, e1, xClQ_0]
    exact t4 f (by rw [xRmD_k (by decide)]; exact q)
  have hfx : ∀ kd, 14 ≤ kd → ∀ p q, xDes2 (xDes1 X (nI a)) (nI a) kd p q = xRmD X (nI a) kd p q := fun kd hk p q => xDes_k hk
  have hfm : ∀ kd, 61 ≤ kd → ∀ p q, mDe6 (mDe5 (mDe4 (mDe3 (mDe2 (mDe1 M a) a) a) a) a) a kd p q = mDe1 M a kd p q := fun kd hk p q => mDes_k hk
  refine ⟨t1, s1, t2, s2, ?_⟩
  have h7 : Rc (xDes2 (xDes1 X (nI a)) (nI a)) (mDe6 (mDe5 (mDe4 (mDe3 (mDe2 (mDe1 M a) a) a) a) a) a) := by
    clear hfx hfm hst
    unfold xDes2
    rw [tN_nI (by omega)]
    revert h3
    generalize xDes1 X (nI a) = Y
    generalize mDe3 (mDe2 (mDe1 M a) a) a = Z
    intro h3
    have h4 := c_sta h3 (p := a) (x := 2)
    have h5 : Rc (xClrE (gup Y 0 a 0 2) a) (mDe4 (gup Z 50 a 0 2) a) := clr_ind ha 6 0 _ _ rfl h4
    have h6 : Rc (xFrP (xClrE (gup Y 0 a 0 2) a) a (nI a)) (mDe5 (mDe4 (gup Z 50 a 0 2) a) a) := frp_ind ha 20 0 _ _ rfl h5
    rw [mDe4_c, mDe5_c] at h6
    revert h6
    generalize xFrP (xClrE (gup Y 0 a 0 2) a) a (nI a) = U
    generalize mDe5 (mDe4 Z a) a = V
    intro h6
    have ec : xCnt U (nI a) = mCnt V (nI a) := by
      rw [l_cnt h6.2.1]
      unfold mCnt
      simp only [gup_k (show ¬ 51 = 50 by decide)]
    obtain ⟨c, hc, e⟩ := mCnt_N V (nI a)
    unfold xBury mDe6
    rw [ec, e, tN_nI (by omega)]
    by_cases h0 : c = 0
    · have z1 : nI c = 0 := by rw [h0]; rfl
      have z2 : ¬ 0 < nI c := by rw [z1]; decide
      rw [if_pos z1, if_neg z2]
      have h8 := c_sta h6 (p := a) (x := 0)
      rw [gup_2] at h8
      exact h8
    · have z2 : 0 < nI c := i32_small (by omega) (by omega)
      have z1 : ¬ nI c = 0 := nI_ne0 (by omega) (by omega)
      rw [if_neg z1, if_pos z2]
      exact h6
  refine ⟨h7.1, h7.2.1, h7.2.2.1, h7.2.2.2.1, h7.2.2.2.2.1, h7.2.2.2.2.2.1, h7.2.2.2.2.2.2, ?_, fun v hv => ?_⟩
  · exact rNot_k (fun p q => (hfx 25 (by decide) p q).trans (xRmD_k (by decide))) (fun p q => (hfx 26 (by decide) p q).trans (xRmD_k (by decide))) (fun p q => (hfm 71 (by decide) p q).trans (mDe1_k (by decide))) (fun p q => (hfm 72 (by decide) p q).trans (mDe1_k (by decide))) h.2.2.2.2.2.2.2.1
  · have hd := h.2.2.2.2.2.2.2.2 v hv
    have ex := hfx 14 (by decide) v 0
    have em := hfm 61 (by decide) v 0
    rw [xRmD_r hv] at ex
    rw [mDe1_r hv] at em
    by_cases hp : M 61 v 0 = 0
    · rcases hd with ⟨g1, g2⟩ | ⟨g1, f, b, rp, re, rh, po, ra, ta, c1, c2, c3, c4, c5, c6, c7, c8, c9, c10, c11, c12, c13, c14, c15, c16, c17, c18, c19, c20, -⟩
      · left
        rw [ex, em, g1, g2]
        exact ⟨by split <;> rfl, by split <;> rfl⟩
      · rw [c20] at hp
        exact absurd hp (nI_ne0 (by omega) (by omega))
    · rcases hd with ⟨g1, g2⟩ | hd
      · exact absurd g2 hp
      · have hd' := hd
        obtain ⟨g1, f, b, rp, re, rh, po, ra, ta, c1, c2, c3, c4, c5, c6, c7, c8, c9, c10, c11, c12, c13, c14, c15, c16, c17, c18, c19, c20, c21, c22, -⟩ := hd
        rw [c12, c13] at ex
        rw [c20, c21] at em
        by_cases hfa : f = a ∨ b = a
        · left
          have k1 : nI f = nI a ∨ nI b = nI a := hfa.elim (fun q => Or.inl (by rw [q])) (fun q => Or.inr (by rw [q]))
          have k2 : 0 < nI (f + 1) ∧ (nI (f + 1) = nI (a + 1) ∨ nI b = nI a) := ⟨i32_small (by omega) (by omega), hfa.elim (fun q => Or.inl (by rw [q])) (fun q => Or.inr (by rw [q]))⟩
          rw [if_pos k1] at ex
          rw [if_pos k2] at em
          exact ⟨ex, em⟩
        · have k1 : ¬ (nI f = nI a ∨ nI b = nI a) := fun q => hfa (q.elim (fun q => Or.inl (nI_inj (by omega) (by omega) q)) (fun q => Or.inr (nI_inj (by omega) (by omega) q)))
          have k2 : ¬ (0 < nI (f + 1) ∧ (nI (f + 1) = nI (a + 1) ∨ nI b = nI a)) := fun q => hfa (q.2.elim (fun q => Or.inl (by have := nI_inj (a := f + 1) (b := a + 1) (by omega) (by omega) q; omega)) (fun q => Or.inr (nI_inj (by omega) (by omega) q)))
          rw [if_neg k1] at ex
          rw [if_neg k2] at em
          refine dRel_k (fun f' hf' q1 q2 => ?_) (fun kd k1 k2 k3 k4 p => ?_) (fun kd k1 k2 => ?_) (fun s hs => ?_) (Or.inr hd')
          · have : f' = f := by rw [c12] at q1; exact (nI_inj (by omega) (by omega) q1).symm
            subst this
            exact hst f' (fun q => hfa (Or.inl q)) q2
          · by_cases hk : kd = 14
            · subst hk
              rw [hfx 14 (by decide)]
              by_cases hp0 : p = 0
              · subst hp0; rw [← hfx 14 (by decide), ex]
              · unfold xRmD
                exact rm_nz hp0 3 0 X
            · exact (hfx kd k1 v p).trans (xRmD_k hk)
          · by_cases hk : kd = 61
            · subst hk
              rw [em, c20]
            · exact (hfm kd k1 v 0).trans (mDe1_k hk)
          · exact (hfm 73 (by decide) _ 0).trans (mDe1_k (by decide))
end
section
theorem mLive_k {M M' : gS} (h : ∀ a b, M' 50 a b = M 50 a b) (x : Int32) : mLive M' x = mLive M x := by unfold mLive; rw [h]
theorem mFpg_k {M M' : gS} (h : ∀ a b, M' 51 a b = M 51 a b) : mFpg M' = mFpg M := by unfold mFpg; simp only [h]
theorem mCnt_k {M M' : gS} (h : ∀ a b, M' 51 a b = M 51 a b) (x : Int32) : mCnt M' x = mCnt M x := by unfold mCnt; simp only [h]
theorem mFe_k {M M' : gS} (h : ∀ a b, M' 53 a b = M 53 a b) (a : Nat) : mFe M' a = mFe M a := by unfold mFe; simp only [h]
theorem mFh_k {M M' : gS} (h : ∀ a b, M' 56 a b = M 56 a b) (a : Nat) : mFh M' a = mFh M a := by unfold mFh; simp only [h]
theorem ffst_neg {p : Nat → Bool} {n : Nat} (hn : n < 2 ^ 31) : ffst p n 0 = -1 ↔ ffst p n 0 < 0 := by
  rcases ffst_is (p := p) hn with h | ⟨j, hj, h, -⟩
  · rw [h]; decide
  · rw [h]; exact ⟨fun q => absurd q (nI_nm1 (by omega)), fun q => absurd q (nI_pos (by omega))⟩
theorem fidx_c {p q : Nat → Bool} : ∀ (n i : Nat), i + n < 2 ^ 31 → (∀ k, i ≤ k → k < i + n → p k = q k) → (ffst p n i = -1 ∧ fidx q n i = i + n) ∨ ∃ k, i ≤ k ∧ k < i + n ∧ ffst p n i = nI k ∧ fidx q n i = k ∧ p k = true := by
  intro n
  induction n with
  | zero => intro i _ _; exact Or.inl ⟨rfl, rfl⟩
  | succ n ih =>
    intro i hi h
    unfold ffst fidx
    rw [← h i (by omega) (by omega)]
    by_cases hp : p i = true
    · rw [if_pos hp, if_pos hp]
      exact Or.inr ⟨i, by omega, by omega, rfl, rfl, hp⟩
    · rw [if_neg hp, if_neg hp]
      rcases ih (i + 1) (by omega) (fun k h1 h2 => h k (by omega) (by omega)) with ⟨e1, e2⟩ | ⟨k, h1, h2, h3⟩
      · exact Or.inl ⟨e1, by omega⟩
      · exact Or.inr ⟨k, by omega, by omega, h3⟩
theorem abs_eq {X M : gS} {n : Nat} (h : rDev X M n) : (xAbs X = -1 ∧ mAbs M = 3) ∨ ∃ k, k < 3 ∧ xAbs X = nI k ∧ mAbs M = k ∧ X 14 k 0 = 0 := by
  rcases fidx_c (p := fun i => decide (X 14 i 0 = 0)) (q := fun v => decide (M 61 v 0 ≤ 0)) 3 0 (by decide) (fun k _ hk => by
    rcases h k (by omega) with ⟨g1, g2⟩ | ⟨g1, f, b, rp, re, rh, po, ra, ta, c1, c2, c3, c4, c5, c6, c7, c8, c9, c10, c11, c12, c13, c14, c15, c16, c17, c18, c19, c20, -⟩
    · rw [g1, g2]; decide
    · rw [g1, c20]
      have hn : ¬ nI (f + 1) ≤ 0 := i32_c (i32_small (by omega) (by omega))
      simp [hn]) with ⟨e1, e2⟩ | ⟨k, h1, h2, e1, e2, e3⟩
  · exact Or.inl ⟨e1, e2⟩
  · exact Or.inr ⟨k, by omega, e1, e2, by simpa using e3⟩
theorem att_1 {X M : gS} (h : Rc X M) (v : Nat) (f b : Int32) : (xA1 X v f b).1 = (mA1 M v f b).1 ∧ Rc (xA1 X v f b).2 (mA1 M v f b).2 :=
  c_alloc (Rc_k h (fun kd hk p q => vBeg_k (by omega) (by omega) (by omega) (by omega) (by omega) (by omega) (by omega)) (fun kd _ hk p q => (gup_k (by omega)).trans (gup_k (by omega)))) f
theorem att_2 {A B : Int32 × gS} (e : A.1 = B.1) (h : Rc A.2 B.2) (v : Nat) (f b : Int32) : (xA2 A v f b).1 = (mA2 B v f b).1 ∧ Rc (xA2 A v f b).2 (mA2 B v f b).2 := by
  unfold xA2 mA2
  rw [e]
  exact c_grant (Rc_k h (fun kd hk p q => gup_k (by omega)) (fun kd _ hk p q => gup_k (by omega))) _ _ _ _
theorem att_3 {A B : Int32 × gS} (e : A.1 = B.1) (h : Rc A.2 B.2) (v : Nat) (f b : Int32) : (xA3 A v f b).1 = (mA3 B v f b).1 ∧ Rc (xA3 A v f b).2 (mA3 B v f b).2 := by
  unfold xA3 mA3
  rw [e]
  exact c_map (Rc_k h (fun kd hk p q => gup_k (by omega)) (fun kd _ hk p q => gup_k (by omega))) _ _ _ _
theorem att_4 {A B : Int32 × gS} (e : A.1 = B.1) (h : Rc A.2 B.2) (v : Nat) (f b : Int32) : (xA4 A v f b).1 = (mA4 B v f b).1 ∧ Rc (xA4 A v f b).2 (mA4 B v f b).2 := by
  unfold xA4 mA4
  rw [e]
  exact c_open (Rc_k h (fun kd hk p q => gup_k (by omega)) (fun kd _ hk p q => gup_k (by omega))) _ _
theorem att_5 {A B : Int32 × gS} (e : A.1 = B.1) (h : Rc A.2 B.2) (v : Nat) (f b : Int32) : (xA5 A v f b).1 = (mA5 B v f b).1 ∧ Rc (xA5 A v f b).2 (mA5 B v f b).2 := by
  unfold xA5 mA5
  rw [e]
  exact c_bind (Rc_k h (fun kd hk p q => gup_k (by omega)) (fun kd _ hk p q => gup_k (by omega))) _ _ _
theorem mA6_k {B : Int32 × gS} {v kd p q : Nat} (h1 : ¬ kd = 67) (h2 : ¬ kd = 68) (h3 : ¬ kd = 69) (h4 : ¬ kd = 70) (h5 : ¬ kd = 73) : mA6 B v kd p q = B.2 kd p q := by
  unfold mA6
  rw [lpS_k (fun i Y a b => gup_k h5), gup_k h4, gup_k h3, gup_k h2, gup_k h1]
theorem att_6 {A B : Int32 × gS} (h : Rc A.2 B.2) (v : Nat) : Rc (xA6 A v) (mA6 B v) :=
  Rc_k h (fun kd hk p q => gup_k (by omega)) (fun kd _ hk p q => mA6_k (by omega) (by omega) (by omega) (by omega) (by omega))
theorem xAtt_k {X : gS} {v kd p q : Nat} {f b : Int32} (hk : kd = 0 ∨ 14 ≤ kd) (h : kd < 17 ∨ 21 < kd ∨ ¬ p = v) : xAtt X v f b kd p q = vBeg X v f b kd p q := by
  have e : ∀ (Y : gS) (k : Nat) (y : Int32), 17 ≤ k → k ≤ 21 → gup Y k v 0 y kd p q = Y kd p q := fun Y k y h1 h2 => by
    by_cases hkk : kd = k
    · subst hkk
      exact gup_n (fun z => by omega)
    · exact gup_k hkk
  unfold xAtt xA6
  rw [e _ _ _ (by omega) (by omega)]
  unfold xA5
  rw [xBind_k (by omega) (by omega) (by omega) (by omega), e _ _ _ (by omega) (by omega)]
  unfold xA4
  rw [xOpen_k (by omega) (by omega) (by omega) (by omega), e _ _ _ (by omega) (by omega)]
  unfold xA3
  rw [xMap_k (by omega) (by omega) (by omega) (by omega), e _ _ _ (by omega) (by omega)]
  unfold xA2
  rw [xGrant_k (by omega) (by omega) (by omega), e _ _ _ (by omega) (by omega)]
  unfold xA1
  rw [xAlloc_k (by omega) (by omega)]
theorem xAtt_21 {X : gS} {v : Nat} {f b : Int32} : xAtt X v f b 21 v 0 = (xA5 (xA4 (xA3 (xA2 (xA1 X v f b) v f b) v f b) v f b) v f b).1 := gup_s
theorem xAtt_20 {X : gS} {v : Nat} {f b : Int32} : xAtt X v f b 20 v 0 = (xA4 (xA3 (xA2 (xA1 X v f b) v f b) v f b) v f b).1 := by
  unfold xAtt xA6
  rw [gup_k (by decide), xA5, xBind_k (by decide) (by decide) (by decide) (by decide), gup_s]
theorem xAtt_19 {X : gS} {v : Nat} {f b : Int32} : xAtt X v f b 19 v 0 = (xA3 (xA2 (xA1 X v f b) v f b) v f b).1 := by
  unfold xAtt xA6
  rw [gup_k (by decide), xA5, xBind_k (by decide) (by decide) (by decide) (by decide), gup_k (by decide), xA4, xOpen_k (by decide) (by decide) (by decide) (by decide), gup_s]
theorem xAtt_18 {X : gS} {v : Nat} {f b : Int32} : xAtt X v f b 18 v 0 = (xA2 (xA1 X v f b) v f b).1 := by
  unfold xAtt xA6
  rw [gup_k (by decide), xA5, xBind_k (by decide) (by decide) (by decide) (by decide), gup_k (by decide), xA4, xOpen_k (by decide) (by decide) (by decide) (by decide), gup_k (by decide), xA3, xMap_k (by decide) (by decide) (by decide) (by decide), gup_s]
theorem xAtt_17 {X : gS} {v : Nat} {f b : Int32} : xAtt X v f b 17 v 0 = (xA1 X v f b).1 := by
  unfold xAtt xA6
  rw [gup_k (by decide), xA5, xBind_k (by decide) (by decide) (by decide) (by decide), gup_k (by decide), xA4, xOpen_k (by decide) (by decide) (by decide) (by decide), gup_k (by decide), xA3, xMap_k (by decide) (by decide) (by decide) (by decide), gup_k (by decide), xA2, xGrant_k (by decide) (by decide) (by decide), gup_s]
theorem vBeg_n {X : gS} {v v' kd q : Nat} {f b : Int32} (h : ¬ v' = v) : vBeg X v f b kd v' q = X kd v' q := by
  have e : ∀ (Y : gS) (k q' : Nat) (y : Int32), gup Y k v q' y kd v' q = Y kd v' q := fun Y k q' y => by
    by_cases hkk : kd = k
    · subst hkk
      exact gup_n (fun z => h z.1)
    · exact gup_k hkk
  unfold vBeg
  have e2 : ∀ (n i : Nat) (Y : gS), lpS (fun s Y => gup Y 27 v s 0) n i Y kd v' q = Y kd v' q := by
    intro n
    induction n with
    | zero => intro i Y; rfl
    | succ n ih =>
      intro i Y
      show lpS (fun s Y => gup Y 27 v s 0) n (i + 1) (gup Y 27 v i 0) kd v' q = _
      rw [ih, e]
  rw [e2, e, e, e, e, e, e]
theorem vBeg_r {X : gS} {v : Nat} {f b : Int32} : vBeg X v f b 14 v 0 = 1 ∧ vBeg X v f b 15 v 0 = f ∧ vBeg X v f b 16 v 0 = b ∧ vBeg X v f b 22 v 0 = 0 ∧ vBeg X v f b 23 v 0 = 0 ∧ vBeg X v f b 24 v 0 = 0 ∧ ∀ s, s < 8 → vBeg X v f b 27 v s = 0 := by
  unfold vBeg
  refine ⟨?_, ?_, ?_, ?_, ?_, ?_, fun s hs => ?_⟩
  · rw [lpS_k (fun i Y a b => gup_k (by decide)), gup_k (by decide), gup_k (by decide), gup_k (by decide), gup_k (by decide), gup_k (by decide), gup_s]
  · rw [lpS_k (fun i Y a b => gup_k (by decide)), gup_k (by decide), gup_k (by decide), gup_k (by decide), gup_k (by decide), gup_s]
  · rw [lpS_k (fun i Y a b => gup_k (by decide)), gup_k (by decide), gup_k (by decide), gup_k (by decide), gup_s]
  · rw [lpS_k (fun i Y a b => gup_k (by decide)), gup_k (by decide), gup_k (by decide), gup_s]
  · rw [lpS_k (fun i Y a b => gup_k (by decide)), gup_k (by decide), gup_s]
  · rw [lpS_k (fun i Y a b => gup_k (by decide)), gup_s]
  · rcases wipe_at (kd := 27) (ix := fun _ => v) (iy := fun s => s) 8 0 (gup (gup (gup (gup (gup (gup X 14 v 0 1) 15 v 0 f) 16 v 0 b) 22 v 0 0) 23 v 0 0) 24 v 0 0) v s with ⟨h1, -⟩ | ⟨-, h2⟩
    · exact h1
    · exact absurd ⟨s, by omega, by omega, rfl, rfl⟩ h2
theorem mAtt_n {M : gS} {v kd p : Nat} {f b : Int32} (hk : 61 ≤ kd) (h : kd = 71 ∨ kd = 72 ∨ (kd ≤ 70 ∧ ¬ p = v) ∨ (kd = 73 ∧ ¬ (8 * v ≤ p ∧ p < 8 * v + 8))) : mAtt M v f b kd p 0 = M kd p 0 := by
  have e : ∀ (Y : gS) (k : Nat) (y : Int32), k ≤ 70 → gup Y k v 0 y kd p 0 = Y kd p 0 := fun Y k y h1 => by
    by_cases hkk : kd = k
    · subst hkk
      exact gup_n (fun z => by omega)
    · exact gup_k hkk
  have e2 : ∀ Y : gS, lpS (fun s Z => gup Z 73 (8 * v + s) 0 0) 8 0 Y kd p 0 = Y kd p 0 := fun Y => by
    by_cases hkk : kd = 73
    · subst hkk
      rcases wipe_at (kd := 73) (ix := fun s => 8 * v + s) (iy := fun _ => 0) 8 0 Y p 0 with ⟨-, w, h2, h3, h4, -⟩ | ⟨h1, -⟩
      · exact absurd h4 (by omega)
      · exact h1
    · exact lpS_k (fun i Y a b => gup_k hkk) _ _ _ _ _
  unfold mAtt mA6
  rw [e2, e _ _ _ (by omega), e _ _ _ (by omega), e _ _ _ (by omega), e _ _ _ (by omega)]
  unfold mA5
  rw [mBind_k (by omega) (by omega), e _ _ _ (by omega)]
  unfold mA4
  rw [mOpen_k (by omega) (by omega), e _ _ _ (by omega)]
  unfold mA3
  rw [mMap_k (by omega) (by omega), e _ _ _ (by omega)]
  unfold mA2
  rw [mGrant_k (by omega) (by omega) (by omega), e _ _ _ (by omega)]
  unfold mA1
  rw [mAlloc_k (by omega) (by omega), e _ _ _ (by omega), e _ _ _ (by omega)]
theorem mA6_r {B : Int32 × gS} {v : Nat} : mA6 B v 67 v 0 = B.1 ∧ mA6 B v 68 v 0 = 0 ∧ mA6 B v 69 v 0 = 0 ∧ mA6 B v 70 v 0 = 0 ∧ ∀ s, s < 8 → mA6 B v 73 (8 * v + s) 0 = 0 := by
  unfold mA6
  refine ⟨?_, ?_, ?_, ?_, fun s hs => ?_⟩
  · rw [lpS_k (fun i Y a b => gup_k (by decide)), gup_k (by decide), gup_k (by decide), gup_k (by decide), gup_s]
  · rw [lpS_k (fun i Y a b => gup_k (by decide)), gup_k (by decide), gup_k (by decide), gup_s]
  · rw [lpS_k (fun i Y a b => gup_k (by decide)), gup_k (by decide), gup_s]
  · rw [lpS_k (fun i Y a b => gup_k (by decide)), gup_s]
  · rcases wipe_at (kd := 73) (ix := fun s => 8 * v + s) (iy := fun _ => 0) 8 0 (gup (gup (gup (gup B.2 67 v 0 B.1) 68 v 0 0) 69 v 0 0) 70 v 0 0) (8 * v + s) 0 with ⟨h1, -⟩ | ⟨-, h2⟩
    · exact h1
    · exact absurd ⟨s, by omega, by omega, rfl, rfl⟩ h2
theorem mAtt_66 {M : gS} {v : Nat} {f b : Int32} : mAtt M v f b 66 v 0 = (mA4 (mA3 (mA2 (mA1 M v f b) v f b) v f b) v f b).1 := by
  unfold mAtt
  rw [mA6_k (by decide) (by decide) (by decide) (by decide) (by decide), mA5, mBind_k (by decide) (by decide), gup_s]
theorem mAtt_65 {M : gS} {v : Nat} {f b : Int32} : mAtt M v f b 65 v 0 = (mA3 (mA2 (mA1 M v f b) v f b) v f b).1 := by
  unfold mAtt
  rw [mA6_k (by decide) (by decide) (by decide) (by decide) (by decide), mA5, mBind_k (by decide) (by decide), gup_k (by decide), mA4, mOpen_k (by decide) (by decide), gup_s]
theorem mAtt_64 {M : gS} {v : Nat} {f b : Int32} : mAtt M v f b 64 v 0 = (mA2 (mA1 M v f b) v f b).1 := by
  unfold mAtt
  rw [mA6_k (by decide) (by decide) (by decide) (by decide) (by decide), mA5, mBind_k (by decide) (by decide), gup_k (by decide), mA4, mOpen_k (by decide) (by decide), gup_k (by decide), mA3, mMap_k (by decide) (by decide), gup_s]
theorem mAtt_63 {M : gS} {v : Nat} {f b : Int32} : mAtt M v f b 63 v 0 = (mA1 M v f b).1 := by
  unfold mAtt
  rw [mA6_k (by decide) (by decide) (by decide) (by decide) (by decide), mA5, mBind_k (by decide) (by decide), gup_k (by decide), mA4, mOpen_k (by decide) (by decide), gup_k (by decide), mA3, mMap_k (by decide) (by decide), gup_k (by decide), mA2, mGrant_k (by decide) (by decide) (by decide), gup_s]
theorem mAtt_62 {M : gS} {v : Nat} {f b : Int32} : mAtt M v f b 62 v 0 = b := by
  unfold mAtt
  rw [mA6_k (by decide) (by decide) (by decide) (by decide) (by decide), mA5, mBind_k (by decide) (by decide), gup_k (by decide), mA4, mOpen_k (by decide) (by decide), gup_k (by decide), mA3, mMap_k (by decide) (by decide), gup_k (by decide), mA2, mGrant_k (by decide) (by decide) (by decide), gup_k (by decide), mA1, mAlloc_k (by decide) (by decide), gup_s]
theorem mAtt_61 {M : gS} {v : Nat} {f b : Int32} : mAtt M v f b 61 v 0 = f + 1 := by
  unfold mAtt
  rw [mA6_k (by decide) (by decide) (by decide) (by decide) (by decide), mA5, mBind_k (by decide) (by decide), gup_k (by decide), mA4, mOpen_k (by decide) (by decide), gup_k (by decide), mA3, mMap_k (by decide) (by decide), gup_k (by decide), mA2, mGrant_k (by decide) (by decide) (by decide), gup_k (by decide), mA1, mAlloc_k (by decide) (by decide), gup_k (by decide), gup_s]
theorem rng_1 {M : gS} {v j : Nat} {f b : Int32} (hl : mLive M f = true) (h1 : mFpg M = nI j) (hj : j < 20) (h2 : ¬ 6 ≤ mCnt M f) : (mA1 M v f b).1 = nI j ∧ (mA1 M v f b).2 51 j 0 = f + 1 := by
  have k : ∀ kd, kd < 61 → ∀ p q, gup (gup M 61 v 0 (f + 1)) 62 v 0 b kd p q = M kd p q := fun kd hk p q => (gup_k (by omega)).trans (gup_k (by omega))
  have l1 : mLive (gup (gup M 61 v 0 (f + 1)) 62 v 0 b) f = true := by rw [mLive_k (k 50 (by decide))]; exact hl
  have f1 : mFpg (gup (gup M 61 v 0 (f + 1)) 62 v 0 b) = nI j := by rw [mFpg_k (k 51 (by decide))]; exact h1
  have n1 : ¬ (mFpg (gup (gup M 61 v 0 (f + 1)) 62 v 0 b) < 0 ∨ 6 ≤ mCnt (gup (gup M 61 v 0 (f + 1)) 62 v 0 b) f) := by
    rw [f1, mCnt_k (k 51 (by decide))]
    exact fun q => q.elim (nI_pos (by omega)) h2
  unfold mA1 mAlloc
  rw [if_pos l1, if_neg n1, f1, tN_nI (by omega)]
  refine ⟨rfl, ?_⟩
  dsimp only
  rw [mWipe_k (by decide), gup_s]
theorem rng_2 {M : gS} {B : Int32 × gS} {v j a c e : Nat} (hc : c < 5) (ha : a < 5) (hac : ¬ a = c) (h50 : ∀ p q, B.2 50 p q = M 50 p q) (h53 : ∀ p q, B.2 53 p q = M 53 p q) (hl : mLive M (nI a) = true) (e1 : B.1 = nI j) (hj : j < 20) (ho : B.2 51 j 0 = nI a + 1) (he : mFe M a = nI e) (he6 : e < 6) : (mA2 B v (nI a) (nI c)).1 = nI e ∧ (mA2 B v (nI a) (nI c)).2 53 (6 * a + e) 0 = nI c + 1 ∧ (mA2 B v (nI a) (nI c)).2 54 (6 * a + e) 0 = 1 := by
  have l1 : mLive (gup B.2 63 v 0 B.1) (nI a) = true := by rw [mLive_k (fun p q => (gup_k (by decide)).trans (h50 p q))]; exact hl
  have n1 : ¬ (nI c < 0 ∨ 4 < nI c ∨ nI c = nI a ∨ (1 : Int32) < 0 ∨ 2 < (1 : Int32)) := by
    intro q
    rcases q with q | q | q | q | q
    · exact nI_pos (by omega) q
    · exact nI_nlt (a := 4) (b := c) (by omega) (by decide) q
    · exact hac (nI_inj (by omega) (by omega) q).symm
    · exact absurd q (by decide)
    · exact absurd q (by decide)
  have o1 : mOwns (gup B.2 63 v 0 B.1) (nI a) (nI j) = true := by
    unfold mOwns
    rw [gup_k (by decide), tN_nI (by omega), ho, ← l_pag]
    rw [l_pag2.mpr (fun q => q.elim (nI_pos (by omega)) (nI_nlt (a := 19) (b := j) (by omega) (by decide)))]
    simp
  have n2 : ¬ ((1 : Int32) < 2 ∧ mOwns (gup B.2 63 v 0 B.1) (nI a) (nI j) = false) := by rw [o1]; simp
  have f1 : mFe (gup B.2 63 v 0 B.1) a = nI e := by rw [mFe_k (fun p q => (gup_k (by decide)).trans (h53 p q))]; exact he
  unfold mA2 mGrant
  rw [if_pos l1, if_neg n1]
  rw [e1] at n2 f1 ⊢
  rw [if_neg n2, tN_nI (by omega), f1, if_neg (nI_pos (by omega)), tN_nI (by omega)]
  dsimp only
  rw [mGr1_r3, if_pos rfl, mGr1_r4, if_pos rfl]
  exact ⟨rfl, rfl, rfl⟩
theorem rng_3 {M : gS} {B : Int32 × gS} {v a c e k : Nat} (hc : c < 5) (ha : a < 5) (h50 : ∀ p q, B.2 50 p q = M 50 p q) (h56 : ∀ p q, B.2 56 p q = M 56 p q) (hl : mLive M (nI a) = true) (hl2 : mLive M (nI c) = true) (e1 : B.1 = nI e) (he6 : e < 6) (h3 : B.2 53 (6 * a + e) 0 = nI c + 1) (h4 : B.2 54 (6 * a + e) 0 = 1) (hh : mFh M c = nI k) (hk : k < 5) : (mA3 B v (nI a) (nI c)).1 = nI k := by
  have l1 : mLive (gup B.2 64 v 0 B.1) (nI a) = true := by rw [mLive_k (fun p q => (gup_k (by decide)).trans (h50 p q))]; exact hl
  have l2 : mLive (gup B.2 64 v 0 B.1) (nI c) = true := by rw [mLive_k (fun p q => (gup_k (by decide)).trans (h50 p q))]; exact hl2
  have en : mEnt (gup B.2 64 v 0 B.1) a (nI e) = nI (6 * a + e) := by
    unfold mEnt
    rw [tN_nI (by omega), gup_k (by decide), h3, nI_add1]
    have n1 : ¬ (nI e < 0 ∨ 5 < nI e ∨ nI (c + 1) = 0) := fun q => q.elim (nI_pos (by omega)) (fun q => q.elim (nI_nlt (a := 5) (b := e) (by omega) (by decide)) (nI_ne0 (by omega) (by omega)))
    rw [if_neg n1]
  have f1 : mFh (gup B.2 64 v 0 B.1) c = nI k := by rw [mFh_k (fun p q => (gup_k (by decide)).trans (h56 p q))]; exact hh
  have x4 : gup B.2 64 v 0 B.1 54 (6 * a + e) 0 = 1 := by rw [gup_k (by decide)]; exact h4
  have x3 : gup B.2 64 v 0 B.1 53 (6 * a + e) 0 = nI c + 1 := by rw [gup_k (by decide)]; exact h3
  unfold mA3 mMap
  rw [if_pos ⟨l2, l1⟩]
  rw [e1] at en f1 x3 x4 ⊢
  rw [tN_nI (by omega), en, tN_nI (by omega), x3, x4]
  have n1 : ¬ (nI (6 * a + e) < 0 ∨ (1 : Int32) = 2 ∨ ¬ nI c + 1 = nI c + 1) := fun q => q.elim (nI_pos (by omega)) (fun q => q.elim (by decide) (fun q => q rfl))
  have n2 : ¬ (true = true ∧ (1 : Int32) = 0) := fun q => absurd q.2 (by decide)
  rw [if_neg n1, if_neg n2, tN_nI (by omega), f1, if_neg (nI_pos (by omega))]
theorem c_att {X M : gS} {n v a c j e k : Nat} (h : Rl X M n) (hv : v < 3) (ha : a < 5) (hc : c < 5) (hac : ¬ a = c) (la : mLive M (nI a) = true) (lc : mLive M (nI c) = true) (h1 : mFpg M = nI j) (hj : j < 20) (h2 : ¬ 6 ≤ mCnt M (nI a)) (h3 : mFe M a = nI e) (he : e < 6) (h4 : mFh M c = nI k) (hk : k < 5) : Rl (xAtt X v (nI a) (nI c)) (mAtt M v (nI a) (nI c)) (n + 1) := by
  obtain ⟨a1, b1⟩ := att_1 h.c v (nI a) (nI c)
  obtain ⟨a2, b2⟩ := att_2 a1 b1 v (nI a) (nI c)
  obtain ⟨a3, b3⟩ := att_3 a2 b2 v (nI a) (nI c)
  obtain ⟨a4, b4⟩ := att_4 a3 b3 v (nI a) (nI c)
  obtain ⟨a5, b5⟩ := att_5 a4 b4 v (nI a) (nI c)
  have b6 : Rc (xAtt X v (nI a) (nI c)) (mAtt M v (nI a) (nI c)) := att_6 b5 v
  obtain ⟨r1, o1⟩ := rng_1 (v := v) (b := nI c) la h1 hj h2
  have k1 : ∀ kd, kd < 61 → ¬ kd = 51 → ¬ kd = 52 → ∀ p q, (mA1 M v (nI a) (nI c)).2 kd p q = M kd p q := fun kd g1 g2 g3 p q => (mAlloc_k g2 g3).trans ((gup_k (by omega)).trans (gup_k (by omega)))
  obtain ⟨r2, o2, o3⟩ := rng_2 (v := v) hc ha hac (k1 50 (by decide) (by decide) (by decide)) (k1 53 (by decide) (by decide) (by decide)) la r1 hj o1 h3 he
  have k2 : ∀ kd, kd < 61 → ¬ kd = 51 → ¬ kd = 52 → ¬ kd = 53 → ¬ kd = 54 → ¬ kd = 55 → ∀ p q, (mA2 (mA1 M v (nI a) (nI c)) v (nI a) (nI c)).2 kd p q = M kd p q := fun kd g1 g2 g3 g4 g5 g6 p q => (mGrant_k g4 g5 g6).trans ((gup_k (by omega)).trans (k1 kd g1 g2 g3 p q))
  have r3 := rng_3 (v := v) hc ha (k2 50 (by decide) (by decide) (by decide) (by decide) (by decide) (by decide)) (k2 56 (by decide) (by decide) (by decide) (by decide) (by decide) (by decide)) la lc r2 he o2 o3 h4 hk
  have s1 : X 0 a 0 = 1 := by
    have := h.1 a ha
    unfold mLive at la
    simp only [Bool.and_eq_true, decide_eq_true_eq] at la
    rw [tN_nI (by omega)] at la
    rw [← this]
    exact la.2
  refine ⟨b6.1, b6.2.1, b6.2.2.1, b6.2.2.2.1, b6.2.2.2.2.1, b6.2.2.2.2.2.1, b6.2.2.2.2.2.2, fun v' hv' s hs => ?_, fun v' hv' => ?_⟩
  · rw [xAtt_k (by omega) (by omega), xAtt_k (by omega) (by omega), vBeg_k (by decide) (by decide) (by decide) (by decide) (by decide) (by decide) (by decide), vBeg_k (by decide) (by decide) (by decide) (by decide) (by decide) (by decide) (by decide), mAtt_n (by decide) (by omega), mAtt_n (by decide) (by omega)]
    exact h.2.2.2.2.2.2.2.1 v' hv' s hs
  · by_cases hvv : v' = v
    · subst hvv
      right
      obtain ⟨g1, g2, g3, g4, g5, g6, g7⟩ := vBeg_r (X := X) (v := v') (f := nI a) (b := nI c)
      obtain ⟨w1, w2, w3, w4, w5⟩ := mA6_r (B := mA5 (mA4 (mA3 (mA2 (mA1 M v' (nI a) (nI c)) v' (nI a) (nI c)) v' (nI a) (nI c)) v' (nI a) (nI c)) v' (nI a) (nI c)) (v := v')
      refine ⟨by rw [xAtt_k (by omega) (by omega)]; exact g1, a, c, j, e, k, 0, 0, 0, ha, hc, hac, hj, he, hk, by omega, by omega, by omega, by omega, ?_, ?_, ?_, ?_, ?_, ?_, ?_, ?_, ?_, ?_, mAtt_62, ?_, ?_, ?_, ?_, ?_, w2, w3, w4, fun s hs => ?_⟩
      · rw [xAtt_k (by omega) (by omega), vBeg_k (by decide) (by decide) (by decide) (by decide) (by decide) (by decide) (by decide)]; exact s1
      · rw [xAtt_k (by omega) (by omega)]; exact g2
      · rw [xAtt_k (by omega) (by omega)]; exact g3
      · rw [xAtt_17, a1]; exact r1
      · rw [xAtt_18, a2]; exact r2
      · rw [xAtt_19, a3]; exact r3
      · rw [xAtt_k (by omega) (by omega)]; exact g4
      · rw [xAtt_k (by omega) (by omega)]; exact g5
      · rw [xAtt_k (by omega) (by omega)]; exact g6
      · rw [mAtt_61, nI_add1]
      · rw [mAtt_63]; exact r1
      · rw [mAtt_64]; exact r2
      · rw [mAtt_65]; exact r3
      · rw [mAtt_66, xAtt_20]; exact a4.symm
      · rw [xAtt_21]; exact w1.trans a5.symm
      · rw [xAtt_k (by omega) (by omega), g7 s hs]; exact w5 s hs
    · refine dRel_k (fun f _ _ q => ?_) (fun kd z1 z2 _ _ q => ?_) (fun kd z1 z2 => mAtt_n z1 (by omega)) (fun s hs => mAtt_n (by decide) (by omega)) (h.2.2.2.2.2.2.2.2 v' hv')
      · rw [xAtt_k (by omega) (by omega), vBeg_k (by decide) (by decide) (by decide) (by decide) (by decide) (by decide) (by decide)]; exact q
      · rw [xAtt_k (by omega) (by omega), vBeg_n hvv]
theorem c_attach {X M : gS} {n : Nat} (h : Rl X M n) (f b : Int32) : (xAttach X f b).1 = (mAttach M f b).1 ∧ Rl (xAttach X f b).2 (mAttach M f b).2 (n + 1) := by
  unfold xAttach mAttach
  rw [l_live h.1, l_live h.1]
  by_cases hl : mLive M f = true ∧ mLive M b = true
  · rw [if_pos hl, if_pos hl]
    by_cases hfb : f = b
    · rw [if_pos hfb, if_pos hfb]
      exact ⟨rfl, Rl_next h⟩
    · rw [if_neg hfb, if_neg hfb]
      obtain ⟨a, ha, rfl⟩ := live_nI hl.1
      obtain ⟨c, hc, rfl⟩ := live_nI hl.2
      have hg := get_eq h.2.1 (nI a)
      have hR := h.c
      have e1 := l_fe hR.2.2.2.1 ha
      have e2 := l_fh hR.2.2.2.2.2.1 hc
      have e3 := l_fq hR.2.2.2.2.2.2 ha
      have e4 := l_fq hR.2.2.2.2.2.2 hc
      have n1 : mFe M a = -1 ↔ mFe M a < 0 := ffst_neg (by decide)
      have n2 : mFh M c = -1 ↔ mFh M c < 0 := ffst_neg (by decide)
      have n3 : mFq M a = -1 ↔ mFq M a < 0 := ffst_neg (by decide)
      have n4 : mFq M c = -1 ↔ mFq M c < 0 := ffst_neg (by decide)
      have ta : tN (nI a) = a := tN_nI (by omega)
      have tc : tN (nI c) = c := tN_nI (by omega)
      have hA : (xAbs X = -1 ∨ xRf X (nI a) = false ∨ xRb X (nI c) = false) ↔ (3 ≤ nI (mAbs M) ∨ 6 ≤ mCnt M (nI a) ∨ mFpg M < 0 ∨ mFe M (tN (nI a)) < 0 ∨ mFh M (tN (nI c)) < 0 ∨ mFq M (tN (nI a)) < 0 ∨ mFq M (tN (nI c)) < 0) := by
        unfold xRf xRb xCgn
        rw [ta, tc, e1, e2, e3, e4, ← n1, ← n2, ← n3, ← n4]
        have hab : xAbs X = -1 ↔ 3 ≤ nI (mAbs M) := by
          rcases abs_eq h.2.2.2.2.2.2.2.2 with ⟨q1, q2⟩ | ⟨k, hk, q1, q2, -⟩
          · rw [q1, q2]; decide
          · rw [q1, q2]
            have : ∀ k, k < 3 → (nI k = -1 ↔ 3 ≤ nI k) := by decide +kernel
            exact this k hk
        rw [hab]
        simp only [Bool.and_eq_false_iff, Bool.not_eq_false', decide_eq_true_eq]
        rw [hg]
        constructor
        · rintro (q | ((q | q) | q) | q | q)
          · exact Or.inl q
          · exact q.elim (fun q => Or.inr (Or.inr (Or.inl q))) (fun q => Or.inr (Or.inl q))
          · exact Or.inr (Or.inr (Or.inr (Or.inl q)))
          · exact Or.inr (Or.inr (Or.inr (Or.inr (Or.inr (Or.inl q)))))
          · exact Or.inr (Or.inr (Or.inr (Or.inr (Or.inl q))))
          · exact Or.inr (Or.inr (Or.inr (Or.inr (Or.inr (Or.inr q)))))
        · rintro (q | q | q | q | q | q | q)
          · exact Or.inl q
          · exact Or.inr (Or.inl (Or.inl (Or.inl (Or.inr q))))
          · exact Or.inr (Or.inl (Or.inl (Or.inl (Or.inl q))))
          · exact Or.inr (Or.inl (Or.inl (Or.inr q)))
          · exact Or.inr (Or.inr (Or.inl q))
          · exact Or.inr (Or.inl (Or.inr q))
          · exact Or.inr (Or.inr (Or.inr q))
      by_cases hbad : 3 ≤ nI (mAbs M) ∨ 6 ≤ mCnt M (nI a) ∨ mFpg M < 0 ∨ mFe M (tN (nI a)) < 0 ∨ mFh M (tN (nI c)) < 0 ∨ mFq M (tN (nI a)) < 0 ∨ mFq M (tN (nI c)) < 0
      · rw [if_pos (hA.mpr hbad), if_pos hbad]
        exact ⟨rfl, Rl_next h⟩
      · rw [if_neg (fun q => hbad (hA.mp q)), if_neg hbad]
        rcases abs_eq h.2.2.2.2.2.2.2.2 with ⟨q1, q2⟩ | ⟨v, hv, q1, q2, -⟩
        · exact absurd (Or.inl (by rw [q2]; decide)) hbad
        · rw [q1, q2, tN_nI (by omega)]
          rw [ta, tc] at hbad
          obtain ⟨j, hj, ej⟩ := ir_mFpg (fun q => hbad (Or.inr (Or.inr (Or.inl q))))
          obtain ⟨e, he, ee⟩ := ir_mFe (fun q => hbad (Or.inr (Or.inr (Or.inr (Or.inl q)))))
          obtain ⟨k, hk, ek⟩ := ir_mFh (fun q => hbad (Or.inr (Or.inr (Or.inr (Or.inr (Or.inl q))))))
          exact ⟨rfl, c_att h hv ha hc (fun q => hfb (by rw [q])) hl.1 hl.2 ej hj (fun q => hbad (Or.inr (Or.inl q))) ee he ek hk⟩
  · rw [if_neg hl, if_neg hl]
    exact ⟨rfl, Rl_next h⟩
end
section
theorem nJ_sub {a b : Nat} (h : b ≤ a) : nI a - nI b = nI (a - b) := by
  have e : nI (a - b) + nI b = nI a := by rw [nJ_add]; congr 1; omega
  rw [← e, Int32.add_sub_cancel]
theorem grant_1 {M : gS} {x t p k : Int32} : (mGrant M x t p k).1 = -1 ∨ (mGrant M x t p k).1 = -2 ∨ (mGrant M x t p k).1 = -3 ∨ (mGrant M x t p k).1 = -7 ∨ ∃ e, e < 6 ∧ (mGrant M x t p k).1 = nI e := by
  unfold mGrant
  split
  · split
    · exact Or.inr (Or.inl rfl)
    · split
      · exact Or.inr (Or.inr (Or.inl rfl))
      · split
        · exact Or.inr (Or.inr (Or.inr (Or.inl rfl)))
        · next hc =>
          obtain ⟨e, he, ee⟩ := ir_mFe hc
          exact Or.inr (Or.inr (Or.inr (Or.inr ⟨e, he, ee⟩)))
  · exact Or.inl rfl
theorem shl4 {g : Int32} (h : g = -1 ∨ g = -2 ∨ g = -3 ∨ g = -7 ∨ ∃ e, e < 6 ∧ g = nI e) : g <<< ((4 : Int32) &&& 31) = 16 * g := by
  rcases h with rfl | rfl | rfl | rfl | ⟨e, he, rfl⟩
  · decide
  · decide
  · decide
  · decide
  · have : ∀ e, e < 6 → nI e <<< ((4 : Int32) &&& 31) = 16 * nI e := by decide +kernel
    exact this e he
theorem xStore_own {X : gS} {f j : Nat} {x : Int32} (hl : xLive X (nI f) = true) (hj : j < 20) (ho : X 1 j 0 = nI f) : (xStore X (nI f) (nI j) 0 x).2 = gup X 2 j 0 x := by
  have hp : xPag (nI j) = true := l_pag2.mpr (fun q => q.elim (nI_pos (by omega)) (nI_nlt (a := 19) (b := j) (by omega) (by decide)))
  have e : xAcc X (nI f) (nI j) 0 true = 0 := by
    unfold xAcc
    rw [if_pos hl]
    have c1 : (xPag (nI j) && decide ((0 : Int32) ≤ 0) && decide ((0 : Int32) < 8)) = true := by rw [hp]; decide
    have c2 : (xOwns X (nI f) (nI j) || xMof X (tN (nI f)) (nI j) true) = true := by
      unfold xOwns
      rw [hp, tN_nI (by omega), ho]
      simp
    rw [if_pos c1, if_pos c2]
  unfold xStore
  rw [if_pos e, tN_nI (by omega)]
  rfl
theorem alloc_own {X : gS} {f : Nat} (hl : xLive X (nI f) = true) (hg : ¬ xGet X (nI f) = -1) : ∃ j, j < 20 ∧ (xAlloc X (nI f)).1 = nI j ∧ (xAlloc X (nI f)).2 1 j 0 = nI f := by
  obtain ⟨g1, g2⟩ := ir_get hg
  refine ⟨tN (xGet X (nI f)), g2, ?_, ?_⟩
  · unfold xAlloc
    rw [if_pos hl, if_neg hg]
    exact nI_tN g1
  · unfold xAlloc
    rw [if_pos hl, if_neg hg]
    dsimp only
    rw [xWipe_k (by decide), gup_s]
theorem xLive_k {X X' : gS} (h : ∀ a b, X' 0 a b = X 0 a b) (x : Int32) : xLive X' x = xLive X x := by unfold xLive; rw [h]
theorem su_1 {A B : Int32 × gS} {f j : Nat} {x : Int32} {w : Bool} (e : A.1 = B.1) (h : Rc A.2 B.2) (hl : xLive A.2 (nI f) = true) (hj : j < 20) (ej : A.1 = nI j) (ho : A.2 1 j 0 = nI f) : Rc (if w = true then (xStore A.2 (nI f) A.1 0 x).2 else A.2) (mSu1 B w x) := by
  unfold mSu1
  cases w
  · simpa using h
  · rw [if_pos rfl, if_pos rfl, ← e, ej, xStore_own hl hj ho, tN_nI (by omega)]
    exact c_wrd h hj (show 0 < 8 by decide)
theorem xPo_c {G H : gS} {v rp po : Nat} {p r q q' : Int32} (h : Rc G H) (hrp : rp < 20) (hpo : po < 2 ^ 31) (e17 : G 17 v 0 = nI rp) (e22 : G 22 v 0 = nI po) (eq : q = q') : Rc (xPo G v p r q) (gup (gup (gup (gup (gup H 71 (3 * v + po % 3) 0 p) 72 (3 * v + po % 3) 0 r) 52 (8 * rp + 2 + po % 3) 0 q') 68 v 0 (nI (po + 1))) 52 (8 * rp) 0 (nI (po + 1))) := by
  unfold xPo
  have e2 : 2 + nI (po % 3) = nI (2 + po % 3) := nJ_add 2 _
  rw [e17, e22, rem3_nI hpo, e2, tN_nI (by omega), tN_nI (by omega), tN_nI (by omega), nI_add1, eq]
  have h1 : Rc (gup (gup G 25 v (po % 3) p) 26 v (po % 3) r) (gup (gup H 71 (3 * v + po % 3) 0 p) 72 (3 * v + po % 3) 0 r) := Rc_k h (fun kd hk _ _ => (gup_k (by omega)).trans (gup_k (by omega))) (fun kd _ hk _ _ => (gup_k (by omega)).trans (gup_k (by omega)))
  have h2 := c_wrd h1 hrp (show 2 + po % 3 < 8 by omega) (x := q')
  rw [← Nat.add_assoc] at h2
  have h3 : Rc (gup (gup (gup (gup G 25 v (po % 3) p) 26 v (po % 3) r) 2 rp (2 + po % 3) q') 22 v 0 (nI (po + 1))) (gup (gup (gup (gup H 71 (3 * v + po % 3) 0 p) 72 (3 * v + po % 3) 0 r) 52 (8 * rp + 2 + po % 3) 0 q') 68 v 0 (nI (po + 1))) := Rc_k h2 (fun kd hk _ _ => gup_k (by omega)) (fun kd _ hk _ _ => gup_k (by omega))
  exact c_wrd h3 hrp (show 0 < 8 by decide)
end
section
theorem xSu_r {X : gS} {v : Nat} {w : Bool} {s x : Int32} {kd p q : Nat} (hk : kd = 0 ∨ 14 ≤ kd) : (xSu X v w s x).2 kd p q = xPo (xSu2 X (xSu1 X (xAlloc X (X 15 v 0)) v w x) v w (xAlloc X (X 15 v 0)).1).2 v (xAlloc X (X 15 v 0)).1 (xSu2 X (xSu1 X (xAlloc X (X 15 v 0)) v w x) v w (xAlloc X (X 15 v 0)).1).1 (s + (if w = true then 8 else 0) + ((xSu2 X (xSu1 X (xAlloc X (X 15 v 0)) v w x) v w (xAlloc X (X 15 v 0)).1).1 <<< ((4 : Int32) &&& 31))) kd p q := by
  unfold xSu xSu3 xPost
  exact xSend_k (by omega)
theorem xSu2_k {X : gS} {v : Nat} {w : Bool} {x : Int32} {kd p q : Nat} (hk : kd = 0 ∨ 14 ≤ kd) : (xSu2 X (xSu1 X (xAlloc X (X 15 v 0)) v w x) v w (xAlloc X (X 15 v 0)).1).2 kd p q = X kd p q := by
  unfold xSu2
  rw [xGrant_k (by omega) (by omega) (by omega)]
  unfold xSu1
  split
  · rw [xStore_k (by omega), xAlloc_k (by omega) (by omega)]
  · rw [xAlloc_k (by omega) (by omega)]
theorem xPo_k {X : gS} {v : Nat} {y r z : Int32} {kd p q : Nat} (h2 : ¬ kd = 2) (h22 : ¬ (kd = 22 ∧ p = v)) (h25 : ¬ kd = 25) (h26 : ¬ kd = 26) : xPo X v y r z kd p q = X kd p q := by
  unfold xPo
  rw [gup_k h2]
  by_cases hk : kd = 22
  · subst hk
    rw [gup_n (fun z => h22 ⟨rfl, z.1⟩), gup_k (by decide), gup_k (by decide), gup_k (by decide)]
  · rw [gup_k hk, gup_k h2, gup_k h26, gup_k h25]
theorem xPo_22 {X : gS} {v : Nat} {y r z : Int32} : xPo X v y r z 22 v 0 = X 22 v 0 + 1 := by
  unfold xPo
  rw [gup_k (by decide), gup_s]
theorem xPo_25 {X : gS} {v a b : Nat} {y r z : Int32} : xPo X v y r z 25 a b = if a = v ∧ b = tN (rem3 (X 22 v 0)) then y else X 25 a b := by
  unfold xPo
  rw [gup_k (by decide), gup_k (by decide), gup_k (by decide), gup_k (by decide), gup_r]
theorem xPo_26 {X : gS} {v a b : Nat} {y r z : Int32} : xPo X v y r z 26 a b = if a = v ∧ b = tN (rem3 (X 22 v 0)) then r else X 26 a b := by
  unfold xPo
  rw [gup_k (by decide), gup_k (by decide), gup_k (by decide), gup_r, gup_k (by decide)]
theorem mSu2_k {M : gS} {v : Nat} {w : Bool} {x : Int32} {kd p q : Nat} (hk : 61 ≤ kd) : (mSu2 M (mSu1 (mSuA M v) w x) v w (mSuA M v).1).2 kd p q = M kd p q := by
  unfold mSu2
  rw [mGrant_k (by omega) (by omega) (by omega)]
  unfold mSu1 mSuA
  split
  · rw [gup_k (by omega), mAlloc_k (by omega) (by omega)]
  · rw [mAlloc_k (by omega) (by omega)]
theorem mSu3_k {M : gS} {G : Int32 × gS} {v : Nat} {w : Bool} {s y : Int32} {kd p q : Nat} (h52 : ¬ kd = 52) (h68 : ¬ (kd = 68 ∧ p = v)) (h71 : ¬ kd = 71) (h72 : ¬ kd = 72) : mSu3 M G v w s y kd p q = G.2 kd p q := by
  unfold mSu3
  rw [gup_k h52]
  by_cases hk : kd = 68
  · subst hk
    rw [gup_n (fun z => h68 ⟨rfl, z.1⟩), gup_k (by decide), gup_k (by decide), gup_k (by decide)]
  · rw [gup_k hk, gup_k h52, gup_k h72, gup_k h71]
theorem mSu3_68 {M : gS} {G : Int32 × gS} {v : Nat} {w : Bool} {s y : Int32} : mSu3 M G v w s y 68 v 0 = nI (mPo M v + 1) := by
  unfold mSu3
  rw [gup_k (by decide), gup_s]
theorem mSu3_71 {M : gS} {G : Int32 × gS} {v a : Nat} {w : Bool} {s y : Int32} : mSu3 M G v w s y 71 a 0 = if a = 3 * v + mPo M v % 3 then y else G.2 71 a 0 := by
  unfold mSu3
  rw [gup_k (by decide), gup_k (by decide), gup_k (by decide), gup_k (by decide), gup_r]
  simp
theorem mSu3_72 {M : gS} {G : Int32 × gS} {v a : Nat} {w : Bool} {s y : Int32} : mSu3 M G v w s y 72 a 0 = if a = 3 * v + mPo M v % 3 then G.1 else G.2 72 a 0 := by
  unfold mSu3
  rw [gup_k (by decide), gup_k (by decide), gup_k (by decide), gup_r, gup_k (by decide)]
  simp
theorem dRel_up {X M X' M' : gS} {n v po' ra' ta' : Nat} (hra : ra' ≤ po') (hpo : po' ≤ ra' + 3) (hn : po' ≤ n + 1) (ht : ta' ≤ n + 1) (h0 : ∀ f, f < 5 → X 0 f 0 = 1 → X' 0 f 0 = 1) (hx : ∀ kd, 14 ≤ kd → kd < 22 → X' kd v 0 = X kd v 0) (h22 : X' 22 v 0 = nI po') (h23 : X' 23 v 0 = nI ra') (h24 : X' 24 v 0 = nI ta') (hm : ∀ kd, 61 ≤ kd → kd < 68 → M' kd v 0 = M kd v 0) (h68 : M' 68 v 0 = nI po') (h69 : M' 69 v 0 = nI ra') (h70 : M' 70 v 0 = nI ta') (h73 : ∀ s, s < 8 → M' 73 (8 * v + s) 0 = X' 27 v s) (hp : ¬ M 61 v 0 = 0) (h : dRel X M n v) : dRel X' M' (n + 1) v := by
  rcases h with ⟨g1, g2⟩ | ⟨g1, f, b, rp, re, rh, po, ra, ta, c1, c2, c3, c4, c5, c6, c7, c8, c9, c10, c11, c12, c13, c14, c15, c16, c17, c18, c19, c20, c21, c22, c23, c24, c25, c26, c27, c28, c29, c30⟩
  · exact absurd g2 hp
  · refine Or.inr ⟨by rw [hx 14 (by decide) (by decide)]; exact g1, f, b, rp, re, rh, po', ra', ta', c1, c2, c3, c4, c5, c6, hra, hpo, hn, ht, h0 f c1 c11, ?_⟩
    rw [hx 15 (by decide) (by decide), hx 16 (by decide) (by decide), hx 17 (by decide) (by decide), hx 18 (by decide) (by decide), hx 19 (by decide) (by decide), hx 20 (by decide) (by decide), hx 21 (by decide) (by decide), hm 61 (by decide) (by decide), hm 62 (by decide) (by decide), hm 63 (by decide) (by decide), hm 64 (by decide) (by decide), hm 65 (by decide) (by decide), hm 66 (by decide) (by decide), hm 67 (by decide) (by decide)]
    exact ⟨c12, c13, c14, c15, c16, h22, h23, h24, c20, c21, c22, c23, c24, c25, c26, h68, h69, h70, h73⟩
theorem live_of {X : gS} {f : Nat} (hf : f < 5) (h : X 0 f 0 = 1) : xLive X (nI f) = true := by
  unfold xLive
  rw [l_dom2.mpr (fun q => q.elim (nI_pos (by omega)) (nI_nlt (a := 4) (b := f) (by omega) (by decide))), tN_nI (by omega), h]
  decide
theorem c_su {X M : gS} {n v : Nat} {w : Bool} {s x : Int32} (h : Rl X M n) (hv : v < 3) (hp : ¬ M 61 v 0 = 0) (hn : n < 2 ^ 30) (hwin : ¬ 3 ≤ xUw X v) (hcg : xCgn X (X 15 v 0) = true) : (xSu X v w s x).1 = (mSu M v w s x).1 ∧ Rl (xSu X v w s x).2 (mSu M v w s x).2 (n + 1) := by
  obtain ⟨f, b, rp, re, rh, po, ra, ta, c1, c2, c3, c4, c5, c6, c7, c8, c9, c10, c11, c12, c13, c14, c15, c16, c17, c18, c19, c20, c21, c22, c23, c24, c25, c26, c27, c28, c29, c30, g1⟩ := d_dev h hv hp
  have eF : mF M v = f := by unfold mF; rw [c20, nI_pred, tN_nI (by omega)]
  have eB : mB M v = b := by unfold mB; rw [c21, tN_nI (by omega)]
  have eP : mRp M v = rp := by unfold mRp; rw [c22, tN_nI (by omega)]
  have eO : mPo M v = po := by unfold mPo; rw [c27, tN_nI (by omega)]
  have hw3 : po < ra + 3 := by
    unfold xUw at hwin
    rw [c17, c18, nJ_sub c7] at hwin
    exact Classical.byContradiction fun q => hwin (by rw [show po - ra = 3 by omega]; decide)
  have hl : xLive X (nI f) = true := live_of c1 c11
  have hg : ¬ xGet X (nI f) = -1 := by
    unfold xCgn at hcg
    rw [c12] at hcg
    simp only [Bool.and_eq_true, Bool.not_eq_true', decide_eq_false_iff_not] at hcg
    exact hcg.1
  obtain ⟨a1, b1⟩ := c_alloc h.c (nI f)
  obtain ⟨j, hj, ej, oj⟩ := alloc_own hl hg
  have b2 := su_1 (x := x) (w := w) a1 b1 (by rw [xLive_k (fun p q => xAlloc_k (by decide) (by decide))]; exact hl) hj ej oj
  have eY : (if w = true then (xStore (xAlloc X (nI f)).2 (nI f) (xAlloc X (nI f)).1 0 x).2 else (xAlloc X (nI f)).2) = xSu1 X (xAlloc X (X 15 v 0)) v w x := by unfold xSu1; rw [c12]
  have eN : mSu1 (mAlloc M (nI f)) w x = mSu1 (mSuA M v) w x := by unfold mSuA; rw [eF]
  rw [eY, eN] at b2
  have eA1 : (xAlloc X (X 15 v 0)).1 = (mSuA M v).1 := by rw [c12, a1]; unfold mSuA; rw [eF]
  have b3 : (xSu2 X (xSu1 X (xAlloc X (X 15 v 0)) v w x) v w (xAlloc X (X 15 v 0)).1).1 = (mSu2 M (mSu1 (mSuA M v) w x) v w (mSuA M v).1).1 ∧ Rc (xSu2 X (xSu1 X (xAlloc X (X 15 v 0)) v w x) v w (xAlloc X (X 15 v 0)).1).2 (mSu2 M (mSu1 (mSuA M v) w x) v w (mSuA M v).1).2 := by
    unfold xSu2 mSu2
    rw [eF, eB, c13, eA1, c12] at *
    exact c_grant b2 _ _ _ _
  obtain ⟨e3, b3⟩ := b3
  have hsh : (mSu2 M (mSu1 (mSuA M v) w x) v w (mSuA M v).1).1 <<< ((4 : Int32) &&& 31) = 16 * (mSu2 M (mSu1 (mSuA M v) w x) v w (mSuA M v).1).1 := shl4 grant_1
  have fx : ∀ kd p q, kd = 0 ∨ 14 ≤ kd → (xSu2 X (xSu1 X (xAlloc X (X 15 v 0)) v w x) v w (xAlloc X (X 15 v 0)).1).2 kd p q = X kd p q := fun kd p q hk => xSu2_k hk
  have fm : ∀ kd p q, 61 ≤ kd → (mSu2 M (mSu1 (mSuA M v) w x) v w (mSuA M v).1).2 kd p q = M kd p q := fun kd p q hk => mSu2_k hk
  have hR : Rc (xSu X v w s x).2 (mSu M v w s x).2 := by
    unfold xSu xSu3 xPost mSu
    dsimp only
    rw [fx 15 v 0 (by omega), fx 20 v 0 (by omega), c12, eF, c25]
    refine (c_send ?_ _ _).2
    have := xPo_c (p := (xAlloc X (X 15 v 0)).1) (r := (xSu2 X (xSu1 X (xAlloc X (X 15 v 0)) v w x) v w (xAlloc X (X 15 v 0)).1).1) b3 c4 (show po < 2 ^ 31 by omega) ((fx 17 v 0 (by omega)).trans c14) ((fx 22 v 0 (by omega)).trans c17) (show s + (if w = true then 8 else 0) + ((xSu2 X (xSu1 X (xAlloc X (X 15 v 0)) v w x) v w (xAlloc X (X 15 v 0)).1).1 <<< ((4 : Int32) &&& 31)) = s + (if w = true then 8 else 0) + 16 * (mSu2 M (mSu1 (mSuA M v) w x) v w (mSuA M v).1).1 by rw [e3, hsh])
    unfold mSu3
    rw [eO, eP]
    rw [c12] at this eA1 e3
    rw [eA1] at e3 this ⊢
    rw [e3] at this ⊢
    exact this
  have rx : ∀ kd p q, kd = 0 ∨ 14 ≤ kd → _ := fun kd p q hk => xSu_r (X := X) (v := v) (w := w) (s := s) (x := x) (p := p) (q := q) hk
  have rm : ∀ kd p q, 61 ≤ kd → (mSu M v w s x).2 kd p q = mSu3 M (mSu2 M (mSu1 (mSuA M v) w x) v w (mSuA M v).1) v w s (mSuA M v).1 kd p q := fun kd p q hk => by unfold mSu; exact mSend_k (by omega)
  refine ⟨?_, hR.1, hR.2.1, hR.2.2.1, hR.2.2.2.1, hR.2.2.2.2.1, hR.2.2.2.2.2.1, hR.2.2.2.2.2.2, fun v' hv' s' hs' => ?_, fun v' hv' => ?_⟩
  · unfold xSu xSu3 mSu
    dsimp only
    rw [fx 22 v 0 (by omega), c17, eO]
  · rw [rx 25 _ _ (by omega), rx 26 _ _ (by omega), rm 71 _ _ (by omega), rm 72 _ _ (by omega), xPo_25, xPo_26, mSu3_71, mSu3_72, fx 22 v 0 (by omega), fx 25 _ _ (by omega), fx 26 _ _ (by omega), fm 71 _ _ (by omega), fm 72 _ _ (by omega), c17, rem3_nI (by omega), tN_nI (by omega), eO]
    by_cases hc : v' = v ∧ s' = po % 3
    · rw [if_pos hc, if_pos hc, if_pos (show 3 * v' + s' = 3 * v + po % 3 by omega), if_pos (show 3 * v' + s' = 3 * v + po % 3 by omega)]
      exact ⟨eA1.symm, e3.symm⟩
    · rw [if_neg hc, if_neg hc, if_neg (show ¬ 3 * v' + s' = 3 * v + po % 3 by omega), if_neg (show ¬ 3 * v' + s' = 3 * v + po % 3 by omega)]
      exact h.2.2.2.2.2.2.2.1 v' hv' s' hs'
  · have hx : ∀ kd p q, kd = 0 ∨ 14 ≤ kd → ¬ (kd = 22 ∧ p = v) → ¬ kd = 25 → ¬ kd = 26 → (xSu X v w s x).2 kd p q = X kd p q := fun kd p q k1 k2 k3 k4 => by
      rw [rx kd p q k1, xPo_k (by omega) k2 k3 k4, fx kd p q k1]
    have hm : ∀ kd p q, 61 ≤ kd → ¬ (kd = 68 ∧ p = v) → ¬ kd = 71 → ¬ kd = 72 → (mSu M v w s x).2 kd p q = M kd p q := fun kd p q k1 k2 k3 k4 => by
      rw [rm kd p q k1, mSu3_k (by omega) k2 k3 k4, fm kd p q k1]
    by_cases hvv : v' = v
    · subst hvv
      refine dRel_up (po' := po + 1) (ra' := ra) (ta' := ta) (by omega) (by omega) (by omega) (by omega) (fun f' _ q => ?_) (fun kd k1 k2 => hx kd _ _ (by omega) (by omega) (by omega) (by omega)) ?_ ?_ ?_ (fun kd k1 k2 => hm kd _ _ k1 (by omega) (by omega) (by omega)) ?_ ?_ ?_ (fun s' hs' => ?_) hp (h.2.2.2.2.2.2.2.2 v' hv')
      · rw [hx 0 _ _ (by omega) (by omega) (by omega) (by omega)]; exact q
      · rw [rx 22 _ _ (by omega), xPo_22, fx 22 _ _ (by omega), c17, nI_add1]
      · rw [hx 23 _ _ (by omega) (by omega) (by omega) (by omega)]; exact c18
      · rw [hx 24 _ _ (by omega) (by omega) (by omega) (by omega)]; exact c19
      · rw [rm 68 _ _ (by omega), mSu3_68, eO]
      · rw [hm 69 _ _ (by omega) (by omega) (by omega) (by omega)]; exact c28
      · rw [hm 70 _ _ (by omega) (by omega) (by omega) (by omega)]; exact c29
      · rw [hm 73 _ _ (by omega) (by omega) (by omega) (by omega), hx 27 _ _ (by omega) (by omega) (by omega) (by omega)]
        exact c30 s' hs'
    · refine dRel_k (fun f' _ _ q => ?_) (fun kd k1 k2 k3 k4 q => hx kd _ _ (by omega) (by omega) k3 k4) (fun kd k1 k2 => hm kd _ _ k1 (by omega) (by omega) (by omega)) (fun s' hs' => hm 73 _ _ (by omega) (by omega) (by omega) (by omega)) (h.2.2.2.2.2.2.2.2 v' hv')
      rw [hx 0 _ _ (by omega) (by omega) (by omega) (by omega)]; exact q
theorem cgn_eq {X M : gS} (h : Rc X M) {a : Nat} (ha : a < 5) : xCgn X (nI a) = false ↔ (6 ≤ mCnt M (nI a) ∨ mFpg M < 0 ∨ mFe M a < 0) := by
  have hg := get_eq h.2.1 (nI a)
  have n1 : mFe M a = -1 ↔ mFe M a < 0 := ffst_neg (by decide)
  unfold xCgn
  rw [tN_nI (by omega), l_fe h.2.2.2.1 ha]
  simp only [Bool.and_eq_false_iff, Bool.not_eq_false', decide_eq_true_eq]
  rw [hg, n1]
  constructor
  · rintro ((q | q) | q)
    · exact Or.inr (Or.inl q)
    · exact Or.inl q
    · exact Or.inr (Or.inr q)
  · rintro (q | q | q)
    · exact Or.inl (Or.inr q)
    · exact Or.inl (Or.inl q)
    · exact Or.inr q
theorem tr_is (M : gS) (x : Int32) : (mTr M x < 0 ∧ ¬ mTr M x = 0) ∨ mTr M x = 0 := by
  unfold mTr
  split
  · exact Or.inl (by decide)
  · split
    · exact Or.inr rfl
    · exact Or.inl (by decide)
theorem c_submit {X M : gS} {n : Nat} {w : Bool} (h : Rl X M n) (hn : n < 2 ^ 30) (v s x : Int32) : (xSubmit X v w s x).1 = (mSubmit M v w s x).1 ∧ Rl (xSubmit X v w s x).2 (mSubmit M v w s x).2 (n + 1) := by
  unfold xSubmit mSubmit
  rw [d_dc h]
  rcases tr_is M v with ⟨t1, t2⟩ | t1
  · rw [if_neg t2, if_pos t1]
    exact ⟨rfl, Rl_next h⟩
  · have t2 : ¬ mTr M v < 0 := by rw [t1]; decide
    rw [if_pos t1, if_neg t2]
    obtain ⟨k, hk, rfl, hp⟩ := tr_nn t2
    have e8 : (s < 0 ∨ 8 ≤ s) ↔ (s < 0 ∨ 7 < s) := by
      have : 8 ≤ s ↔ 7 < s := by
        rw [Int32.lt_iff_toInt_lt, Int32.le_iff_toInt_le]
        have e5 : (8 : Int32).toInt = 8 := by decide
        have e4 : (7 : Int32).toInt = 7 := by decide
        omega
      rw [this]
    by_cases hs : s < 0 ∨ 7 < s
    · rw [if_pos (e8.mpr hs), if_pos hs]
      exact ⟨rfl, Rl_next h⟩
    · rw [if_neg (fun q => hs (e8.mp q)), if_neg hs, tN_nI (by omega)]
      obtain ⟨f, b, rp, re, rh, po, ra, ta, c1, c2, c3, c4, c5, c6, c7, c8, c9, c10, c11, c12, c13, c14, c15, c16, c17, c18, c19, c20, c21, c22, c23, c24, c25, c26, c27, c28, c29, c30, g1⟩ := d_dev h hk hp
      have eF : mF M k = f := by unfold mF; rw [c20, nI_pred, tN_nI (by omega)]
      have eO : mPo M k = po := by unfold mPo; rw [c27, tN_nI (by omega)]
      have hu : 3 ≤ xUw X k ↔ nI po - M 69 k 0 = 3 := by
        unfold xUw
        rw [c17, c18, c28, nJ_sub c7]
        have : ∀ d, d < 4 → (3 ≤ nI d ↔ nI d = 3) := by decide +kernel
        exact this (po - ra) (by omega)
      have hA : (3 ≤ xUw X k ∨ xCgn X (X 15 k 0) = false) ↔ (nI (mPo M k) - M 69 k 0 = 3 ∨ 6 ≤ mCnt M (nI (mF M k)) ∨ mFpg M < 0 ∨ mFe M (mF M k) < 0) := by
        rw [eF, eO, c12, cgn_eq h.c c1, hu]
      by_cases hb : nI (mPo M k) - M 69 k 0 = 3 ∨ 6 ≤ mCnt M (nI (mF M k)) ∨ mFpg M < 0 ∨ mFe M (mF M k) < 0
      · rw [if_pos (hA.mpr hb), if_pos hb]
        exact ⟨rfl, Rl_next h⟩
      · have hA' := fun q => hb (hA.mp q)
        rw [if_neg hA', if_neg hb]
        refine c_su h hk hp hn (fun q => hA' (Or.inl q)) ?_
        cases hq : xCgn X (X 15 k 0)
        · exact absurd (Or.inr hq) hA'
        · rfl
end
section
theorem i64_01 {x : Int64} (h : ¬ x = 0) : x < 1 ↔ x < 0 := by
  rw [Int64.lt_iff_toInt_lt, Int64.lt_iff_toInt_lt]
  have e1 : (1 : Int64).toInt = 1 := by decide
  have e0 : (0 : Int64).toInt = 0 := by decide
  have hx : ¬ x.toInt = 0 := fun q => h (Int64.toInt_inj.mp (by rw [q, e0]))
  omega
theorem c_re {X M : gS} {n v : Nat} (h : Rl X M n) (hv : v < 3) (hp : ¬ M 61 v 0 = 0) (hn : n < 2 ^ 30) (hwin : ∀ ra, X 23 v 0 = nI ra → M 69 v 0 = nI ra → ¬ X 22 v 0 = nI ra) : (xRe X v).1 = (mRe0 M v).1 ∧ Rl (xRe X v).2 (mRe0 M v).2 (n + 1) := by
  obtain ⟨f, b, rp, re, rh, po, ra, ta, c1, c2, c3, c4, c5, c6, c7, c8, c9, c10, c11, c12, c13, c14, c15, c16, c17, c18, c19, c20, c21, c22, c23, c24, c25, c26, c27, c28, c29, c30, g1⟩ := d_dev h hv hp
  have eF : mF M v = f := by unfold mF; rw [c20, nI_pred, tN_nI (by omega)]
  have eP : mRp M v = rp := by unfold mRp; rw [c22, tN_nI (by omega)]
  have eR : mRa M v = ra := by unfold mRa; rw [c28, tN_nI (by omega)]
  have hw3 : ra < po := by
    have := hwin ra c18 c28
    rw [c17] at this
    exact Classical.byContradiction fun q => this (by rw [show po = ra by omega])
  have hr : rem3 (X 23 v 0) = nI (ra % 3) := by rw [c18, rem3_nI (by omega)]
  have hr' : tN (rem3 (X 23 v 0)) = ra % 3 := by rw [hr, tN_nI (by omega)]
  obtain ⟨no1, no2⟩ := h.2.2.2.2.2.2.2.1 v hv (ra % 3) (by omega)
  have h1 : Rc (xRe1 X v) (mR1 M v) := Rc_k h.c (fun kd hk p q => gup_k (by omega)) (fun kd _ hk p q => gup_k (by omega))
  have h2 : Rc (xRe2 X v).2 (mR2 M v).2 := by
    unfold xRe2 mR2
    rw [hr', eF, eR, no2, c12]
    exact (c_end h1 _ _).2
  have hR : Rc (xRe X v).2 (mRe0 M v).2 := by
    unfold xRe mRe0
    dsimp only
    unfold xRe3 mR3
    rw [hr', eF, eR, no1, c12]
    exact (c_free h2 _ _).2
  have ea : (xRe X v).1 = (mRe0 M v).1 := by
    unfold xRe mRe0
    dsimp only
    have e5 : 5 + nI (ra % 3) = nI (5 + ra % 3) := nJ_add 5 _
    rw [hr', hr, e5, tN_nI (by omega), eF, eR, eP, no1, c12, c14, tN_nI (by omega), ← h.2.2.1 rp c4 (5 + ra % 3) (by omega), c_load h1, ← Nat.add_assoc]
  have fx : ∀ kd p q, kd = 0 ∨ 14 ≤ kd → (xRe X v).2 kd p q = xRe1 X v kd p q := fun kd p q hk => by
    unfold xRe
    dsimp only
    unfold xRe3
    rw [xFree_k (by omega)]
    unfold xRe2
    rw [xEnd_k (by omega) (by omega) (by omega)]
  have fm : ∀ kd p q, 61 ≤ kd → (mRe0 M v).2 kd p q = mR1 M v kd p q := fun kd p q hk => by
    unfold mRe0
    dsimp only
    unfold mR3
    rw [mFree_k (by omega)]
    unfold mR2
    rw [mEnd_k (by omega)]
  have hx : ∀ kd p q, kd = 0 ∨ 14 ≤ kd → ¬ (kd = 23 ∧ p = v) → (xRe X v).2 kd p q = X kd p q := fun kd p q k1 k2 => by
    rw [fx kd p q k1]
    unfold xRe1
    by_cases hk : kd = 23
    · subst hk
      exact gup_n (fun z => k2 ⟨rfl, z.1⟩)
    · exact gup_k hk
  have hm : ∀ kd p q, 61 ≤ kd → ¬ (kd = 69 ∧ p = v) → (mRe0 M v).2 kd p q = M kd p q := fun kd p q k1 k2 => by
    rw [fm kd p q k1]
    unfold mR1
    by_cases hk : kd = 69
    · subst hk
      exact gup_n (fun z => k2 ⟨rfl, z.1⟩)
    · exact gup_k hk
  refine ⟨ea, hR.1, hR.2.1, hR.2.2.1, hR.2.2.2.1, hR.2.2.2.2.1, hR.2.2.2.2.2.1, hR.2.2.2.2.2.2, fun v' hv' s' hs' => ?_, fun v' hv' => ?_⟩
  · rw [hx 25 _ _ (by omega) (by omega), hx 26 _ _ (by omega) (by omega), hm 71 _ _ (by omega) (by omega), hm 72 _ _ (by omega) (by omega)]
    exact h.2.2.2.2.2.2.2.1 v' hv' s' hs'
  · by_cases hvv : v' = v
    · subst hvv
      refine dRel_up (po' := po) (ra' := ra + 1) (ta' := ta) (by omega) (by omega) (by omega) (by omega) (fun f' _ q => ?_) (fun kd k1 k2 => hx kd _ _ (by omega) (by omega)) ?_ ?_ ?_ (fun kd k1 k2 => hm kd _ _ k1 (by omega)) ?_ ?_ ?_ (fun s' hs' => ?_) hp (h.2.2.2.2.2.2.2.2 v' hv')
      · rw [hx 0 _ _ (by omega) (by omega)]; exact q
      · rw [hx 22 _ _ (by omega) (by omega)]; exact c17
      · rw [fx 23 _ _ (by omega)]
        unfold xRe1
        rw [gup_s, c18, nI_add1]
      · rw [hx 24 _ _ (by omega) (by omega)]; exact c19
      · rw [hm 68 _ _ (by omega) (by omega)]; exact c27
      · rw [fm 69 _ _ (by omega)]
        unfold mR1
        rw [gup_s, eR]
      · rw [hm 70 _ _ (by omega) (by omega)]; exact c29
      · rw [hm 73 _ _ (by omega) (by omega), hx 27 _ _ (by omega) (by omega)]
        exact c30 s' hs'
    · refine dRel_k (fun f' _ _ q => ?_) (fun kd k1 k2 k3 k4 q => hx kd _ _ (by omega) (by omega)) (fun kd k1 k2 => hm kd _ _ k1 (by omega)) (fun s' hs' => hm 73 _ _ (by omega) (by omega)) (h.2.2.2.2.2.2.2.2 v' hv')
      rw [hx 0 _ _ (by omega) (by omega)]; exact q
theorem c_reap {X M : gS} {n : Nat} (h : Rl X M n) (hn : n < 2 ^ 30) (v : Int32) : (xReap X v).1 = (mReap M v).1 ∧ Rl (xReap X v).2 (mReap M v).2 (n + 1) := by
  unfold xReap mReap
  rw [d_dc h]
  rcases tr_is M v with ⟨t1, t2⟩ | t1
  · rw [if_neg t2, if_pos t1]
    exact ⟨rfl, Rl_next h⟩
  · have t2 : ¬ mTr M v < 0 := by rw [t1]; decide
    rw [if_pos t1, if_neg t2]
    obtain ⟨k, hk, rfl, hp⟩ := tr_nn t2
    rw [tN_nI (by omega)]
    obtain ⟨f, b, rp, re, rh, po, ra, ta, c1, c2, c3, c4, c5, c6, c7, c8, c9, c10, c11, c12, c13, c14, c15, c16, c17, c18, c19, c20, c21, c22, c23, c24, c25, c26, c27, c28, c29, c30, g1⟩ := d_dev h hk hp
    have eP : mRp M k = rp := by unfold mRp; rw [c22, tN_nI (by omega)]
    have eR : mRa M k = ra := by unfold mRa; rw [c28, tN_nI (by omega)]
    have er : xRn X k = mRn M k := by
      unfold xRn mRn
      rw [c14, c18, eP, eR, tN_nI (by omega), h.2.2.1 rp c4 1 (by decide)]
    have eu : xUw X k = M 68 k 0 - nI (mRa M k) := by
      unfold xUw
      rw [c17, c18, c27, eR]
    have ed : M 68 k 0 - nI (mRa M k) = nI (po - ra) := by rw [c27, eR, nJ_sub c7]
    rw [er, eu]
    by_cases h0 : mRn M k = 0
    · rw [if_pos h0, if_pos h0]
      exact ⟨rfl, Rl_next h⟩
    · rw [if_neg h0, if_neg h0]
      have hi := i64_01 h0
      by_cases hb : mRn M k < 0 ∨ (M 68 k 0 - nI (mRa M k)).toInt64 < mRn M k
      · rw [if_pos (hb.imp hi.mpr id), if_pos hb]
        exact ⟨rfl, Rl_next h⟩
      · have hb' : ¬ (mRn M k < 1 ∨ (M 68 k 0 - nI (mRa M k)).toInt64 < mRn M k) := fun q => hb (q.imp hi.mp id)
        rw [if_neg hb', if_neg hb]
        refine c_re h hk hp hn (fun ra' q1 q2 q3 => hb (Or.inr ?_))
        have e2 : nI po = nI ra := by rw [← c17, q3, ← q1, c18]
        have e3 := nI_inj (by omega) (by omega) e2
        rw [ed, show po - ra = 0 by omega]
        have z : (nI 0).toInt64 = 0 := by decide
        rw [z]
        have n0 : ¬ mRn M k < 0 := fun q => hb (Or.inl q)
        rw [Int64.lt_iff_toInt_lt] at n0 ⊢
        have e0 : (0 : Int64).toInt = 0 := by decide
        have hx : ¬ (mRn M k).toInt = 0 := fun q => h0 (Int64.toInt_inj.mp (by rw [q, e0]))
        omega
end
section
theorem map_ok {X M : gS} (h : Rc X M) {b f : Nat} {r : Int32} {w : Bool} (hb : b < 5) (hf : f < 5) (hs : ¬ (xMap X (nI b) (nI f) r w).1 < 0) : ∃ k e p, k < 5 ∧ e < 6 ∧ p < 20 ∧ r = nI e ∧ xMap X (nI b) (nI f) r w = (nI k, xMap1 (hSet X b k (nI f) (nI e) (bI w)) f e) ∧ xLive X (nI b) = true ∧ X 5 f e = nI p ∧ M 55 (6 * f + e) 0 = nI p := by
  unfold xMap at hs ⊢
  rw [tN_nI (by omega), tN_nI (by omega)] at *
  by_cases hl : xLive X (nI b) = true ∧ xLive X (nI f) = true
  · rw [if_pos hl] at hs ⊢
    rcases l_hasE h.2.2.2.1 hf r with ⟨e1, e, he, rfl, hfr, -⟩ | ⟨e1, -⟩
    · rw [if_pos e1, tN_nI (by omega)] at hs ⊢
      by_cases hbad : X 4 f e = 2 ∨ ¬ X 3 f e = nI b
      · rw [if_pos hbad] at hs
        exact absurd (show (-5 : Int32) < 0 by decide) hs
      · rw [if_neg hbad] at hs ⊢
        by_cases hro : w = true ∧ X 4 f e = 0
        · rw [if_pos hro] at hs
          exact absurd (show (-6 : Int32) < 0 by decide) hs
        · rw [if_neg hro] at hs ⊢
          rcases ffst_is (p := fun k => decide (X 7 b k = -1)) (n := 5) (by decide) with hk | ⟨k, hk, ek, hpk⟩
          · have hk' : xFh X b = -1 := hk
            rw [if_pos hk'] at hs
            exact absurd (show (-7 : Int32) < 0 by decide) hs
          · have ek' : xFh X b = nI k := ek
            rw [ek', if_neg (nI_nm1 (by omega)), tN_nI (by omega)]
            rcases h.2.2.2.1 f hf e he with ⟨g1, -⟩ | ⟨t, ht, g1, g2, g3, g4⟩
            · exact absurd g1 hfr
            · rcases g4 with ⟨g4, -⟩ | ⟨-, p, hp, g5, g6⟩
              · exact absurd (Or.inl g4) hbad
              · exact ⟨k, e, p, hk, he, hp, rfl, rfl, hl.1, g5, g6⟩
    · have ef : ¬ xHasE X f r = true := by rw [e1]; decide
      rw [if_neg ef] at hs
      exact absurd (show (-5 : Int32) < 0 by decide) hs
  · rw [if_neg hl] at hs
    exact absurd (show (-1 : Int32) < 0 by decide) hs
theorem map1_7 {X : gS} {b k f e : Nat} {u y z : Int32} : xMap1 (hSet X b k u y z) f e 7 b k = u := by
  unfold xMap1
  rw [gup_k (by decide), hSet_r7, if_pos ⟨rfl, rfl⟩]
theorem map1_8 {X : gS} {b k f e : Nat} {u y z : Int32} : xMap1 (hSet X b k u y z) f e 8 b k = y := by
  unfold xMap1
  rw [gup_k (by decide), hSet_r8, if_pos ⟨rfl, rfl⟩]
theorem map1_k {X : gS} {b k f e kd p q : Nat} {u y z : Int32} (h6 : ¬ kd = 6) (h7 : ¬ kd = 7) (h8 : ¬ kd = 8) (h9 : ¬ kd = 9) : xMap1 (hSet X b k u y z) f e kd p q = X kd p q := by
  unfold xMap1
  rw [gup_k h6, hSet_k h7 h8 h9]
theorem mMap_neg {M : gS} {x f r : Int32} {w : Bool} (h : (mMap M x f r w).1 < 0) : (mMap M x f r w).2 = M := by
  unfold mMap at h ⊢
  split at h
  · next h1 =>
    rw [if_pos h1]
    split at h
    · next h2 => rw [if_pos h2]
    · next h2 =>
      rw [if_neg h2]
      split at h
      · next h3 => rw [if_pos h3]
      · next h3 =>
        rw [if_neg h3]
        split at h
        · next h4 => rw [if_pos h4]
        · next h4 => exact absurd h h4
  · next h1 => rw [if_neg h1]
theorem xMap_neg {X M : gS} (hr : Rc X M) {x f r : Int32} {w : Bool} (h : (xMap X x f r w).1 < 0) : (xMap X x f r w).2 = X := by
  unfold xMap at h ⊢
  split at h
  · next h1 =>
    rw [if_pos h1]
    split at h
    · next h2 =>
      rw [if_pos h2]
      split at h
      · next h3 => rw [if_pos h3]
      · next h3 =>
        rw [if_neg h3]
        split at h
        · next h4 => rw [if_pos h4]
        · next h4 =>
          rw [if_neg h4]
          split at h
          · next h5 => rw [if_pos h5]
          · next h5 => exact absurd h (ir_fh h5).1
    · next h2 => rw [if_neg h2]
  · next h1 => rw [if_neg h1]
theorem co_all {X M : gS} {n v : Nat} (h : Rl X M n) (hv : v < 3) (hp : ¬ M 61 v 0 = 0) (q : Int32) (w : Bool) : ((xCo X v q w).1 = (mCo2 M (mCom M v q w) v q w).1 ∧ Rc (xCo X v q w).2 (mCo2 M (mCom M v q w) v q w).2) ∧ (¬ (xCom X v q w).1 < 0 → coF X (xCom X v q w) v q w) ∧ (¬ (mCom M v q w).1 < 0 → coMF M (mCom M v q w) v q w) ∧ (∀ f', X 0 f' 0 = 1 → (xCo X v q w).2 0 f' 0 = 1) ∧ (∀ s, s < 8 → (mCo2 M (mCom M v q w) v q w).2 73 (8 * v + s) 0 = (xCo X v q w).2 27 v s) ∧ (∀ v' s, ¬ v' = v → (xCo X v q w).2 27 v' s = X 27 v' s) ∧ (∀ i, ¬ (8 * v ≤ i ∧ i < 8 * v + 8) → (mCo2 M (mCom M v q w) v q w).2 73 i 0 = M 73 i 0) := by
  obtain ⟨f, b, rp, re, rh, po, ra, ta, c1, c2, c3, c4, c5, c6, c7, c8, c9, c10, c11, c12, c13, c14, c15, c16, c17, c18, c19, c20, c21, c22, c23, c24, c25, c26, c27, c28, c29, c30, g1⟩ := d_dev h hv hp
  have eF : mF M v = f := by unfold mF; rw [c20, nI_pred, tN_nI (by omega)]
  have eB : mB M v = b := by unfold mB; rw [c21, tN_nI (by omega)]
  have eX : xCom X v q w = xMap X (nI b) (nI f) (q >>> ((4 : Int32) &&& 31)) w := by unfold xCom; rw [c12, c13]
  have eM : mCom M v q w = mMap M (nI b) (nI f) (q >>> ((4 : Int32) &&& 31)) w := by unfold mCom; rw [eF, eB]
  obtain ⟨a1, b1⟩ := c_map h.c (nI b) (nI f) (q >>> ((4 : Int32) &&& 31)) w
  have hs8 := and7_ir q
  unfold xCo
  rw [eX, eM]
  by_cases hneg : (xMap X (nI b) (nI f) (q >>> ((4 : Int32) &&& 31)) w).1 < 0
  · have hneg' : (mMap M (nI b) (nI f) (q >>> ((4 : Int32) &&& 31)) w).1 < 0 := by rw [← a1]; exact hneg
    unfold xCo2 mCo2
    rw [if_pos hneg, if_pos hneg']
    refine ⟨⟨a1, b1⟩, fun z => absurd hneg z, fun z => absurd hneg' z, ?_⟩
    rw [xMap_neg h.c hneg, mMap_neg hneg']
    exact ⟨fun _ z => z, c30, fun _ _ _ => rfl, fun _ _ => rfl⟩
  · have hneg' : ¬ (mMap M (nI b) (nI f) (q >>> ((4 : Int32) &&& 31)) w).1 < 0 := by rw [← a1]; exact hneg
    obtain ⟨k, e, p, hk, he, hp20, er, em, hl, h5, h55⟩ := map_ok h.c c2 c1 hneg
    unfold xCo2 mCo2
    rw [if_neg hneg, if_neg hneg']
    have eA1 : (mMap M (nI b) (nI f) (q >>> ((4 : Int32) &&& 31)) w).1 = nI k := by rw [← a1, em]
    have fm : ∀ kd i j, ¬ kd = 56 → ¬ kd = 57 → (mMap M (nI b) (nI f) (q >>> ((4 : Int32) &&& 31)) w).2 kd i j = M kd i j := fun kd i j z1 z2 => mMap_k z1 z2
    have te : tN (q >>> ((4 : Int32) &&& 31)) = e := by rw [er, tN_nI (by omega)]
    have t0 : ¬ q >>> ((4 : Int32) &&& 31) < 0 := by rw [er]; exact nI_pos (by omega)
    have p7 : (xMap X (nI b) (nI f) (q >>> ((4 : Int32) &&& 31)) w).2 7 b k = nI f := by rw [em]; dsimp only; rw [map1_7]
    have p8 : (xMap X (nI b) (nI f) (q >>> ((4 : Int32) &&& 31)) w).2 8 b k = nI e := by rw [em]; dsimp only; rw [map1_8]
    have pk : ∀ kd i j, ¬ kd = 6 → ¬ kd = 7 → ¬ kd = 8 → ¬ kd = 9 → (xMap X (nI b) (nI f) (q >>> ((4 : Int32) &&& 31)) w).2 kd i j = X kd i j := fun kd i j z1 z2 z3 z4 => xMap_k z1 z2 z3 z4
    have pA : (xMap X (nI b) (nI f) (q >>> ((4 : Int32) &&& 31)) w).1 = nI k := by rw [em]
    clear em
    revert a1 b1 eA1 fm p7 p8 pk pA
    clear eX eM hneg hneg'
    generalize xMap X (nI b) (nI f) (q >>> ((4 : Int32) &&& 31)) w = A
    generalize mMap M (nI b) (nI f) (q >>> ((4 : Int32) &&& 31)) w = B
    intro a1 b1 eA1 fm p7 p8 pk pA
    have ep : xPgO A.2 b k = nI p := by
      unfold xPgO
      rw [p7, p8, tN_nI (by omega), tN_nI (by omega), pk 5 _ _ (by decide) (by decide) (by decide) (by decide)]
      exact h5
    have eY : xCo1 X A.2 v q (nI b) (nI k) w = if w = true then gup A.2 2 p 0 (X 27 v (tN (q &&& 7))) else gup A.2 27 v (tN (q &&& 7)) (X 2 p 0) := by
      unfold xCo1
      rw [tN_nI (by omega), tN_nI (by omega), ep, tN_nI (by omega)]
    have eN : mCo1 M B v q w = if w = true then gup B.2 52 (8 * p) 0 (X 27 v (tN (q &&& 7))) else gup B.2 73 (8 * v + tN (q &&& 7)) 0 (X 2 p 0) := by
      unfold mCo1
      rw [eF, te, h55, tN_nI (by omega), c30 _ hs8.2, ← h.2.2.1 p hp20 0 (by decide)]
      rfl
    have hYN : Rc (xCo1 X A.2 v q (nI b) (nI k) w) (mCo1 M B v q w) := by
      rw [eY, eN]
      cases w
      · exact Rc_k b1 (fun kd hk _ _ => gup_k (by omega)) (fun kd _ hk _ _ => gup_k (by omega))
      · exact c_wrd b1 hp20 (show 0 < 8 by decide)
    have y7 : xCo1 X A.2 v q (nI b) (nI k) w 7 b k = nI f := by rw [xCo1_k (by decide) (by decide)]; exact p7
    obtain ⟨t1, t2, t3⟩ := c_tk hYN c2 hk (by rw [y7]; exact nI_nm1 (by omega))
    have yl : xLive (xCo1 X A.2 v q (nI b) (nI k) w) (nI b) = true := by
      rw [xLive_k (fun i j => (xCo1_k (by decide) (by decide)).trans (pk 0 i j (by decide) (by decide) (by decide) (by decide)))]
      exact hl
    have yh : xHasH (xCo1 X A.2 v q (nI b) (nI k) w) b (nI k) = true := by
      unfold xHasH
      rw [tN_nI (by omega), y7]
      have z1 : (0 : Int32) ≤ nI k := i32_d (nI_pos (by omega))
      have z2 : nI k < 5 := nI_lt (a := k) (b := 5) (by omega) (by decide)
      have z3 : ¬ nI f = -1 := nI_nm1 (by omega)
      simp [z1, z2, z3]
    have eU : (xUnmap (xCo1 X A.2 v q (nI b) (nI k) w) (nI b) (nI k)).2 = xTk (xCo1 X A.2 v q (nI b) (nI k) w) b k := by
      unfold xUnmap
      rw [tN_nI (by omega), if_pos yl, if_pos yh, tN_nI (by omega)]
    rw [c13, pA, eA1, eB, tN_nI (by omega), eU]
    refine ⟨⟨rfl, t3⟩, fun _ => ?_, fun _ => ?_, ?_, ?_, ?_, ?_⟩
    · unfold coF
      rw [c13, pA, tN_nI (by omega), tN_nI (by omega), p7, p8, ep, tN_nI (by omega), tN_nI (by omega), tN_nI (by omega)]
      exact ⟨nI_pos (by omega), c2, hk, nI_pos (by omega), c1, nI_pos (by omega), he, nI_pos (by omega), hp20, fun _ _ => t1⟩
    · unfold coMF
      rw [eF, eB, eA1, te, h55, tN_nI (by omega), tN_nI (by omega)]
      exact ⟨t0, he, hk, nI_pos (by omega), hp20, t2⟩
    · intro f' z
      refine xTk_1 ?_
      rw [xCo1_k (by decide) (by decide), pk 0 _ _ (by decide) (by decide) (by decide) (by decide)]
      exact z
    · intro s hs
      dsimp only
      rw [mTk_k (by decide) (by decide) (by decide) (by decide), xTk_k (by decide) (by decide) (by decide) (by decide) (by decide) (by decide) (by decide) (by decide) (by decide), eY, eN]
      cases w
      · rw [if_neg (by decide), if_neg (by decide), gup_r, gup_r, fm 73 _ _ (by decide) (by decide), pk 27 _ _ (by decide) (by decide) (by decide) (by decide)]
        by_cases hc : s = tN (q &&& 7)
        · rw [if_pos ⟨by omega, rfl⟩, if_pos ⟨rfl, hc⟩]
        · have n1 : ¬ (8 * v + s = 8 * v + tN (q &&& 7) ∧ 0 = 0) := fun z => hc (by omega)
          have n2 : ¬ (v = v ∧ s = tN (q &&& 7)) := fun z => hc z.2
          rw [if_neg n1, if_neg n2]
          exact c30 s hs
      · rw [if_pos rfl, if_pos rfl, gup_k (by decide), gup_k (by decide), fm 73 _ _ (by decide) (by decide), pk 27 _ _ (by decide) (by decide) (by decide) (by decide)]
        exact c30 s hs
    · intro v' s hvv
      rw [xTk_k (by decide) (by decide) (by decide) (by decide) (by decide) (by decide) (by decide) (by decide) (by decide), eY]
      cases w
      · rw [if_neg (by decide), gup_n (fun z => hvv z.1), pk 27 _ _ (by decide) (by decide) (by decide) (by decide)]
      · rw [if_pos rfl, gup_k (by decide), pk 27 _ _ (by decide) (by decide) (by decide) (by decide)]
    · intro i hi
      dsimp only
      rw [mTk_k (by decide) (by decide) (by decide) (by decide), eN]
      cases w
      · rw [if_neg (by decide), gup_n (fun z => hi ⟨by omega, by omega⟩), fm 73 _ _ (by decide) (by decide)]
      · rw [if_pos rfl, gup_k (by decide), fm 73 _ _ (by decide) (by decide)]
end
