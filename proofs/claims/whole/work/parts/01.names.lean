-- ===== PART A: goes FIRST, ahead of the names: the tables' words, and 'selects' of the private methods out of them =====
/-- a private method of a class that the tables say can be made, by its rows of tables_1 -/
def lw_okq (q : MethodName × Nat) : Prop := (q.1.cls ≠ "java/lang/invoke/MethodHandle" ∧ q.1.cls ≠ "java/lang/invoke/VarHandle") ∧ Cond.instantiable q.1.cls q.2 ∈ tables_1 ∧ Cond.privateMethod q.1 ∈ tables_1 ∧ Cond.instanceMethod q.1 ∈ tables_1
theorem lw_p0 : lw_okq (⟨"AppendZones$History", "slotBehind", "()LAppendZones$State;"⟩, 3) := ⟨⟨by decide +kernel, by decide +kernel⟩, List.mem_of_getElem? (i := 158) (by decide +kernel), List.mem_of_getElem? (i := 217) (by decide +kernel), List.mem_of_getElem? (i := 218) (by decide +kernel)⟩
theorem lw_p1 : lw_okq (⟨"AppendZones$State", "changeOpenLimit", "(I)I"⟩, 8) := ⟨⟨by decide +kernel, by decide +kernel⟩, List.mem_of_getElem? (i := 18) (by decide +kernel), List.mem_of_getElem? (i := 245) (by decide +kernel), List.mem_of_getElem? (i := 246) (by decide +kernel)⟩
theorem lw_p2 : lw_okq (⟨"AppendZones$State", "changeUseLimit", "(I)I"⟩, 8) := ⟨⟨by decide +kernel, by decide +kernel⟩, List.mem_of_getElem? (i := 18) (by decide +kernel), List.mem_of_getElem? (i := 256) (by decide +kernel), List.mem_of_getElem? (i := 257) (by decide +kernel)⟩
theorem lw_p3 : lw_okq (⟨"AppendZones$State", "changeChannels", "(I)I"⟩, 8) := ⟨⟨by decide +kernel, by decide +kernel⟩, List.mem_of_getElem? (i := 18) (by decide +kernel), List.mem_of_getElem? (i := 264) (by decide +kernel), List.mem_of_getElem? (i := 265) (by decide +kernel)⟩
theorem lw_p4 : lw_okq (⟨"AppendZones$State", "changeManner", "(I)I"⟩, 8) := ⟨⟨by decide +kernel, by decide +kernel⟩, List.mem_of_getElem? (i := 18) (by decide +kernel), List.mem_of_getElem? (i := 268) (by decide +kernel), List.mem_of_getElem? (i := 269) (by decide +kernel)⟩
theorem lw_p5 : lw_okq (⟨"AppendZones$State", "letOnePass", "()V"⟩, 8) := ⟨⟨by decide +kernel, by decide +kernel⟩, List.mem_of_getElem? (i := 18) (by decide +kernel), List.mem_of_getElem? (i := 378) (by decide +kernel), List.mem_of_getElem? (i := 379) (by decide +kernel)⟩
theorem lw_p6 : lw_okq (⟨"AppendZones$State", "tellDue", "()V"⟩, 8) := ⟨⟨by decide +kernel, by decide +kernel⟩, List.mem_of_getElem? (i := 18) (by decide +kernel), List.mem_of_getElem? (i := 382) (by decide +kernel), List.mem_of_getElem? (i := 383) (by decide +kernel)⟩
theorem lw_p7 : lw_okq (⟨"AppendZones$State", "putInOrder", "()I"⟩, 8) := ⟨⟨by decide +kernel, by decide +kernel⟩, List.mem_of_getElem? (i := 18) (by decide +kernel), List.mem_of_getElem? (i := 394) (by decide +kernel), List.mem_of_getElem? (i := 395) (by decide +kernel)⟩
theorem lw_p8 : lw_okq (⟨"AppendZones$State", "hasBegun", "(I)Z"⟩, 8) := ⟨⟨by decide +kernel, by decide +kernel⟩, List.mem_of_getElem? (i := 18) (by decide +kernel), List.mem_of_getElem? (i := 398) (by decide +kernel), List.mem_of_getElem? (i := 399) (by decide +kernel)⟩
theorem lw_p9 : lw_okq (⟨"AppendZones$State", "couldOpen", "(I)Z"⟩, 8) := ⟨⟨by decide +kernel, by decide +kernel⟩, List.mem_of_getElem? (i := 18) (by decide +kernel), List.mem_of_getElem? (i := 407) (by decide +kernel), List.mem_of_getElem? (i := 408) (by decide +kernel)⟩
theorem lw_p10 : lw_okq (⟨"AppendZones$State", "longestIdle", "()I"⟩, 8) := ⟨⟨by decide +kernel, by decide +kernel⟩, List.mem_of_getElem? (i := 18) (by decide +kernel), List.mem_of_getElem? (i := 411) (by decide +kernel), List.mem_of_getElem? (i := 412) (by decide +kernel)⟩
theorem lw_p11 : lw_okq (⟨"AppendZones", "doOrder", "(I)I"⟩, 5) := ⟨⟨by decide +kernel, by decide +kernel⟩, List.mem_of_getElem? (i := 10) (by decide +kernel), List.mem_of_getElem? (i := 439) (by decide +kernel), List.mem_of_getElem? (i := 440) (by decide +kernel)⟩
theorem lw_p12 : lw_okq (⟨"AppendZones$State", "readableFromStart", "(I)I"⟩, 8) := ⟨⟨by decide +kernel, by decide +kernel⟩, List.mem_of_getElem? (i := 18) (by decide +kernel), List.mem_of_getElem? (i := 518) (by decide +kernel), List.mem_of_getElem? (i := 519) (by decide +kernel)⟩
theorem lw_p13 : lw_okq (⟨"AppendZonesModel", "sweep", "(I)V"⟩, 15) := ⟨⟨by decide +kernel, by decide +kernel⟩, List.mem_of_getElem? (i := 575) (by decide +kernel), List.mem_of_getElem? (i := 584) (by decide +kernel), List.mem_of_getElem? (i := 585) (by decide +kernel)⟩
theorem lw_p14 : lw_okq (⟨"AppendZonesModel", "zones", "(Z)I"⟩, 15) := ⟨⟨by decide +kernel, by decide +kernel⟩, List.mem_of_getElem? (i := 575) (by decide +kernel), List.mem_of_getElem? (i := 645) (by decide +kernel), List.mem_of_getElem? (i := 646) (by decide +kernel)⟩
theorem lw_p15 : lw_okq (⟨"AppendZonesModel", "change", "(II)I"⟩, 15) := ⟨⟨by decide +kernel, by decide +kernel⟩, List.mem_of_getElem? (i := 575) (by decide +kernel), List.mem_of_getElem? (i := 649) (by decide +kernel), List.mem_of_getElem? (i := 650) (by decide +kernel)⟩
def lw_privs_1 : List (MethodName × Nat) := [(⟨"AppendZones$History", "slotBehind", "()LAppendZones$State;"⟩, 3), (⟨"AppendZones$State", "changeOpenLimit", "(I)I"⟩, 8), (⟨"AppendZones$State", "changeUseLimit", "(I)I"⟩, 8), (⟨"AppendZones$State", "changeChannels", "(I)I"⟩, 8), (⟨"AppendZones$State", "changeManner", "(I)I"⟩, 8), (⟨"AppendZones$State", "letOnePass", "()V"⟩, 8), (⟨"AppendZones$State", "tellDue", "()V"⟩, 8), (⟨"AppendZones$State", "putInOrder", "()I"⟩, 8), (⟨"AppendZones$State", "hasBegun", "(I)Z"⟩, 8), (⟨"AppendZones$State", "couldOpen", "(I)Z"⟩, 8), (⟨"AppendZones$State", "longestIdle", "()I"⟩, 8), (⟨"AppendZones", "doOrder", "(I)I"⟩, 5), (⟨"AppendZones$State", "readableFromStart", "(I)I"⟩, 8), (⟨"AppendZonesModel", "sweep", "(I)V"⟩, 15), (⟨"AppendZonesModel", "zones", "(Z)I"⟩, 15), (⟨"AppendZonesModel", "change", "(II)I"⟩, 15)]
theorem lw_r1 : ∀ q ∈ lw_privs_1, lw_okq q := List.forall_mem_cons.mpr ⟨lw_p0, List.forall_mem_cons.mpr ⟨lw_p1, List.forall_mem_cons.mpr ⟨lw_p2, List.forall_mem_cons.mpr ⟨lw_p3, List.forall_mem_cons.mpr ⟨lw_p4, List.forall_mem_cons.mpr ⟨lw_p5, List.forall_mem_cons.mpr ⟨lw_p6, List.forall_mem_cons.mpr ⟨lw_p7, List.forall_mem_cons.mpr ⟨lw_p8, List.forall_mem_cons.mpr ⟨lw_p9, List.forall_mem_cons.mpr ⟨lw_p10, List.forall_mem_cons.mpr ⟨lw_p11, List.forall_mem_cons.mpr ⟨lw_p12, List.forall_mem_cons.mpr ⟨lw_p13, List.forall_mem_cons.mpr ⟨lw_p14, List.forall_mem_cons.mpr ⟨lw_p15, fun _ h => absurd h List.not_mem_nil⟩⟩⟩⟩⟩⟩⟩⟩⟩⟩⟩⟩⟩⟩⟩⟩
theorem lw_p16 : lw_okq (⟨"AppendZonesModel", "know", "()V"⟩, 15) := ⟨⟨by decide +kernel, by decide +kernel⟩, List.mem_of_getElem? (i := 575) (by decide +kernel), List.mem_of_getElem? (i := 653) (by decide +kernel), List.mem_of_getElem? (i := 654) (by decide +kernel)⟩
theorem lw_p17 : lw_okq (⟨"AppendZonesModel", "isRoom", "(I)Z"⟩, 15) := ⟨⟨by decide +kernel, by decide +kernel⟩, List.mem_of_getElem? (i := 575) (by decide +kernel), List.mem_of_getElem? (i := 675) (by decide +kernel), List.mem_of_getElem? (i := 676) (by decide +kernel)⟩
theorem lw_p18 : lw_okq (⟨"AppendZonesModel", "appendsOf", "(II)I"⟩, 15) := ⟨⟨by decide +kernel, by decide +kernel⟩, List.mem_of_getElem? (i := 575) (by decide +kernel), List.mem_of_getElem? (i := 679) (by decide +kernel), List.mem_of_getElem? (i := 680) (by decide +kernel)⟩
theorem lw_p19 : lw_okq (⟨"AppendZonesModel", "send", "(III)I"⟩, 15) := ⟨⟨by decide +kernel, by decide +kernel⟩, List.mem_of_getElem? (i := 575) (by decide +kernel), List.mem_of_getElem? (i := 686) (by decide +kernel), List.mem_of_getElem? (i := 687) (by decide +kernel)⟩
theorem lw_p20 : lw_okq (⟨"AppendZonesModel", "resets", "(I)I"⟩, 15) := ⟨⟨by decide +kernel, by decide +kernel⟩, List.mem_of_getElem? (i := 575) (by decide +kernel), List.mem_of_getElem? (i := 694) (by decide +kernel), List.mem_of_getElem? (i := 695) (by decide +kernel)⟩
theorem lw_p21 : lw_okq (⟨"AppendZonesModel", "readable", "(I)I"⟩, 15) := ⟨⟨by decide +kernel, by decide +kernel⟩, List.mem_of_getElem? (i := 575) (by decide +kernel), List.mem_of_getElem? (i := 698) (by decide +kernel), List.mem_of_getElem? (i := 699) (by decide +kernel)⟩
theorem lw_p22 : lw_okq (⟨"AppendZonesModel", "failAll", "(III)I"⟩, 15) := ⟨⟨by decide +kernel, by decide +kernel⟩, List.mem_of_getElem? (i := 575) (by decide +kernel), List.mem_of_getElem? (i := 702) (by decide +kernel), List.mem_of_getElem? (i := 703) (by decide +kernel)⟩
theorem lw_p23 : lw_okq (⟨"AppendZonesModel", "fail", "(II)V"⟩, 15) := ⟨⟨by decide +kernel, by decide +kernel⟩, List.mem_of_getElem? (i := 575) (by decide +kernel), List.mem_of_getElem? (i := 706) (by decide +kernel), List.mem_of_getElem? (i := 707) (by decide +kernel)⟩
theorem lw_p24 : lw_okq (⟨"AppendZonesModel", "finishFault", "(I)I"⟩, 15) := ⟨⟨by decide +kernel, by decide +kernel⟩, List.mem_of_getElem? (i := 575) (by decide +kernel), List.mem_of_getElem? (i := 714) (by decide +kernel), List.mem_of_getElem? (i := 715) (by decide +kernel)⟩
theorem lw_p25 : lw_okq (⟨"AppendZonesModel", "finishes", "(I)I"⟩, 15) := ⟨⟨by decide +kernel, by decide +kernel⟩, List.mem_of_getElem? (i := 575) (by decide +kernel), List.mem_of_getElem? (i := 718) (by decide +kernel), List.mem_of_getElem? (i := 719) (by decide +kernel)⟩
theorem lw_p26 : lw_okq (⟨"AppendZonesModel", "appends", "(II)I"⟩, 15) := ⟨⟨by decide +kernel, by decide +kernel⟩, List.mem_of_getElem? (i := 575) (by decide +kernel), List.mem_of_getElem? (i := 726) (by decide +kernel), List.mem_of_getElem? (i := 727) (by decide +kernel)⟩
theorem lw_p27 : lw_okq (⟨"AppendZonesModel", "goBy", "(I)I"⟩, 15) := ⟨⟨by decide +kernel, by decide +kernel⟩, List.mem_of_getElem? (i := 575) (by decide +kernel), List.mem_of_getElem? (i := 734) (by decide +kernel), List.mem_of_getElem? (i := 735) (by decide +kernel)⟩
theorem lw_p28 : lw_okq (⟨"AppendZonesModel", "tick", "()I"⟩, 15) := ⟨⟨by decide +kernel, by decide +kernel⟩, List.mem_of_getElem? (i := 575) (by decide +kernel), List.mem_of_getElem? (i := 738) (by decide +kernel), List.mem_of_getElem? (i := 739) (by decide +kernel)⟩
theorem lw_p29 : lw_okq (⟨"AppendZonesModel", "tell", "(I)V"⟩, 15) := ⟨⟨by decide +kernel, by decide +kernel⟩, List.mem_of_getElem? (i := 575) (by decide +kernel), List.mem_of_getElem? (i := 742) (by decide +kernel), List.mem_of_getElem? (i := 743) (by decide +kernel)⟩
theorem lw_p30 : lw_okq (⟨"AppendZonesModel", "lookAtAll", "(I)V"⟩, 15) := ⟨⟨by decide +kernel, by decide +kernel⟩, List.mem_of_getElem? (i := 575) (by decide +kernel), List.mem_of_getElem? (i := 746) (by decide +kernel), List.mem_of_getElem? (i := 747) (by decide +kernel)⟩
theorem lw_p31 : lw_okq (⟨"AppendZonesModel", "lookAt", "(I)I"⟩, 15) := ⟨⟨by decide +kernel, by decide +kernel⟩, List.mem_of_getElem? (i := 575) (by decide +kernel), List.mem_of_getElem? (i := 750) (by decide +kernel), List.mem_of_getElem? (i := 751) (by decide +kernel)⟩
def lw_privs_2 : List (MethodName × Nat) := [(⟨"AppendZonesModel", "know", "()V"⟩, 15), (⟨"AppendZonesModel", "isRoom", "(I)Z"⟩, 15), (⟨"AppendZonesModel", "appendsOf", "(II)I"⟩, 15), (⟨"AppendZonesModel", "send", "(III)I"⟩, 15), (⟨"AppendZonesModel", "resets", "(I)I"⟩, 15), (⟨"AppendZonesModel", "readable", "(I)I"⟩, 15), (⟨"AppendZonesModel", "failAll", "(III)I"⟩, 15), (⟨"AppendZonesModel", "fail", "(II)V"⟩, 15), (⟨"AppendZonesModel", "finishFault", "(I)I"⟩, 15), (⟨"AppendZonesModel", "finishes", "(I)I"⟩, 15), (⟨"AppendZonesModel", "appends", "(II)I"⟩, 15), (⟨"AppendZonesModel", "goBy", "(I)I"⟩, 15), (⟨"AppendZonesModel", "tick", "()I"⟩, 15), (⟨"AppendZonesModel", "tell", "(I)V"⟩, 15), (⟨"AppendZonesModel", "lookAtAll", "(I)V"⟩, 15), (⟨"AppendZonesModel", "lookAt", "(I)I"⟩, 15)]
theorem lw_r2 : ∀ q ∈ lw_privs_2, lw_okq q := List.forall_mem_cons.mpr ⟨lw_p16, List.forall_mem_cons.mpr ⟨lw_p17, List.forall_mem_cons.mpr ⟨lw_p18, List.forall_mem_cons.mpr ⟨lw_p19, List.forall_mem_cons.mpr ⟨lw_p20, List.forall_mem_cons.mpr ⟨lw_p21, List.forall_mem_cons.mpr ⟨lw_p22, List.forall_mem_cons.mpr ⟨lw_p23, List.forall_mem_cons.mpr ⟨lw_p24, List.forall_mem_cons.mpr ⟨lw_p25, List.forall_mem_cons.mpr ⟨lw_p26, List.forall_mem_cons.mpr ⟨lw_p27, List.forall_mem_cons.mpr ⟨lw_p28, List.forall_mem_cons.mpr ⟨lw_p29, List.forall_mem_cons.mpr ⟨lw_p30, List.forall_mem_cons.mpr ⟨lw_p31, fun _ h => absurd h List.not_mem_nil⟩⟩⟩⟩⟩⟩⟩⟩⟩⟩⟩⟩⟩⟩⟩⟩
theorem lw_p32 : lw_okq (⟨"AppendZonesModel", "opens", "(I)Z"⟩, 15) := ⟨⟨by decide +kernel, by decide +kernel⟩, List.mem_of_getElem? (i := 575) (by decide +kernel), List.mem_of_getElem? (i := 754) (by decide +kernel), List.mem_of_getElem? (i := 755) (by decide +kernel)⟩
theorem lw_p33 : lw_okq (⟨"AppendZonesModel", "idlest", "()I"⟩, 15) := ⟨⟨by decide +kernel, by decide +kernel⟩, List.mem_of_getElem? (i := 575) (by decide +kernel), List.mem_of_getElem? (i := 758) (by decide +kernel), List.mem_of_getElem? (i := 759) (by decide +kernel)⟩
theorem lw_p34 : lw_okq (⟨"AppendZonesModel", "go", "(Z)I"⟩, 15) := ⟨⟨by decide +kernel, by decide +kernel⟩, List.mem_of_getElem? (i := 575) (by decide +kernel), List.mem_of_getElem? (i := 766) (by decide +kernel), List.mem_of_getElem? (i := 767) (by decide +kernel)⟩
theorem lw_p35 : lw_okq (⟨"AppendZonesModel", "order", "()V"⟩, 15) := ⟨⟨by decide +kernel, by decide +kernel⟩, List.mem_of_getElem? (i := 575) (by decide +kernel), List.mem_of_getElem? (i := 770) (by decide +kernel), List.mem_of_getElem? (i := 771) (by decide +kernel)⟩
theorem lw_p36 : lw_okq (⟨"AppendZonesModel", "sign", "(II)I"⟩, 15) := ⟨⟨by decide +kernel, by decide +kernel⟩, List.mem_of_getElem? (i := 575) (by decide +kernel), List.mem_of_getElem? (i := 774) (by decide +kernel), List.mem_of_getElem? (i := 775) (by decide +kernel)⟩
theorem lw_p37 : lw_okq (⟨"AppendZonesModel", "does", "()I"⟩, 15) := ⟨⟨by decide +kernel, by decide +kernel⟩, List.mem_of_getElem? (i := 575) (by decide +kernel), List.mem_of_getElem? (i := 778) (by decide +kernel), List.mem_of_getElem? (i := 779) (by decide +kernel)⟩
theorem lw_p38 : lw_okq (⟨"AppendZonesModel", "putAside", "()V"⟩, 15) := ⟨⟨by decide +kernel, by decide +kernel⟩, List.mem_of_getElem? (i := 575) (by decide +kernel), List.mem_of_getElem? (i := 782) (by decide +kernel), List.mem_of_getElem? (i := 783) (by decide +kernel)⟩
theorem lw_p39 : lw_okq (⟨"AppendZonesModel", "putBack", "()V"⟩, 15) := ⟨⟨by decide +kernel, by decide +kernel⟩, List.mem_of_getElem? (i := 575) (by decide +kernel), List.mem_of_getElem? (i := 786) (by decide +kernel), List.mem_of_getElem? (i := 787) (by decide +kernel)⟩
theorem lw_p40 : lw_okq (⟨"AppendZonesModel", "isAppend", "(I)Z"⟩, 15) := ⟨⟨by decide +kernel, by decide +kernel⟩, List.mem_of_getElem? (i := 575) (by decide +kernel), List.mem_of_getElem? (i := 822) (by decide +kernel), List.mem_of_getElem? (i := 823) (by decide +kernel)⟩
theorem lw_p41 : lw_okq (⟨"AppendZonesModel", "ticksOf", "(I)I"⟩, 15) := ⟨⟨by decide +kernel, by decide +kernel⟩, List.mem_of_getElem? (i := 575) (by decide +kernel), List.mem_of_getElem? (i := 838) (by decide +kernel), List.mem_of_getElem? (i := 839) (by decide +kernel)⟩
def lw_privs_3 : List (MethodName × Nat) := [(⟨"AppendZonesModel", "opens", "(I)Z"⟩, 15), (⟨"AppendZonesModel", "idlest", "()I"⟩, 15), (⟨"AppendZonesModel", "go", "(Z)I"⟩, 15), (⟨"AppendZonesModel", "order", "()V"⟩, 15), (⟨"AppendZonesModel", "sign", "(II)I"⟩, 15), (⟨"AppendZonesModel", "does", "()I"⟩, 15), (⟨"AppendZonesModel", "putAside", "()V"⟩, 15), (⟨"AppendZonesModel", "putBack", "()V"⟩, 15), (⟨"AppendZonesModel", "isAppend", "(I)Z"⟩, 15), (⟨"AppendZonesModel", "ticksOf", "(I)I"⟩, 15)]
theorem lw_r3 : ∀ q ∈ lw_privs_3, lw_okq q := List.forall_mem_cons.mpr ⟨lw_p32, List.forall_mem_cons.mpr ⟨lw_p33, List.forall_mem_cons.mpr ⟨lw_p34, List.forall_mem_cons.mpr ⟨lw_p35, List.forall_mem_cons.mpr ⟨lw_p36, List.forall_mem_cons.mpr ⟨lw_p37, List.forall_mem_cons.mpr ⟨lw_p38, List.forall_mem_cons.mpr ⟨lw_p39, List.forall_mem_cons.mpr ⟨lw_p40, List.forall_mem_cons.mpr ⟨lw_p41, fun _ h => absurd h List.not_mem_nil⟩⟩⟩⟩⟩⟩⟩⟩⟩⟩
def lw_privs : List (MethodName × Nat) := lw_privs_1 ++ (lw_privs_2 ++ (lw_privs_3))
def lw_tbl : List Cond := k2_sels lw_privs ++ tables_1
theorem lw_privs_ok : ∀ q ∈ lw_privs, lw_okq q := by
  show ∀ q ∈ lw_privs_1 ++ (lw_privs_2 ++ (lw_privs_3)), lw_okq q
  exact List.forall_mem_append.mpr ⟨lw_r1, List.forall_mem_append.mpr ⟨lw_r2, lw_r3⟩⟩

def RX0 : String := "AppendZones$Appends"
def TX0 : u_T := fun k => match k with
  | 0 => ("AppendZones$Appends", "writerOf", "[I", true)
  | 1 => ("AppendZones$Appends", "zoneOf", "[I", true)
  | 2 => ("AppendZones$Appends", "valueOf", "[I", true)
  | 3 => ("AppendZones$Appends", "phaseOf", "[I", true)
  | 4 => ("AppendZones$Appends", "placeOf", "[I", true)
  | 5 => ("AppendZones$Appends", "tickOf", "[I", true)
  | 6 => ("AppendZones$Appends", "reasonOf", "[I", true)
  | 7 => ("AppendZones$Appends", "generationOf", "[I", true)
  | 8 => ("AppendZones$Appends", "sent", "I", false)
  | 9 => ("AppendZones$Appends", "toldOrder", "[I", true)
  | 10 => ("AppendZones$Appends", "toldSoFar", "I", false)
  | 11 => ("AppendZones$Appends", "live", "[I", true)
  | _ => ("AppendZones$Appends", "liveCount", "I", false)
def tyX0 : Nat → FieldType := fun k => match k with
  | 0 => .array .int
  | 1 => .array .int
  | 2 => .array .int
  | 3 => .array .int
  | 4 => .array .int
  | 5 => .array .int
  | 6 => .array .int
  | 7 => .array .int
  | 8 => .int
  | 9 => .array .int
  | 10 => .int
  | 11 => .array .int
  | _ => .int
abbrev wsX00 : List Cond := u_ws RX0 TX0 13
theorem nmX0 : ∀ a, a < 13 → ∀ b, b < 13 → a ≠ b → (TX0 a).2.1 ≠ (TX0 b).2.1 := by decide +kernel
theorem tyX0_ok : ∀ k, k < 13 → parseFieldDescriptor (TX0 k).2.2.1 = some (tyX0 k) := by decide +kernel
abbrev cX0_init : ByteArray := prog_2_method_1_code
def yX0_init : MethodName := ⟨RX0, "<init>", "()V"⟩
abbrev cX0_copyFrom : ByteArray := prog_2_method_2_code
def yX0_copyFrom : MethodName := ⟨RX0, "copyFrom", "(LAppendZones$Appends;)V"⟩
abbrev cX0_isNumber : ByteArray := prog_2_method_3_code
def yX0_isNumber : MethodName := ⟨RX0, "isNumber", "(I)Z"⟩
abbrev cX0_isLive : ByteArray := prog_2_method_4_code
def yX0_isLive : MethodName := ⟨RX0, "isLive", "(I)Z"⟩
abbrev cX0_add : ByteArray := prog_2_method_5_code
def yX0_add : MethodName := ⟨RX0, "add", "(III)I"⟩
abbrev cX0_begin : ByteArray := prog_2_method_6_code
def yX0_begin : MethodName := ⟨RX0, "begin", "(IIII)V"⟩
abbrev cX0_markTold : ByteArray := prog_2_method_7_code
def yX0_markTold : MethodName := ⟨RX0, "markTold", "(I)V"⟩
abbrev cX0_markFailed : ByteArray := prog_2_method_8_code
def yX0_markFailed : MethodName := ⟨RX0, "markFailed", "(II)V"⟩
abbrev cX0_failInZone : ByteArray := prog_2_method_9_code
def yX0_failInZone : MethodName := ⟨RX0, "failInZone", "(III)I"⟩
abbrev cX0_dropEnded : ByteArray := prog_2_method_10_code
def yX0_dropEnded : MethodName := ⟨RX0, "dropEnded", "()V"⟩
abbrev cX0_liveIn : ByteArray := prog_2_method_11_code
def yX0_liveIn : MethodName := ⟨RX0, "liveIn", "(I)I"⟩
abbrev cX0_liveInZone : ByteArray := prog_2_method_12_code
def yX0_liveInZone : MethodName := ⟨RX0, "liveInZone", "(II)I"⟩
abbrev cX0_ofWriter : ByteArray := prog_2_method_13_code
def yX0_ofWriter : MethodName := ⟨RX0, "ofWriter", "(II)I"⟩
abbrev cX0_isAhead : ByteArray := prog_2_method_14_code
def yX0_isAhead : MethodName := ⟨RX0, "isAhead", "(I)Z"⟩
abbrev cX0_toldInGeneration : ByteArray := prog_2_method_15_code
def yX0_toldInGeneration : MethodName := ⟨RX0, "toldInGeneration", "(II)I"⟩
abbrev cX0_holderOf : ByteArray := prog_2_method_16_code
def yX0_holderOf : MethodName := ⟨RX0, "holderOf", "(III)I"⟩
abbrev cX0_toldAt : ByteArray := prog_2_method_17_code
def yX0_toldAt : MethodName := ⟨RX0, "toldAt", "(I)I"⟩
abbrev cX0_tellAppend : ByteArray := prog_2_method_18_code
def yX0_tellAppend : MethodName := ⟨RX0, "tellAppend", "(II)I"⟩
def RX1 : String := "AppendZones$History"
def TX1 : u_T := fun k => match k with
  | 0 => ("AppendZones$History", "slots", "[LAppendZones$State;", true)
  | 1 => ("AppendZones$History", "oldest", "I", false)
  | _ => ("AppendZones$History", "kept", "I", false)
def tyX1 : Nat → FieldType := fun k => match k with
  | 0 => .array (.object "AppendZones$State")
  | 1 => .int
  | _ => .int
abbrev wsX10 : List Cond := u_ws RX1 TX1 3
theorem nmX1 : ∀ a, a < 3 → ∀ b, b < 3 → a ≠ b → (TX1 a).2.1 ≠ (TX1 b).2.1 := by decide +kernel
theorem tyX1_ok : ∀ k, k < 3 → parseFieldDescriptor (TX1 k).2.2.1 = some (tyX1 k) := by decide +kernel
abbrev cX1_init : ByteArray := prog_3_method_1_code
def yX1_init : MethodName := ⟨RX1, "<init>", "()V"⟩
abbrev cX1_slotBehind : ByteArray := prog_3_method_2_code
def yX1_slotBehind : MethodName := ⟨RX1, "slotBehind", "()LAppendZones$State;"⟩
abbrev cX1_draft : ByteArray := prog_3_method_3_code
def yX1_draft : MethodName := ⟨RX1, "draft", "(LAppendZones$State;)LAppendZones$State;"⟩
abbrev cX1_takeDraftBack : ByteArray := prog_3_method_4_code
def yX1_takeDraftBack : MethodName := ⟨RX1, "takeDraftBack", "(LAppendZones$State;)V"⟩
abbrev cX1_settle : ByteArray := prog_3_method_5_code
def yX1_settle : MethodName := ⟨RX1, "settle", "(I)I"⟩
abbrev cX1_stepBack : ByteArray := prog_3_method_6_code
def yX1_stepBack : MethodName := ⟨RX1, "stepBack", "(LAppendZones$State;)I"⟩
def RX2 : String := "AppendZones$OrderText"
def TX2 : u_T := fun k => match k with
  | 0 => ("AppendZones$OrderText", "signs", "[C", true)
  | _ => ("AppendZones$OrderText", "length", "I", false)
def tyX2 : Nat → FieldType := fun k => match k with
  | 0 => .array .char
  | _ => .int
abbrev wsX20 : List Cond := u_ws RX2 TX2 2
theorem nmX2 : ∀ a, a < 2 → ∀ b, b < 2 → a ≠ b → (TX2 a).2.1 ≠ (TX2 b).2.1 := by decide +kernel
theorem tyX2_ok : ∀ k, k < 2 → parseFieldDescriptor (TX2 k).2.2.1 = some (tyX2 k) := by decide +kernel
abbrev cX2_init : ByteArray := prog_4_method_1_code
def yX2_init : MethodName := ⟨RX2, "<init>", "()V"⟩
abbrev cX2_add : ByteArray := prog_4_method_2_code
def yX2_add : MethodName := ⟨RX2, "add", "(C)I"⟩
abbrev cX2_empty : ByteArray := prog_4_method_3_code
def yX2_empty : MethodName := ⟨RX2, "empty", "()I"⟩
abbrev cX2_fault : ByteArray := prog_4_method_4_code
def yX2_fault : MethodName := ⟨RX2, "fault", "()I"⟩
abbrev cX2_placeBehind : ByteArray := prog_4_method_5_code
def yX2_placeBehind : MethodName := ⟨RX2, "placeBehind", "(IC)I"⟩
abbrev cX2_placeBehindFirst : ByteArray := prog_4_method_6_code
def yX2_placeBehindFirst : MethodName := ⟨RX2, "placeBehindFirst", "(C)I"⟩
abbrev cX2_sign : ByteArray := prog_4_method_7_code
def yX2_sign : MethodName := ⟨RX2, "sign", "(I)C"⟩
abbrev cX2_digit : ByteArray := prog_4_method_8_code
def yX2_digit : MethodName := ⟨RX2, "digit", "(I)I"⟩
abbrev cX2_valueFrom : ByteArray := prog_4_method_9_code
def yX2_valueFrom : MethodName := ⟨RX2, "valueFrom", "(I)I"⟩
abbrev cX2_behindOrder : ByteArray := prog_4_method_10_code
def yX2_behindOrder : MethodName := ⟨RX2, "behindOrder", "(I)I"⟩
def RX3 : String := "AppendZones$State"
def TX3 : u_T := fun k => match k with
  | 0 => ("AppendZones$State", "appends", "LAppendZones$Appends;", true)
  | 1 => ("AppendZones$State", "zones", "LAppendZones$Zones;", true)
  | 2 => ("AppendZones$State", "windowOf", "[I", true)
  | 3 => ("AppendZones$State", "aheadOf", "[I", true)
  | 4 => ("AppendZones$State", "order", "[I", true)
  | 5 => ("AppendZones$State", "channels", "I", false)
  | 6 => ("AppendZones$State", "manner", "I", false)
  | _ => ("AppendZones$State", "tick", "I", false)
def tyX3 : Nat → FieldType := fun k => match k with
  | 0 => .object "AppendZones$Appends"
  | 1 => .object "AppendZones$Zones"
  | 2 => .array .int
  | 3 => .array .int
  | 4 => .array .int
  | 5 => .int
  | 6 => .int
  | _ => .int
abbrev wsX30 : List Cond := u_ws RX3 TX3 8
theorem nmX3 : ∀ a, a < 8 → ∀ b, b < 8 → a ≠ b → (TX3 a).2.1 ≠ (TX3 b).2.1 := by decide +kernel
theorem tyX3_ok : ∀ k, k < 8 → parseFieldDescriptor (TX3 k).2.2.1 = some (tyX3 k) := by decide +kernel
abbrev cX3_init : ByteArray := prog_5_method_1_code
def yX3_init : MethodName := ⟨RX3, "<init>", "()V"⟩
abbrev cX3_copyFrom : ByteArray := prog_5_method_2_code
def yX3_copyFrom : MethodName := ⟨RX3, "copyFrom", "(LAppendZones$State;)V"⟩
abbrev cX3_changeNumber : ByteArray := prog_5_method_3_code
def yX3_changeNumber : MethodName := ⟨RX3, "changeNumber", "(II)I"⟩
abbrev cX3_changeOpenLimit : ByteArray := prog_5_method_4_code
def yX3_changeOpenLimit : MethodName := ⟨RX3, "changeOpenLimit", "(I)I"⟩
abbrev cX3_changeUseLimit : ByteArray := prog_5_method_5_code
def yX3_changeUseLimit : MethodName := ⟨RX3, "changeUseLimit", "(I)I"⟩
abbrev cX3_changeChannels : ByteArray := prog_5_method_6_code
def yX3_changeChannels : MethodName := ⟨RX3, "changeChannels", "(I)I"⟩
abbrev cX3_changeManner : ByteArray := prog_5_method_7_code
def yX3_changeManner : MethodName := ⟨RX3, "changeManner", "(I)I"⟩
abbrev cX3_changeDelay : ByteArray := prog_5_method_8_code
def yX3_changeDelay : MethodName := ⟨RX3, "changeDelay", "(II)I"⟩
abbrev cX3_changeCapacity : ByteArray := prog_5_method_9_code
def yX3_changeCapacity : MethodName := ⟨RX3, "changeCapacity", "(II)I"⟩
abbrev cX3_changeWindow : ByteArray := prog_5_method_10_code
def yX3_changeWindow : MethodName := ⟨RX3, "changeWindow", "(II)I"⟩
abbrev cX3_send : ByteArray := prog_5_method_11_code
def yX3_send : MethodName := ⟨RX3, "send", "(III)I"⟩
abbrev cX3_wipe : ByteArray := prog_5_method_12_code
def yX3_wipe : MethodName := ⟨RX3, "wipe", "(I)I"⟩
abbrev cX3_fill : ByteArray := prog_5_method_13_code
def yX3_fill : MethodName := ⟨RX3, "fill", "(I)I"⟩
abbrev cX3_shut : ByteArray := prog_5_method_14_code
def yX3_shut : MethodName := ⟨RX3, "shut", "(I)I"⟩
abbrev cX3_letPass : ByteArray := prog_5_method_15_code
def yX3_letPass : MethodName := ⟨RX3, "letPass", "(I)I"⟩
abbrev cX3_letOnePass : ByteArray := prog_5_method_16_code
def yX3_letOnePass : MethodName := ⟨RX3, "letOnePass", "()V"⟩
abbrev cX3_tellDue : ByteArray := prog_5_method_17_code
def yX3_tellDue : MethodName := ⟨RX3, "tellDue", "()V"⟩
abbrev cX3_putInOrder : ByteArray := prog_5_method_18_code
def yX3_putInOrder : MethodName := ⟨RX3, "putInOrder", "()I"⟩
abbrev cX3_hasBegun : ByteArray := prog_5_method_19_code
def yX3_hasBegun : MethodName := ⟨RX3, "hasBegun", "(I)Z"⟩
abbrev cX3_couldOpen : ByteArray := prog_5_method_20_code
def yX3_couldOpen : MethodName := ⟨RX3, "couldOpen", "(I)Z"⟩
abbrev cX3_longestIdle : ByteArray := prog_5_method_21_code
def yX3_longestIdle : MethodName := ⟨RX3, "longestIdle", "()I"⟩
abbrev cX3_ticksUntilTold : ByteArray := prog_5_method_22_code
def yX3_ticksUntilTold : MethodName := ⟨RX3, "ticksUntilTold", "(I)I"⟩
abbrev cX3_blockAt : ByteArray := prog_5_method_23_code
def yX3_blockAt : MethodName := ⟨RX3, "blockAt", "(II)I"⟩
abbrev cX3_tellZone : ByteArray := prog_5_method_24_code
def yX3_tellZone : MethodName := ⟨RX3, "tellZone", "(II)I"⟩
abbrev cX3_readableFromStart : ByteArray := prog_5_method_25_code
def yX3_readableFromStart : MethodName := ⟨RX3, "readableFromStart", "(I)I"⟩
abbrev cX3_tellWriter : ByteArray := prog_5_method_26_code
def yX3_tellWriter : MethodName := ⟨RX3, "tellWriter", "(II)I"⟩
abbrev cX3_tellNumber : ByteArray := prog_5_method_27_code
def yX3_tellNumber : MethodName := ⟨RX3, "tellNumber", "(I)I"⟩
def RX4 : String := "AppendZones$Zones"
def TX4 : u_T := fun k => match k with
  | 0 => ("AppendZones$Zones", "phaseOf", "[I", true)
  | 1 => ("AppendZones$Zones", "capacityOf", "[I", true)
  | 2 => ("AppendZones$Zones", "delayOf", "[I", true)
  | 3 => ("AppendZones$Zones", "pointerOf", "[I", true)
  | 4 => ("AppendZones$Zones", "generationOf", "[I", true)
  | 5 => ("AppendZones$Zones", "latestEventOf", "[I", true)
  | 6 => ("AppendZones$Zones", "events", "I", false)
  | 7 => ("AppendZones$Zones", "openLimit", "I", false)
  | 8 => ("AppendZones$Zones", "useLimit", "I", false)
  | 9 => ("AppendZones$Zones", "turn", "I", false)
  | _ => ("AppendZones$Zones", "madeWay", "I", false)
def tyX4 : Nat → FieldType := fun k => match k with
  | 0 => .array .int
  | 1 => .array .int
  | 2 => .array .int
  | 3 => .array .int
  | 4 => .array .int
  | 5 => .array .int
  | 6 => .int
  | 7 => .int
  | 8 => .int
  | 9 => .int
  | _ => .int
abbrev wsX40 : List Cond := u_ws RX4 TX4 11
theorem nmX4 : ∀ a, a < 11 → ∀ b, b < 11 → a ≠ b → (TX4 a).2.1 ≠ (TX4 b).2.1 := by decide +kernel
theorem tyX4_ok : ∀ k, k < 11 → parseFieldDescriptor (TX4 k).2.2.1 = some (tyX4 k) := by decide +kernel
abbrev cX4_init : ByteArray := prog_6_method_1_code
def yX4_init : MethodName := ⟨RX4, "<init>", "()V"⟩
abbrev cX4_copyFrom : ByteArray := prog_6_method_2_code
def yX4_copyFrom : MethodName := ⟨RX4, "copyFrom", "(LAppendZones$Zones;)V"⟩
abbrev cX4_inPhase : ByteArray := prog_6_method_3_code
def yX4_inPhase : MethodName := ⟨RX4, "inPhase", "(I)I"⟩
abbrev cX4_inUse : ByteArray := prog_6_method_4_code
def yX4_inUse : MethodName := ⟨RX4, "inUse", "()I"⟩
abbrev cX4_takePlace : ByteArray := prog_6_method_5_code
def yX4_takePlace : MethodName := ⟨RX4, "takePlace", "(I)I"⟩
abbrev cX4_clear : ByteArray := prog_6_method_6_code
def yX4_clear : MethodName := ⟨RX4, "clear", "(I)V"⟩
def RX5 : String := "AppendZones"
def TX5 : u_T := fun k => match k with
  | 0 => ("AppendZones", "now", "LAppendZones$State;", true)
  | 1 => ("AppendZones", "snapshot", "LAppendZones$State;", true)
  | 2 => ("AppendZones", "hasSnapshot", "Z", false)
  | 3 => ("AppendZones", "history", "LAppendZones$History;", true)
  | _ => ("AppendZones", "text", "LAppendZones$OrderText;", true)
def tyX5 : Nat → FieldType := fun k => match k with
  | 0 => .object "AppendZones$State"
  | 1 => .object "AppendZones$State"
  | 2 => .boolean
  | 3 => .object "AppendZones$History"
  | _ => .object "AppendZones$OrderText"
abbrev wsX50 : List Cond := u_ws RX5 TX5 5
theorem nmX5 : ∀ a, a < 5 → ∀ b, b < 5 → a ≠ b → (TX5 a).2.1 ≠ (TX5 b).2.1 := by decide +kernel
theorem tyX5_ok : ∀ k, k < 5 → parseFieldDescriptor (TX5 k).2.2.1 = some (tyX5 k) := by decide +kernel
abbrev cX5_init : ByteArray := prog_1_method_1_code
def yX5_init : MethodName := ⟨RX5, "<init>", "()V"⟩
abbrev cX5_set : ByteArray := prog_1_method_2_code
def yX5_set : MethodName := ⟨RX5, "set", "(II)I"⟩
abbrev cX5_setZone : ByteArray := prog_1_method_3_code
def yX5_setZone : MethodName := ⟨RX5, "setZone", "(IZI)I"⟩
abbrev cX5_setWindow : ByteArray := prog_1_method_4_code
def yX5_setWindow : MethodName := ⟨RX5, "setWindow", "(II)I"⟩
abbrev cX5_append : ByteArray := prog_1_method_5_code
def yX5_append : MethodName := ⟨RX5, "append", "(III)I"⟩
abbrev cX5_reset : ByteArray := prog_1_method_6_code
def yX5_reset : MethodName := ⟨RX5, "reset", "(I)I"⟩
abbrev cX5_finish : ByteArray := prog_1_method_7_code
def yX5_finish : MethodName := ⟨RX5, "finish", "(I)I"⟩
abbrev cX5_close : ByteArray := prog_1_method_8_code
def yX5_close : MethodName := ⟨RX5, "close", "(I)I"⟩
abbrev cX5_pass : ByteArray := prog_1_method_9_code
def yX5_pass : MethodName := ⟨RX5, "pass", "(I)I"⟩
abbrev cX5_follow : ByteArray := prog_1_method_10_code
def yX5_follow : MethodName := ⟨RX5, "follow", "()I"⟩
abbrev cX5_type : ByteArray := prog_1_method_11_code
def yX5_type : MethodName := ⟨RX5, "type", "(C)I"⟩
abbrev cX5_clearText : ByteArray := prog_1_method_12_code
def yX5_clearText : MethodName := ⟨RX5, "clearText", "()I"⟩
abbrev cX5_undo : ByteArray := prog_1_method_13_code
def yX5_undo : MethodName := ⟨RX5, "undo", "()I"⟩
abbrev cX5_keep : ByteArray := prog_1_method_14_code
def yX5_keep : MethodName := ⟨RX5, "keep", "()I"⟩
abbrev cX5_restore : ByteArray := prog_1_method_15_code
def yX5_restore : MethodName := ⟨RX5, "restore", "()I"⟩
abbrev cX5_read : ByteArray := prog_1_method_16_code
def yX5_read : MethodName := ⟨RX5, "read", "(II)I"⟩
abbrev cX5_zone : ByteArray := prog_1_method_17_code
def yX5_zone : MethodName := ⟨RX5, "zone", "(II)I"⟩
abbrev cX5_appended : ByteArray := prog_1_method_18_code
def yX5_appended : MethodName := ⟨RX5, "appended", "(II)I"⟩
abbrev cX5_writer : ByteArray := prog_1_method_19_code
def yX5_writer : MethodName := ⟨RX5, "writer", "(II)I"⟩
abbrev cX5_told : ByteArray := prog_1_method_20_code
def yX5_told : MethodName := ⟨RX5, "told", "(I)I"⟩
abbrev cX5_toldIn : ByteArray := prog_1_method_21_code
def yX5_toldIn : MethodName := ⟨RX5, "toldIn", "(I)I"⟩
abbrev cX5_would : ByteArray := prog_1_method_22_code
def yX5_would : MethodName := ⟨RX5, "would", "(II)I"⟩
abbrev cX5_count : ByteArray := prog_1_method_23_code
def yX5_count : MethodName := ⟨RX5, "count", "(I)I"⟩
abbrev cX5_doOrder : ByteArray := prog_1_method_24_code
def yX5_doOrder : MethodName := ⟨RX5, "doOrder", "(I)I"⟩
abbrev cX5_isZone : ByteArray := prog_1_method_25_code
def yX5_isZone : MethodName := ⟨RX5, "isZone", "(I)Z"⟩
abbrev cX5_isWriter : ByteArray := prog_1_method_26_code
def yX5_isWriter : MethodName := ⟨RX5, "isWriter", "(I)Z"⟩
abbrev cX5_isFrom : ByteArray := prog_1_method_27_code
def yX5_isFrom : MethodName := ⟨RX5, "isFrom", "(III)Z"⟩
abbrev cX5_copy : ByteArray := prog_1_method_28_code
def yX5_copy : MethodName := ⟨RX5, "copy", "([I[II)V"⟩
def RX6 : String := "AppendZonesModel"
def TX6 : u_T := fun k => match k with
  | 0 => ("AppendZonesModel", "s", "[I", true)
  | 1 => ("AppendZonesModel", "aside", "[I", true)
  | 2 => ("AppendZonesModel", "before", "[I", true)
  | 3 => ("AppendZonesModel", "known", "I", false)
  | 4 => ("AppendZonesModel", "kept", "[I", true)
  | 5 => ("AppendZonesModel", "isKept", "Z", false)
  | 6 => ("AppendZonesModel", "text", "[I", true)
  | 7 => ("AppendZonesModel", "typed", "I", false)
  | 8 => ("AppendZonesModel", "isLooked", "[Z", true)
  | 9 => ("AppendZonesModel", "isMoved", "Z", false)
  | 10 => ("AppendZonesModel", "first", "I", false)
  | 11 => ("AppendZonesModel", "at", "I", false)
  | 12 => ("AppendZonesModel", "isWrong", "Z", false)
  | 13 => ("AppendZonesModel", "told", "[I", true)
  | _ => ("AppendZonesModel", "fault", "I", false)
def tyX6 : Nat → FieldType := fun k => match k with
  | 0 => .array .int
  | 1 => .array .int
  | 2 => .array .int
  | 3 => .int
  | 4 => .array .int
  | 5 => .boolean
  | 6 => .array .int
  | 7 => .int
  | 8 => .array .boolean
  | 9 => .boolean
  | 10 => .int
  | 11 => .int
  | 12 => .boolean
  | 13 => .array .int
  | _ => .int
abbrev wsX60 : List Cond := u_ws RX6 TX6 15
theorem nmX6 : ∀ a, a < 15 → ∀ b, b < 15 → a ≠ b → (TX6 a).2.1 ≠ (TX6 b).2.1 := by decide +kernel
theorem tyX6_ok : ∀ k, k < 15 → parseFieldDescriptor (TX6 k).2.2.1 = some (tyX6 k) := by decide +kernel
abbrev cX6_init : ByteArray := prog_8_method_1_code
def yX6_init : MethodName := ⟨RX6, "<init>", "()V"⟩
abbrev cX6_in : ByteArray := prog_8_method_3_code
def yX6_in : MethodName := ⟨RX6, "in", "(III)Z"⟩
abbrev cX6_isZone : ByteArray := prog_8_method_4_code
def yX6_isZone : MethodName := ⟨RX6, "isZone", "(I)Z"⟩
abbrev cX6_isWriter : ByteArray := prog_8_method_5_code
def yX6_isWriter : MethodName := ⟨RX6, "isWriter", "(I)Z"⟩
abbrev cX6_isAppend : ByteArray := prog_8_method_6_code
def yX6_isAppend : MethodName := ⟨RX6, "isAppend", "(I)Z"⟩
abbrev cX6_of : ByteArray := prog_8_method_7_code
def yX6_of : MethodName := ⟨RX6, "of", "(II)I"⟩
abbrev cX6_ofWriter : ByteArray := prog_8_method_8_code
def yX6_ofWriter : MethodName := ⟨RX6, "ofWriter", "(II)I"⟩
abbrev cX6_ofAppend : ByteArray := prog_8_method_9_code
def yX6_ofAppend : MethodName := ⟨RX6, "ofAppend", "(II)I"⟩
abbrev cX6_know : ByteArray := prog_8_method_10_code
def yX6_know : MethodName := ⟨RX6, "know", "()V"⟩
abbrev cX6_putAside : ByteArray := prog_8_method_11_code
def yX6_putAside : MethodName := ⟨RX6, "putAside", "()V"⟩
abbrev cX6_putBack : ByteArray := prog_8_method_12_code
def yX6_putBack : MethodName := ⟨RX6, "putBack", "()V"⟩
abbrev cX6_change : ByteArray := prog_8_method_13_code
def yX6_change : MethodName := ⟨RX6, "change", "(II)I"⟩
abbrev cX6_zones : ByteArray := prog_8_method_14_code
def yX6_zones : MethodName := ⟨RX6, "zones", "(Z)I"⟩
abbrev cX6_appends : ByteArray := prog_8_method_15_code
def yX6_appends : MethodName := ⟨RX6, "appends", "(II)I"⟩
abbrev cX6_appendsOf : ByteArray := prog_8_method_16_code
def yX6_appendsOf : MethodName := ⟨RX6, "appendsOf", "(II)I"⟩
abbrev cX6_set : ByteArray := prog_8_method_17_code
def yX6_set : MethodName := ⟨RX6, "set", "(II)I"⟩
abbrev cX6_setZone : ByteArray := prog_8_method_18_code
def yX6_setZone : MethodName := ⟨RX6, "setZone", "(IZI)I"⟩
abbrev cX6_setWindow : ByteArray := prog_8_method_19_code
def yX6_setWindow : MethodName := ⟨RX6, "setWindow", "(II)I"⟩
abbrev cX6_send : ByteArray := prog_8_method_20_code
def yX6_send : MethodName := ⟨RX6, "send", "(III)I"⟩
abbrev cX6_isRoom : ByteArray := prog_8_method_21_code
def yX6_isRoom : MethodName := ⟨RX6, "isRoom", "(I)Z"⟩
abbrev cX6_append : ByteArray := prog_8_method_22_code
def yX6_append : MethodName := ⟨RX6, "append", "(III)I"⟩
abbrev cX6_fail : ByteArray := prog_8_method_23_code
def yX6_fail : MethodName := ⟨RX6, "fail", "(II)V"⟩
abbrev cX6_failAll : ByteArray := prog_8_method_24_code
def yX6_failAll : MethodName := ⟨RX6, "failAll", "(III)I"⟩
abbrev cX6_sweep : ByteArray := prog_8_method_25_code
def yX6_sweep : MethodName := ⟨RX6, "sweep", "(I)V"⟩
abbrev cX6_readable : ByteArray := prog_8_method_26_code
def yX6_readable : MethodName := ⟨RX6, "readable", "(I)I"⟩
abbrev cX6_resets : ByteArray := prog_8_method_27_code
def yX6_resets : MethodName := ⟨RX6, "resets", "(I)I"⟩
abbrev cX6_reset : ByteArray := prog_8_method_28_code
def yX6_reset : MethodName := ⟨RX6, "reset", "(I)I"⟩
abbrev cX6_finishes : ByteArray := prog_8_method_29_code
def yX6_finishes : MethodName := ⟨RX6, "finishes", "(I)I"⟩
abbrev cX6_finishFault : ByteArray := prog_8_method_30_code
def yX6_finishFault : MethodName := ⟨RX6, "finishFault", "(I)I"⟩
abbrev cX6_finish : ByteArray := prog_8_method_31_code
def yX6_finish : MethodName := ⟨RX6, "finish", "(I)I"⟩
abbrev cX6_close : ByteArray := prog_8_method_32_code
def yX6_close : MethodName := ⟨RX6, "close", "(I)I"⟩
abbrev cX6_tell : ByteArray := prog_8_method_33_code
def yX6_tell : MethodName := ⟨RX6, "tell", "(I)V"⟩
abbrev cX6_idlest : ByteArray := prog_8_method_34_code
def yX6_idlest : MethodName := ⟨RX6, "idlest", "()I"⟩
abbrev cX6_opens : ByteArray := prog_8_method_35_code
def yX6_opens : MethodName := ⟨RX6, "opens", "(I)Z"⟩
abbrev cX6_lookAt : ByteArray := prog_8_method_36_code
def yX6_lookAt : MethodName := ⟨RX6, "lookAt", "(I)I"⟩
abbrev cX6_lookAtAll : ByteArray := prog_8_method_37_code
def yX6_lookAtAll : MethodName := ⟨RX6, "lookAtAll", "(I)V"⟩
abbrev cX6_tick : ByteArray := prog_8_method_38_code
def yX6_tick : MethodName := ⟨RX6, "tick", "()I"⟩
abbrev cX6_goBy : ByteArray := prog_8_method_39_code
def yX6_goBy : MethodName := ⟨RX6, "goBy", "(I)I"⟩
abbrev cX6_pass : ByteArray := prog_8_method_40_code
def yX6_pass : MethodName := ⟨RX6, "pass", "(I)I"⟩
abbrev cX6_sign : ByteArray := prog_8_method_41_code
def yX6_sign : MethodName := ⟨RX6, "sign", "(II)I"⟩
abbrev cX6_order : ByteArray := prog_8_method_42_code
def yX6_order : MethodName := ⟨RX6, "order", "()V"⟩
abbrev cX6_does : ByteArray := prog_8_method_43_code
def yX6_does : MethodName := ⟨RX6, "does", "()I"⟩
abbrev cX6_go : ByteArray := prog_8_method_44_code
def yX6_go : MethodName := ⟨RX6, "go", "(Z)I"⟩
abbrev cX6_follow : ByteArray := prog_8_method_45_code
def yX6_follow : MethodName := ⟨RX6, "follow", "()I"⟩
abbrev cX6_type : ByteArray := prog_8_method_46_code
def yX6_type : MethodName := ⟨RX6, "type", "(C)I"⟩
abbrev cX6_clearText : ByteArray := prog_8_method_47_code
def yX6_clearText : MethodName := ⟨RX6, "clearText", "()I"⟩
abbrev cX6_undo : ByteArray := prog_8_method_48_code
def yX6_undo : MethodName := ⟨RX6, "undo", "()I"⟩
abbrev cX6_keep : ByteArray := prog_8_method_49_code
def yX6_keep : MethodName := ⟨RX6, "keep", "()I"⟩
abbrev cX6_restore : ByteArray := prog_8_method_50_code
def yX6_restore : MethodName := ⟨RX6, "restore", "()I"⟩
abbrev cX6_read : ByteArray := prog_8_method_51_code
def yX6_read : MethodName := ⟨RX6, "read", "(II)I"⟩
abbrev cX6_zone : ByteArray := prog_8_method_52_code
def yX6_zone : MethodName := ⟨RX6, "zone", "(II)I"⟩
abbrev cX6_appended : ByteArray := prog_8_method_53_code
def yX6_appended : MethodName := ⟨RX6, "appended", "(II)I"⟩
abbrev cX6_writer : ByteArray := prog_8_method_54_code
def yX6_writer : MethodName := ⟨RX6, "writer", "(II)I"⟩
abbrev cX6_told : ByteArray := prog_8_method_55_code
def yX6_told : MethodName := ⟨RX6, "told", "(I)I"⟩
abbrev cX6_ticksOf : ByteArray := prog_8_method_56_code
def yX6_ticksOf : MethodName := ⟨RX6, "ticksOf", "(I)I"⟩
abbrev cX6_toldIn : ByteArray := prog_8_method_57_code
def yX6_toldIn : MethodName := ⟨RX6, "toldIn", "(I)I"⟩
abbrev cX6_would : ByteArray := prog_8_method_58_code
def yX6_would : MethodName := ⟨RX6, "would", "(II)I"⟩
abbrev cX6_count : ByteArray := prog_8_method_59_code
def yX6_count : MethodName := ⟨RX6, "count", "(I)I"⟩
def RJ10 : String := "java/lang/System"
def TJ10 : u_T := fun k => match k with
  | _ => ("", "", "", false)
def tyJ10 : Nat → FieldType := fun k => match k with
  | _ => .int
abbrev wsJ100 : List Cond := u_ws RJ10 TJ10 0
theorem nmJ10 : ∀ a, a < 0 → ∀ b, b < 0 → a ≠ b → (TJ10 a).2.1 ≠ (TJ10 b).2.1 := by decide +kernel
theorem tyJ10_ok : ∀ k, k < 0 → parseFieldDescriptor (TJ10 k).2.2.1 = some (tyJ10 k) := by decide +kernel
def RL : String := "AppendZonesLaw"
abbrev cL_law : ByteArray := code
def yL_law : MethodName := ⟨RL, "law", "([I)Z"⟩
abbrev vwCl : List vw_C := [(RX0, TX0, 13), (RX1, TX1, 3), (RX2, TX2, 2), (RX3, TX3, 8), (RX4, TX4, 11), (RX5, TX5, 5), (RX6, TX6, 15)]
