section
-- ===== PART A: goes FIRST, ahead of the names: the tables' words, and 'selects' of the private methods out of them =====
/-- a private method of a class that the tables say can be made, by its rows of tables_1 -/
def lw_okq (q : MethodName × Nat) : Prop := (q.1.cls ≠ "java/lang/invoke/MethodHandle" ∧ q.1.cls ≠ "java/lang/invoke/VarHandle") ∧ Cond.instantiable q.1.cls q.2 ∈ tables_1 ∧ Cond.privateMethod q.1 ∈ tables_1 ∧ Cond.instanceMethod q.1 ∈ tables_1
theorem lw_p0 : lw_okq (⟨"AppendZones$History", "slotBehind", "()LAppendZones$State;"⟩, 3) := ⟨⟨by decide +kernel, by decide +kernel⟩, List.mem_of_getElem? (i := 158) (by decide +kernel), List.mem_of_getElem? (i := 220) (by decide +kernel), List.mem_of_getElem? (i := 221) (by decide +kernel)⟩
theorem lw_p1 : lw_okq (⟨"AppendZones$State", "changeOpenLimit", "(I)I"⟩, 8) := ⟨⟨by decide +kernel, by decide +kernel⟩, List.mem_of_getElem? (i := 18) (by decide +kernel), List.mem_of_getElem? (i := 248) (by decide +kernel), List.mem_of_getElem? (i := 249) (by decide +kernel)⟩
theorem lw_p2 : lw_okq (⟨"AppendZones$State", "changeUseLimit", "(I)I"⟩, 8) := ⟨⟨by decide +kernel, by decide +kernel⟩, List.mem_of_getElem? (i := 18) (by decide +kernel), List.mem_of_getElem? (i := 259) (by decide +kernel), List.mem_of_getElem? (i := 260) (by decide +kernel)⟩
theorem lw_p3 : lw_okq (⟨"AppendZones$State", "changeChannels", "(I)I"⟩, 8) := ⟨⟨by decide +kernel, by decide +kernel⟩, List.mem_of_getElem? (i := 18) (by decide +kernel), List.mem_of_getElem? (i := 267) (by decide +kernel), List.mem_of_getElem? (i := 268) (by decide +kernel)⟩
theorem lw_p4 : lw_okq (⟨"AppendZones$State", "changeManner", "(I)I"⟩, 8) := ⟨⟨by decide +kernel, by decide +kernel⟩, List.mem_of_getElem? (i := 18) (by decide +kernel), List.mem_of_getElem? (i := 271) (by decide +kernel), List.mem_of_getElem? (i := 272) (by decide +kernel)⟩
theorem lw_p5 : lw_okq (⟨"AppendZones$State", "letOnePass", "()V"⟩, 8) := ⟨⟨by decide +kernel, by decide +kernel⟩, List.mem_of_getElem? (i := 18) (by decide +kernel), List.mem_of_getElem? (i := 381) (by decide +kernel), List.mem_of_getElem? (i := 382) (by decide +kernel)⟩
theorem lw_p6 : lw_okq (⟨"AppendZones$State", "tellDue", "()V"⟩, 8) := ⟨⟨by decide +kernel, by decide +kernel⟩, List.mem_of_getElem? (i := 18) (by decide +kernel), List.mem_of_getElem? (i := 385) (by decide +kernel), List.mem_of_getElem? (i := 386) (by decide +kernel)⟩
theorem lw_p7 : lw_okq (⟨"AppendZones$State", "putInOrder", "()I"⟩, 8) := ⟨⟨by decide +kernel, by decide +kernel⟩, List.mem_of_getElem? (i := 18) (by decide +kernel), List.mem_of_getElem? (i := 397) (by decide +kernel), List.mem_of_getElem? (i := 398) (by decide +kernel)⟩
theorem lw_p8 : lw_okq (⟨"AppendZones$State", "hasBegun", "(I)Z"⟩, 8) := ⟨⟨by decide +kernel, by decide +kernel⟩, List.mem_of_getElem? (i := 18) (by decide +kernel), List.mem_of_getElem? (i := 401) (by decide +kernel), List.mem_of_getElem? (i := 402) (by decide +kernel)⟩
theorem lw_p9 : lw_okq (⟨"AppendZones$State", "couldOpen", "(I)Z"⟩, 8) := ⟨⟨by decide +kernel, by decide +kernel⟩, List.mem_of_getElem? (i := 18) (by decide +kernel), List.mem_of_getElem? (i := 410) (by decide +kernel), List.mem_of_getElem? (i := 411) (by decide +kernel)⟩
theorem lw_p10 : lw_okq (⟨"AppendZones$State", "longestIdle", "()I"⟩, 8) := ⟨⟨by decide +kernel, by decide +kernel⟩, List.mem_of_getElem? (i := 18) (by decide +kernel), List.mem_of_getElem? (i := 414) (by decide +kernel), List.mem_of_getElem? (i := 415) (by decide +kernel)⟩
theorem lw_p11 : lw_okq (⟨"AppendZones", "doOrder", "(I)I"⟩, 6) := ⟨⟨by decide +kernel, by decide +kernel⟩, List.mem_of_getElem? (i := 10) (by decide +kernel), List.mem_of_getElem? (i := 442) (by decide +kernel), List.mem_of_getElem? (i := 443) (by decide +kernel)⟩
theorem lw_p12 : lw_okq (⟨"AppendZones$State", "readableFromStart", "(I)I"⟩, 8) := ⟨⟨by decide +kernel, by decide +kernel⟩, List.mem_of_getElem? (i := 18) (by decide +kernel), List.mem_of_getElem? (i := 521) (by decide +kernel), List.mem_of_getElem? (i := 522) (by decide +kernel)⟩
theorem lw_p13 : lw_okq (⟨"AppendZonesModel", "sweep", "(I)V"⟩, 15) := ⟨⟨by decide +kernel, by decide +kernel⟩, List.mem_of_getElem? (i := 578) (by decide +kernel), List.mem_of_getElem? (i := 587) (by decide +kernel), List.mem_of_getElem? (i := 588) (by decide +kernel)⟩
theorem lw_p14 : lw_okq (⟨"AppendZonesModel", "zones", "(Z)I"⟩, 15) := ⟨⟨by decide +kernel, by decide +kernel⟩, List.mem_of_getElem? (i := 578) (by decide +kernel), List.mem_of_getElem? (i := 648) (by decide +kernel), List.mem_of_getElem? (i := 649) (by decide +kernel)⟩
theorem lw_p15 : lw_okq (⟨"AppendZonesModel", "change", "(II)I"⟩, 15) := ⟨⟨by decide +kernel, by decide +kernel⟩, List.mem_of_getElem? (i := 578) (by decide +kernel), List.mem_of_getElem? (i := 652) (by decide +kernel), List.mem_of_getElem? (i := 653) (by decide +kernel)⟩
def lw_privs_1 : List (MethodName × Nat) := [(⟨"AppendZones$History", "slotBehind", "()LAppendZones$State;"⟩, 3), (⟨"AppendZones$State", "changeOpenLimit", "(I)I"⟩, 8), (⟨"AppendZones$State", "changeUseLimit", "(I)I"⟩, 8), (⟨"AppendZones$State", "changeChannels", "(I)I"⟩, 8), (⟨"AppendZones$State", "changeManner", "(I)I"⟩, 8), (⟨"AppendZones$State", "letOnePass", "()V"⟩, 8), (⟨"AppendZones$State", "tellDue", "()V"⟩, 8), (⟨"AppendZones$State", "putInOrder", "()I"⟩, 8), (⟨"AppendZones$State", "hasBegun", "(I)Z"⟩, 8), (⟨"AppendZones$State", "couldOpen", "(I)Z"⟩, 8), (⟨"AppendZones$State", "longestIdle", "()I"⟩, 8), (⟨"AppendZones", "doOrder", "(I)I"⟩, 6), (⟨"AppendZones$State", "readableFromStart", "(I)I"⟩, 8), (⟨"AppendZonesModel", "sweep", "(I)V"⟩, 15), (⟨"AppendZonesModel", "zones", "(Z)I"⟩, 15), (⟨"AppendZonesModel", "change", "(II)I"⟩, 15)]
theorem lw_r1 : ∀ q ∈ lw_privs_1, lw_okq q := List.forall_mem_cons.mpr ⟨lw_p0, List.forall_mem_cons.mpr ⟨lw_p1, List.forall_mem_cons.mpr ⟨lw_p2, List.forall_mem_cons.mpr ⟨lw_p3, List.forall_mem_cons.mpr ⟨lw_p4, List.forall_mem_cons.mpr ⟨lw_p5, List.forall_mem_cons.mpr ⟨lw_p6, List.forall_mem_cons.mpr ⟨lw_p7, List.forall_mem_cons.mpr ⟨lw_p8, List.forall_mem_cons.mpr ⟨lw_p9, List.forall_mem_cons.mpr ⟨lw_p10, List.forall_mem_cons.mpr ⟨lw_p11, List.forall_mem_cons.mpr ⟨lw_p12, List.forall_mem_cons.mpr ⟨lw_p13, List.forall_mem_cons.mpr ⟨lw_p14, List.forall_mem_cons.mpr ⟨lw_p15, fun _ h => absurd h List.not_mem_nil⟩⟩⟩⟩⟩⟩⟩⟩⟩⟩⟩⟩⟩⟩⟩⟩
theorem lw_p16 : lw_okq (⟨"AppendZonesModel", "know", "()V"⟩, 15) := ⟨⟨by decide +kernel, by decide +kernel⟩, List.mem_of_getElem? (i := 578) (by decide +kernel), List.mem_of_getElem? (i := 656) (by decide +kernel), List.mem_of_getElem? (i := 657) (by decide +kernel)⟩
theorem lw_p17 : lw_okq (⟨"AppendZonesModel", "isRoom", "(I)Z"⟩, 15) := ⟨⟨by decide +kernel, by decide +kernel⟩, List.mem_of_getElem? (i := 578) (by decide +kernel), List.mem_of_getElem? (i := 678) (by decide +kernel), List.mem_of_getElem? (i := 679) (by decide +kernel)⟩
theorem lw_p18 : lw_okq (⟨"AppendZonesModel", "appendsOf", "(II)I"⟩, 15) := ⟨⟨by decide +kernel, by decide +kernel⟩, List.mem_of_getElem? (i := 578) (by decide +kernel), List.mem_of_getElem? (i := 682) (by decide +kernel), List.mem_of_getElem? (i := 683) (by decide +kernel)⟩
theorem lw_p19 : lw_okq (⟨"AppendZonesModel", "send", "(III)I"⟩, 15) := ⟨⟨by decide +kernel, by decide +kernel⟩, List.mem_of_getElem? (i := 578) (by decide +kernel), List.mem_of_getElem? (i := 689) (by decide +kernel), List.mem_of_getElem? (i := 690) (by decide +kernel)⟩
theorem lw_p20 : lw_okq (⟨"AppendZonesModel", "resets", "(I)I"⟩, 15) := ⟨⟨by decide +kernel, by decide +kernel⟩, List.mem_of_getElem? (i := 578) (by decide +kernel), List.mem_of_getElem? (i := 697) (by decide +kernel), List.mem_of_getElem? (i := 698) (by decide +kernel)⟩
theorem lw_p21 : lw_okq (⟨"AppendZonesModel", "readable", "(I)I"⟩, 15) := ⟨⟨by decide +kernel, by decide +kernel⟩, List.mem_of_getElem? (i := 578) (by decide +kernel), List.mem_of_getElem? (i := 701) (by decide +kernel), List.mem_of_getElem? (i := 702) (by decide +kernel)⟩
theorem lw_p22 : lw_okq (⟨"AppendZonesModel", "failAll", "(III)I"⟩, 15) := ⟨⟨by decide +kernel, by decide +kernel⟩, List.mem_of_getElem? (i := 578) (by decide +kernel), List.mem_of_getElem? (i := 705) (by decide +kernel), List.mem_of_getElem? (i := 706) (by decide +kernel)⟩
theorem lw_p23 : lw_okq (⟨"AppendZonesModel", "fail", "(II)V"⟩, 15) := ⟨⟨by decide +kernel, by decide +kernel⟩, List.mem_of_getElem? (i := 578) (by decide +kernel), List.mem_of_getElem? (i := 709) (by decide +kernel), List.mem_of_getElem? (i := 710) (by decide +kernel)⟩
theorem lw_p24 : lw_okq (⟨"AppendZonesModel", "finishFault", "(I)I"⟩, 15) := ⟨⟨by decide +kernel, by decide +kernel⟩, List.mem_of_getElem? (i := 578) (by decide +kernel), List.mem_of_getElem? (i := 717) (by decide +kernel), List.mem_of_getElem? (i := 718) (by decide +kernel)⟩
theorem lw_p25 : lw_okq (⟨"AppendZonesModel", "finishes", "(I)I"⟩, 15) := ⟨⟨by decide +kernel, by decide +kernel⟩, List.mem_of_getElem? (i := 578) (by decide +kernel), List.mem_of_getElem? (i := 721) (by decide +kernel), List.mem_of_getElem? (i := 722) (by decide +kernel)⟩
theorem lw_p26 : lw_okq (⟨"AppendZonesModel", "appends", "(II)I"⟩, 15) := ⟨⟨by decide +kernel, by decide +kernel⟩, List.mem_of_getElem? (i := 578) (by decide +kernel), List.mem_of_getElem? (i := 729) (by decide +kernel), List.mem_of_getElem? (i := 730) (by decide +kernel)⟩
theorem lw_p27 : lw_okq (⟨"AppendZonesModel", "goBy", "(I)I"⟩, 15) := ⟨⟨by decide +kernel, by decide +kernel⟩, List.mem_of_getElem? (i := 578) (by decide +kernel), List.mem_of_getElem? (i := 737) (by decide +kernel), List.mem_of_getElem? (i := 738) (by decide +kernel)⟩
theorem lw_p28 : lw_okq (⟨"AppendZonesModel", "tick", "()I"⟩, 15) := ⟨⟨by decide +kernel, by decide +kernel⟩, List.mem_of_getElem? (i := 578) (by decide +kernel), List.mem_of_getElem? (i := 741) (by decide +kernel), List.mem_of_getElem? (i := 742) (by decide +kernel)⟩
theorem lw_p29 : lw_okq (⟨"AppendZonesModel", "tell", "(I)V"⟩, 15) := ⟨⟨by decide +kernel, by decide +kernel⟩, List.mem_of_getElem? (i := 578) (by decide +kernel), List.mem_of_getElem? (i := 745) (by decide +kernel), List.mem_of_getElem? (i := 746) (by decide +kernel)⟩
theorem lw_p30 : lw_okq (⟨"AppendZonesModel", "lookAtAll", "(I)V"⟩, 15) := ⟨⟨by decide +kernel, by decide +kernel⟩, List.mem_of_getElem? (i := 578) (by decide +kernel), List.mem_of_getElem? (i := 749) (by decide +kernel), List.mem_of_getElem? (i := 750) (by decide +kernel)⟩
theorem lw_p31 : lw_okq (⟨"AppendZonesModel", "lookAt", "(I)I"⟩, 15) := ⟨⟨by decide +kernel, by decide +kernel⟩, List.mem_of_getElem? (i := 578) (by decide +kernel), List.mem_of_getElem? (i := 753) (by decide +kernel), List.mem_of_getElem? (i := 754) (by decide +kernel)⟩
def lw_privs_2 : List (MethodName × Nat) := [(⟨"AppendZonesModel", "know", "()V"⟩, 15), (⟨"AppendZonesModel", "isRoom", "(I)Z"⟩, 15), (⟨"AppendZonesModel", "appendsOf", "(II)I"⟩, 15), (⟨"AppendZonesModel", "send", "(III)I"⟩, 15), (⟨"AppendZonesModel", "resets", "(I)I"⟩, 15), (⟨"AppendZonesModel", "readable", "(I)I"⟩, 15), (⟨"AppendZonesModel", "failAll", "(III)I"⟩, 15), (⟨"AppendZonesModel", "fail", "(II)V"⟩, 15), (⟨"AppendZonesModel", "finishFault", "(I)I"⟩, 15), (⟨"AppendZonesModel", "finishes", "(I)I"⟩, 15), (⟨"AppendZonesModel", "appends", "(II)I"⟩, 15), (⟨"AppendZonesModel", "goBy", "(I)I"⟩, 15), (⟨"AppendZonesModel", "tick", "()I"⟩, 15), (⟨"AppendZonesModel", "tell", "(I)V"⟩, 15), (⟨"AppendZonesModel", "lookAtAll", "(I)V"⟩, 15), (⟨"AppendZonesModel", "lookAt", "(I)I"⟩, 15)]
theorem lw_r2 : ∀ q ∈ lw_privs_2, lw_okq q := List.forall_mem_cons.mpr ⟨lw_p16, List.forall_mem_cons.mpr ⟨lw_p17, List.forall_mem_cons.mpr ⟨lw_p18, List.forall_mem_cons.mpr ⟨lw_p19, List.forall_mem_cons.mpr ⟨lw_p20, List.forall_mem_cons.mpr ⟨lw_p21, List.forall_mem_cons.mpr ⟨lw_p22, List.forall_mem_cons.mpr ⟨lw_p23, List.forall_mem_cons.mpr ⟨lw_p24, List.forall_mem_cons.mpr ⟨lw_p25, List.forall_mem_cons.mpr ⟨lw_p26, List.forall_mem_cons.mpr ⟨lw_p27, List.forall_mem_cons.mpr ⟨lw_p28, List.forall_mem_cons.mpr ⟨lw_p29, List.forall_mem_cons.mpr ⟨lw_p30, List.forall_mem_cons.mpr ⟨lw_p31, fun _ h => absurd h List.not_mem_nil⟩⟩⟩⟩⟩⟩⟩⟩⟩⟩⟩⟩⟩⟩⟩⟩
theorem lw_p32 : lw_okq (⟨"AppendZonesModel", "opens", "(I)Z"⟩, 15) := ⟨⟨by decide +kernel, by decide +kernel⟩, List.mem_of_getElem? (i := 578) (by decide +kernel), List.mem_of_getElem? (i := 757) (by decide +kernel), List.mem_of_getElem? (i := 758) (by decide +kernel)⟩
theorem lw_p33 : lw_okq (⟨"AppendZonesModel", "idlest", "()I"⟩, 15) := ⟨⟨by decide +kernel, by decide +kernel⟩, List.mem_of_getElem? (i := 578) (by decide +kernel), List.mem_of_getElem? (i := 761) (by decide +kernel), List.mem_of_getElem? (i := 762) (by decide +kernel)⟩
theorem lw_p34 : lw_okq (⟨"AppendZonesModel", "go", "(Z)I"⟩, 15) := ⟨⟨by decide +kernel, by decide +kernel⟩, List.mem_of_getElem? (i := 578) (by decide +kernel), List.mem_of_getElem? (i := 769) (by decide +kernel), List.mem_of_getElem? (i := 770) (by decide +kernel)⟩
theorem lw_p35 : lw_okq (⟨"AppendZonesModel", "order", "()V"⟩, 15) := ⟨⟨by decide +kernel, by decide +kernel⟩, List.mem_of_getElem? (i := 578) (by decide +kernel), List.mem_of_getElem? (i := 773) (by decide +kernel), List.mem_of_getElem? (i := 774) (by decide +kernel)⟩
theorem lw_p36 : lw_okq (⟨"AppendZonesModel", "sign", "(II)I"⟩, 15) := ⟨⟨by decide +kernel, by decide +kernel⟩, List.mem_of_getElem? (i := 578) (by decide +kernel), List.mem_of_getElem? (i := 777) (by decide +kernel), List.mem_of_getElem? (i := 778) (by decide +kernel)⟩
theorem lw_p37 : lw_okq (⟨"AppendZonesModel", "does", "()I"⟩, 15) := ⟨⟨by decide +kernel, by decide +kernel⟩, List.mem_of_getElem? (i := 578) (by decide +kernel), List.mem_of_getElem? (i := 781) (by decide +kernel), List.mem_of_getElem? (i := 782) (by decide +kernel)⟩
theorem lw_p38 : lw_okq (⟨"AppendZonesModel", "putAside", "()V"⟩, 15) := ⟨⟨by decide +kernel, by decide +kernel⟩, List.mem_of_getElem? (i := 578) (by decide +kernel), List.mem_of_getElem? (i := 785) (by decide +kernel), List.mem_of_getElem? (i := 786) (by decide +kernel)⟩
theorem lw_p39 : lw_okq (⟨"AppendZonesModel", "putBack", "()V"⟩, 15) := ⟨⟨by decide +kernel, by decide +kernel⟩, List.mem_of_getElem? (i := 578) (by decide +kernel), List.mem_of_getElem? (i := 789) (by decide +kernel), List.mem_of_getElem? (i := 790) (by decide +kernel)⟩
theorem lw_p40 : lw_okq (⟨"AppendZonesModel", "isAppend", "(I)Z"⟩, 15) := ⟨⟨by decide +kernel, by decide +kernel⟩, List.mem_of_getElem? (i := 578) (by decide +kernel), List.mem_of_getElem? (i := 825) (by decide +kernel), List.mem_of_getElem? (i := 826) (by decide +kernel)⟩
theorem lw_p41 : lw_okq (⟨"AppendZonesModel", "ticksOf", "(I)I"⟩, 15) := ⟨⟨by decide +kernel, by decide +kernel⟩, List.mem_of_getElem? (i := 578) (by decide +kernel), List.mem_of_getElem? (i := 841) (by decide +kernel), List.mem_of_getElem? (i := 842) (by decide +kernel)⟩
def lw_privs_3 : List (MethodName × Nat) := [(⟨"AppendZonesModel", "opens", "(I)Z"⟩, 15), (⟨"AppendZonesModel", "idlest", "()I"⟩, 15), (⟨"AppendZonesModel", "go", "(Z)I"⟩, 15), (⟨"AppendZonesModel", "order", "()V"⟩, 15), (⟨"AppendZonesModel", "sign", "(II)I"⟩, 15), (⟨"AppendZonesModel", "does", "()I"⟩, 15), (⟨"AppendZonesModel", "putAside", "()V"⟩, 15), (⟨"AppendZonesModel", "putBack", "()V"⟩, 15), (⟨"AppendZonesModel", "isAppend", "(I)Z"⟩, 15), (⟨"AppendZonesModel", "ticksOf", "(I)I"⟩, 15)]
theorem lw_r3 : ∀ q ∈ lw_privs_3, lw_okq q := List.forall_mem_cons.mpr ⟨lw_p32, List.forall_mem_cons.mpr ⟨lw_p33, List.forall_mem_cons.mpr ⟨lw_p34, List.forall_mem_cons.mpr ⟨lw_p35, List.forall_mem_cons.mpr ⟨lw_p36, List.forall_mem_cons.mpr ⟨lw_p37, List.forall_mem_cons.mpr ⟨lw_p38, List.forall_mem_cons.mpr ⟨lw_p39, List.forall_mem_cons.mpr ⟨lw_p40, List.forall_mem_cons.mpr ⟨lw_p41, fun _ h => absurd h List.not_mem_nil⟩⟩⟩⟩⟩⟩⟩⟩⟩⟩
def lw_privs : List (MethodName × Nat) := lw_privs_1 ++ (lw_privs_2 ++ (lw_privs_3))
def lw_tbl : List Cond := k2_sels lw_privs ++ tables_1
theorem lw_privs_ok : ∀ q ∈ lw_privs, lw_okq q := by
  show ∀ q ∈ lw_privs_1 ++ (lw_privs_2 ++ (lw_privs_3)), lw_okq q
  exact List.forall_mem_append.mpr ⟨lw_r1, List.forall_mem_append.mpr ⟨lw_r2, lw_r3⟩⟩

def RX0 : String := "AppendZones$Appends"
def TX0 : u_T := fun k => match k with
  | 0 => ("AppendZones$Appends", "writerOf", "[I", true)
  | 1 => ("AppendZones$Appends", "zoneOf", "[I", true)
  | 2 => ("AppendZones$Appends", "valueOf", "[I", true)
  | 3 => ("AppendZones$Appends", "phaseOf", "[I", true)
  | 4 => ("AppendZones$Appends", "placeOf", "[I", true)
  | 5 => ("AppendZones$Appends", "tickOf", "[I", true)
  | 6 => ("AppendZones$Appends", "reasonOf", "[I", true)
  | 7 => ("AppendZones$Appends", "generationOf", "[I", true)
  | 8 => ("AppendZones$Appends", "sent", "I", false)
  | 9 => ("AppendZones$Appends", "toldOrder", "[I", true)
  | 10 => ("AppendZones$Appends", "toldSoFar", "I", false)
  | 11 => ("AppendZones$Appends", "live", "[I", true)
  | _ => ("AppendZones$Appends", "liveCount", "I", false)
def tyX0 : Nat → FieldType := fun k => match k with
  | 0 => .array .int
  | 1 => .array .int
  | 2 => .array .int
  | 3 => .array .int
  | 4 => .array .int
  | 5 => .array .int
  | 6 => .array .int
  | 7 => .array .int
  | 8 => .int
  | 9 => .array .int
  | 10 => .int
  | 11 => .array .int
  | _ => .int
abbrev wsX00 : List Cond := u_ws RX0 TX0 13
theorem nmX0 : ∀ a, a < 13 → ∀ b, b < 13 → a ≠ b → (TX0 a).2.1 ≠ (TX0 b).2.1 := by decide +kernel
theorem tyX0_ok : ∀ k, k < 13 → parseFieldDescriptor (TX0 k).2.2.1 = some (tyX0 k) := by decide +kernel
abbrev cX0_init : ByteArray := prog_2_method_1_code
def yX0_init : MethodName := ⟨RX0, "<init>", "()V"⟩
abbrev cX0_copyFrom : ByteArray := prog_2_method_2_code
def yX0_copyFrom : MethodName := ⟨RX0, "copyFrom", "(LAppendZones$Appends;)V"⟩
abbrev cX0_isNumber : ByteArray := prog_2_method_3_code
def yX0_isNumber : MethodName := ⟨RX0, "isNumber", "(I)Z"⟩
abbrev cX0_isLive : ByteArray := prog_2_method_4_code
def yX0_isLive : MethodName := ⟨RX0, "isLive", "(I)Z"⟩
abbrev cX0_add : ByteArray := prog_2_method_5_code
def yX0_add : MethodName := ⟨RX0, "add", "(III)I"⟩
abbrev cX0_begin : ByteArray := prog_2_method_6_code
def yX0_begin : MethodName := ⟨RX0, "begin", "(IIII)V"⟩
abbrev cX0_markTold : ByteArray := prog_2_method_7_code
def yX0_markTold : MethodName := ⟨RX0, "markTold", "(I)V"⟩
abbrev cX0_markFailed : ByteArray := prog_2_method_8_code
def yX0_markFailed : MethodName := ⟨RX0, "markFailed", "(II)V"⟩
abbrev cX0_failInZone : ByteArray := prog_2_method_9_code
def yX0_failInZone : MethodName := ⟨RX0, "failInZone", "(III)I"⟩
abbrev cX0_dropEnded : ByteArray := prog_2_method_10_code
def yX0_dropEnded : MethodName := ⟨RX0, "dropEnded", "()V"⟩
abbrev cX0_liveIn : ByteArray := prog_2_method_11_code
def yX0_liveIn : MethodName := ⟨RX0, "liveIn", "(I)I"⟩
abbrev cX0_liveInZone : ByteArray := prog_2_method_12_code
def yX0_liveInZone : MethodName := ⟨RX0, "liveInZone", "(II)I"⟩
abbrev cX0_ofWriter : ByteArray := prog_2_method_13_code
def yX0_ofWriter : MethodName := ⟨RX0, "ofWriter", "(II)I"⟩
abbrev cX0_isAhead : ByteArray := prog_2_method_14_code
def yX0_isAhead : MethodName := ⟨RX0, "isAhead", "(I)Z"⟩
abbrev cX0_toldInGeneration : ByteArray := prog_2_method_15_code
def yX0_toldInGeneration : MethodName := ⟨RX0, "toldInGeneration", "(II)I"⟩
abbrev cX0_holderOf : ByteArray := prog_2_method_16_code
def yX0_holderOf : MethodName := ⟨RX0, "holderOf", "(III)I"⟩
abbrev cX0_toldAt : ByteArray := prog_2_method_17_code
def yX0_toldAt : MethodName := ⟨RX0, "toldAt", "(I)I"⟩
abbrev cX0_tellAppend : ByteArray := prog_2_method_18_code
def yX0_tellAppend : MethodName := ⟨RX0, "tellAppend", "(II)I"⟩
def RX1 : String := "AppendZones$History"
def TX1 : u_T := fun k => match k with
  | 0 => ("AppendZones$History", "slots", "[LAppendZones$State;", true)
  | 1 => ("AppendZones$History", "oldest", "I", false)
  | _ => ("AppendZones$History", "kept", "I", false)
def tyX1 : Nat → FieldType := fun k => match k with
  | 0 => .array (.object "AppendZones$State")
  | 1 => .int
  | _ => .int
abbrev wsX10 : List Cond := u_ws RX1 TX1 3
theorem nmX1 : ∀ a, a < 3 → ∀ b, b < 3 → a ≠ b → (TX1 a).2.1 ≠ (TX1 b).2.1 := by decide +kernel
theorem tyX1_ok : ∀ k, k < 3 → parseFieldDescriptor (TX1 k).2.2.1 = some (tyX1 k) := by decide +kernel
abbrev cX1_init : ByteArray := prog_3_method_1_code
def yX1_init : MethodName := ⟨RX1, "<init>", "()V"⟩
abbrev cX1_slotBehind : ByteArray := prog_3_method_2_code
def yX1_slotBehind : MethodName := ⟨RX1, "slotBehind", "()LAppendZones$State;"⟩
abbrev cX1_draft : ByteArray := prog_3_method_3_code
def yX1_draft : MethodName := ⟨RX1, "draft", "(LAppendZones$State;)V"⟩
abbrev cX1_takeDraftBack : ByteArray := prog_3_method_4_code
def yX1_takeDraftBack : MethodName := ⟨RX1, "takeDraftBack", "(LAppendZones$State;)V"⟩
abbrev cX1_settle : ByteArray := prog_3_method_5_code
def yX1_settle : MethodName := ⟨RX1, "settle", "(I)I"⟩
abbrev cX1_stepBack : ByteArray := prog_3_method_6_code
def yX1_stepBack : MethodName := ⟨RX1, "stepBack", "(LAppendZones$State;)I"⟩
def RX2 : String := "AppendZones$OrderText"
def TX2 : u_T := fun k => match k with
  | 0 => ("AppendZones$OrderText", "signs", "[C", true)
  | _ => ("AppendZones$OrderText", "length", "I", false)
def tyX2 : Nat → FieldType := fun k => match k with
  | 0 => .array .char
  | _ => .int
abbrev wsX20 : List Cond := u_ws RX2 TX2 2
theorem nmX2 : ∀ a, a < 2 → ∀ b, b < 2 → a ≠ b → (TX2 a).2.1 ≠ (TX2 b).2.1 := by decide +kernel
theorem tyX2_ok : ∀ k, k < 2 → parseFieldDescriptor (TX2 k).2.2.1 = some (tyX2 k) := by decide +kernel
abbrev cX2_init : ByteArray := prog_4_method_1_code
def yX2_init : MethodName := ⟨RX2, "<init>", "()V"⟩
abbrev cX2_add : ByteArray := prog_4_method_2_code
def yX2_add : MethodName := ⟨RX2, "add", "(C)I"⟩
abbrev cX2_empty : ByteArray := prog_4_method_3_code
def yX2_empty : MethodName := ⟨RX2, "empty", "()I"⟩
abbrev cX2_fault : ByteArray := prog_4_method_4_code
def yX2_fault : MethodName := ⟨RX2, "fault", "()I"⟩
abbrev cX2_placeBehind : ByteArray := prog_4_method_5_code
def yX2_placeBehind : MethodName := ⟨RX2, "placeBehind", "(IC)I"⟩
abbrev cX2_placeBehindFirst : ByteArray := prog_4_method_6_code
def yX2_placeBehindFirst : MethodName := ⟨RX2, "placeBehindFirst", "(C)I"⟩
abbrev cX2_sign : ByteArray := prog_4_method_7_code
def yX2_sign : MethodName := ⟨RX2, "sign", "(I)C"⟩
abbrev cX2_digit : ByteArray := prog_4_method_8_code
def yX2_digit : MethodName := ⟨RX2, "digit", "(I)I"⟩
abbrev cX2_valueFrom : ByteArray := prog_4_method_9_code
def yX2_valueFrom : MethodName := ⟨RX2, "valueFrom", "(I)I"⟩
abbrev cX2_behindOrder : ByteArray := prog_4_method_10_code
def yX2_behindOrder : MethodName := ⟨RX2, "behindOrder", "(I)I"⟩
def RX3 : String := "AppendZones$State"
def TX3 : u_T := fun k => match k with
  | 0 => ("AppendZones$State", "appends", "LAppendZones$Appends;", true)
  | 1 => ("AppendZones$State", "zones", "LAppendZones$Zones;", true)
  | 2 => ("AppendZones$State", "windowOf", "[I", true)
  | 3 => ("AppendZones$State", "aheadOf", "[I", true)
  | 4 => ("AppendZones$State", "order", "[I", true)
  | 5 => ("AppendZones$State", "channels", "I", false)
  | 6 => ("AppendZones$State", "manner", "I", false)
  | _ => ("AppendZones$State", "tick", "I", false)
def tyX3 : Nat → FieldType := fun k => match k with
  | 0 => .object "AppendZones$Appends"
  | 1 => .object "AppendZones$Zones"
  | 2 => .array .int
  | 3 => .array .int
  | 4 => .array .int
  | 5 => .int
  | 6 => .int
  | _ => .int
abbrev wsX30 : List Cond := u_ws RX3 TX3 8
theorem nmX3 : ∀ a, a < 8 → ∀ b, b < 8 → a ≠ b → (TX3 a).2.1 ≠ (TX3 b).2.1 := by decide +kernel
theorem tyX3_ok : ∀ k, k < 8 → parseFieldDescriptor (TX3 k).2.2.1 = some (tyX3 k) := by decide +kernel
abbrev cX3_init : ByteArray := prog_5_method_1_code
def yX3_init : MethodName := ⟨RX3, "<init>", "()V"⟩
abbrev cX3_copyFrom : ByteArray := prog_5_method_2_code
def yX3_copyFrom : MethodName := ⟨RX3, "copyFrom", "(LAppendZones$State;)V"⟩
abbrev cX3_changeNumber : ByteArray := prog_5_method_3_code
def yX3_changeNumber : MethodName := ⟨RX3, "changeNumber", "(II)I"⟩
abbrev cX3_changeOpenLimit : ByteArray := prog_5_method_4_code
def yX3_changeOpenLimit : MethodName := ⟨RX3, "changeOpenLimit", "(I)I"⟩
abbrev cX3_changeUseLimit : ByteArray := prog_5_method_5_code
def yX3_changeUseLimit : MethodName := ⟨RX3, "changeUseLimit", "(I)I"⟩
abbrev cX3_changeChannels : ByteArray := prog_5_method_6_code
def yX3_changeChannels : MethodName := ⟨RX3, "changeChannels", "(I)I"⟩
abbrev cX3_changeManner : ByteArray := prog_5_method_7_code
def yX3_changeManner : MethodName := ⟨RX3, "changeManner", "(I)I"⟩
abbrev cX3_changeDelay : ByteArray := prog_5_method_8_code
def yX3_changeDelay : MethodName := ⟨RX3, "changeDelay", "(II)I"⟩
abbrev cX3_changeCapacity : ByteArray := prog_5_method_9_code
def yX3_changeCapacity : MethodName := ⟨RX3, "changeCapacity", "(II)I"⟩
abbrev cX3_changeWindow : ByteArray := prog_5_method_10_code
def yX3_changeWindow : MethodName := ⟨RX3, "changeWindow", "(II)I"⟩
abbrev cX3_send : ByteArray := prog_5_method_11_code
def yX3_send : MethodName := ⟨RX3, "send", "(III)I"⟩
abbrev cX3_wipe : ByteArray := prog_5_method_12_code
def yX3_wipe : MethodName := ⟨RX3, "wipe", "(I)I"⟩
abbrev cX3_fill : ByteArray := prog_5_method_13_code
def yX3_fill : MethodName := ⟨RX3, "fill", "(I)I"⟩
abbrev cX3_shut : ByteArray := prog_5_method_14_code
def yX3_shut : MethodName := ⟨RX3, "shut", "(I)I"⟩
abbrev cX3_letPass : ByteArray := prog_5_method_15_code
def yX3_letPass : MethodName := ⟨RX3, "letPass", "(I)I"⟩
abbrev cX3_letOnePass : ByteArray := prog_5_method_16_code
def yX3_letOnePass : MethodName := ⟨RX3, "letOnePass", "()V"⟩
abbrev cX3_tellDue : ByteArray := prog_5_method_17_code
def yX3_tellDue : MethodName := ⟨RX3, "tellDue", "()V"⟩
abbrev cX3_putInOrder : ByteArray := prog_5_method_18_code
def yX3_putInOrder : MethodName := ⟨RX3, "putInOrder", "()I"⟩
abbrev cX3_hasBegun : ByteArray := prog_5_method_19_code
def yX3_hasBegun : MethodName := ⟨RX3, "hasBegun", "(I)Z"⟩
abbrev cX3_couldOpen : ByteArray := prog_5_method_20_code
def yX3_couldOpen : MethodName := ⟨RX3, "couldOpen", "(I)Z"⟩
abbrev cX3_longestIdle : ByteArray := prog_5_method_21_code
def yX3_longestIdle : MethodName := ⟨RX3, "longestIdle", "()I"⟩
abbrev cX3_ticksUntilTold : ByteArray := prog_5_method_22_code
def yX3_ticksUntilTold : MethodName := ⟨RX3, "ticksUntilTold", "(I)I"⟩
abbrev cX3_blockAt : ByteArray := prog_5_method_23_code
def yX3_blockAt : MethodName := ⟨RX3, "blockAt", "(II)I"⟩
abbrev cX3_tellZone : ByteArray := prog_5_method_24_code
def yX3_tellZone : MethodName := ⟨RX3, "tellZone", "(II)I"⟩
abbrev cX3_readableFromStart : ByteArray := prog_5_method_25_code
def yX3_readableFromStart : MethodName := ⟨RX3, "readableFromStart", "(I)I"⟩
abbrev cX3_tellWriter : ByteArray := prog_5_method_26_code
def yX3_tellWriter : MethodName := ⟨RX3, "tellWriter", "(II)I"⟩
abbrev cX3_tellNumber : ByteArray := prog_5_method_27_code
def yX3_tellNumber : MethodName := ⟨RX3, "tellNumber", "(I)I"⟩
def RX4 : String := "AppendZones$Zones"
def TX4 : u_T := fun k => match k with
  | 0 => ("AppendZones$Zones", "phaseOf", "[I", true)
  | 1 => ("AppendZones$Zones", "capacityOf", "[I", true)
  | 2 => ("AppendZones$Zones", "delayOf", "[I", true)
  | 3 => ("AppendZones$Zones", "pointerOf", "[I", true)
  | 4 => ("AppendZones$Zones", "generationOf", "[I", true)
  | 5 => ("AppendZones$Zones", "latestEventOf", "[I", true)
  | 6 => ("AppendZones$Zones", "events", "I", false)
  | 7 => ("AppendZones$Zones", "openLimit", "I", false)
  | 8 => ("AppendZones$Zones", "useLimit", "I", false)
  | 9 => ("AppendZones$Zones", "turn", "I", false)
  | _ => ("AppendZones$Zones", "madeWay", "I", false)
def tyX4 : Nat → FieldType := fun k => match k with
  | 0 => .array .int
  | 1 => .array .int
  | 2 => .array .int
  | 3 => .array .int
  | 4 => .array .int
  | 5 => .array .int
  | 6 => .int
  | 7 => .int
  | 8 => .int
  | 9 => .int
  | _ => .int
abbrev wsX40 : List Cond := u_ws RX4 TX4 11
theorem nmX4 : ∀ a, a < 11 → ∀ b, b < 11 → a ≠ b → (TX4 a).2.1 ≠ (TX4 b).2.1 := by decide +kernel
theorem tyX4_ok : ∀ k, k < 11 → parseFieldDescriptor (TX4 k).2.2.1 = some (tyX4 k) := by decide +kernel
abbrev cX4_init : ByteArray := prog_6_method_1_code
def yX4_init : MethodName := ⟨RX4, "<init>", "()V"⟩
abbrev cX4_copyFrom : ByteArray := prog_6_method_2_code
def yX4_copyFrom : MethodName := ⟨RX4, "copyFrom", "(LAppendZones$Zones;)V"⟩
abbrev cX4_inPhase : ByteArray := prog_6_method_3_code
def yX4_inPhase : MethodName := ⟨RX4, "inPhase", "(I)I"⟩
abbrev cX4_inUse : ByteArray := prog_6_method_4_code
def yX4_inUse : MethodName := ⟨RX4, "inUse", "()I"⟩
abbrev cX4_takePlace : ByteArray := prog_6_method_5_code
def yX4_takePlace : MethodName := ⟨RX4, "takePlace", "(I)I"⟩
abbrev cX4_clear : ByteArray := prog_6_method_6_code
def yX4_clear : MethodName := ⟨RX4, "clear", "(I)V"⟩
def RX5 : String := "AppendZones"
def TX5 : u_T := fun k => match k with
  | 0 => ("AppendZones", "now", "LAppendZones$State;", true)
  | 1 => ("AppendZones", "forecast", "LAppendZones$State;", true)
  | 2 => ("AppendZones", "snapshot", "LAppendZones$State;", true)
  | 3 => ("AppendZones", "hasSnapshot", "Z", false)
  | 4 => ("AppendZones", "history", "LAppendZones$History;", true)
  | _ => ("AppendZones", "text", "LAppendZones$OrderText;", true)
def tyX5 : Nat → FieldType := fun k => match k with
  | 0 => .object "AppendZones$State"
  | 1 => .object "AppendZones$State"
  | 2 => .object "AppendZones$State"
  | 3 => .boolean
  | 4 => .object "AppendZones$History"
  | _ => .object "AppendZones$OrderText"
abbrev wsX50 : List Cond := u_ws RX5 TX5 6
theorem nmX5 : ∀ a, a < 6 → ∀ b, b < 6 → a ≠ b → (TX5 a).2.1 ≠ (TX5 b).2.1 := by decide +kernel
theorem tyX5_ok : ∀ k, k < 6 → parseFieldDescriptor (TX5 k).2.2.1 = some (tyX5 k) := by decide +kernel
abbrev cX5_init : ByteArray := prog_1_method_1_code
def yX5_init : MethodName := ⟨RX5, "<init>", "()V"⟩
abbrev cX5_set : ByteArray := prog_1_method_2_code
def yX5_set : MethodName := ⟨RX5, "set", "(II)I"⟩
abbrev cX5_setZone : ByteArray := prog_1_method_3_code
def yX5_setZone : MethodName := ⟨RX5, "setZone", "(IZI)I"⟩
abbrev cX5_setWindow : ByteArray := prog_1_method_4_code
def yX5_setWindow : MethodName := ⟨RX5, "setWindow", "(II)I"⟩
abbrev cX5_append : ByteArray := prog_1_method_5_code
def yX5_append : MethodName := ⟨RX5, "append", "(III)I"⟩
abbrev cX5_reset : ByteArray := prog_1_method_6_code
def yX5_reset : MethodName := ⟨RX5, "reset", "(I)I"⟩
abbrev cX5_finish : ByteArray := prog_1_method_7_code
def yX5_finish : MethodName := ⟨RX5, "finish", "(I)I"⟩
abbrev cX5_close : ByteArray := prog_1_method_8_code
def yX5_close : MethodName := ⟨RX5, "close", "(I)I"⟩
abbrev cX5_pass : ByteArray := prog_1_method_9_code
def yX5_pass : MethodName := ⟨RX5, "pass", "(I)I"⟩
abbrev cX5_follow : ByteArray := prog_1_method_10_code
def yX5_follow : MethodName := ⟨RX5, "follow", "()I"⟩
abbrev cX5_type : ByteArray := prog_1_method_11_code
def yX5_type : MethodName := ⟨RX5, "type", "(C)I"⟩
abbrev cX5_clearText : ByteArray := prog_1_method_12_code
def yX5_clearText : MethodName := ⟨RX5, "clearText", "()I"⟩
abbrev cX5_undo : ByteArray := prog_1_method_13_code
def yX5_undo : MethodName := ⟨RX5, "undo", "()I"⟩
abbrev cX5_keep : ByteArray := prog_1_method_14_code
def yX5_keep : MethodName := ⟨RX5, "keep", "()I"⟩
abbrev cX5_restore : ByteArray := prog_1_method_15_code
def yX5_restore : MethodName := ⟨RX5, "restore", "()I"⟩
abbrev cX5_read : ByteArray := prog_1_method_16_code
def yX5_read : MethodName := ⟨RX5, "read", "(II)I"⟩
abbrev cX5_zone : ByteArray := prog_1_method_17_code
def yX5_zone : MethodName := ⟨RX5, "zone", "(II)I"⟩
abbrev cX5_appended : ByteArray := prog_1_method_18_code
def yX5_appended : MethodName := ⟨RX5, "appended", "(II)I"⟩
abbrev cX5_writer : ByteArray := prog_1_method_19_code
def yX5_writer : MethodName := ⟨RX5, "writer", "(II)I"⟩
abbrev cX5_told : ByteArray := prog_1_method_20_code
def yX5_told : MethodName := ⟨RX5, "told", "(I)I"⟩
abbrev cX5_toldIn : ByteArray := prog_1_method_21_code
def yX5_toldIn : MethodName := ⟨RX5, "toldIn", "(I)I"⟩
abbrev cX5_would : ByteArray := prog_1_method_22_code
def yX5_would : MethodName := ⟨RX5, "would", "(II)I"⟩
abbrev cX5_count : ByteArray := prog_1_method_23_code
def yX5_count : MethodName := ⟨RX5, "count", "(I)I"⟩
abbrev cX5_doOrder : ByteArray := prog_1_method_24_code
def yX5_doOrder : MethodName := ⟨RX5, "doOrder", "(I)I"⟩
abbrev cX5_isZone : ByteArray := prog_1_method_25_code
def yX5_isZone : MethodName := ⟨RX5, "isZone", "(I)Z"⟩
abbrev cX5_isWriter : ByteArray := prog_1_method_26_code
def yX5_isWriter : MethodName := ⟨RX5, "isWriter", "(I)Z"⟩
abbrev cX5_isFrom : ByteArray := prog_1_method_27_code
def yX5_isFrom : MethodName := ⟨RX5, "isFrom", "(III)Z"⟩
abbrev cX5_copy : ByteArray := prog_1_method_28_code
def yX5_copy : MethodName := ⟨RX5, "copy", "([I[II)V"⟩
def RX6 : String := "AppendZonesModel"
def TX6 : u_T := fun k => match k with
  | 0 => ("AppendZonesModel", "s", "[I", true)
  | 1 => ("AppendZonesModel", "aside", "[I", true)
  | 2 => ("AppendZonesModel", "before", "[I", true)
  | 3 => ("AppendZonesModel", "known", "I", false)
  | 4 => ("AppendZonesModel", "kept", "[I", true)
  | 5 => ("AppendZonesModel", "isKept", "Z", false)
  | 6 => ("AppendZonesModel", "text", "[I", true)
  | 7 => ("AppendZonesModel", "typed", "I", false)
  | 8 => ("AppendZonesModel", "isLooked", "[Z", true)
  | 9 => ("AppendZonesModel", "isMoved", "Z", false)
  | 10 => ("AppendZonesModel", "first", "I", false)
  | 11 => ("AppendZonesModel", "at", "I", false)
  | 12 => ("AppendZonesModel", "isWrong", "Z", false)
  | 13 => ("AppendZonesModel", "told", "[I", true)
  | _ => ("AppendZonesModel", "fault", "I", false)
def tyX6 : Nat → FieldType := fun k => match k with
  | 0 => .array .int
  | 1 => .array .int
  | 2 => .array .int
  | 3 => .int
  | 4 => .array .int
  | 5 => .boolean
  | 6 => .array .int
  | 7 => .int
  | 8 => .array .boolean
  | 9 => .boolean
  | 10 => .int
  | 11 => .int
  | 12 => .boolean
  | 13 => .array .int
  | _ => .int
abbrev wsX60 : List Cond := u_ws RX6 TX6 15
theorem nmX6 : ∀ a, a < 15 → ∀ b, b < 15 → a ≠ b → (TX6 a).2.1 ≠ (TX6 b).2.1 := by decide +kernel
theorem tyX6_ok : ∀ k, k < 15 → parseFieldDescriptor (TX6 k).2.2.1 = some (tyX6 k) := by decide +kernel
abbrev cX6_init : ByteArray := prog_8_method_1_code
def yX6_init : MethodName := ⟨RX6, "<init>", "()V"⟩
abbrev cX6_in : ByteArray := prog_8_method_3_code
def yX6_in : MethodName := ⟨RX6, "in", "(III)Z"⟩
abbrev cX6_isZone : ByteArray := prog_8_method_4_code
def yX6_isZone : MethodName := ⟨RX6, "isZone", "(I)Z"⟩
abbrev cX6_isWriter : ByteArray := prog_8_method_5_code
def yX6_isWriter : MethodName := ⟨RX6, "isWriter", "(I)Z"⟩
abbrev cX6_isAppend : ByteArray := prog_8_method_6_code
def yX6_isAppend : MethodName := ⟨RX6, "isAppend", "(I)Z"⟩
abbrev cX6_of : ByteArray := prog_8_method_7_code
def yX6_of : MethodName := ⟨RX6, "of", "(II)I"⟩
abbrev cX6_ofWriter : ByteArray := prog_8_method_8_code
def yX6_ofWriter : MethodName := ⟨RX6, "ofWriter", "(II)I"⟩
abbrev cX6_ofAppend : ByteArray := prog_8_method_9_code
def yX6_ofAppend : MethodName := ⟨RX6, "ofAppend", "(II)I"⟩
abbrev cX6_know : ByteArray := prog_8_method_10_code
def yX6_know : MethodName := ⟨RX6, "know", "()V"⟩
abbrev cX6_putAside : ByteArray := prog_8_method_11_code
def yX6_putAside : MethodName := ⟨RX6, "putAside", "()V"⟩
abbrev cX6_putBack : ByteArray := prog_8_method_12_code
def yX6_putBack : MethodName := ⟨RX6, "putBack", "()V"⟩
abbrev cX6_change : ByteArray := prog_8_method_13_code
def yX6_change : MethodName := ⟨RX6, "change", "(II)I"⟩
abbrev cX6_zones : ByteArray := prog_8_method_14_code
def yX6_zones : MethodName := ⟨RX6, "zones", "(Z)I"⟩
abbrev cX6_appends : ByteArray := prog_8_method_15_code
def yX6_appends : MethodName := ⟨RX6, "appends", "(II)I"⟩
abbrev cX6_appendsOf : ByteArray := prog_8_method_16_code
def yX6_appendsOf : MethodName := ⟨RX6, "appendsOf", "(II)I"⟩
abbrev cX6_set : ByteArray := prog_8_method_17_code
def yX6_set : MethodName := ⟨RX6, "set", "(II)I"⟩
abbrev cX6_setZone : ByteArray := prog_8_method_18_code
def yX6_setZone : MethodName := ⟨RX6, "setZone", "(IZI)I"⟩
abbrev cX6_setWindow : ByteArray := prog_8_method_19_code
def yX6_setWindow : MethodName := ⟨RX6, "setWindow", "(II)I"⟩
abbrev cX6_send : ByteArray := prog_8_method_20_code
def yX6_send : MethodName := ⟨RX6, "send", "(III)I"⟩
abbrev cX6_isRoom : ByteArray := prog_8_method_21_code
def yX6_isRoom : MethodName := ⟨RX6, "isRoom", "(I)Z"⟩
abbrev cX6_append : ByteArray := prog_8_method_22_code
def yX6_append : MethodName := ⟨RX6, "append", "(III)I"⟩
abbrev cX6_fail : ByteArray := prog_8_method_23_code
def yX6_fail : MethodName := ⟨RX6, "fail", "(II)V"⟩
abbrev cX6_failAll : ByteArray := prog_8_method_24_code
def yX6_failAll : MethodName := ⟨RX6, "failAll", "(III)I"⟩
abbrev cX6_sweep : ByteArray := prog_8_method_25_code
def yX6_sweep : MethodName := ⟨RX6, "sweep", "(I)V"⟩
abbrev cX6_readable : ByteArray := prog_8_method_26_code
def yX6_readable : MethodName := ⟨RX6, "readable", "(I)I"⟩
abbrev cX6_resets : ByteArray := prog_8_method_27_code
def yX6_resets : MethodName := ⟨RX6, "resets", "(I)I"⟩
abbrev cX6_reset : ByteArray := prog_8_method_28_code
def yX6_reset : MethodName := ⟨RX6, "reset", "(I)I"⟩
abbrev cX6_finishes : ByteArray := prog_8_method_29_code
def yX6_finishes : MethodName := ⟨RX6, "finishes", "(I)I"⟩
abbrev cX6_finishFault : ByteArray := prog_8_method_30_code
def yX6_finishFault : MethodName := ⟨RX6, "finishFault", "(I)I"⟩
abbrev cX6_finish : ByteArray := prog_8_method_31_code
def yX6_finish : MethodName := ⟨RX6, "finish", "(I)I"⟩
abbrev cX6_close : ByteArray := prog_8_method_32_code
def yX6_close : MethodName := ⟨RX6, "close", "(I)I"⟩
abbrev cX6_tell : ByteArray := prog_8_method_33_code
def yX6_tell : MethodName := ⟨RX6, "tell", "(I)V"⟩
abbrev cX6_idlest : ByteArray := prog_8_method_34_code
def yX6_idlest : MethodName := ⟨RX6, "idlest", "()I"⟩
abbrev cX6_opens : ByteArray := prog_8_method_35_code
def yX6_opens : MethodName := ⟨RX6, "opens", "(I)Z"⟩
abbrev cX6_lookAt : ByteArray := prog_8_method_36_code
def yX6_lookAt : MethodName := ⟨RX6, "lookAt", "(I)I"⟩
abbrev cX6_lookAtAll : ByteArray := prog_8_method_37_code
def yX6_lookAtAll : MethodName := ⟨RX6, "lookAtAll", "(I)V"⟩
abbrev cX6_tick : ByteArray := prog_8_method_38_code
def yX6_tick : MethodName := ⟨RX6, "tick", "()I"⟩
abbrev cX6_goBy : ByteArray := prog_8_method_39_code
def yX6_goBy : MethodName := ⟨RX6, "goBy", "(I)I"⟩
abbrev cX6_pass : ByteArray := prog_8_method_40_code
def yX6_pass : MethodName := ⟨RX6, "pass", "(I)I"⟩
abbrev cX6_sign : ByteArray := prog_8_method_41_code
def yX6_sign : MethodName := ⟨RX6, "sign", "(II)I"⟩
abbrev cX6_order : ByteArray := prog_8_method_42_code
def yX6_order : MethodName := ⟨RX6, "order", "()V"⟩
abbrev cX6_does : ByteArray := prog_8_method_43_code
def yX6_does : MethodName := ⟨RX6, "does", "()I"⟩
abbrev cX6_go : ByteArray := prog_8_method_44_code
def yX6_go : MethodName := ⟨RX6, "go", "(Z)I"⟩
abbrev cX6_follow : ByteArray := prog_8_method_45_code
def yX6_follow : MethodName := ⟨RX6, "follow", "()I"⟩
abbrev cX6_type : ByteArray := prog_8_method_46_code
def yX6_type : MethodName := ⟨RX6, "type", "(C)I"⟩
abbrev cX6_clearText : ByteArray := prog_8_method_47_code
def yX6_clearText : MethodName := ⟨RX6, "clearText", "()I"⟩
abbrev cX6_undo : ByteArray := prog_8_method_48_code
def yX6_undo : MethodName := ⟨RX6, "undo", "()I"⟩
abbrev cX6_keep : ByteArray := prog_8_method_49_code
def yX6_keep : MethodName := ⟨RX6, "keep", "()I"⟩
abbrev cX6_restore : ByteArray := prog_8_method_50_code
def yX6_restore : MethodName := ⟨RX6, "restore", "()I"⟩
abbrev cX6_read : ByteArray := prog_8_method_51_code
def yX6_read : MethodName := ⟨RX6, "read", "(II)I"⟩
abbrev cX6_zone : ByteArray := prog_8_method_52_code
def yX6_zone : MethodName := ⟨RX6, "zone", "(II)I"⟩
abbrev cX6_appended : ByteArray := prog_8_method_53_code
def yX6_appended : MethodName := ⟨RX6, "appended", "(II)I"⟩
abbrev cX6_writer : ByteArray := prog_8_method_54_code
def yX6_writer : MethodName := ⟨RX6, "writer", "(II)I"⟩
abbrev cX6_told : ByteArray := prog_8_method_55_code
def yX6_told : MethodName := ⟨RX6, "told", "(I)I"⟩
abbrev cX6_ticksOf : ByteArray := prog_8_method_56_code
def yX6_ticksOf : MethodName := ⟨RX6, "ticksOf", "(I)I"⟩
abbrev cX6_toldIn : ByteArray := prog_8_method_57_code
def yX6_toldIn : MethodName := ⟨RX6, "toldIn", "(I)I"⟩
abbrev cX6_would : ByteArray := prog_8_method_58_code
def yX6_would : MethodName := ⟨RX6, "would", "(II)I"⟩
abbrev cX6_count : ByteArray := prog_8_method_59_code
def yX6_count : MethodName := ⟨RX6, "count", "(I)I"⟩
def RJ10 : String := "java/lang/System"
def TJ10 : u_T := fun k => match k with
  | _ => ("", "", "", false)
def tyJ10 : Nat → FieldType := fun k => match k with
  | _ => .int
abbrev wsJ100 : List Cond := u_ws RJ10 TJ10 0
theorem nmJ10 : ∀ a, a < 0 → ∀ b, b < 0 → a ≠ b → (TJ10 a).2.1 ≠ (TJ10 b).2.1 := by decide +kernel
theorem tyJ10_ok : ∀ k, k < 0 → parseFieldDescriptor (TJ10 k).2.2.1 = some (tyJ10 k) := by decide +kernel
def RL : String := "AppendZonesLaw"
abbrev cL_law : ByteArray := code
def yL_law : MethodName := ⟨RL, "law", "([I)Z"⟩
abbrev vwCl : List vw_C := [(RX0, TX0, 13), (RX1, TX1, 3), (RX2, TX2, 2), (RX3, TX3, 8), (RX4, TX4, 11), (RX5, TX5, 6), (RX6, TX6, 15)]
end
section
/-! THE LAYER: one world for a whole run; cell i of it lies at the address S0 + i. A judgement XG over a state of any type, of which HP tells the cells. -/
def goodTbl : List Cond := lw_tbl.filter goodWord
theorem mem_good {w : Cond} (i : Nat) (h : lw_tbl[i]? = some w) (hg : goodWord w = true) : w ∈ goodTbl := List.mem_filter.mpr ⟨List.mem_of_getElem? h, hg⟩
theorem good_all : ∀ w ∈ goodTbl, (w.onTables && w.keeps) = true ∨ ∃ ty, w = .arrayClass ty := fun _ h => good_of_word (List.mem_filter.mp h).2
theorem goodIn_cons {w : Cond} (h : w ∈ goodTbl) : GoodIn goodTbl (w :: goodTbl) := fun x hx => by
  rcases List.mem_cons.mp hx with e | hx
  · subst e; exact ⟨h, good_all _ h⟩
  · exact ⟨hx, good_all _ hx⟩
/-- the words of calls between nest mates: they are no words of the tables that keep of themselves -/
def nestL : List (String × Nat × MethodName) := [(RX3, 11, yX0_init), (RX3, 20, yX4_init)]
-- worlds
def hset (h : Nat → va_E) (i : Nat) (v : va_E) : Nat → va_E := fun j => if j = i then v else h j
def xw (S0 c : Nat) (h : Nat → va_E) : va_W := (List.range c).map (fun i => (S0 + i, h i))
theorem xw_get {S0 c i : Nat} {h : Nat → va_E} (hi : i < c) : (xw S0 c h)[i]? = some (S0 + i, h i) := by
  unfold xw
  rw [List.getElem?_map, List.getElem?_range hi]
  rfl
theorem xw_lt {S0 c k : Nat} {h : Nat → va_E} {q : Nat × va_E} (hq : (xw S0 c h)[k]? = some q) : k < c ∧ q = (S0 + k, h k) := by
  have hk : k < c := by
    have := (List.getElem?_eq_some_iff.mp hq).1
    simpa [xw] using this
  rw [xw_get hk] at hq
  exact ⟨hk, (Option.some.inj hq).symm⟩
theorem xw_none {S0 c k : Nat} {h : Nat → va_E} (hk : c ≤ k) : (xw S0 c h)[k]? = none := by
  rw [List.getElem?_eq_none_iff]
  simpa [xw] using hk
theorem xw_set {S0 c i : Nat} {h : Nat → va_E} {v : va_E} (hi : i < c) : (xw S0 c h).set i (S0 + i, v) = xw S0 c (hset h i v) := by
  apply List.ext_getElem?
  intro k
  rcases Nat.lt_or_ge k c with hk | hk
  · rw [xw_get hk]
    by_cases hki : k = i
    · subst hki
      rw [List.getElem?_set_self (by simpa [xw] using hk)]
      simp [hset]
    · rw [List.getElem?_set_ne (Ne.symm hki), xw_get hk]
      simp [hset, hki]
  · rw [xw_none hk, List.getElem?_eq_none_iff]
    simpa [xw] using hk
theorem xw_push {S0 c : Nat} {h : Nat → va_E} {v : va_E} : xw S0 c h ++ [(S0 + c, v)] = xw S0 (c + 1) (hset h c v) := by
  apply List.ext_getElem?
  intro k
  have hlen : (xw S0 c h).length = c := by simp [xw]
  rcases Nat.lt_or_ge k c with hk | hk
  · rw [List.getElem?_append_left (by rw [hlen]; exact hk), xw_get hk, xw_get (Nat.lt_succ_of_lt hk)]
    simp [hset, Nat.ne_of_lt hk]
  · rw [List.getElem?_append_right (by rw [hlen]; exact hk), hlen]
    rcases Nat.eq_or_lt_of_le hk with rfl | hk2
    · rw [xw_get (Nat.lt_succ_self _)]
      simp [hset]
    · rw [xw_none hk2, List.getElem?_eq_none_iff]
      simp
      omega
def XA (S0 : Nat) : Nat → Prop := fun q => S0 ≤ q
theorem xw_D {S0 c : Nat} {h : Nat → va_E} : va_D (XA S0) (xw S0 c h) := by
  refine ⟨fun i j p q hp hq e => ?_, fun k q hq => ?_⟩
  · obtain ⟨-, rfl⟩ := xw_lt hp
    obtain ⟨-, rfl⟩ := xw_lt hq
    exact Nat.add_left_cancel e
  · obtain ⟨-, rfl⟩ := xw_lt hq
    exact Nat.le_add_right _ _
def XW (G : va_G) (S0 c : Nat) (h : Nat → va_E) (H : Heap) : Prop := H.size = S0 + c ∧ va_P G vwCl (xw S0 c h) H
theorem XW.set {G : va_G} {S0 c i : Nat} {h : Nat → va_E} {v : va_E} {H H1 : Heap} (hs : H1.size = S0 + c) (hi : i < c) (hP : va_P G vwCl ((xw S0 c h).set i (S0 + i, v)) H1) : XW G S0 c (hset h i v) H1 := ⟨hs, by rw [← xw_set hi]; exact hP⟩
/-- what of the machine's tables is carried from method to method -/
def XK (G : va_G) (tys : List (ClassId × FieldType)) (U : State) : Prop := va_K G vwCl tys U ∧ (∀ q ∈ nestL, va_Nw (.methodLinkNest q.1 q.2.1 q.2.2 "AppendZones") U) ∧ va_AO "AppendZones$State" U
theorem XK.moved {G : va_G} {tys : List (ClassId × FieldType)} {s U : State} (hW : s.WarmedH U.vm) (h : XK G tys s) : XK G tys U :=
  ⟨va_K.moved hW.alike h.1, fun q hq => va_Nw.warmM hW (h.2.1 q hq), va_AO.moved hW.alike h.2.2⟩
theorem XK.calling {G : va_G} {tys : List (ClassId × FieldType)} {U : State} {g : JFrame} {mk : MethodId} {a : Array Value} (h : XK G tys U) : XK G tys (U.calling g mk a) :=
  ⟨va_K.moved (u := U) (U := U.calling g mk a) (Vm.Alike.refl U.vm) h.1, fun q hq => va_Nw.same rfl rfl (h.2.1 q hq), va_AO.moved (u := U) (U := U.calling g mk a) (Vm.Alike.refl U.vm) h.2.2⟩
/-- a method's end: what it answers, and the world behind it -/
def XQ (G : va_G) (S0 c2 : Nat) (rv : Option Value) (h2 : Nat → va_E) : Array Value → State → Outcome → State → Prop := fun _ st oc t => oc = .returned rv ∧ XW G S0 c2 h2 t.heap ∧ ∀ q, q < S0 → t.heap[q]? = st.heap[q]?
/-- the contract of a method at one state: from the cells h1 it comes to the cells h2, and answers rv -/
def XMet (l : Launch) (G : va_G) (tys : List (ClassId × FieldType)) (S0 c : Nat) (y : MethodName) (bytes : ByteArray) (maxL : Nat) (ret : Option FieldType) (F L : Nat) (av : List Value) (h1 : Nat → va_E) (c2 : Nat) (rv : Option Value) (h2 : Nat → va_E) (mc ms : Nat) : Prop :=
  Met l y (.code y bytes maxL ret :: goodTbl) { frames := F, cells := mc, slots := ms, locals := L } (va_Pc av (fun U => XW G S0 c h1 U.heap ∧ XK G tys U)) (XQ G S0 c2 rv h2) mc ms (XA S0)
-- the fixed things of a method's body
def XCtx (ST : Type) : Type := Program × Launch × Env × Room × State × MethodId × Array Value × List Frame × Method × Code × Nat × va_G × List (ClassId × FieldType) × Nat × (ST → Nat) × (ST → Nat → va_E) × (ST → Nat) × (ST → Nat) × (State → Prop)
section CTX
variable {ST : Type}
def XCtx.p (κ : XCtx ST) : Program := κ.1
def XCtx.l (κ : XCtx ST) : Launch := κ.2.1
def XCtx.e (κ : XCtx ST) : Env := κ.2.2.1
def XCtx.R (κ : XCtx ST) : Room := κ.2.2.2.1
def XCtx.s (κ : XCtx ST) : State := κ.2.2.2.2.1
def XCtx.m (κ : XCtx ST) : MethodId := κ.2.2.2.2.2.1
def XCtx.args (κ : XCtx ST) : Array Value := κ.2.2.2.2.2.2.1
def XCtx.below (κ : XCtx ST) : List Frame := κ.2.2.2.2.2.2.2.1
def XCtx.meth (κ : XCtx ST) : Method := κ.2.2.2.2.2.2.2.2.1
def XCtx.c (κ : XCtx ST) : Code := κ.2.2.2.2.2.2.2.2.2.1
def XCtx.nL (κ : XCtx ST) : Nat := κ.2.2.2.2.2.2.2.2.2.2.1
def XCtx.G (κ : XCtx ST) : va_G := κ.2.2.2.2.2.2.2.2.2.2.2.1
def XCtx.tys (κ : XCtx ST) : List (ClassId × FieldType) := κ.2.2.2.2.2.2.2.2.2.2.2.2.1
def XCtx.S0 (κ : XCtx ST) : Nat := κ.2.2.2.2.2.2.2.2.2.2.2.2.2.1
def XCtx.HC (κ : XCtx ST) : ST → Nat := κ.2.2.2.2.2.2.2.2.2.2.2.2.2.2.1
def XCtx.HP (κ : XCtx ST) : ST → Nat → va_E := κ.2.2.2.2.2.2.2.2.2.2.2.2.2.2.2.1
def XCtx.K (κ : XCtx ST) : ST → Nat := κ.2.2.2.2.2.2.2.2.2.2.2.2.2.2.2.2.1
def XCtx.N (κ : XCtx ST) : ST → Nat := κ.2.2.2.2.2.2.2.2.2.2.2.2.2.2.2.2.2.1
def XCtx.Q (κ : XCtx ST) : State → Prop := κ.2.2.2.2.2.2.2.2.2.2.2.2.2.2.2.2.2.2
end CTX
/-- what holds all through a method's body: the machine, the code, the tables -/
def XC {ST : Type} (κ : XCtx ST) (cc : ByteArray) (nL : Nat) (own : String) (ret : Option FieldType) (F L : Nat) : Prop :=
  κ.p.tables.exec = Jvm.exec ∧ κ.c.code = cc ∧ κ.c.maxLocals = nL ∧ κ.nL = nL ∧ κ.s.vm.findClass own = some κ.m.cls ∧ (∀ w ∈ goodTbl, w.before κ.args κ.s = true) ∧ XK κ.G κ.tys κ.s ∧ κ.S0 ≤ κ.s.heap.size ∧ κ.meth.locks = false ∧ κ.meth.sig.returnType = ret ∧ F ≤ κ.R.frames ∧ L ≤ κ.R.locals
def XR {ST : Type} (κ : XCtx ST) (c2 : Nat) (rv : Option Value) (h2 : Nat → va_E) (mc ms : Nat) : Prop := κ.Q = MQ κ.below (XQ κ.G κ.S0 c2 rv h2) κ.args κ.s mc ms (XA κ.S0)
/-- the judgement: from the state σ, the frame at pc with the locals lv and the stack st comes to its goal -/
def XG {ST : Type} (κ : XCtx ST) (σ : ST) (pc : Nat) (lv : List (Nat × Value)) (st : List Value) : Prop :=
  ∀ (H : Heap) (locs : List Loc) (ls : Array Slot), XW κ.G κ.S0 (κ.HC σ) (κ.HP σ) H → va_S (XA κ.S0) κ.s.heap H locs → lv_has ls κ.nL lv → W κ.p κ.l κ.e κ.R κ.s κ.m κ.args κ.below κ.meth κ.c H locs (κ.K σ) (κ.N σ) κ.Q (F0 κ.m pc ls st)
-- the shallow words
def oA {α : Type} (n : Nat) (f : Nat → Int32) (j : Int32) (k : Int32 → Option α) : Option α := if ¬ (j < 0 ∨ n ≤ j.toNatClampNeg) then k (f j.toNatClampNeg) else none
def oS {ST α : Type} (n : Nat) (f : Nat → Int32) (j x : Int32) (w : (Nat → Int32) → ST) (k : ST → Option α) : Option α := if ¬ (j < 0 ∨ n ≤ j.toNatClampNeg) then k (w (upd f j.toNatClampNeg x)) else none
def oN {ST α : Type} (v : Int32) (w : Int32 → ST) (k : ST → Option α) : Option α := k (w v)
def oZ {ST α : Type} (v : Int32) (w : Int32 → ST) (k : ST → Option α) : Option α := if v = 0 ∨ v = 1 then k (w v) else none
def oR {β α : Type} (x : Option β) (k : β → Option α) : Option α := match x with
  | none => none
  | some r => k r
def oW {ST ST' α : Type} (x : Option (Int32 × ST')) (w : ST' → ST) (k : Int32 → ST → Option α) : Option α := match x with
  | none => none
  | some r => k r.1 (w r.2)
def oV {ST ST' α : Type} (x : Option ST') (w : ST' → ST) (k : ST → Option α) : Option α := match x with
  | none => none
  | some r => k (w r)
def oJ {κ α : Type} (r : κ) (b : κ → Option α) : Option α := b r
def oB (v : Int32) : Option Int32 := if v = 0 ∨ v = 1 then some v else none
def oC (v : Int32) : Option Int32 := if vp_nar .char v = v then some v else none
section ROWS
variable {ST α : Type} {κ : XCtx ST} {cc : ByteArray} {nL : Nat} {own : String} {ret : Option FieldType} {F L pc : Nat} {σ : ST} {lv lv' : List (Nat × Value)} {st : List Value} {res : α}
theorem x_iconst (X : XC κ cc nL own ret F L) {n : Int} {v : Int32} (hd : decode cc pc = .ok (.iconst n, 1)) (hv : Int32.ofInt n = v) (kk : XG κ σ (pc + 1) lv (.int v :: st)) : XG κ σ pc lv st :=
  fun H locs ls hW hS hl => lv_iconst X.1 X.2.1 hd hv (kk H locs ls hW hS hl)
theorem x_bipush (X : XC κ cc nL own ret F L) {n : Int} {v : Int32} (hd : decode cc pc = .ok (.bipush n, 2)) (hv : (Int8.ofInt n).toInt32 = v) (kk : XG κ σ (pc + 2) lv (.int v :: st)) : XG κ σ pc lv st :=
  fun H locs ls hW hS hl => lv_bipush X.1 X.2.1 hd hv (kk H locs ls hW hS hl)
theorem x_sipush (X : XC κ cc nL own ret F L) {n : Int} {v : Int32} (hd : decode cc pc = .ok (.sipush n, 3)) (hv : (Int16.ofInt n).toInt32 = v) (kk : XG κ σ (pc + 3) lv (.int v :: st)) : XG κ σ pc lv st :=
  fun H locs ls hW hS hl => lv_sipush X.1 X.2.1 hd hv (kk H locs ls hW hS hl)
theorem x_iload_n (X : XC κ cc nL own ret F L) {k : Fin 4} {i : Nat} {x : Int32} (hd : decode cc pc = .ok (.iload_n k, 1)) (hi : (k : Nat) = i) (q : Nat) (hq : lv[q]? = some (i, .int x)) (kk : XG κ σ (pc + 1) lv (.int x :: st)) : XG κ σ pc lv st :=
  fun H locs ls hW hS hl => lv_iload_n X.1 X.2.1 hd hi (lv_at hl q hq) (kk H locs ls hW hS hl)
theorem x_iload (X : XC κ cc nL own ret F L) {i : Nat} {x : Int32} (hd : decode cc pc = .ok (.iload i, 2)) (q : Nat) (hq : lv[q]? = some (i, .int x)) (kk : XG κ σ (pc + 2) lv (.int x :: st)) : XG κ σ pc lv st :=
  fun H locs ls hW hS hl => lv_iload X.1 X.2.1 hd (lv_at hl q hq) (kk H locs ls hW hS hl)
theorem x_aload_n (X : XC κ cc nL own ret F L) {k : Fin 4} {i x : Nat} (hd : decode cc pc = .ok (.aload_n k, 1)) (hi : (k : Nat) = i) (q : Nat) (hq : lv[q]? = some (i, .ref x)) (kk : XG κ σ (pc + 1) lv (.ref x :: st)) : XG κ σ pc lv st :=
  fun H locs ls hW hS hl => lv_aload_n X.1 X.2.1 hd hi (lv_at hl q hq) (kk H locs ls hW hS hl)
theorem x_istore_n (X : XC κ cc nL own ret F L) {k : Fin 4} {i : Nat} {x : Int32} (hd : decode cc pc = .ok (.istore_n k, 1)) (hi : (k : Nat) = i) (hn : i < nL) (hl' : (i, Value.int x) :: lv.filter (fun q => !(q.1 == i) && !(q.1 + 1 == i && q.2.category == 2)) = lv') (kk : XG κ σ (pc + 1) lv' st) : XG κ σ pc lv (.int x :: st) :=
  fun H locs ls hW hS hl => lv_istore_n X.1 X.2.1 hd hi hl (by rw [X.2.2.2.1]; exact hn) hl' (fun ls' h' => kk H locs ls' hW hS h')
theorem x_istore (X : XC κ cc nL own ret F L) {i : Nat} {x : Int32} (hd : decode cc pc = .ok (.istore i, 2)) (hn : i < nL) (hl' : (i, Value.int x) :: lv.filter (fun q => !(q.1 == i) && !(q.1 + 1 == i && q.2.category == 2)) = lv') (kk : XG κ σ (pc + 2) lv' st) : XG κ σ pc lv (.int x :: st) :=
  fun H locs ls hW hS hl => lv_istore X.1 X.2.1 hd hl (by rw [X.2.2.2.1]; exact hn) hl' (fun ls' h' => kk H locs ls' hW hS h')
theorem x_astore_n (X : XC κ cc nL own ret F L) {k : Fin 4} {i x : Nat} (hd : decode cc pc = .ok (.astore_n k, 1)) (hi : (k : Nat) = i) (hn : i < nL) (hl' : (i, Value.ref x) :: lv.filter (fun q => !(q.1 == i) && !(q.1 + 1 == i && q.2.category == 2)) = lv') (kk : XG κ σ (pc + 1) lv' st) : XG κ σ pc lv (.ref x :: st) :=
  fun H locs ls hW hS hl => lv_astore_n X.1 X.2.1 hd hi hl (by rw [X.2.2.2.1]; exact hn) hl' (fun ls' h' => kk H locs ls' hW hS h')
theorem x_iinc (X : XC κ cc nL own ret F L) {i : Nat} {n : Int} {x v : Int32} (hd : decode cc pc = .ok (.iinc i n, 3)) (q : Nat) (hq : lv[q]? = some (i, .int x)) (hv : x + Int32.ofInt n = v) (hn : i < nL) (hl' : (i, Value.int v) :: lv.filter (fun q => !(q.1 == i) && !(q.1 + 1 == i && q.2.category == 2)) = lv') (kk : XG κ σ (pc + 3) lv' st) : XG κ σ pc lv st :=
  fun H locs ls hW hS hl => lv_iinc X.1 X.2.1 hd hl hq hv (by rw [X.2.2.2.1]; exact hn) hl' (fun ls' h' => kk H locs ls' hW hS h')
theorem x_sub (ks : List Nat) (hl' : lv_pick lv ks = lv') (kk : XG κ σ pc lv' st) : XG κ σ pc lv st :=
  fun H locs ls hW hS hl => kk H locs ls hW hS (lv_sub hl ks hl')
theorem x_iadd (X : XC κ cc nL own ret F L) {x y : Int32} (hd : decode cc pc = .ok (.iadd, 1)) (kk : XG κ σ (pc + 1) lv (.int (x + y) :: st)) : XG κ σ pc lv (.int y :: .int x :: st) :=
  fun H locs ls hW hS hl => lv_iadd X.1 X.2.1 hd (kk H locs ls hW hS hl)
theorem x_isub (X : XC κ cc nL own ret F L) {x y : Int32} (hd : decode cc pc = .ok (.isub, 1)) (kk : XG κ σ (pc + 1) lv (.int (x - y) :: st)) : XG κ σ pc lv (.int y :: .int x :: st) :=
  fun H locs ls hW hS hl => lv_isub X.1 X.2.1 hd (kk H locs ls hW hS hl)
theorem x_imul (X : XC κ cc nL own ret F L) {x y : Int32} (hd : decode cc pc = .ok (.imul, 1)) (kk : XG κ σ (pc + 1) lv (.int (x * y) :: st)) : XG κ σ pc lv (.int y :: .int x :: st) :=
  fun H locs ls hW hS hl => lv_imul X.1 X.2.1 hd (kk H locs ls hW hS hl)
theorem x_iand (X : XC κ cc nL own ret F L) {x y : Int32} (hd : decode cc pc = .ok (.iand, 1)) (kk : XG κ σ (pc + 1) lv (.int (x &&& y) :: st)) : XG κ σ pc lv (.int y :: .int x :: st) :=
  fun H locs ls hW hS hl => lv_iand X.1 X.2.1 hd (kk H locs ls hW hS hl)
theorem x_ior (X : XC κ cc nL own ret F L) {x y : Int32} (hd : decode cc pc = .ok (.ior, 1)) (kk : XG κ σ (pc + 1) lv (.int (x ||| y) :: st)) : XG κ σ pc lv (.int y :: .int x :: st) :=
  fun H locs ls hW hS hl => lv_ior X.1 X.2.1 hd (kk H locs ls hW hS hl)
theorem x_irem (X : XC κ cc nL own ret F L) {x y : Int32} (hd : decode cc pc = .ok (.irem, 1)) (hne : ¬ y = 0) (kk : XG κ σ (pc + 1) lv (.int (x - x / y * y) :: st)) : XG κ σ pc lv (.int y :: .int x :: st) :=
  fun H locs ls hW hS hl => lv_irem X.1 X.2.1 hd hne (kk H locs ls hW hS hl)
theorem x_ishl (X : XC κ cc nL own ret F L) {x y : Int32} (hd : decode cc pc = .ok (.ishl, 1)) (kk : XG κ σ (pc + 1) lv (.int (x <<< (y &&& 31)) :: st)) : XG κ σ pc lv (.int y :: .int x :: st) :=
  fun H locs ls hW hS hl => lv_ishl X.1 X.2.1 hd (kk H locs ls hW hS hl)
theorem x_i2c (X : XC κ cc nL own ret F L) {x : Int32} (hd : decode cc pc = .ok (.i2c, 1)) (kk : XG κ σ (pc + 1) lv (.int (x.toUInt32 % 65536).toInt32 :: st)) : XG κ σ pc lv (.int x :: st) :=
  fun H locs ls hW hS hl => lv_i2c X.1 X.2.1 hd rfl (kk H locs ls hW hS hl)
theorem x_dup (X : XC κ cc nL own ret F L) {v : Value} (hd : decode cc pc = .ok (.dup, 1)) (hv : v.category = 1) (kk : XG κ σ (pc + 1) lv (v :: v :: st)) : XG κ σ pc lv (v :: st) :=
  fun H locs ls hW hS hl => lv_dup X.1 X.2.1 hd hv (kk H locs ls hW hS hl)
theorem x_dup2 (X : XC κ cc nL own ret F L) {v w : Value} (hd : decode cc pc = .ok (.dup2, 1)) (hv : v.category = 1) (hw : w.category = 1) (kk : XG κ σ (pc + 1) lv (v :: w :: v :: w :: st)) : XG κ σ pc lv (v :: w :: st) :=
  fun H locs ls hW hS hl => lv_dup2_11 X.1 X.2.1 hd hv hw (kk H locs ls hW hS hl)
theorem x_pop (X : XC κ cc nL own ret F L) {v : Value} (hd : decode cc pc = .ok (.pop, 1)) (hv : v.category = 1) (kk : XG κ σ (pc + 1) lv st) : XG κ σ pc lv (v :: st) :=
  fun H locs ls hW hS hl => lv_pop X.1 X.2.1 hd hv (kk H locs ls hW hS hl)
theorem x_goto (X : XC κ cc nL own ret F L) {off : Int} {tgt : Nat} (hd : decode cc pc = .ok (.goto off, 3)) (ht : (pc : Int) + off = (tgt : Int)) (kk : XG κ σ tgt lv st) : XG κ σ pc lv st :=
  fun H locs ls hW hS hl => lv_goto X.1 X.2.1 hd ht (kk H locs ls hW hS hl)
-- branches: the shallow word's own 'if' goes along
theorem x_if {P : Prop} [Decidable P] {a b : Option α} {G : Prop} (hf : (if P then a else b) = some res) (kt : P → a = some res → G) (kf : ¬ P → b = some res → G) : G := by
  by_cases h : P
  · rw [if_pos h] at hf; exact kt h hf
  · rw [if_neg h] at hf; exact kf h hf
theorem x_if_eq (X : XC κ cc nL own ret F L) {x : Int32} {off : Int} {tgt : Nat} {a b : Option α} (hd : decode cc pc = .ok (.ifCond .eq off, 3)) (ht : (pc : Int) + off = (tgt : Int)) (hf : (if x = 0 then a else b) = some res) (kt : a = some res → XG κ σ tgt lv st) (kf : b = some res → XG κ σ (pc + 3) lv st) : XG κ σ pc lv (.int x :: st) :=
  fun H locs ls hW hS hl => lv_if_eq X.1 X.2.1 hd ht (fun h => kt (by rwa [if_pos h] at hf) H locs ls hW hS hl) (fun h => kf (by rwa [if_neg h] at hf) H locs ls hW hS hl)
theorem x_if_ne (X : XC κ cc nL own ret F L) {x : Int32} {off : Int} {tgt : Nat} {a b : Option α} (hd : decode cc pc = .ok (.ifCond .ne off, 3)) (ht : (pc : Int) + off = (tgt : Int)) (hf : (if x = 0 then b else a) = some res) (kt : a = some res → XG κ σ tgt lv st) (kf : b = some res → XG κ σ (pc + 3) lv st) : XG κ σ pc lv (.int x :: st) :=
  fun H locs ls hW hS hl => lv_if_ne X.1 X.2.1 hd ht (fun h => kt (by rwa [if_neg h] at hf) H locs ls hW hS hl) (fun h => kf (by rwa [if_pos h] at hf) H locs ls hW hS hl)
theorem x_if_lt (X : XC κ cc nL own ret F L) {x : Int32} {off : Int} {tgt : Nat} {a b : Option α} (hd : decode cc pc = .ok (.ifCond .lt off, 3)) (ht : (pc : Int) + off = (tgt : Int)) (hf : (if x < 0 then a else b) = some res) (kt : a = some res → XG κ σ tgt lv st) (kf : b = some res → XG κ σ (pc + 3) lv st) : XG κ σ pc lv (.int x :: st) :=
  fun H locs ls hW hS hl => lv_if_lt X.1 X.2.1 hd ht (fun h => kt (by rwa [if_pos h] at hf) H locs ls hW hS hl) (fun h => kf (by rwa [if_neg h] at hf) H locs ls hW hS hl)
theorem x_if_ge (X : XC κ cc nL own ret F L) {x : Int32} {off : Int} {tgt : Nat} {a b : Option α} (hd : decode cc pc = .ok (.ifCond .ge off, 3)) (ht : (pc : Int) + off = (tgt : Int)) (hf : (if 0 ≤ x then a else b) = some res) (kt : a = some res → XG κ σ tgt lv st) (kf : b = some res → XG κ σ (pc + 3) lv st) : XG κ σ pc lv (.int x :: st) :=
  fun H locs ls hW hS hl => lv_if_ge X.1 X.2.1 hd ht (fun h => kt (by rwa [if_pos h] at hf) H locs ls hW hS hl) (fun h => kf (by rwa [if_neg h] at hf) H locs ls hW hS hl)
theorem x_if_gt (X : XC κ cc nL own ret F L) {x : Int32} {off : Int} {tgt : Nat} {a b : Option α} (hd : decode cc pc = .ok (.ifCond .gt off, 3)) (ht : (pc : Int) + off = (tgt : Int)) (hf : (if 0 < x then a else b) = some res) (kt : a = some res → XG κ σ tgt lv st) (kf : b = some res → XG κ σ (pc + 3) lv st) : XG κ σ pc lv (.int x :: st) :=
  fun H locs ls hW hS hl => lv_if_gt X.1 X.2.1 hd ht (fun h => kt (by rwa [if_pos h] at hf) H locs ls hW hS hl) (fun h => kf (by rwa [if_neg h] at hf) H locs ls hW hS hl)
theorem x_if_le (X : XC κ cc nL own ret F L) {x : Int32} {off : Int} {tgt : Nat} {a b : Option α} (hd : decode cc pc = .ok (.ifCond .le off, 3)) (ht : (pc : Int) + off = (tgt : Int)) (hf : (if x ≤ 0 then a else b) = some res) (kt : a = some res → XG κ σ tgt lv st) (kf : b = some res → XG κ σ (pc + 3) lv st) : XG κ σ pc lv (.int x :: st) :=
  fun H locs ls hW hS hl => lv_if_le X.1 X.2.1 hd ht (fun h => kt (by rwa [if_pos h] at hf) H locs ls hW hS hl) (fun h => kf (by rwa [if_neg h] at hf) H locs ls hW hS hl)
theorem x_icmp_eq (X : XC κ cc nL own ret F L) {x y : Int32} {off : Int} {tgt : Nat} {a b : Option α} (hd : decode cc pc = .ok (.if_icmp .eq off, 3)) (ht : (pc : Int) + off = (tgt : Int)) (hf : (if x = y then a else b) = some res) (kt : a = some res → XG κ σ tgt lv st) (kf : b = some res → XG κ σ (pc + 3) lv st) : XG κ σ pc lv (.int y :: .int x :: st) :=
  fun H locs ls hW hS hl => lv_icmp_eq X.1 X.2.1 hd ht (fun h => kt (by rwa [if_pos h] at hf) H locs ls hW hS hl) (fun h => kf (by rwa [if_neg h] at hf) H locs ls hW hS hl)
theorem x_icmp_ne (X : XC κ cc nL own ret F L) {x y : Int32} {off : Int} {tgt : Nat} {a b : Option α} (hd : decode cc pc = .ok (.if_icmp .ne off, 3)) (ht : (pc : Int) + off = (tgt : Int)) (hf : (if x = y then b else a) = some res) (kt : a = some res → XG κ σ tgt lv st) (kf : b = some res → XG κ σ (pc + 3) lv st) : XG κ σ pc lv (.int y :: .int x :: st) :=
  fun H locs ls hW hS hl => lv_icmp_ne X.1 X.2.1 hd ht (fun h => kt (by rwa [if_neg h] at hf) H locs ls hW hS hl) (fun h => kf (by rwa [if_pos h] at hf) H locs ls hW hS hl)
theorem x_icmp_lt (X : XC κ cc nL own ret F L) {x y : Int32} {off : Int} {tgt : Nat} {a b : Option α} (hd : decode cc pc = .ok (.if_icmp .lt off, 3)) (ht : (pc : Int) + off = (tgt : Int)) (hf : (if x < y then a else b) = some res) (kt : a = some res → XG κ σ tgt lv st) (kf : b = some res → XG κ σ (pc + 3) lv st) : XG κ σ pc lv (.int y :: .int x :: st) :=
  fun H locs ls hW hS hl => lv_icmp_lt X.1 X.2.1 hd ht (fun h => kt (by rwa [if_pos h] at hf) H locs ls hW hS hl) (fun h => kf (by rwa [if_neg h] at hf) H locs ls hW hS hl)
theorem x_icmp_ge (X : XC κ cc nL own ret F L) {x y : Int32} {off : Int} {tgt : Nat} {a b : Option α} (hd : decode cc pc = .ok (.if_icmp .ge off, 3)) (ht : (pc : Int) + off = (tgt : Int)) (hf : (if y ≤ x then a else b) = some res) (kt : a = some res → XG κ σ tgt lv st) (kf : b = some res → XG κ σ (pc + 3) lv st) : XG κ σ pc lv (.int y :: .int x :: st) :=
  fun H locs ls hW hS hl => lv_icmp_ge X.1 X.2.1 hd ht (fun h => kt (by rwa [if_pos h] at hf) H locs ls hW hS hl) (fun h => kf (by rwa [if_neg h] at hf) H locs ls hW hS hl)
theorem x_icmp_gt (X : XC κ cc nL own ret F L) {x y : Int32} {off : Int} {tgt : Nat} {a b : Option α} (hd : decode cc pc = .ok (.if_icmp .gt off, 3)) (ht : (pc : Int) + off = (tgt : Int)) (hf : (if y < x then a else b) = some res) (kt : a = some res → XG κ σ tgt lv st) (kf : b = some res → XG κ σ (pc + 3) lv st) : XG κ σ pc lv (.int y :: .int x :: st) :=
  fun H locs ls hW hS hl => lv_icmp_gt X.1 X.2.1 hd ht (fun h => kt (by rwa [if_pos h] at hf) H locs ls hW hS hl) (fun h => kf (by rwa [if_neg h] at hf) H locs ls hW hS hl)
theorem x_icmp_le (X : XC κ cc nL own ret F L) {x y : Int32} {off : Int} {tgt : Nat} {a b : Option α} (hd : decode cc pc = .ok (.if_icmp .le off, 3)) (ht : (pc : Int) + off = (tgt : Int)) (hf : (if x ≤ y then a else b) = some res) (kt : a = some res → XG κ σ tgt lv st) (kf : b = some res → XG κ σ (pc + 3) lv st) : XG κ σ pc lv (.int y :: .int x :: st) :=
  fun H locs ls hW hS hl => lv_icmp_le X.1 X.2.1 hd ht (fun h => kt (by rwa [if_pos h] at hf) H locs ls hW hS hl) (fun h => kf (by rwa [if_neg h] at hf) H locs ls hW hS hl)
theorem x_tabIn (X : XC κ cc nL own ret F L) {dflt lo hi : Int} {offs : Array Int} {len : Nat} {x : Int32} {off : Int} {tgt : Nat} (hd : decode cc pc = .ok (.tableswitch dflt lo hi offs, len)) (h1 : ¬ x.toInt < lo) (h2 : ¬ hi < x.toInt) (ho : offs[(x.toInt - lo).toNat]? = some off) (ht : (pc : Int) + off = (tgt : Int)) (kk : XG κ σ tgt lv st) : XG κ σ pc lv (.int x :: st) :=
  fun H locs ls hW hS hl => lv_tableIn X.1 X.2.1 hd h1 h2 ho ht (kk H locs ls hW hS hl)
theorem x_tabOut (X : XC κ cc nL own ret F L) {dflt lo hi : Int} {offs : Array Int} {len : Nat} {x : Int32} {tgt : Nat} (hd : decode cc pc = .ok (.tableswitch dflt lo hi offs, len)) (h : x.toInt < lo ∨ hi < x.toInt) (ht : (pc : Int) + dflt = (tgt : Int)) (kk : XG κ σ tgt lv st) : XG κ σ pc lv (.int x :: st) :=
  fun H locs ls hW hS hl => lv_tableOut X.1 X.2.1 hd h ht (kk H locs ls hW hS hl)
theorem x_lookup (X : XC κ cc nL own ret F L) {dflt : Int} {ps : Array (Int × Int)} {len : Nat} {x : Int32} {off : Int} {tgt : Nat} (hd : decode cc pc = .ok (.lookupswitch dflt ps, len)) (hp : (ps.toList.zip (ps.toList.drop 1)).all (fun (a, next) => a.1 < next.1) = true) (ho : Op.lookupswitch.offset ps.toList dflt x.toInt = off) (ht : (pc : Int) + off = (tgt : Int)) (kk : XG κ σ tgt lv st) : XG κ σ pc lv (.int x :: st) :=
  fun H locs ls hW hS hl => lv_lookup X.1 X.2.1 hd hp ho ht (kk H locs ls hW hS hl)
theorem x_join {κ' : Type} {r : κ'} {b : κ' → Option α} {G : Prop} (P : κ' → Prop) (hf : oJ r b = some res) (h1 : P r) (h2 : ∀ k, P k → b k = some res → G) : G := h2 r h1 hf
-- fields
def FL (own : String) (index ci k : Nat) : Prop := ∃ (C : String) (T : u_T) (N : Nat), vwCl[ci]? = some (C, T, N) ∧ (∀ w ∈ u_ws C T N, w ∈ goodTbl) ∧ k < N ∧ Cond.fieldLink own index (T k).1 (T k).2.1 (T k).2.2.1 ∈ goodTbl
theorem x_getf (X : XC κ cc nL own ret F L) {index ci k i : Nat} (hF : FL own index ci k) {fs : List Value} {v : Value} (he : κ.HP σ i = .inr (ci, fs)) (hi : i < κ.HC σ) (hv : fs[k]? = some v) (hd : decode cc pc = .ok (.getfield index, 3)) (kk : XG κ σ (pc + 3) lv (v :: st)) : XG κ σ pc lv (.ref (κ.S0 + i) :: st) := by
  intro H locs ls hW hS hl
  obtain ⟨hx, hb, -, -, hown, hts, hK, -⟩ := X
  obtain ⟨C, T, N, hc, hin, hk, hlk⟩ := hF
  exact va_get hx hb hts hin hown hK.1 hW.2 i ((xw_get hi).trans (by rw [he])) hc k hk (hts _ hlk) (fun _ h => h) hv hd (kk H locs ls hW hS hl)
def FP (own : String) (index ci k : Nat) (ty : FieldType) (fin : Bool) : Prop := ∃ (C : String) (T : u_T) (N : Nat) (ty0 : Nat → FieldType), vwCl[ci]? = some (C, T, N) ∧ (∀ w ∈ u_ws C T N, w ∈ goodTbl) ∧ (∀ k, k < N → parseFieldDescriptor (T k).2.2.1 = some (ty0 k)) ∧ (∀ a, a < N → ∀ b, b < N → a ≠ b → (T a).2.1 ≠ (T b).2.1) ∧ k < N ∧ Cond.fieldLink own index (T k).1 (T k).2.1 (T k).2.2.1 ∈ goodTbl ∧ (T k).2.2.2 = fin ∧ (T k).1 = C ∧ parseFieldDescriptor (T k).2.2.1 = some ty
/-- behind a store into cell i -/
theorem XW.put {G : va_G} {S0 c i : Nat} {h : Nat → va_E} {v : va_E} {H H1 : Heap} (hW : XW G S0 c h H) (hi : i < c) (he : va_at G vwCl (S0 + i, v) H1) (hz : H1.size = H.size) (hq : ∀ q, q ≠ S0 + i → H1[q]? = H[q]?) : XW G S0 c (hset h i v) H1 :=
  ⟨hz.trans hW.1, by rw [← xw_set hi]; exact va_P.set hW.2 (xw_D (S0 := S0)) (xw_get hi) he hq⟩
theorem va_S.putA {S0 : Nat} {H0 H H1 : Heap} {locs : List Loc} {i k : Nat} (h : va_S (XA S0) H0 H locs) (z : H1.size = H.size) (oq : ∀ q : Nat, q ≠ S0 + i → H1[q]? = H[q]?) : va_S (XA S0) H0 H1 (locs ++ [⟨S0 + i, k⟩]) := va_S.put h z oq (Nat.le_add_right _ _)
theorem x_put0 (X : XC κ cc nL own ret F L) {index ci k i : Nat} {ty : FieldType} (hF : FP own index ci k ty false) {fs : List Value} {v : Value} (he : κ.HP σ i = .inr (ci, fs)) (hi : i < κ.HC σ) (hl0 : k < fs.length) (hn : narrow ty v = v) (hfit : fits ty v = true) (hd : decode cc pc = .ok (.putfield index, 3)) {σ1 : ST} (e1 : hset (κ.HP σ) i (.inr (ci, fs.set k v)) = κ.HP σ1) (e2 : κ.HC σ1 = κ.HC σ) (e3 : κ.K σ1 = κ.K σ) (e4 : κ.N σ1 = κ.N σ) (kk : XG κ σ1 (pc + 3) lv st) : XG κ σ pc lv (v :: .ref (κ.S0 + i) :: st) := by
  intro H locs ls hW hS hl
  obtain ⟨hx, hb, -, -, hown, hts, ⟨hK, -⟩, -⟩ := X
  obtain ⟨C, T, N, ty0, hc, hin, hty, hnm, hk, hlk, hfin, hdecl, hde⟩ := hF
  have hap := va_apart (own := own) hts hin ty0 hty hnm hK hc
  have hat := hW.2 i _ (xw_get hi)
  rw [he] at hat
  obtain ⟨r, h1, cell, q1, q2, q3, q4⟩ := hat
  have hr : r = (C, T, N) := Option.some.inj (h1.symm.trans hc)
  subst hr
  obtain ⟨hSl, hfc, kC, hkC, hkind⟩ := hK.1 ci _ hc
  obtain ⟨cf, kf, fi, f, hfi, hsl⟩ := hSl k hk
  have hlay := hts _ (hin _ (u_in_lay hk))
  unfold u_lay at hlay
  rw [if_neg (by rw [hfin]; decide)] at hlay
  have hst := (u_facts hfc hkC (u_lays hts hin hk) hfi).1
  have h6 := u_store hfc hkC hkind hlay hfi hde hn hfit
  refine W.putK hx hb (f := f) ⟨hown, hts _ hlk, ⟨_, _, _, hfi⟩, hst⟩ (by rw [q2]; exact h6) q1 q3 (by rw [hsl]; exact k2_hasslot (q4 k hk)) rfl rfl hd fun H1 g1 g2 g3 => ?_
  rw [hsl] at g1 ⊢
  have hW1 : XW κ.G κ.S0 (κ.HC σ) (hset (κ.HP σ) i (.inr (ci, fs.set k v))) H1 := hW.put hi ⟨_, hc, t_OB.to (V := updV (vp_V fs) k v) ⟨_, g1, q2, q3, t_set q4 hap hk v⟩ (fun j _ => vp_updV_set hl0 v j)⟩ g2 g3
  have hS1 := hS.putA (k := κ.G.2 ci k) g2 g3
  rw [e1, ← e2] at hW1
  have hg := kk H1 _ ls hW1 hS1 hl
  rw [e3, e4] at hg
  exact hg
theorem x_putF0 (X : XC κ cc nL own ret F L) {index ci k i : Nat} {ty : FieldType} (hF : FP own index ci k ty true) (hin2 : κ.meth.name = "<init>") (hownC : ∀ C T N, vwCl[ci]? = some (C, T, N) → C = own) {fs : List Value} {v : Value} (he : κ.HP σ i = .inr (ci, fs)) (hi : i < κ.HC σ) (hl0 : k < fs.length) (hn : narrow ty v = v) (hfit : fits ty v = true) (hd : decode cc pc = .ok (.putfield index, 3)) {σ1 : ST} (e1 : hset (κ.HP σ) i (.inr (ci, fs.set k v)) = κ.HP σ1) (e2 : κ.HC σ1 = κ.HC σ) (e3 : κ.K σ1 = κ.K σ) (e4 : κ.N σ1 = κ.N σ) (kk : XG κ σ1 (pc + 3) lv st) : XG κ σ pc lv (v :: .ref (κ.S0 + i) :: st) := by
  intro H locs ls hW hS hl
  obtain ⟨hx, hb, -, -, hown, hts, ⟨hK, -⟩, -⟩ := X
  obtain ⟨C, T, N, ty0, hc, hin, hty, hnm, hk, hlk, hfin, hdecl, hde⟩ := hF
  have hap := va_apart (own := own) hts hin ty0 hty hnm hK hc
  have hat := hW.2 i _ (xw_get hi)
  rw [he] at hat
  obtain ⟨r, h1, cell, q1, q2, q3, q4⟩ := hat
  have hr : r = (C, T, N) := Option.some.inj (h1.symm.trans hc)
  subst hr
  obtain ⟨hSl, hfc, kC, hkC, hkind⟩ := hK.1 ci _ hc
  obtain ⟨cf, kf, fi, f, hfi, hsl⟩ := hSl k hk
  have hlay := hts _ (hin _ (u_in_lay hk))
  unfold u_lay at hlay
  rw [if_pos hfin] at hlay
  have hst := (u_facts hfc hkC (u_lays hts hin hk) hfi).1
  have hcf : κ.m.cls = cf := by
    obtain ⟨_, _, c', _, _, _, -, -, hf', -, -, -, hown2, -⟩ := Cond.laysFinal_spec hlay
    have e1 : c' = cf := by have := hfi.symm.trans hf'; simp at this; exact this.1.symm
    rw [hdecl, hownC C T N hc] at hown2
    rw [← e1]; exact Option.some.inj (hown.symm.trans hown2)
  have h6 := u_fits hfc hkC hkind (Or.inr hlay) hfi hde hn hfit
  refine W.putFinK hx hb hown (hts _ hlk) hfi hst hcf hin2 (by rw [q2]; exact h6) q1 q3 (by rw [hsl]; exact k2_hasslot (q4 k hk)) rfl rfl hd fun H1 g1 g2 g3 => ?_
  rw [hsl] at g1 ⊢
  have hW1 : XW κ.G κ.S0 (κ.HC σ) (hset (κ.HP σ) i (.inr (ci, fs.set k v))) H1 := hW.put hi ⟨_, hc, t_OB.to (V := updV (vp_V fs) k v) ⟨_, g1, q2, q3, t_set q4 hap hk v⟩ (fun j _ => vp_updV_set hl0 v j)⟩ g2 g3
  have hS1 := hS.putA (k := κ.G.2 ci k) g2 g3
  rw [e1, ← e2] at hW1
  have hg := kk H1 _ ls hW1 hS1 hl
  rw [e3, e4] at hg
  exact hg
theorem x_iast0 (X : XC κ cc nL own ret F L) {i : Nat} {cA : ClassId} {n : Nat} {f : Nat → Int32} (t0 : Nat) (ht : κ.tys[t0]? = some (cA, .int)) (he : κ.HP σ i = .inl (cA, n, .inl f)) (hi : i < κ.HC σ) {j x : Int32} (hin : ¬ (j < 0 ∨ n ≤ j.toNatClampNeg)) (hd : decode cc pc = .ok (.iastore, 1)) {σ1 : ST} (e1 : hset (κ.HP σ) i (.inl (cA, n, .inl (upd f j.toNatClampNeg (x)))) = κ.HP σ1) (e2 : κ.HC σ1 = κ.HC σ) (e3 : κ.K σ1 = κ.K σ) (e4 : κ.N σ1 = κ.N σ) (kk : XG κ σ1 (pc + 1) lv st) : XG κ σ pc lv (.int x :: .int j :: .ref (κ.S0 + i) :: st) := by
  intro H locs ls hW hS hl
  obtain ⟨hx, hb, -, -, hown, hts, ⟨hK, -⟩, -⟩ := X
  have hat := hW.2 i _ (xw_get hi)
  rw [he] at hat
  refine W.iast hx hb hat ((hK.2 t0 _ ht).1 n (fun j => .int (f j))) (fun q => by cases q) (by show ¬ (j < 0 ∨ (arrV _ _ _).slots.size ≤ _); rw [arrV_size]; exact hin) rfl rfl hd fun H1 g1 g2 g3 => ?_
  have hW1 : XW κ.G κ.S0 (κ.HC σ) (hset (κ.HP σ) i (.inl (cA, n, .inl (upd f j.toNatClampNeg (x))))) H1 := by
    refine hW.put hi ?_ g2 g3
    show H1[κ.S0 + i]? = some (vp_cell _ _)
    rw [g1]
    rw [vp_cell_i, vp_cell_i, arrV_store]
    congr 2
    funext q
    by_cases hq : q = j.toNatClampNeg
    · subst hq
      simp [updV, upd, vp_nar]
      try rfl
    · simp [updV, upd, hq]
  have hS1 := hS.putA (k := j.toNatClampNeg) g2 g3
  rw [e1, ← e2] at hW1
  have hg := kk H1 _ ls hW1 hS1 hl
  rw [e3, e4] at hg
  exact hg
theorem x_zast0 (X : XC κ cc nL own ret F L) {i : Nat} {cA : ClassId} {n : Nat} {f : Nat → Int32} (t0 : Nat) (ht : κ.tys[t0]? = some (cA, .boolean)) (he : κ.HP σ i = .inl (cA, n, .inl f)) (hi : i < κ.HC σ) {j x : Int32} (hin : ¬ (j < 0 ∨ n ≤ j.toNatClampNeg)) (hd : decode cc pc = .ok (.bastore, 1)) {σ1 : ST} (e1 : hset (κ.HP σ) i (.inl (cA, n, .inl (upd f j.toNatClampNeg (vp_nar .boolean x)))) = κ.HP σ1) (e2 : κ.HC σ1 = κ.HC σ) (e3 : κ.K σ1 = κ.K σ) (e4 : κ.N σ1 = κ.N σ) (kk : XG κ σ1 (pc + 1) lv st) : XG κ σ pc lv (.int x :: .int j :: .ref (κ.S0 + i) :: st) := by
  intro H locs ls hW hS hl
  obtain ⟨hx, hb, -, -, hown, hts, ⟨hK, -⟩, -⟩ := X
  have hat := hW.2 i _ (xw_get hi)
  rw [he] at hat
  refine W.zast hx hb hat ((hK.2 t0 _ ht).1 n (fun j => .int (f j))) (fun q => by cases q) (by show ¬ (j < 0 ∨ (arrV _ _ _).slots.size ≤ _); rw [arrV_size]; exact hin) rfl rfl hd fun H1 g1 g2 g3 => ?_
  have hW1 : XW κ.G κ.S0 (κ.HC σ) (hset (κ.HP σ) i (.inl (cA, n, .inl (upd f j.toNatClampNeg (vp_nar .boolean x))))) H1 := by
    refine hW.put hi ?_ g2 g3
    show H1[κ.S0 + i]? = some (vp_cell _ _)
    rw [g1]
    rw [vp_cell_i, vp_cell_i, arrV_store]
    congr 2
    funext q
    by_cases hq : q = j.toNatClampNeg
    · subst hq
      simp [updV, upd, vp_nar]
      try rfl
    · simp [updV, upd, hq]
  have hS1 := hS.putA (k := j.toNatClampNeg) g2 g3
  rw [e1, ← e2] at hW1
  have hg := kk H1 _ ls hW1 hS1 hl
  rw [e3, e4] at hg
  exact hg
theorem x_cast0 (X : XC κ cc nL own ret F L) {i : Nat} {cA : ClassId} {n : Nat} {f : Nat → Int32} (t0 : Nat) (ht : κ.tys[t0]? = some (cA, .char)) (he : κ.HP σ i = .inl (cA, n, .inl f)) (hi : i < κ.HC σ) {j x : Int32} (hin : ¬ (j < 0 ∨ n ≤ j.toNatClampNeg)) (hd : decode cc pc = .ok (.castore, 1)) {σ1 : ST} (e1 : hset (κ.HP σ) i (.inl (cA, n, .inl (upd f j.toNatClampNeg (vp_nar .char x)))) = κ.HP σ1) (e2 : κ.HC σ1 = κ.HC σ) (e3 : κ.K σ1 = κ.K σ) (e4 : κ.N σ1 = κ.N σ) (kk : XG κ σ1 (pc + 1) lv st) : XG κ σ pc lv (.int x :: .int j :: .ref (κ.S0 + i) :: st) := by
  intro H locs ls hW hS hl
  obtain ⟨hx, hb, -, -, hown, hts, ⟨hK, -⟩, -⟩ := X
  have hat := hW.2 i _ (xw_get hi)
  rw [he] at hat
  refine W.cast hx hb hat ((hK.2 t0 _ ht).1 n (fun j => .int (f j))) (fun q => by cases q) (by show ¬ (j < 0 ∨ (arrV _ _ _).slots.size ≤ _); rw [arrV_size]; exact hin) rfl rfl hd fun H1 g1 g2 g3 => ?_
  have hW1 : XW κ.G κ.S0 (κ.HC σ) (hset (κ.HP σ) i (.inl (cA, n, .inl (upd f j.toNatClampNeg (vp_nar .char x))))) H1 := by
    refine hW.put hi ?_ g2 g3
    show H1[κ.S0 + i]? = some (vp_cell _ _)
    rw [g1]
    rw [vp_cell_i, vp_cell_i, arrV_store]
    congr 2
    funext q
    by_cases hq : q = j.toNatClampNeg
    · subst hq
      simp [updV, upd, vp_nar]
      try rfl
    · simp [updV, upd, hq]
  have hS1 := hS.putA (k := j.toNatClampNeg) g2 g3
  rw [e1, ← e2] at hW1
  have hg := kk H1 _ ls hW1 hS1 hl
  rw [e3, e4] at hg
  exact hg
theorem x_iald0 (X : XC κ cc nL own ret F L) {i : Nat} {cA : ClassId} {n : Nat} {f : Nat → Int32} (t0 : Nat) (ht : κ.tys[t0]? = some (cA, .int)) (he : κ.HP σ i = .inl (cA, n, .inl f)) (hi : i < κ.HC σ) {j : Int32} (hin : ¬ (j < 0 ∨ n ≤ j.toNatClampNeg)) (hd : decode cc pc = .ok (.iaload, 1)) (kk : XG κ σ (pc + 1) lv (.int (f j.toNatClampNeg) :: st)) : XG κ σ pc lv (.int j :: .ref (κ.S0 + i) :: st) := by
  intro H locs ls hW hS hl
  obtain ⟨hx, hb, -, -, hown, hts, ⟨hK, -⟩, -⟩ := X
  exact va_iald hx hb hK hW.2 i t0 ((xw_get hi).trans (by rw [he])) ht hin hd (kk H locs ls hW hS hl)
theorem x_zald0 (X : XC κ cc nL own ret F L) {i : Nat} {cA : ClassId} {n : Nat} {f : Nat → Int32} (t0 : Nat) (ht : κ.tys[t0]? = some (cA, .boolean)) (he : κ.HP σ i = .inl (cA, n, .inl f)) (hi : i < κ.HC σ) {j : Int32} (hin : ¬ (j < 0 ∨ n ≤ j.toNatClampNeg)) (hd : decode cc pc = .ok (.baload, 1)) (kk : XG κ σ (pc + 1) lv (.int (f j.toNatClampNeg) :: st)) : XG κ σ pc lv (.int j :: .ref (κ.S0 + i) :: st) := by
  intro H locs ls hW hS hl
  obtain ⟨hx, hb, -, -, hown, hts, ⟨hK, -⟩, -⟩ := X
  exact va_zald hx hb hK hW.2 i t0 ((xw_get hi).trans (by rw [he])) ht hin hd (kk H locs ls hW hS hl)
theorem x_cald0 (X : XC κ cc nL own ret F L) {i : Nat} {cA : ClassId} {n : Nat} {f : Nat → Int32} (t0 : Nat) (ht : κ.tys[t0]? = some (cA, .char)) (he : κ.HP σ i = .inl (cA, n, .inl f)) (hi : i < κ.HC σ) {j : Int32} (hin : ¬ (j < 0 ∨ n ≤ j.toNatClampNeg)) (hd : decode cc pc = .ok (.caload, 1)) (kk : XG κ σ (pc + 1) lv (.int (f j.toNatClampNeg) :: st)) : XG κ σ pc lv (.int j :: .ref (κ.S0 + i) :: st) := by
  intro H locs ls hW hS hl
  obtain ⟨hx, hb, -, -, hown, hts, ⟨hK, -⟩, -⟩ := X
  exact va_cald hx hb hK hW.2 i t0 ((xw_get hi).trans (by rw [he])) ht hin hd (kk H locs ls hW hS hl)
end ROWS
end
section
/-! THE LAYER, second part: rows that carry the shallow word along; calls; a method's entry and end -/
section ROWS2
variable {ST α : Type} {κ : XCtx ST} {cc : ByteArray} {nL : Nat} {own : String} {ret : Option FieldType} {F L pc : Nat} {σ : ST} {lv lv' : List (Nat × Value)} {st : List Value} {res : α}
/-- a body that makes no cell -/
def XZ (κ : XCtx ST) : Prop := (∀ σ σ' : ST, κ.HC σ = κ.HC σ') ∧ (∀ σ σ' : ST, κ.K σ = κ.K σ') ∧ (∀ σ σ' : ST, κ.N σ = κ.N σ')
theorem oA_some {n : Nat} {f : Nat → Int32} {j : Int32} {k : Int32 → Option α} (hf : oA n f j k = some res) : ¬ (j < 0 ∨ n ≤ j.toNatClampNeg) ∧ k (f j.toNatClampNeg) = some res := by
  unfold oA at hf
  split at hf
  next h => exact ⟨h, hf⟩
  next => cases hf
theorem oS_some {n : Nat} {f : Nat → Int32} {j x : Int32} {w : (Nat → Int32) → ST} {k : ST → Option α} (hf : oS n f j x w k = some res) : ¬ (j < 0 ∨ n ≤ j.toNatClampNeg) ∧ k (w (upd f j.toNatClampNeg x)) = some res := by
  unfold oS at hf
  split at hf
  next h => exact ⟨h, hf⟩
  next => cases hf
theorem x_iald (X : XC κ cc nL own ret F L) {i : Nat} {cA : ClassId} {n : Nat} {f : Nat → Int32} (t0 : Nat) (ht : κ.tys[t0]? = some (cA, .int)) (he : κ.HP σ i = .inl (cA, n, .inl f)) (hi : i < κ.HC σ) {j : Int32} {k : Int32 → Option α} (hd : decode cc pc = .ok (.iaload, 1)) (hf : oA n f j k = some res) (kk : ∀ x, k x = some res → XG κ σ (pc + 1) lv (.int x :: st)) : XG κ σ pc lv (.int j :: .ref (κ.S0 + i) :: st) :=
  x_iald0 X t0 ht he hi (oA_some hf).1 hd (kk _ (oA_some hf).2)
theorem x_zald (X : XC κ cc nL own ret F L) {i : Nat} {cA : ClassId} {n : Nat} {f : Nat → Int32} (t0 : Nat) (ht : κ.tys[t0]? = some (cA, .boolean)) (he : κ.HP σ i = .inl (cA, n, .inl f)) (hi : i < κ.HC σ) {j : Int32} {k : Int32 → Option α} (hd : decode cc pc = .ok (.baload, 1)) (hf : oA n f j k = some res) (kk : ∀ x, k x = some res → XG κ σ (pc + 1) lv (.int x :: st)) : XG κ σ pc lv (.int j :: .ref (κ.S0 + i) :: st) :=
  x_zald0 X t0 ht he hi (oA_some hf).1 hd (kk _ (oA_some hf).2)
theorem x_cald (X : XC κ cc nL own ret F L) {i : Nat} {cA : ClassId} {n : Nat} {f : Nat → Int32} (t0 : Nat) (ht : κ.tys[t0]? = some (cA, .char)) (he : κ.HP σ i = .inl (cA, n, .inl f)) (hi : i < κ.HC σ) {j : Int32} {k : Int32 → Option α} (hd : decode cc pc = .ok (.caload, 1)) (hf : oA n f j k = some res) (kk : ∀ x, k x = some res → XG κ σ (pc + 1) lv (.int x :: st)) : XG κ σ pc lv (.int j :: .ref (κ.S0 + i) :: st) :=
  x_cald0 X t0 ht he hi (oA_some hf).1 hd (kk _ (oA_some hf).2)
theorem x_iast (X : XC κ cc nL own ret F L) (Z : XZ κ) {i : Nat} {cA : ClassId} {n : Nat} {f : Nat → Int32} {w : (Nat → Int32) → ST} (t0 : Nat) (ht : κ.tys[t0]? = some (cA, .int)) (he : κ.HP σ i = .inl (cA, n, .inl f)) (hi : i < κ.HC σ) (e1 : ∀ f', hset (κ.HP σ) i (.inl (cA, n, .inl f')) = κ.HP (w f')) {j x : Int32} {k : ST → Option α} (hd : decode cc pc = .ok (.iastore, 1)) (hf : oS n f j (x) w k = some res) (kk : ∀ σ1, k σ1 = some res → XG κ σ1 (pc + 1) lv st) : XG κ σ pc lv (.int x :: .int j :: .ref (κ.S0 + i) :: st) :=
  x_iast0 X t0 ht he hi (oS_some hf).1 hd (e1 _) (Z.1 _ _) (Z.2.1 _ _) (Z.2.2 _ _) (kk _ (oS_some hf).2)
theorem x_zast (X : XC κ cc nL own ret F L) (Z : XZ κ) {i : Nat} {cA : ClassId} {n : Nat} {f : Nat → Int32} {w : (Nat → Int32) → ST} (t0 : Nat) (ht : κ.tys[t0]? = some (cA, .boolean)) (he : κ.HP σ i = .inl (cA, n, .inl f)) (hi : i < κ.HC σ) (e1 : ∀ f', hset (κ.HP σ) i (.inl (cA, n, .inl f')) = κ.HP (w f')) {j x : Int32} {k : ST → Option α} (hd : decode cc pc = .ok (.bastore, 1)) (hf : oS n f j (vp_nar .boolean x) w k = some res) (kk : ∀ σ1, k σ1 = some res → XG κ σ1 (pc + 1) lv st) : XG κ σ pc lv (.int x :: .int j :: .ref (κ.S0 + i) :: st) :=
  x_zast0 X t0 ht he hi (oS_some hf).1 hd (e1 _) (Z.1 _ _) (Z.2.1 _ _) (Z.2.2 _ _) (kk _ (oS_some hf).2)
theorem x_cast (X : XC κ cc nL own ret F L) (Z : XZ κ) {i : Nat} {cA : ClassId} {n : Nat} {f : Nat → Int32} {w : (Nat → Int32) → ST} (t0 : Nat) (ht : κ.tys[t0]? = some (cA, .char)) (he : κ.HP σ i = .inl (cA, n, .inl f)) (hi : i < κ.HC σ) (e1 : ∀ f', hset (κ.HP σ) i (.inl (cA, n, .inl f')) = κ.HP (w f')) {j x : Int32} {k : ST → Option α} (hd : decode cc pc = .ok (.castore, 1)) (hf : oS n f j (vp_nar .char x) w k = some res) (kk : ∀ σ1, k σ1 = some res → XG κ σ1 (pc + 1) lv st) : XG κ σ pc lv (.int x :: .int j :: .ref (κ.S0 + i) :: st) :=
  x_cast0 X t0 ht he hi (oS_some hf).1 hd (e1 _) (Z.1 _ _) (Z.2.1 _ _) (Z.2.2 _ _) (kk _ (oS_some hf).2)
theorem x_putI (X : XC κ cc nL own ret F L) (Z : XZ κ) {index ci k i : Nat} (hF : FP own index ci k .int false) {fs : List Value} (he : κ.HP σ i = .inr (ci, fs)) (hi : i < κ.HC σ) (hl0 : k < fs.length) {w : Int32 → ST} (e1 : ∀ v, hset (κ.HP σ) i (.inr (ci, fs.set k (.int v))) = κ.HP (w v)) {v : Int32} {kt : ST → Option α} (hd : decode cc pc = .ok (.putfield index, 3)) (hf : oN v w kt = some res) (kk : ∀ σ1, kt σ1 = some res → XG κ σ1 (pc + 3) lv st) : XG κ σ pc lv (.int v :: .ref (κ.S0 + i) :: st) :=
  x_put0 X hF he hi hl0 rfl rfl hd (e1 v) (Z.1 _ _) (Z.2.1 _ _) (Z.2.2 _ _) (kk _ hf)
theorem x_putZ (X : XC κ cc nL own ret F L) (Z : XZ κ) {index ci k i : Nat} (hF : FP own index ci k .boolean false) {fs : List Value} (he : κ.HP σ i = .inr (ci, fs)) (hi : i < κ.HC σ) (hl0 : k < fs.length) {w : Int32 → ST} (e1 : ∀ v, hset (κ.HP σ) i (.inr (ci, fs.set k (.int v))) = κ.HP (w v)) {v : Int32} {kt : ST → Option α} (hd : decode cc pc = .ok (.putfield index, 3)) (hf : oZ v w kt = some res) (kk : ∀ σ1, kt σ1 = some res → XG κ σ1 (pc + 3) lv st) : XG κ σ pc lv (.int v :: .ref (κ.S0 + i) :: st) := by
  unfold oZ at hf
  split at hf
  next h =>
    refine x_put0 X hF he hi hl0 ?_ ?_ hd (e1 v) (Z.1 _ _) (Z.2.1 _ _) (Z.2.2 _ _) (kk _ hf)
    · rcases h with rfl | rfl <;> rfl
    · rcases h with rfl | rfl <;> rfl
  next => cases hf
-- calls
def XCall (κ : XCtx ST) (σ : ST) (pc : Nat) (stk rest : List Value) (Qa : State → Outcome → State → Prop) (mc ms : Nat) : Prop :=
  ∀ (H : Heap) (locs : List Loc) (ls : Array Slot), XW κ.G κ.S0 (κ.HC σ) (κ.HP σ) H → ls.size = κ.nL → va_Run κ.p κ.l κ.e κ.R κ.s κ.m κ.args κ.below κ.meth κ.c H locs (κ.K σ) (κ.N σ) mc ms (F0 κ.m pc ls stk) rest Qa (XA κ.S0)
theorem x_callk {stk rest : List Value} {G : va_G} {av : Array Value} {c2 : Nat} {rv : Option Value} {h2 : Nat → va_E} {mc ms : Nat} (hc : XCall κ σ pc stk rest (XQ κ.G κ.S0 c2 rv h2 av) mc ms) (X : XC κ cc nL own ret F L) {σ1 : ST} (e1 : h2 = κ.HP σ1) (e2 : c2 = κ.HC σ1) (hle : κ.HC σ ≤ κ.HC σ1) (e3 : κ.K σ + mc = κ.K σ1) (e4 : κ.N σ + ms = κ.N σ1) (kk : XG κ σ1 (pc + 3) lv (rv.toList ++ rest)) : XG κ σ pc lv stk := by
  subst e1; subst e2
  intro H locs ls hW hS hl T hT XT
  obtain ⟨v, st₀, t, T', L', h0, X', hL, g1, g2, ⟨hv, hW1, hk⟩, stp⟩ := hc H locs ls hW hl.1 T hT XT
  cases hv
  rw [e3, e4] at X'
  rw [h0] at hk
  have hS0 : κ.S0 ≤ κ.s.heap.size := X.2.2.2.2.2.2.2.1
  have hS1 : va_S (XA κ.S0) κ.s.heap T'.heap (locs ++ L') := by
    refine ⟨?_, fun q h1 h2 => ?_, fun q hq => ?_⟩
    · rw [g1, hW1.1]
      have := hS.1
      rw [hW.1] at this
      omega
    · rw [g1, hk q (Nat.lt_of_not_le h2)]
      exact hS.2.1 q h1 h2
    · rcases List.mem_append.mp hq with h | h
      · exact hS.2.2 q h
      · exact hL q h
  rw [← g1] at hW1
  obtain ⟨t2, a1, b1⟩ := kk T'.heap _ ls hW1 hS1 hl T' rfl X'
  exact ⟨t2, stp t2 a1, b1⟩
theorem x_blind {G : va_G} {tys : List (ClassId × FieldType)} {S0 c : Nat} {h1 : Nat → va_E} {av : List Value} : FrameBlind (va_Pc av (fun U => XW G S0 c h1 U.heap ∧ XK G tys U)) := fun _ _ _ _ q => ⟨q.1, q.2.1, XK.calling q.2.2⟩
/-- what the tables say of a method that is called -/
def CM (y : MethodName) (n : Nat) (bytes : ByteArray) (maxL : Nat) (rt : Option FieldType) : Prop := Cond.initialized y.cls ∈ goodTbl ∧ Cond.code y bytes maxL rt ∈ goodTbl ∧ (y.cls ≠ "java/lang/invoke/MethodHandle" ∧ y.cls ≠ "java/lang/invoke/VarHandle" ∧ (parseMethodDescriptor y.desc).map (fun d => d.parameters.length) = some n)
theorem x_cb (X : XC κ cc nL own ret F L) {index n maxL F' L' mc ms : Nat} {y : MethodName} {bytes : ByteArray} {rt : Option FieldType} (hm : CM y n bytes maxL rt) (hl : Cond.methodLink own index y ∈ goodTbl) (hR : F' + 1 ≤ F ∧ 8 + (maxL + 11) + L' ≤ L) : CallB κ.R κ.s κ.args own index y bytes maxL rt (.code y bytes maxL rt :: goodTbl) { frames := F', cells := mc, slots := ms, locals := L' } mc ms n := by
  obtain ⟨-, -, -, -, -, hts, -, -, -, -, hF, hL⟩ := X
  exact callB_of n hts (goodIn_cons hm.2.1) rfl rfl rfl (hts _ hm.1) (hts _ hl) hm.2.2 ⟨Nat.le_trans hR.1 hF, Nat.le_trans hR.2 hL⟩
theorem x_cV (X : XC κ cc nL own ret F L) {index n ci maxL F' L' mc ms i c2 : Nat} {y : MethodName} {bytes : ByteArray} {rt : Option FieldType} {T : u_T} {N : Nat} {fs As stk rest : List Value} {rv : Option Value} {h2 : Nat → va_E}
    (hm : CM y n bytes maxL rt) (hlk : Cond.methodLink own index y ∈ goodTbl ∧ Cond.instanceMethod y ∈ goodTbl ∧ Cond.selects y.cls y y ∈ goodTbl) (hci : vwCl[ci]? = some (y.cls, T, N)) (hR : F' + 1 ≤ F ∧ 8 + (maxL + 11) + L' ≤ L) (he : κ.HP σ i = .inr (ci, fs)) (hi : i < κ.HC σ)
    (hM : XMet κ.l κ.G κ.tys κ.S0 (κ.HC σ) y bytes maxL rt F' L' (.ref (κ.S0 + i) :: As) (κ.HP σ) c2 rv h2 mc ms) (hn : As.length = n) (hst : stk = As.reverse ++ .ref (κ.S0 + i) :: rest) (hcat : (rest.map fun v => v.category).sum ≤ 8) (hf : κ.K σ + mc ≤ κ.R.cells ∧ κ.N σ + ms ≤ κ.R.slots) (hd : decode cc pc = .ok (.invokevirtual index, 3)) :
    XCall κ σ pc stk rest (XQ κ.G κ.S0 c2 rv h2 (Value.ref (κ.S0 + i) :: As).toArray) mc ms := by
  intro H locs ls hW hls
  have hcb := x_cb (mc := mc) (ms := ms) X hm hlk.1 hR
  obtain ⟨hx, hb, hml, hnl, hown, hts, hK, -⟩ := X
  refine va_runV (C := y.cls) ⟨hx, hb, hml, hown, hts⟩ hM ⟨hcb, hts _ hlk.2.1, hts _ hlk.2.2⟩ ⟨x_blind, ?_, fun U hU hWm => ⟨rfl, by rw [hU]; exact hW, hK.moved hWm⟩⟩ rfl hn (hls.trans hnl) hst (lv_room hcat) hd hf
  exact va_recv hK.1 hW.2 hci ((xw_get hi).trans (by rw [he]))
theorem x_cS (X : XC κ cc nL own ret F L) {index n maxL F' L' mc ms c2 : Nat} {y : MethodName} {bytes : ByteArray} {rt : Option FieldType} {As stk rest : List Value} {rv : Option Value} {h2 : Nat → va_E}
    (hm : CM y n bytes maxL rt) (hlk : Cond.methodLink own index y ∈ goodTbl ∧ Cond.static y ∈ goodTbl) (hR : F' + 1 ≤ F ∧ 8 + (maxL + 11) + L' ≤ L)
    (hM : XMet κ.l κ.G κ.tys κ.S0 (κ.HC σ) y bytes maxL rt F' L' As (κ.HP σ) c2 rv h2 mc ms) (hn : As.length = n) (hst : stk = As.reverse ++ rest) (hcat : (rest.map fun v => v.category).sum ≤ 8) (hf : κ.K σ + mc ≤ κ.R.cells ∧ κ.N σ + ms ≤ κ.R.slots) (hd : decode cc pc = .ok (.invokestatic index, 3)) :
    XCall κ σ pc stk rest (XQ κ.G κ.S0 c2 rv h2 As.toArray) mc ms := by
  intro H locs ls hW hls
  have hcb := x_cb (mc := mc) (ms := ms) X hm hlk.1 hR
  obtain ⟨hx, hb, hml, hnl, hown, hts, hK, -⟩ := X
  exact va_runS ⟨hx, hb, hml, hown, hts⟩ hM ⟨hcb, hts _ hlk.2⟩ ⟨x_blind, fun U hU hWm => ⟨rfl, by rw [hU]; exact hW, hK.moved hWm⟩⟩ rfl hn (hls.trans hnl) hst (lv_room hcat) hd hf
theorem x_cn (X : XC κ cc nL own ret F L) {index n maxL F' L' mc ms : Nat} {y : MethodName} {bytes : ByteArray} {rt : Option FieldType} (hm : CM y n bytes maxL rt) (hl : (own, index, y) ∈ nestL) (hR : F' + 1 ≤ F ∧ 8 + (maxL + 11) + L' ≤ L) : va_CN κ.R κ.s κ.args own index y "AppendZones" bytes maxL rt (.code y bytes maxL rt :: goodTbl) { frames := F', cells := mc, slots := ms, locals := L' } mc ms n := by
  obtain ⟨-, -, -, -, -, hts, hK, -, -, -, hF, hL⟩ := X
  exact va_cnB n hts (goodIn_cons hm.2.1) rfl rfl rfl (hK.2.1 _ hl) (hts _ hm.1) hm.2.2 ⟨Nat.le_trans hR.1 hF, Nat.le_trans hR.2 hL⟩
theorem x_cSN (X : XC κ cc nL own ret F L) {index n maxL F' L' mc ms c2 : Nat} {y : MethodName} {bytes : ByteArray} {rt : Option FieldType} {As stk rest : List Value} {rv : Option Value} {h2 : Nat → va_E}
    (hm : CM y n bytes maxL rt) (hlk : (own, index, y) ∈ nestL ∧ Cond.static y ∈ goodTbl) (hR : F' + 1 ≤ F ∧ 8 + (maxL + 11) + L' ≤ L)
    (hM : XMet κ.l κ.G κ.tys κ.S0 (κ.HC σ) y bytes maxL rt F' L' As (κ.HP σ) c2 rv h2 mc ms) (hn : As.length = n) (hst : stk = As.reverse ++ rest) (hcat : (rest.map fun v => v.category).sum ≤ 8) (hf : κ.K σ + mc ≤ κ.R.cells ∧ κ.N σ + ms ≤ κ.R.slots) (hd : decode cc pc = .ok (.invokestatic index, 3)) :
    XCall κ σ pc stk rest (XQ κ.G κ.S0 c2 rv h2 As.toArray) mc ms := by
  intro H locs ls hW hls
  have hcb := x_cn (mc := mc) (ms := ms) X hm hlk.1 hR
  obtain ⟨hx, hb, hml, hnl, hown, hts, hK, -⟩ := X
  exact va_runSN ⟨hx, hb, hml, hown, hts⟩ hM ⟨hcb, hts _ hlk.2, trivial⟩ ⟨x_blind, fun U hU hWm => ⟨rfl, by rw [hU]; exact hW, hK.moved hWm⟩⟩ rfl hn (hls.trans hnl) hst (lv_room hcat) hd hf
theorem x_cI (X : XC κ cc nL own ret F L) {index n maxL F' L' mc ms c2 i : Nat} {y : MethodName} {bytes : ByteArray} {As stk rest : List Value} {h2 : Nat → va_E} {rv : Option Value}
    (hm : CM y n bytes maxL none) (hlk : Cond.methodLink own index y ∈ goodTbl ∧ y.name = "<init>" ∧ Cond.instanceMethod y ∈ goodTbl) (hR : F' + 1 ≤ F ∧ 8 + (maxL + 11) + L' ≤ L)
    (hM : XMet κ.l κ.G κ.tys κ.S0 (κ.HC σ) y bytes maxL none F' L' (.ref i :: As) (κ.HP σ) c2 rv h2 mc ms) (hn : As.length = n) (hst : stk = As.reverse ++ .ref i :: rest) (hcat : (rest.map fun v => v.category).sum ≤ 8) (hf : κ.K σ + mc ≤ κ.R.cells ∧ κ.N σ + ms ≤ κ.R.slots) (hd : decode cc pc = .ok (.invokespecial index, 3)) :
    XCall κ σ pc stk rest (XQ κ.G κ.S0 c2 rv h2 (Value.ref i :: As).toArray) mc ms := by
  intro H locs ls hW hls
  have hcb := x_cb (mc := mc) (ms := ms) X hm hlk.1 hR
  obtain ⟨hx, hb, hml, hnl, hown, hts, hK, -⟩ := X
  exact va_runI ⟨hx, hb, hml, hown, hts⟩ hM ⟨hcb, hlk.2.1, hts _ hlk.2.2⟩ ⟨x_blind, fun U hU hWm => ⟨rfl, by rw [hU]; exact hW, hK.moved hWm⟩⟩ rfl hn (hls.trans hnl) hst (lv_room hcat) hd hf
theorem x_cIN (X : XC κ cc nL own ret F L) {index n maxL F' L' mc ms c2 i : Nat} {y : MethodName} {bytes : ByteArray} {As stk rest : List Value} {h2 : Nat → va_E} {rv : Option Value}
    (hm : CM y n bytes maxL none) (hlk : (own, index, y) ∈ nestL ∧ y.name = "<init>" ∧ Cond.instanceMethod y ∈ goodTbl) (hR : F' + 1 ≤ F ∧ 8 + (maxL + 11) + L' ≤ L)
    (hM : XMet κ.l κ.G κ.tys κ.S0 (κ.HC σ) y bytes maxL none F' L' (.ref i :: As) (κ.HP σ) c2 rv h2 mc ms) (hn : As.length = n) (hst : stk = As.reverse ++ .ref i :: rest) (hcat : (rest.map fun v => v.category).sum ≤ 8) (hf : κ.K σ + mc ≤ κ.R.cells ∧ κ.N σ + ms ≤ κ.R.slots) (hd : decode cc pc = .ok (.invokespecial index, 3)) :
    XCall κ σ pc stk rest (XQ κ.G κ.S0 c2 rv h2 (Value.ref i :: As).toArray) mc ms := by
  intro H locs ls hW hls
  have hcb := x_cn (mc := mc) (ms := ms) X hm hlk.1 hR
  obtain ⟨hx, hb, hml, hnl, hown, hts, hK, -⟩ := X
  exact va_runIN ⟨hx, hb, hml, hown, hts⟩ hM ⟨hcb, hlk.2.1, hts _ hlk.2.2⟩ ⟨x_blind, fun U hU hWm => ⟨rfl, by rw [hU]; exact hW, hK.moved hWm⟩⟩ rfl hn (hls.trans hnl) hst (lv_room hcat) hd hf
-- a call's answer goes on in the shallow word
theorem x_callR (X : XC κ cc nL own ret F L) {av : Array Value} {x : Option Int32} {k : Int32 → Option α} {stk rest : List Value} (hf : oR x k = some res) (hc : ∀ r, x = some r → XCall κ σ pc stk rest (XQ κ.G κ.S0 (κ.HC σ) (some (.int r)) (κ.HP σ) av) 0 0) (kk : ∀ r, k r = some res → XG κ σ (pc + 3) lv (.int r :: rest)) : XG κ σ pc lv stk := by
  cases x with
  | none => cases hf
  | some r => exact x_callk (G := κ.G) (hc r rfl) X rfl rfl (Nat.le_refl _) rfl rfl (kk r hf)
theorem x_callW (X : XC κ cc nL own ret F L) (Z : XZ κ) {ST' : Type} {av : Array Value} {x : Option (Int32 × ST')} {w : ST' → ST} {k : Int32 → ST → Option α} {stk rest : List Value} (hf : oW x w k = some res) (hc : ∀ r t, x = some (r, t) → XCall κ σ pc stk rest (XQ κ.G κ.S0 (κ.HC σ) (some (.int r)) (κ.HP (w t)) av) 0 0) (kk : ∀ r σ1, k r σ1 = some res → XG κ σ1 (pc + 3) lv (.int r :: rest)) : XG κ σ pc lv stk := by
  cases x with
  | none => cases hf
  | some r => exact x_callk (G := κ.G) (hc r.1 r.2 rfl) X rfl (Z.1 _ _) (Nat.le_of_eq (Z.1 _ _)) (Z.2.1 _ _) (Z.2.2 _ _) (kk r.1 _ hf)
theorem x_callV (X : XC κ cc nL own ret F L) (Z : XZ κ) {ST' : Type} {av : Array Value} {x : Option ST'} {w : ST' → ST} {k : ST → Option α} {stk rest : List Value} (hf : oV x w k = some res) (hc : ∀ t, x = some t → XCall κ σ pc stk rest (XQ κ.G κ.S0 (κ.HC σ) none (κ.HP (w t)) av) 0 0) (kk : ∀ σ1, k σ1 = some res → XG κ σ1 (pc + 3) lv rest) : XG κ σ pc lv stk := by
  cases x with
  | none => cases hf
  | some r => exact x_callk (G := κ.G) (hc r rfl) X rfl (Z.1 _ _) (Nat.le_of_eq (Z.1 _ _)) (Z.2.1 _ _) (Z.2.2 _ _) (kk _ hf)
-- ends
theorem x_qf {c2 : Nat} {rv : Option Value} {h2 : Nat → va_E} (X : XC κ cc nL own ret F L) {H : Heap} {locs : List Loc} (hW : XW κ.G κ.S0 c2 h2 H) (hS : va_S (XA κ.S0) κ.s.heap H locs) : ∀ t : State, t.heap = H → κ.s.WarmedH t.vm → XQ κ.G κ.S0 c2 rv h2 κ.args κ.s (.returned rv) t := by
  intro t ht _
  refine ⟨rfl, by rw [ht]; exact hW, fun q hq => ?_⟩
  rw [ht]
  exact hS.2.1 q (Nat.lt_of_lt_of_le hq X.2.2.2.2.2.2.2.1) (Nat.not_le.mpr hq)
theorem x_iret0 {c2 mc ms : Nat} {h2 : Nat → va_E} {v : Int32} {ty : FieldType} (X : XC κ cc nL own (some ty) F L) (hQ : XR κ c2 (some (.int v)) h2 mc ms) (hn : narrow ty (.int v) = .int v) (e1 : κ.HP σ = h2) (e2 : κ.HC σ = c2) (hk : κ.K σ ≤ mc ∧ κ.N σ ≤ ms) (hd : decode cc pc = .ok (.ireturn, 1)) : XG κ σ pc lv [.int v] := by
  intro H locs ls hW hS hl
  rw [show κ.Q = _ from hQ]
  rw [e1, e2] at hW
  exact W.widen hk.1 hk.2 (W.zret X.1 X.2.1 X.2.2.2.2.2.2.2.2.2.1 hn (x_qf X hW hS) (fun q hq => hS.2.2 q hq) hd X.2.2.2.2.2.2.2.2.1)
theorem x_vret0 {c2 mc ms : Nat} {h2 : Nat → va_E} (X : XC κ cc nL own none F L) (hQ : XR κ c2 none h2 mc ms) (e1 : κ.HP σ = h2) (e2 : κ.HC σ = c2) (hk : κ.K σ ≤ mc ∧ κ.N σ ≤ ms) (hd : decode cc pc = .ok (.return_, 1)) : XG κ σ pc lv [] := by
  intro H locs ls hW hS hl
  rw [show κ.Q = _ from hQ]
  rw [e1, e2] at hW
  exact W.widen hk.1 hk.2 (W.vret X.1 X.2.1 X.2.2.2.2.2.2.2.2.2.1 (x_qf X hW hS) (fun q hq => hS.2.2 q hq) hd X.2.2.2.2.2.2.2.2.1)
/-- what a body without new cells has at its end: the answer and the state -/
def XE (κ : XCtx ST) : Prop := XZ κ ∧ ∀ σ, κ.K σ = 0 ∧ κ.N σ = 0
theorem x_iretR {r v : Int32} {σ0 : ST} (X : XC κ cc nL own (some .int) F L) (E : XE κ) (hQ : XR κ (κ.HC σ0) (some (.int r)) (κ.HP σ) 0 0) (hf : some v = some r) (hd : decode cc pc = .ok (.ireturn, 1)) : XG κ σ pc lv [.int v] := by
  cases hf
  exact x_iret0 X hQ rfl rfl (E.1.1 _ _) ⟨Nat.le_of_eq (E.2 _).1, Nat.le_of_eq (E.2 _).2⟩ hd
theorem x_zretR {r v : Int32} {σ0 : ST} (X : XC κ cc nL own (some .boolean) F L) (E : XE κ) (hQ : XR κ (κ.HC σ0) (some (.int r)) (κ.HP σ) 0 0) (hf : oB v = some r) (hd : decode cc pc = .ok (.ireturn, 1)) : XG κ σ pc lv [.int v] := by
  unfold oB at hf
  split at hf
  next h =>
    cases hf
    refine x_iret0 X hQ ?_ rfl (E.1.1 _ _) ⟨Nat.le_of_eq (E.2 _).1, Nat.le_of_eq (E.2 _).2⟩ hd
    rcases h with rfl | rfl <;> rfl
  next => cases hf
theorem x_cretR {r v : Int32} {σ0 : ST} (X : XC κ cc nL own (some .char) F L) (E : XE κ) (hQ : XR κ (κ.HC σ0) (some (.int r)) (κ.HP σ) 0 0) (hf : oC v = some r) (hd : decode cc pc = .ok (.ireturn, 1)) : XG κ σ pc lv [.int v] := by
  unfold oC at hf
  split at hf
  next h =>
    cases hf
    refine x_iret0 X hQ ?_ rfl (E.1.1 _ _) ⟨Nat.le_of_eq (E.2 _).1, Nat.le_of_eq (E.2 _).2⟩ hd
    exact congrArg Value.int h
  next => cases hf
theorem x_iretW {r v : Int32} {σ0 σ1 : ST} (X : XC κ cc nL own (some .int) F L) (E : XE κ) (hQ : XR κ (κ.HC σ0) (some (.int r)) (κ.HP σ1) 0 0) (hf : some (v, σ) = some (r, σ1)) (hd : decode cc pc = .ok (.ireturn, 1)) : XG κ σ pc lv [.int v] := by
  cases hf
  exact x_iret0 X hQ rfl rfl (E.1.1 _ _) ⟨Nat.le_of_eq (E.2 _).1, Nat.le_of_eq (E.2 _).2⟩ hd
theorem x_zretW {r v : Int32} {σ0 σ1 : ST} (X : XC κ cc nL own (some .boolean) F L) (E : XE κ) (hQ : XR κ (κ.HC σ0) (some (.int r)) (κ.HP σ1) 0 0) (hf : (oB v).map (fun x => (x, σ)) = some (r, σ1)) (hd : decode cc pc = .ok (.ireturn, 1)) : XG κ σ pc lv [.int v] := by
  unfold oB at hf
  split at hf
  next h =>
    cases hf
    refine x_iret0 X hQ ?_ rfl (E.1.1 _ _) ⟨Nat.le_of_eq (E.2 _).1, Nat.le_of_eq (E.2 _).2⟩ hd
    rcases h with rfl | rfl <;> rfl
  next => cases hf
theorem x_vretV {σ0 σ1 : ST} (X : XC κ cc nL own none F L) (E : XE κ) (hQ : XR κ (κ.HC σ0) none (κ.HP σ1) 0 0) (hf : some σ = some σ1) (hd : decode cc pc = .ok (.return_, 1)) : XG κ σ pc lv [] := by
  cases hf
  exact x_vret0 X hQ rfl (E.1.1 _ _) ⟨Nat.le_of_eq (E.2 _).1, Nat.le_of_eq (E.2 _).2⟩ hd
end ROWS2
/-- a method's contract out of its body -/
theorem XMet.of {ST : Type} (HC : ST → Nat) (HP : ST → Nat → va_E) (K N : ST → Nat) {l : Launch} {G : va_G} {tys : List (ClassId × FieldType)} {S0 c2 nL F L mc ms : Nat} {y : MethodName} {bytes : ByteArray} {rt : Option FieldType} {av : List Value} {rv : Option Value} {h2 : Nat → va_E} (σ0 : ST) (hy : plainName y.cls = true) (hk : K σ0 = 0 ∧ N σ0 = 0) (hlen : (lg_sl av).length ≤ nL)
    (body : ∀ κ : XCtx ST, κ.HC = HC → κ.HP = HP → κ.K = K → κ.N = N → κ.l = l → κ.G = G → κ.tys = tys → κ.S0 = S0 → κ.R.cells = mc → κ.R.slots = ms → κ.meth.name = y.name → XC κ bytes nL y.cls rt F L → XR κ c2 rv h2 mc ms → XG κ σ0 0 (lv_args 0 av) []) :
    XMet l G tys S0 (HC σ0) y bytes nL rt F L av (HP σ0) c2 rv h2 mc ms := by
  refine Met.ofW (cc := bytes) (maxL := nL) (ret := rt) hy rfl ?_
  intro p e s m args below meth c s₁ B hml hv
  obtain ⟨rfl, hW, hK⟩ := hv
  have hts := atoms_spec (ws := .code y bytes nL rt :: goodTbl) B.pre
  have hs0 : S0 ≤ s.heap.size := by rw [hW.1]; exact Nat.le_add_right _ _
  have hl := lv_entry av (n := nL) hlen
  rw [lg_entry_eq]
  have key := body (p, l, e, (headSpec (.code y bytes nL rt :: goodTbl) { frames := F, cells := mc, slots := ms, locals := L }).room, s, m, av.toArray, below, meth, c, nL, G, tys, S0, HC, HP, K, N, MQ below (XQ G S0 c2 rv h2) av.toArray s mc ms (XA S0)) rfl rfl rfl rfl rfl rfl rfl rfl rfl rfl (name_of_methodNamed B.named B.method).1
    ⟨B.exec, B.bytes, hml, rfl, findClass_of_methodNamed B.named, fun w hw => hts w (List.mem_cons_of_mem _ hw), hK, hs0, B.notSynchronized, B.returns, Nat.le_refl _, Nat.le_refl _⟩ rfl s.heap [] _ hW va_S.rf hl
  have e1 : XCtx.K (p, l, e, (headSpec (.code y bytes nL rt :: goodTbl) { frames := F, cells := mc, slots := ms, locals := L }).room, s, m, av.toArray, below, meth, c, nL, G, tys, S0, HC, HP, K, N, MQ below (XQ G S0 c2 rv h2) av.toArray s mc ms (XA S0)) σ0 = 0 := hk.1
  have e2 : XCtx.N (p, l, e, (headSpec (.code y bytes nL rt :: goodTbl) { frames := F, cells := mc, slots := ms, locals := L }).room, s, m, av.toArray, below, meth, c, nL, G, tys, S0, HC, HP, K, N, MQ below (XQ G S0 c2 rv h2) av.toArray s mc ms (XA S0)) σ0 = 0 := hk.2
  rw [e1, e2] at key
  exact key
end
section
/-! WORLDS: the cells of one State with all that it holds (gl), of the class (cl), of the reference (ml), each over numbers alone; a world is laid over any other cells (ov). -/
def ov (h : Nat → va_E) (b : Nat) (L : List va_E) : Nat → va_E := fun i => if b ≤ i ∧ i < b + L.length then L.getD (i - b) (h i) else h i
theorem ov_at {h : Nat → va_E} {b : Nat} {L : List va_E} (m : Nat) {e : va_E} (hm : L[m]? = some e) : ov h b L (b + m) = e := by
  have hl : m < L.length := (List.getElem?_eq_some_iff.mp hm).1
  unfold ov
  rw [if_pos ⟨Nat.le_add_right _ _, Nat.add_lt_add_left hl _⟩, Nat.add_sub_cancel_left, List.getD_eq_getElem?_getD, hm]
  rfl
theorem ov_set {h : Nat → va_E} {b : Nat} {L : List va_E} (m : Nat) (v : va_E) (hm : m < L.length) : hset (ov h b L) (b + m) v = ov h b (L.set m v) := by
  funext i
  unfold hset ov
  rw [List.length_set]
  by_cases hi : i = b + m
  · subst hi
    rw [if_pos rfl, if_pos ⟨Nat.le_add_right _ _, Nat.add_lt_add_left hm _⟩, Nat.add_sub_cancel_left, List.getD_eq_getElem?_getD, List.getElem?_set_self hm]
    rfl
  · rw [if_neg hi]
    by_cases hc : b ≤ i ∧ i < b + L.length
    · rw [if_pos hc, if_pos hc, List.getD_eq_getElem?_getD, List.getD_eq_getElem?_getD, List.getElem?_set_ne (by omega)]
    · rw [if_neg hc, if_neg hc]
theorem ov_eqset {h : Nat → va_E} {b : Nat} {L L' : List va_E} (m : Nat) (v : va_E) (hm : m < L.length) (e : L.set m v = L') : hset (ov h b L) (b + m) v = ov h b L' := by rw [ov_set m v hm, e]
theorem ov_part {h : Nat → va_E} {b : Nat} (A M B M' : List va_E) (hl : M'.length = M.length) : ov (ov h b (A ++ (M ++ B))) (b + A.length) M' = ov h b (A ++ (M' ++ B)) := by
  funext i
  unfold ov
  simp only [List.length_append, hl]
  by_cases h1 : b + A.length ≤ i ∧ i < b + A.length + M.length
  · have h2 : b ≤ i ∧ i < b + (A.length + (M.length + B.length)) := by omega
    rw [if_pos h1, if_pos h2, if_pos h2]
    have h3 : (A ++ (M' ++ B))[i - b]? = M'[i - (b + A.length)]? := by
      rw [List.getElem?_append_right (by omega), List.getElem?_append_left (by omega), show i - b - A.length = i - (b + A.length) by omega]
    have h4 : i - (b + A.length) < M'.length := by omega
    rw [List.getD_eq_getElem?_getD (l := M'), List.getD_eq_getElem?_getD (l := A ++ (M' ++ B)), h3, List.getElem?_eq_getElem h4]
    rfl
  · rw [if_neg h1]
    by_cases h2 : b ≤ i ∧ i < b + (A.length + (M.length + B.length))
    · rw [if_pos h2, if_pos h2, List.getD_eq_getElem?_getD, List.getD_eq_getElem?_getD]
      rcases Nat.lt_or_ge (i - b) A.length with g | g
      · rw [List.getElem?_append_left g, List.getElem?_append_left g]
      · rw [List.getElem?_append_right g, List.getElem?_append_right g, List.getElem?_append_right (by omega), List.getElem?_append_right (by omega), hl]
    · rw [if_neg h2, if_neg h2]
theorem ov_one {h : Nat → va_E} {b : Nat} (A : List va_E) (c v : va_E) (B : List va_E) (m : Nat) (hm : A.length = m) : hset (ov h b (A ++ (c :: B))) (b + m) v = ov h b (A ++ (v :: B)) := by
  subst hm
  rw [ov_set A.length v (by simp)]
  simp
theorem ov_get {h : Nat → va_E} {b : Nat} (A : List va_E) (c : va_E) (B : List va_E) (m : Nat) (hm : A.length = m) : ov h b (A ++ (c :: B)) (b + m) = c := by
  subst hm
  exact ov_at _ (by simp)
theorem ov_self {h : Nat → va_E} {b : Nat} (A M B : List va_E) : ov h b (A ++ (M ++ B)) = ov (ov h b (A ++ (M ++ B))) (b + A.length) M := (ov_part A M B M rfl).symm
/-- a State: its arrays by their places, its numbers by theirs -/
abbrev SS : Type := (Nat → Nat → Int32) × (Nat → Int32)
def sA {T : Type} (σ : (Nat → Nat → Int32) × T) (m : Nat) (f : Nat → Int32) : (Nat → Nat → Int32) × T := (fun j => if j = m then f else σ.1 j, σ.2)
def sN {T : Type} (σ : T × (Nat → Int32)) (k : Nat) (v : Int32) : T × (Nat → Int32) := (σ.1, upd σ.2 k v)
abbrev MS : Type := (Nat → Nat → Int32) × (Nat → Int32)
/-- the class: its eight States, its text, its numbers -/
abbrev CS : Type := (Nat → SS) × (Nat → Int32) × (Nat → Int32)
def cS (σ : CS) (k : Nat) (t : SS) : CS := (fun j => if j = k then t else σ.1 j, σ.2)
def cT (σ : CS) (f : Nat → Int32) : CS := (σ.1, f, σ.2.2)
def cN (σ : CS) (k : Nat) (v : Int32) : CS := (σ.1, σ.2.1, upd σ.2.2 k v)

def gl (S0 : Nat) (cI : ClassId) (b : Nat) (σ : SS) : List va_E := [.inr (3, [.ref (S0 + (b + 1)), .ref (S0 + (b + 12)), .ref (S0 + (b + 19)), .ref (S0 + (b + 20)), .ref (S0 + (b + 21)), .int (σ.2 8), .int (σ.2 9), .int (σ.2 10)]),
  .inr (0, [.ref (S0 + (b + 2)), .ref (S0 + (b + 3)), .ref (S0 + (b + 4)), .ref (S0 + (b + 5)), .ref (S0 + (b + 6)), .ref (S0 + (b + 7)), .ref (S0 + (b + 8)), .ref (S0 + (b + 9)), .int (σ.2 0), .ref (S0 + (b + 10)), .int (σ.2 1), .ref (S0 + (b + 11)), .int (σ.2 2)]),
  .inl (cI, 201, .inl (σ.1 2)),
  .inl (cI, 201, .inl (σ.1 3)),
  .inl (cI, 201, .inl (σ.1 4)),
  .inl (cI, 201, .inl (σ.1 5)),
  .inl (cI, 201, .inl (σ.1 6)),
  .inl (cI, 201, .inl (σ.1 7)),
  .inl (cI, 201, .inl (σ.1 8)),
  .inl (cI, 201, .inl (σ.1 9)),
  .inl (cI, 201, .inl (σ.1 10)),
  .inl (cI, 33, .inl (σ.1 11)),
  .inr (4, [.ref (S0 + (b + 13)), .ref (S0 + (b + 14)), .ref (S0 + (b + 15)), .ref (S0 + (b + 16)), .ref (S0 + (b + 17)), .ref (S0 + (b + 18)), .int (σ.2 3), .int (σ.2 4), .int (σ.2 5), .int (σ.2 6), .int (σ.2 7)]),
  .inl (cI, 8, .inl (σ.1 13)),
  .inl (cI, 8, .inl (σ.1 14)),
  .inl (cI, 8, .inl (σ.1 15)),
  .inl (cI, 8, .inl (σ.1 16)),
  .inl (cI, 8, .inl (σ.1 17)),
  .inl (cI, 8, .inl (σ.1 18)),
  .inl (cI, 4, .inl (σ.1 19)),
  .inl (cI, 4, .inl (σ.1 20)),
  .inl (cI, 33, .inl (σ.1 21))]
def ml (S0 : Nat) (cI cZ : ClassId) (b : Nat) (σ : MS) : List va_E := [.inr (6, [.ref (S0 + (b + 1)), .ref (S0 + (b + 2)), .ref (S0 + (b + 3)), .int (σ.2 0), .ref (S0 + (b + 4)), .int (σ.2 1), .ref (S0 + (b + 5)), .int (σ.2 2), .ref (S0 + (b + 6)), .int (σ.2 3), .int (σ.2 4), .int (σ.2 5), .int (σ.2 6), .ref (S0 + (b + 7)), .int (σ.2 7)]),
  .inl (cI, 2204, .inl (σ.1 1)),
  .inl (cI, 2204, .inl (σ.1 2)),
  .inl (cI, 8816, .inl (σ.1 3)),
  .inl (cI, 2204, .inl (σ.1 4)),
  .inl (cI, 60, .inl (σ.1 5)),
  .inl (cZ, 201, .inl (σ.1 6)),
  .inl (cI, 4, .inl (σ.1 7))]
def cl (S0 : Nat) (cI cC cS' : ClassId) (b : Nat) (σ : CS) : List va_E := [.inr (5, [.ref (S0 + (b + 1)), .ref (S0 + (b + 23)), .ref (S0 + (b + 45)), .int (σ.2.2 0), .ref (S0 + (b + 67)), .ref (S0 + (b + 179))])] ++ (gl S0 cI (b + 1) (σ.1 0) ++ (gl S0 cI (b + 23) (σ.1 1) ++ (gl S0 cI (b + 45) (σ.1 2) ++ ([.inr (1, [.ref (S0 + (b + 68)), .int (σ.2.2 1), .int (σ.2.2 2)])] ++ ([.inl (cS', 5, .inr (.inr (.inr (.inr (fun j => if j < 5 then some (S0 + (b + 69 + 22 * j)) else none)))))] ++ (gl S0 cI (b + 69) (σ.1 3) ++ (gl S0 cI (b + 91) (σ.1 4) ++ (gl S0 cI (b + 113) (σ.1 5) ++ (gl S0 cI (b + 135) (σ.1 6) ++ (gl S0 cI (b + 157) (σ.1 7) ++ ([.inr (2, [.ref (S0 + (b + 180)), .int (σ.2.2 3)])] ++ ([.inl (cC, 60, .inl (σ.2.1))]))))))))))))
theorem gl_len (S0 : Nat) (cI : ClassId) (b : Nat) (σ : SS) : (gl S0 cI b σ).length = 22 := rfl
theorem ml_len (S0 : Nat) (cI cZ : ClassId) (b : Nat) (σ : MS) : (ml S0 cI cZ b σ).length = 8 := rfl
theorem cl_len (S0 : Nat) (cI cC cS' : ClassId) (b : Nat) (σ : CS) : (cl S0 cI cC cS' b σ).length = 181 := by
  simp only [cl, List.length_append, gl_len, List.length_cons, List.length_nil]
section YS
variable {κ : XCtx SS} {h : Nat → va_E} {b : Nat} {cI : ClassId}
def YS (κ : XCtx SS) (h : Nat → va_E) (b : Nat) (cI : ClassId) : Prop := (∀ σ, κ.HP σ = ov h b (gl κ.S0 cI b σ)) ∧ (∀ σ, b + 22 ≤ κ.HC σ) ∧ κ.tys[0]? = some (cI, .int)
theorem yS_hp (Y : YS κ h b cI) (σ : SS) : κ.HP σ = ov h b (gl κ.S0 cI b σ) := Y.1 σ
theorem yS_hb (Y : YS κ h b cI) (σ : SS) : b + 22 ≤ κ.HC σ := Y.2.1 σ
theorem yS_ht (Y : YS κ h b cI) : κ.tys[0]? = some (cI, .int) := Y.2.2
theorem yS_l (Y : YS κ h b cI) {σ : SS} (m : Nat) (hm : m < 22) : b + m < κ.HC σ := Nat.lt_of_lt_of_le (Nat.add_lt_add_left hm b) (Y.2.1 σ)
theorem yS_set (Y : YS κ h b cI) {σ σ1 : SS} (m : Nat) (v : va_E) (hm : m < 22) (e : (gl κ.S0 cI b σ).set m v = gl κ.S0 cI b σ1) : hset (κ.HP σ) (b + m) v = κ.HP σ1 := by
  rw [Y.1 σ, Y.1 σ1]
  exact ov_eqset m v hm e
theorem yS_0 (Y : YS κ h b cI) {σ : SS} : κ.HP σ (b + 0) = .inr (3, [.ref (κ.S0 + (b + 1)), .ref (κ.S0 + (b + 12)), .ref (κ.S0 + (b + 19)), .ref (κ.S0 + (b + 20)), .ref (κ.S0 + (b + 21)), .int (σ.2 8), .int (σ.2 9), .int (σ.2 10)]) := by
  rw [Y.1 σ]
  exact ov_at 0 rfl
theorem yS_p0_5 (Y : YS κ h b cI) {σ : SS} : ∀ v, hset (κ.HP σ) (b + 0) (.inr (3, [.ref (κ.S0 + (b + 1)), .ref (κ.S0 + (b + 12)), .ref (κ.S0 + (b + 19)), .ref (κ.S0 + (b + 20)), .ref (κ.S0 + (b + 21)), .int (σ.2 8), .int (σ.2 9), .int (σ.2 10)].set 5 (.int v))) = κ.HP (sN σ 8 v) := fun _ => yS_set Y 0 _ (by decide) rfl
theorem yS_p0_6 (Y : YS κ h b cI) {σ : SS} : ∀ v, hset (κ.HP σ) (b + 0) (.inr (3, [.ref (κ.S0 + (b + 1)), .ref (κ.S0 + (b + 12)), .ref (κ.S0 + (b + 19)), .ref (κ.S0 + (b + 20)), .ref (κ.S0 + (b + 21)), .int (σ.2 8), .int (σ.2 9), .int (σ.2 10)].set 6 (.int v))) = κ.HP (sN σ 9 v) := fun _ => yS_set Y 0 _ (by decide) rfl
theorem yS_p0_7 (Y : YS κ h b cI) {σ : SS} : ∀ v, hset (κ.HP σ) (b + 0) (.inr (3, [.ref (κ.S0 + (b + 1)), .ref (κ.S0 + (b + 12)), .ref (κ.S0 + (b + 19)), .ref (κ.S0 + (b + 20)), .ref (κ.S0 + (b + 21)), .int (σ.2 8), .int (σ.2 9), .int (σ.2 10)].set 7 (.int v))) = κ.HP (sN σ 10 v) := fun _ => yS_set Y 0 _ (by decide) rfl
theorem yS_1 (Y : YS κ h b cI) {σ : SS} : κ.HP σ (b + 1) = .inr (0, [.ref (κ.S0 + (b + 2)), .ref (κ.S0 + (b + 3)), .ref (κ.S0 + (b + 4)), .ref (κ.S0 + (b + 5)), .ref (κ.S0 + (b + 6)), .ref (κ.S0 + (b + 7)), .ref (κ.S0 + (b + 8)), .ref (κ.S0 + (b + 9)), .int (σ.2 0), .ref (κ.S0 + (b + 10)), .int (σ.2 1), .ref (κ.S0 + (b + 11)), .int (σ.2 2)]) := by
  rw [Y.1 σ]
  exact ov_at 1 rfl
theorem yS_p1_8 (Y : YS κ h b cI) {σ : SS} : ∀ v, hset (κ.HP σ) (b + 1) (.inr (0, [.ref (κ.S0 + (b + 2)), .ref (κ.S0 + (b + 3)), .ref (κ.S0 + (b + 4)), .ref (κ.S0 + (b + 5)), .ref (κ.S0 + (b + 6)), .ref (κ.S0 + (b + 7)), .ref (κ.S0 + (b + 8)), .ref (κ.S0 + (b + 9)), .int (σ.2 0), .ref (κ.S0 + (b + 10)), .int (σ.2 1), .ref (κ.S0 + (b + 11)), .int (σ.2 2)].set 8 (.int v))) = κ.HP (sN σ 0 v) := fun _ => yS_set Y 1 _ (by decide) rfl
theorem yS_p1_10 (Y : YS κ h b cI) {σ : SS} : ∀ v, hset (κ.HP σ) (b + 1) (.inr (0, [.ref (κ.S0 + (b + 2)), .ref (κ.S0 + (b + 3)), .ref (κ.S0 + (b + 4)), .ref (κ.S0 + (b + 5)), .ref (κ.S0 + (b + 6)), .ref (κ.S0 + (b + 7)), .ref (κ.S0 + (b + 8)), .ref (κ.S0 + (b + 9)), .int (σ.2 0), .ref (κ.S0 + (b + 10)), .int (σ.2 1), .ref (κ.S0 + (b + 11)), .int (σ.2 2)].set 10 (.int v))) = κ.HP (sN σ 1 v) := fun _ => yS_set Y 1 _ (by decide) rfl
theorem yS_p1_12 (Y : YS κ h b cI) {σ : SS} : ∀ v, hset (κ.HP σ) (b + 1) (.inr (0, [.ref (κ.S0 + (b + 2)), .ref (κ.S0 + (b + 3)), .ref (κ.S0 + (b + 4)), .ref (κ.S0 + (b + 5)), .ref (κ.S0 + (b + 6)), .ref (κ.S0 + (b + 7)), .ref (κ.S0 + (b + 8)), .ref (κ.S0 + (b + 9)), .int (σ.2 0), .ref (κ.S0 + (b + 10)), .int (σ.2 1), .ref (κ.S0 + (b + 11)), .int (σ.2 2)].set 12 (.int v))) = κ.HP (sN σ 2 v) := fun _ => yS_set Y 1 _ (by decide) rfl
theorem yS_2 (Y : YS κ h b cI) {σ : SS} : κ.HP σ (b + 2) = .inl (cI, 201, .inl (σ.1 2)) := by
  rw [Y.1 σ]
  exact ov_at 2 rfl
theorem yS_s2 (Y : YS κ h b cI) {σ : SS} : ∀ f, hset (κ.HP σ) (b + 2) (.inl (cI, 201, .inl f)) = κ.HP (sA σ 2 f) := fun _ => yS_set Y 2 _ (by decide) rfl
theorem yS_3 (Y : YS κ h b cI) {σ : SS} : κ.HP σ (b + 3) = .inl (cI, 201, .inl (σ.1 3)) := by
  rw [Y.1 σ]
  exact ov_at 3 rfl
theorem yS_s3 (Y : YS κ h b cI) {σ : SS} : ∀ f, hset (κ.HP σ) (b + 3) (.inl (cI, 201, .inl f)) = κ.HP (sA σ 3 f) := fun _ => yS_set Y 3 _ (by decide) rfl
theorem yS_4 (Y : YS κ h b cI) {σ : SS} : κ.HP σ (b + 4) = .inl (cI, 201, .inl (σ.1 4)) := by
  rw [Y.1 σ]
  exact ov_at 4 rfl
theorem yS_s4 (Y : YS κ h b cI) {σ : SS} : ∀ f, hset (κ.HP σ) (b + 4) (.inl (cI, 201, .inl f)) = κ.HP (sA σ 4 f) := fun _ => yS_set Y 4 _ (by decide) rfl
theorem yS_5 (Y : YS κ h b cI) {σ : SS} : κ.HP σ (b + 5) = .inl (cI, 201, .inl (σ.1 5)) := by
  rw [Y.1 σ]
  exact ov_at 5 rfl
theorem yS_s5 (Y : YS κ h b cI) {σ : SS} : ∀ f, hset (κ.HP σ) (b + 5) (.inl (cI, 201, .inl f)) = κ.HP (sA σ 5 f) := fun _ => yS_set Y 5 _ (by decide) rfl
theorem yS_6 (Y : YS κ h b cI) {σ : SS} : κ.HP σ (b + 6) = .inl (cI, 201, .inl (σ.1 6)) := by
  rw [Y.1 σ]
  exact ov_at 6 rfl
theorem yS_s6 (Y : YS κ h b cI) {σ : SS} : ∀ f, hset (κ.HP σ) (b + 6) (.inl (cI, 201, .inl f)) = κ.HP (sA σ 6 f) := fun _ => yS_set Y 6 _ (by decide) rfl
theorem yS_7 (Y : YS κ h b cI) {σ : SS} : κ.HP σ (b + 7) = .inl (cI, 201, .inl (σ.1 7)) := by
  rw [Y.1 σ]
  exact ov_at 7 rfl
theorem yS_s7 (Y : YS κ h b cI) {σ : SS} : ∀ f, hset (κ.HP σ) (b + 7) (.inl (cI, 201, .inl f)) = κ.HP (sA σ 7 f) := fun _ => yS_set Y 7 _ (by decide) rfl
theorem yS_8 (Y : YS κ h b cI) {σ : SS} : κ.HP σ (b + 8) = .inl (cI, 201, .inl (σ.1 8)) := by
  rw [Y.1 σ]
  exact ov_at 8 rfl
theorem yS_s8 (Y : YS κ h b cI) {σ : SS} : ∀ f, hset (κ.HP σ) (b + 8) (.inl (cI, 201, .inl f)) = κ.HP (sA σ 8 f) := fun _ => yS_set Y 8 _ (by decide) rfl
theorem yS_9 (Y : YS κ h b cI) {σ : SS} : κ.HP σ (b + 9) = .inl (cI, 201, .inl (σ.1 9)) := by
  rw [Y.1 σ]
  exact ov_at 9 rfl
theorem yS_s9 (Y : YS κ h b cI) {σ : SS} : ∀ f, hset (κ.HP σ) (b + 9) (.inl (cI, 201, .inl f)) = κ.HP (sA σ 9 f) := fun _ => yS_set Y 9 _ (by decide) rfl
theorem yS_10 (Y : YS κ h b cI) {σ : SS} : κ.HP σ (b + 10) = .inl (cI, 201, .inl (σ.1 10)) := by
  rw [Y.1 σ]
  exact ov_at 10 rfl
theorem yS_s10 (Y : YS κ h b cI) {σ : SS} : ∀ f, hset (κ.HP σ) (b + 10) (.inl (cI, 201, .inl f)) = κ.HP (sA σ 10 f) := fun _ => yS_set Y 10 _ (by decide) rfl
theorem yS_11 (Y : YS κ h b cI) {σ : SS} : κ.HP σ (b + 11) = .inl (cI, 33, .inl (σ.1 11)) := by
  rw [Y.1 σ]
  exact ov_at 11 rfl
theorem yS_s11 (Y : YS κ h b cI) {σ : SS} : ∀ f, hset (κ.HP σ) (b + 11) (.inl (cI, 33, .inl f)) = κ.HP (sA σ 11 f) := fun _ => yS_set Y 11 _ (by decide) rfl
theorem yS_12 (Y : YS κ h b cI) {σ : SS} : κ.HP σ (b + 12) = .inr (4, [.ref (κ.S0 + (b + 13)), .ref (κ.S0 + (b + 14)), .ref (κ.S0 + (b + 15)), .ref (κ.S0 + (b + 16)), .ref (κ.S0 + (b + 17)), .ref (κ.S0 + (b + 18)), .int (σ.2 3), .int (σ.2 4), .int (σ.2 5), .int (σ.2 6), .int (σ.2 7)]) := by
  rw [Y.1 σ]
  exact ov_at 12 rfl
theorem yS_p12_6 (Y : YS κ h b cI) {σ : SS} : ∀ v, hset (κ.HP σ) (b + 12) (.inr (4, [.ref (κ.S0 + (b + 13)), .ref (κ.S0 + (b + 14)), .ref (κ.S0 + (b + 15)), .ref (κ.S0 + (b + 16)), .ref (κ.S0 + (b + 17)), .ref (κ.S0 + (b + 18)), .int (σ.2 3), .int (σ.2 4), .int (σ.2 5), .int (σ.2 6), .int (σ.2 7)].set 6 (.int v))) = κ.HP (sN σ 3 v) := fun _ => yS_set Y 12 _ (by decide) rfl
theorem yS_p12_7 (Y : YS κ h b cI) {σ : SS} : ∀ v, hset (κ.HP σ) (b + 12) (.inr (4, [.ref (κ.S0 + (b + 13)), .ref (κ.S0 + (b + 14)), .ref (κ.S0 + (b + 15)), .ref (κ.S0 + (b + 16)), .ref (κ.S0 + (b + 17)), .ref (κ.S0 + (b + 18)), .int (σ.2 3), .int (σ.2 4), .int (σ.2 5), .int (σ.2 6), .int (σ.2 7)].set 7 (.int v))) = κ.HP (sN σ 4 v) := fun _ => yS_set Y 12 _ (by decide) rfl
theorem yS_p12_8 (Y : YS κ h b cI) {σ : SS} : ∀ v, hset (κ.HP σ) (b + 12) (.inr (4, [.ref (κ.S0 + (b + 13)), .ref (κ.S0 + (b + 14)), .ref (κ.S0 + (b + 15)), .ref (κ.S0 + (b + 16)), .ref (κ.S0 + (b + 17)), .ref (κ.S0 + (b + 18)), .int (σ.2 3), .int (σ.2 4), .int (σ.2 5), .int (σ.2 6), .int (σ.2 7)].set 8 (.int v))) = κ.HP (sN σ 5 v) := fun _ => yS_set Y 12 _ (by decide) rfl
theorem yS_p12_9 (Y : YS κ h b cI) {σ : SS} : ∀ v, hset (κ.HP σ) (b + 12) (.inr (4, [.ref (κ.S0 + (b + 13)), .ref (κ.S0 + (b + 14)), .ref (κ.S0 + (b + 15)), .ref (κ.S0 + (b + 16)), .ref (κ.S0 + (b + 17)), .ref (κ.S0 + (b + 18)), .int (σ.2 3), .int (σ.2 4), .int (σ.2 5), .int (σ.2 6), .int (σ.2 7)].set 9 (.int v))) = κ.HP (sN σ 6 v) := fun _ => yS_set Y 12 _ (by decide) rfl
theorem yS_p12_10 (Y : YS κ h b cI) {σ : SS} : ∀ v, hset (κ.HP σ) (b + 12) (.inr (4, [.ref (κ.S0 + (b + 13)), .ref (κ.S0 + (b + 14)), .ref (κ.S0 + (b + 15)), .ref (κ.S0 + (b + 16)), .ref (κ.S0 + (b + 17)), .ref (κ.S0 + (b + 18)), .int (σ.2 3), .int (σ.2 4), .int (σ.2 5), .int (σ.2 6), .int (σ.2 7)].set 10 (.int v))) = κ.HP (sN σ 7 v) := fun _ => yS_set Y 12 _ (by decide) rfl
theorem yS_13 (Y : YS κ h b cI) {σ : SS} : κ.HP σ (b + 13) = .inl (cI, 8, .inl (σ.1 13)) := by
  rw [Y.1 σ]
  exact ov_at 13 rfl
theorem yS_s13 (Y : YS κ h b cI) {σ : SS} : ∀ f, hset (κ.HP σ) (b + 13) (.inl (cI, 8, .inl f)) = κ.HP (sA σ 13 f) := fun _ => yS_set Y 13 _ (by decide) rfl
theorem yS_14 (Y : YS κ h b cI) {σ : SS} : κ.HP σ (b + 14) = .inl (cI, 8, .inl (σ.1 14)) := by
  rw [Y.1 σ]
  exact ov_at 14 rfl
theorem yS_s14 (Y : YS κ h b cI) {σ : SS} : ∀ f, hset (κ.HP σ) (b + 14) (.inl (cI, 8, .inl f)) = κ.HP (sA σ 14 f) := fun _ => yS_set Y 14 _ (by decide) rfl
theorem yS_15 (Y : YS κ h b cI) {σ : SS} : κ.HP σ (b + 15) = .inl (cI, 8, .inl (σ.1 15)) := by
  rw [Y.1 σ]
  exact ov_at 15 rfl
theorem yS_s15 (Y : YS κ h b cI) {σ : SS} : ∀ f, hset (κ.HP σ) (b + 15) (.inl (cI, 8, .inl f)) = κ.HP (sA σ 15 f) := fun _ => yS_set Y 15 _ (by decide) rfl
theorem yS_16 (Y : YS κ h b cI) {σ : SS} : κ.HP σ (b + 16) = .inl (cI, 8, .inl (σ.1 16)) := by
  rw [Y.1 σ]
  exact ov_at 16 rfl
theorem yS_s16 (Y : YS κ h b cI) {σ : SS} : ∀ f, hset (κ.HP σ) (b + 16) (.inl (cI, 8, .inl f)) = κ.HP (sA σ 16 f) := fun _ => yS_set Y 16 _ (by decide) rfl
theorem yS_17 (Y : YS κ h b cI) {σ : SS} : κ.HP σ (b + 17) = .inl (cI, 8, .inl (σ.1 17)) := by
  rw [Y.1 σ]
  exact ov_at 17 rfl
theorem yS_s17 (Y : YS κ h b cI) {σ : SS} : ∀ f, hset (κ.HP σ) (b + 17) (.inl (cI, 8, .inl f)) = κ.HP (sA σ 17 f) := fun _ => yS_set Y 17 _ (by decide) rfl
theorem yS_18 (Y : YS κ h b cI) {σ : SS} : κ.HP σ (b + 18) = .inl (cI, 8, .inl (σ.1 18)) := by
  rw [Y.1 σ]
  exact ov_at 18 rfl
theorem yS_s18 (Y : YS κ h b cI) {σ : SS} : ∀ f, hset (κ.HP σ) (b + 18) (.inl (cI, 8, .inl f)) = κ.HP (sA σ 18 f) := fun _ => yS_set Y 18 _ (by decide) rfl
theorem yS_19 (Y : YS κ h b cI) {σ : SS} : κ.HP σ (b + 19) = .inl (cI, 4, .inl (σ.1 19)) := by
  rw [Y.1 σ]
  exact ov_at 19 rfl
theorem yS_s19 (Y : YS κ h b cI) {σ : SS} : ∀ f, hset (κ.HP σ) (b + 19) (.inl (cI, 4, .inl f)) = κ.HP (sA σ 19 f) := fun _ => yS_set Y 19 _ (by decide) rfl
theorem yS_20 (Y : YS κ h b cI) {σ : SS} : κ.HP σ (b + 20) = .inl (cI, 4, .inl (σ.1 20)) := by
  rw [Y.1 σ]
  exact ov_at 20 rfl
theorem yS_s20 (Y : YS κ h b cI) {σ : SS} : ∀ f, hset (κ.HP σ) (b + 20) (.inl (cI, 4, .inl f)) = κ.HP (sA σ 20 f) := fun _ => yS_set Y 20 _ (by decide) rfl
theorem yS_21 (Y : YS κ h b cI) {σ : SS} : κ.HP σ (b + 21) = .inl (cI, 33, .inl (σ.1 21)) := by
  rw [Y.1 σ]
  exact ov_at 21 rfl
theorem yS_s21 (Y : YS κ h b cI) {σ : SS} : ∀ f, hset (κ.HP σ) (b + 21) (.inl (cI, 33, .inl f)) = κ.HP (sA σ 21 f) := fun _ => yS_set Y 21 _ (by decide) rfl
end YS
section YM
variable {κ : XCtx MS} {h : Nat → va_E} {b : Nat} {cI cZ : ClassId}
def YM (κ : XCtx MS) (h : Nat → va_E) (b : Nat) (cI cZ : ClassId) : Prop := (∀ σ, κ.HP σ = ov h b (ml κ.S0 cI cZ b σ)) ∧ (∀ σ, b + 8 ≤ κ.HC σ) ∧ κ.tys[0]? = some (cI, .int) ∧ κ.tys[2]? = some (cZ, .boolean)
theorem yM_hp (Y : YM κ h b cI cZ) (σ : MS) : κ.HP σ = ov h b (ml κ.S0 cI cZ b σ) := Y.1 σ
theorem yM_hb (Y : YM κ h b cI cZ) (σ : MS) : b + 8 ≤ κ.HC σ := Y.2.1 σ
theorem yM_ht (Y : YM κ h b cI cZ) : κ.tys[0]? = some (cI, .int) := Y.2.2.1
theorem yM_htz (Y : YM κ h b cI cZ) : κ.tys[2]? = some (cZ, .boolean) := Y.2.2.2
theorem yM_l (Y : YM κ h b cI cZ) {σ : MS} (m : Nat) (hm : m < 8) : b + m < κ.HC σ := Nat.lt_of_lt_of_le (Nat.add_lt_add_left hm b) (Y.2.1 σ)
theorem yM_set (Y : YM κ h b cI cZ) {σ σ1 : MS} (m : Nat) (v : va_E) (hm : m < 8) (e : (ml κ.S0 cI cZ b σ).set m v = ml κ.S0 cI cZ b σ1) : hset (κ.HP σ) (b + m) v = κ.HP σ1 := by
  rw [Y.1 σ, Y.1 σ1]
  exact ov_eqset m v hm e
theorem yM_0 (Y : YM κ h b cI cZ) {σ : MS} : κ.HP σ (b + 0) = .inr (6, [.ref (κ.S0 + (b + 1)), .ref (κ.S0 + (b + 2)), .ref (κ.S0 + (b + 3)), .int (σ.2 0), .ref (κ.S0 + (b + 4)), .int (σ.2 1), .ref (κ.S0 + (b + 5)), .int (σ.2 2), .ref (κ.S0 + (b + 6)), .int (σ.2 3), .int (σ.2 4), .int (σ.2 5), .int (σ.2 6), .ref (κ.S0 + (b + 7)), .int (σ.2 7)]) := by
  rw [Y.1 σ]
  exact ov_at 0 rfl
theorem yM_p0_3 (Y : YM κ h b cI cZ) {σ : MS} : ∀ v, hset (κ.HP σ) (b + 0) (.inr (6, [.ref (κ.S0 + (b + 1)), .ref (κ.S0 + (b + 2)), .ref (κ.S0 + (b + 3)), .int (σ.2 0), .ref (κ.S0 + (b + 4)), .int (σ.2 1), .ref (κ.S0 + (b + 5)), .int (σ.2 2), .ref (κ.S0 + (b + 6)), .int (σ.2 3), .int (σ.2 4), .int (σ.2 5), .int (σ.2 6), .ref (κ.S0 + (b + 7)), .int (σ.2 7)].set 3 (.int v))) = κ.HP (sN σ 0 v) := fun _ => yM_set Y 0 _ (by decide) rfl
theorem yM_p0_5 (Y : YM κ h b cI cZ) {σ : MS} : ∀ v, hset (κ.HP σ) (b + 0) (.inr (6, [.ref (κ.S0 + (b + 1)), .ref (κ.S0 + (b + 2)), .ref (κ.S0 + (b + 3)), .int (σ.2 0), .ref (κ.S0 + (b + 4)), .int (σ.2 1), .ref (κ.S0 + (b + 5)), .int (σ.2 2), .ref (κ.S0 + (b + 6)), .int (σ.2 3), .int (σ.2 4), .int (σ.2 5), .int (σ.2 6), .ref (κ.S0 + (b + 7)), .int (σ.2 7)].set 5 (.int v))) = κ.HP (sN σ 1 v) := fun _ => yM_set Y 0 _ (by decide) rfl
theorem yM_p0_7 (Y : YM κ h b cI cZ) {σ : MS} : ∀ v, hset (κ.HP σ) (b + 0) (.inr (6, [.ref (κ.S0 + (b + 1)), .ref (κ.S0 + (b + 2)), .ref (κ.S0 + (b + 3)), .int (σ.2 0), .ref (κ.S0 + (b + 4)), .int (σ.2 1), .ref (κ.S0 + (b + 5)), .int (σ.2 2), .ref (κ.S0 + (b + 6)), .int (σ.2 3), .int (σ.2 4), .int (σ.2 5), .int (σ.2 6), .ref (κ.S0 + (b + 7)), .int (σ.2 7)].set 7 (.int v))) = κ.HP (sN σ 2 v) := fun _ => yM_set Y 0 _ (by decide) rfl
theorem yM_p0_9 (Y : YM κ h b cI cZ) {σ : MS} : ∀ v, hset (κ.HP σ) (b + 0) (.inr (6, [.ref (κ.S0 + (b + 1)), .ref (κ.S0 + (b + 2)), .ref (κ.S0 + (b + 3)), .int (σ.2 0), .ref (κ.S0 + (b + 4)), .int (σ.2 1), .ref (κ.S0 + (b + 5)), .int (σ.2 2), .ref (κ.S0 + (b + 6)), .int (σ.2 3), .int (σ.2 4), .int (σ.2 5), .int (σ.2 6), .ref (κ.S0 + (b + 7)), .int (σ.2 7)].set 9 (.int v))) = κ.HP (sN σ 3 v) := fun _ => yM_set Y 0 _ (by decide) rfl
theorem yM_p0_10 (Y : YM κ h b cI cZ) {σ : MS} : ∀ v, hset (κ.HP σ) (b + 0) (.inr (6, [.ref (κ.S0 + (b + 1)), .ref (κ.S0 + (b + 2)), .ref (κ.S0 + (b + 3)), .int (σ.2 0), .ref (κ.S0 + (b + 4)), .int (σ.2 1), .ref (κ.S0 + (b + 5)), .int (σ.2 2), .ref (κ.S0 + (b + 6)), .int (σ.2 3), .int (σ.2 4), .int (σ.2 5), .int (σ.2 6), .ref (κ.S0 + (b + 7)), .int (σ.2 7)].set 10 (.int v))) = κ.HP (sN σ 4 v) := fun _ => yM_set Y 0 _ (by decide) rfl
theorem yM_p0_11 (Y : YM κ h b cI cZ) {σ : MS} : ∀ v, hset (κ.HP σ) (b + 0) (.inr (6, [.ref (κ.S0 + (b + 1)), .ref (κ.S0 + (b + 2)), .ref (κ.S0 + (b + 3)), .int (σ.2 0), .ref (κ.S0 + (b + 4)), .int (σ.2 1), .ref (κ.S0 + (b + 5)), .int (σ.2 2), .ref (κ.S0 + (b + 6)), .int (σ.2 3), .int (σ.2 4), .int (σ.2 5), .int (σ.2 6), .ref (κ.S0 + (b + 7)), .int (σ.2 7)].set 11 (.int v))) = κ.HP (sN σ 5 v) := fun _ => yM_set Y 0 _ (by decide) rfl
theorem yM_p0_12 (Y : YM κ h b cI cZ) {σ : MS} : ∀ v, hset (κ.HP σ) (b + 0) (.inr (6, [.ref (κ.S0 + (b + 1)), .ref (κ.S0 + (b + 2)), .ref (κ.S0 + (b + 3)), .int (σ.2 0), .ref (κ.S0 + (b + 4)), .int (σ.2 1), .ref (κ.S0 + (b + 5)), .int (σ.2 2), .ref (κ.S0 + (b + 6)), .int (σ.2 3), .int (σ.2 4), .int (σ.2 5), .int (σ.2 6), .ref (κ.S0 + (b + 7)), .int (σ.2 7)].set 12 (.int v))) = κ.HP (sN σ 6 v) := fun _ => yM_set Y 0 _ (by decide) rfl
theorem yM_p0_14 (Y : YM κ h b cI cZ) {σ : MS} : ∀ v, hset (κ.HP σ) (b + 0) (.inr (6, [.ref (κ.S0 + (b + 1)), .ref (κ.S0 + (b + 2)), .ref (κ.S0 + (b + 3)), .int (σ.2 0), .ref (κ.S0 + (b + 4)), .int (σ.2 1), .ref (κ.S0 + (b + 5)), .int (σ.2 2), .ref (κ.S0 + (b + 6)), .int (σ.2 3), .int (σ.2 4), .int (σ.2 5), .int (σ.2 6), .ref (κ.S0 + (b + 7)), .int (σ.2 7)].set 14 (.int v))) = κ.HP (sN σ 7 v) := fun _ => yM_set Y 0 _ (by decide) rfl
theorem yM_1 (Y : YM κ h b cI cZ) {σ : MS} : κ.HP σ (b + 1) = .inl (cI, 2204, .inl (σ.1 1)) := by
  rw [Y.1 σ]
  exact ov_at 1 rfl
theorem yM_s1 (Y : YM κ h b cI cZ) {σ : MS} : ∀ f, hset (κ.HP σ) (b + 1) (.inl (cI, 2204, .inl f)) = κ.HP (sA σ 1 f) := fun _ => yM_set Y 1 _ (by decide) rfl
theorem yM_2 (Y : YM κ h b cI cZ) {σ : MS} : κ.HP σ (b + 2) = .inl (cI, 2204, .inl (σ.1 2)) := by
  rw [Y.1 σ]
  exact ov_at 2 rfl
theorem yM_s2 (Y : YM κ h b cI cZ) {σ : MS} : ∀ f, hset (κ.HP σ) (b + 2) (.inl (cI, 2204, .inl f)) = κ.HP (sA σ 2 f) := fun _ => yM_set Y 2 _ (by decide) rfl
theorem yM_3 (Y : YM κ h b cI cZ) {σ : MS} : κ.HP σ (b + 3) = .inl (cI, 8816, .inl (σ.1 3)) := by
  rw [Y.1 σ]
  exact ov_at 3 rfl
theorem yM_s3 (Y : YM κ h b cI cZ) {σ : MS} : ∀ f, hset (κ.HP σ) (b + 3) (.inl (cI, 8816, .inl f)) = κ.HP (sA σ 3 f) := fun _ => yM_set Y 3 _ (by decide) rfl
theorem yM_4 (Y : YM κ h b cI cZ) {σ : MS} : κ.HP σ (b + 4) = .inl (cI, 2204, .inl (σ.1 4)) := by
  rw [Y.1 σ]
  exact ov_at 4 rfl
theorem yM_s4 (Y : YM κ h b cI cZ) {σ : MS} : ∀ f, hset (κ.HP σ) (b + 4) (.inl (cI, 2204, .inl f)) = κ.HP (sA σ 4 f) := fun _ => yM_set Y 4 _ (by decide) rfl
theorem yM_5 (Y : YM κ h b cI cZ) {σ : MS} : κ.HP σ (b + 5) = .inl (cI, 60, .inl (σ.1 5)) := by
  rw [Y.1 σ]
  exact ov_at 5 rfl
theorem yM_s5 (Y : YM κ h b cI cZ) {σ : MS} : ∀ f, hset (κ.HP σ) (b + 5) (.inl (cI, 60, .inl f)) = κ.HP (sA σ 5 f) := fun _ => yM_set Y 5 _ (by decide) rfl
theorem yM_6 (Y : YM κ h b cI cZ) {σ : MS} : κ.HP σ (b + 6) = .inl (cZ, 201, .inl (σ.1 6)) := by
  rw [Y.1 σ]
  exact ov_at 6 rfl
theorem yM_s6 (Y : YM κ h b cI cZ) {σ : MS} : ∀ f, hset (κ.HP σ) (b + 6) (.inl (cZ, 201, .inl f)) = κ.HP (sA σ 6 f) := fun _ => yM_set Y 6 _ (by decide) rfl
theorem yM_7 (Y : YM κ h b cI cZ) {σ : MS} : κ.HP σ (b + 7) = .inl (cI, 4, .inl (σ.1 7)) := by
  rw [Y.1 σ]
  exact ov_at 7 rfl
theorem yM_s7 (Y : YM κ h b cI cZ) {σ : MS} : ∀ f, hset (κ.HP σ) (b + 7) (.inl (cI, 4, .inl f)) = κ.HP (sA σ 7 f) := fun _ => yM_set Y 7 _ (by decide) rfl
end YM
section YC
variable {κ : XCtx CS} {h : Nat → va_E} {b : Nat} {cI cC cS' : ClassId}
def YC (κ : XCtx CS) (h : Nat → va_E) (b : Nat) (cI cC cS' : ClassId) : Prop := (∀ σ, κ.HP σ = ov h b (cl κ.S0 cI cC cS' b σ)) ∧ (∀ σ, b + 181 ≤ κ.HC σ) ∧ κ.tys[0]? = some (cI, .int) ∧ κ.tys[1]? = some (cC, .char) ∧ κ.tys[3]? = some (cS', .object "AppendZones$State")
theorem yC_hp (Y : YC κ h b cI cC cS') (σ : CS) : κ.HP σ = ov h b (cl κ.S0 cI cC cS' b σ) := Y.1 σ
theorem yC_hb (Y : YC κ h b cI cC cS') (σ : CS) : b + 181 ≤ κ.HC σ := Y.2.1 σ
theorem yC_ht (Y : YC κ h b cI cC cS') : κ.tys[0]? = some (cI, .int) := Y.2.2.1
theorem yC_htc (Y : YC κ h b cI cC cS') : κ.tys[1]? = some (cC, .char) := Y.2.2.2.1
theorem yC_hts (Y : YC κ h b cI cC cS') : κ.tys[3]? = some (cS', .object "AppendZones$State") := Y.2.2.2.2
theorem yC_l (Y : YC κ h b cI cC cS') {σ : CS} (m : Nat) (hm : m < 181) : b + m < κ.HC σ := Nat.lt_of_lt_of_le (Nat.add_lt_add_left hm b) (Y.2.1 σ)
theorem yC_set (Y : YC κ h b cI cC cS') {σ σ1 : CS} (m : Nat) (v : va_E) (hm : m < 181) (e : (cl κ.S0 cI cC cS' b σ).set m v = cl κ.S0 cI cC cS' b σ1) : hset (κ.HP σ) (b + m) v = κ.HP σ1 := by
  rw [Y.1 σ, Y.1 σ1]
  exact ov_eqset m v (by rw [cl_len]; exact hm) e
theorem yC_e0 (Y : YC κ h b cI cC cS') (σ : CS) : κ.HP σ = ov h b (([] : List va_E) ++ (.inr (5, [.ref (κ.S0 + (b + 1)), .ref (κ.S0 + (b + 23)), .ref (κ.S0 + (b + 45)), .int (σ.2.2 0), .ref (κ.S0 + (b + 67)), .ref (κ.S0 + (b + 179))]) :: (gl κ.S0 cI (b + 1) (σ.1 0) ++ (gl κ.S0 cI (b + 23) (σ.1 1) ++ (gl κ.S0 cI (b + 45) (σ.1 2) ++ ([.inr (1, [.ref (κ.S0 + (b + 68)), .int (σ.2.2 1), .int (σ.2.2 2)])] ++ ([.inl (cS', 5, .inr (.inr (.inr (.inr (fun j => if j < 5 then some (κ.S0 + (b + 69 + 22 * j)) else none)))))] ++ (gl κ.S0 cI (b + 69) (σ.1 3) ++ (gl κ.S0 cI (b + 91) (σ.1 4) ++ (gl κ.S0 cI (b + 113) (σ.1 5) ++ (gl κ.S0 cI (b + 135) (σ.1 6) ++ (gl κ.S0 cI (b + 157) (σ.1 7) ++ ([.inr (2, [.ref (κ.S0 + (b + 180)), .int (σ.2.2 3)])] ++ ([.inl (cC, 60, .inl (σ.2.1))]))))))))))) : List va_E))) := by
  rw [Y.1 σ]
  simp only [cl, List.append_assoc, List.cons_append, List.nil_append, List.append_nil]
theorem yC_0 (Y : YC κ h b cI cC cS') {σ : CS} : κ.HP σ (b + 0) = .inr (5, [.ref (κ.S0 + (b + 1)), .ref (κ.S0 + (b + 23)), .ref (κ.S0 + (b + 45)), .int (σ.2.2 0), .ref (κ.S0 + (b + 67)), .ref (κ.S0 + (b + 179))]) := by
  rw [yC_e0 Y σ]
  exact ov_get ([] : List va_E) _ (gl κ.S0 cI (b + 1) (σ.1 0) ++ (gl κ.S0 cI (b + 23) (σ.1 1) ++ (gl κ.S0 cI (b + 45) (σ.1 2) ++ ([.inr (1, [.ref (κ.S0 + (b + 68)), .int (σ.2.2 1), .int (σ.2.2 2)])] ++ ([.inl (cS', 5, .inr (.inr (.inr (.inr (fun j => if j < 5 then some (κ.S0 + (b + 69 + 22 * j)) else none)))))] ++ (gl κ.S0 cI (b + 69) (σ.1 3) ++ (gl κ.S0 cI (b + 91) (σ.1 4) ++ (gl κ.S0 cI (b + 113) (σ.1 5) ++ (gl κ.S0 cI (b + 135) (σ.1 6) ++ (gl κ.S0 cI (b + 157) (σ.1 7) ++ ([.inr (2, [.ref (κ.S0 + (b + 180)), .int (σ.2.2 3)])] ++ ([.inl (cC, 60, .inl (σ.2.1))]))))))))))) : List va_E) 0 (by simp only [List.length_append, gl_len, List.length_cons, List.length_nil])
theorem yC_p0_3 (Y : YC κ h b cI cC cS') {σ : CS} : ∀ v, hset (κ.HP σ) (b + 0) (.inr (5, [.ref (κ.S0 + (b + 1)), .ref (κ.S0 + (b + 23)), .ref (κ.S0 + (b + 45)), .int (σ.2.2 0), .ref (κ.S0 + (b + 67)), .ref (κ.S0 + (b + 179))].set 3 (.int v))) = κ.HP (cN σ 0 v) := fun v => by
  rw [yC_e0 Y σ, yC_e0 Y (cN σ 0 v)]
  exact ov_one ([] : List va_E) _ _ (gl κ.S0 cI (b + 1) (σ.1 0) ++ (gl κ.S0 cI (b + 23) (σ.1 1) ++ (gl κ.S0 cI (b + 45) (σ.1 2) ++ ([.inr (1, [.ref (κ.S0 + (b + 68)), .int (σ.2.2 1), .int (σ.2.2 2)])] ++ ([.inl (cS', 5, .inr (.inr (.inr (.inr (fun j => if j < 5 then some (κ.S0 + (b + 69 + 22 * j)) else none)))))] ++ (gl κ.S0 cI (b + 69) (σ.1 3) ++ (gl κ.S0 cI (b + 91) (σ.1 4) ++ (gl κ.S0 cI (b + 113) (σ.1 5) ++ (gl κ.S0 cI (b + 135) (σ.1 6) ++ (gl κ.S0 cI (b + 157) (σ.1 7) ++ ([.inr (2, [.ref (κ.S0 + (b + 180)), .int (σ.2.2 3)])] ++ ([.inl (cC, 60, .inl (σ.2.1))]))))))))))) : List va_E) 0 (by simp only [List.length_append, gl_len, List.length_cons, List.length_nil])
theorem yC_e67 (Y : YC κ h b cI cC cS') (σ : CS) : κ.HP σ = ov h b (([.inr (5, [.ref (κ.S0 + (b + 1)), .ref (κ.S0 + (b + 23)), .ref (κ.S0 + (b + 45)), .int (σ.2.2 0), .ref (κ.S0 + (b + 67)), .ref (κ.S0 + (b + 179))])] ++ (gl κ.S0 cI (b + 1) (σ.1 0) ++ (gl κ.S0 cI (b + 23) (σ.1 1) ++ (gl κ.S0 cI (b + 45) (σ.1 2)))) : List va_E) ++ (.inr (1, [.ref (κ.S0 + (b + 68)), .int (σ.2.2 1), .int (σ.2.2 2)]) :: ([.inl (cS', 5, .inr (.inr (.inr (.inr (fun j => if j < 5 then some (κ.S0 + (b + 69 + 22 * j)) else none)))))] ++ (gl κ.S0 cI (b + 69) (σ.1 3) ++ (gl κ.S0 cI (b + 91) (σ.1 4) ++ (gl κ.S0 cI (b + 113) (σ.1 5) ++ (gl κ.S0 cI (b + 135) (σ.1 6) ++ (gl κ.S0 cI (b + 157) (σ.1 7) ++ ([.inr (2, [.ref (κ.S0 + (b + 180)), .int (σ.2.2 3)])] ++ ([.inl (cC, 60, .inl (σ.2.1))]))))))) : List va_E))) := by
  rw [Y.1 σ]
  simp only [cl, List.append_assoc, List.cons_append, List.nil_append, List.append_nil]
theorem yC_67 (Y : YC κ h b cI cC cS') {σ : CS} : κ.HP σ (b + 67) = .inr (1, [.ref (κ.S0 + (b + 68)), .int (σ.2.2 1), .int (σ.2.2 2)]) := by
  rw [yC_e67 Y σ]
  exact ov_get ([.inr (5, [.ref (κ.S0 + (b + 1)), .ref (κ.S0 + (b + 23)), .ref (κ.S0 + (b + 45)), .int (σ.2.2 0), .ref (κ.S0 + (b + 67)), .ref (κ.S0 + (b + 179))])] ++ (gl κ.S0 cI (b + 1) (σ.1 0) ++ (gl κ.S0 cI (b + 23) (σ.1 1) ++ (gl κ.S0 cI (b + 45) (σ.1 2)))) : List va_E) _ ([.inl (cS', 5, .inr (.inr (.inr (.inr (fun j => if j < 5 then some (κ.S0 + (b + 69 + 22 * j)) else none)))))] ++ (gl κ.S0 cI (b + 69) (σ.1 3) ++ (gl κ.S0 cI (b + 91) (σ.1 4) ++ (gl κ.S0 cI (b + 113) (σ.1 5) ++ (gl κ.S0 cI (b + 135) (σ.1 6) ++ (gl κ.S0 cI (b + 157) (σ.1 7) ++ ([.inr (2, [.ref (κ.S0 + (b + 180)), .int (σ.2.2 3)])] ++ ([.inl (cC, 60, .inl (σ.2.1))]))))))) : List va_E) 67 (by simp only [List.length_append, gl_len, List.length_cons, List.length_nil])
theorem yC_p67_1 (Y : YC κ h b cI cC cS') {σ : CS} : ∀ v, hset (κ.HP σ) (b + 67) (.inr (1, [.ref (κ.S0 + (b + 68)), .int (σ.2.2 1), .int (σ.2.2 2)].set 1 (.int v))) = κ.HP (cN σ 1 v) := fun v => by
  rw [yC_e67 Y σ, yC_e67 Y (cN σ 1 v)]
  exact ov_one ([.inr (5, [.ref (κ.S0 + (b + 1)), .ref (κ.S0 + (b + 23)), .ref (κ.S0 + (b + 45)), .int (σ.2.2 0), .ref (κ.S0 + (b + 67)), .ref (κ.S0 + (b + 179))])] ++ (gl κ.S0 cI (b + 1) (σ.1 0) ++ (gl κ.S0 cI (b + 23) (σ.1 1) ++ (gl κ.S0 cI (b + 45) (σ.1 2)))) : List va_E) _ _ ([.inl (cS', 5, .inr (.inr (.inr (.inr (fun j => if j < 5 then some (κ.S0 + (b + 69 + 22 * j)) else none)))))] ++ (gl κ.S0 cI (b + 69) (σ.1 3) ++ (gl κ.S0 cI (b + 91) (σ.1 4) ++ (gl κ.S0 cI (b + 113) (σ.1 5) ++ (gl κ.S0 cI (b + 135) (σ.1 6) ++ (gl κ.S0 cI (b + 157) (σ.1 7) ++ ([.inr (2, [.ref (κ.S0 + (b + 180)), .int (σ.2.2 3)])] ++ ([.inl (cC, 60, .inl (σ.2.1))]))))))) : List va_E) 67 (by simp only [List.length_append, gl_len, List.length_cons, List.length_nil])
theorem yC_p67_2 (Y : YC κ h b cI cC cS') {σ : CS} : ∀ v, hset (κ.HP σ) (b + 67) (.inr (1, [.ref (κ.S0 + (b + 68)), .int (σ.2.2 1), .int (σ.2.2 2)].set 2 (.int v))) = κ.HP (cN σ 2 v) := fun v => by
  rw [yC_e67 Y σ, yC_e67 Y (cN σ 2 v)]
  exact ov_one ([.inr (5, [.ref (κ.S0 + (b + 1)), .ref (κ.S0 + (b + 23)), .ref (κ.S0 + (b + 45)), .int (σ.2.2 0), .ref (κ.S0 + (b + 67)), .ref (κ.S0 + (b + 179))])] ++ (gl κ.S0 cI (b + 1) (σ.1 0) ++ (gl κ.S0 cI (b + 23) (σ.1 1) ++ (gl κ.S0 cI (b + 45) (σ.1 2)))) : List va_E) _ _ ([.inl (cS', 5, .inr (.inr (.inr (.inr (fun j => if j < 5 then some (κ.S0 + (b + 69 + 22 * j)) else none)))))] ++ (gl κ.S0 cI (b + 69) (σ.1 3) ++ (gl κ.S0 cI (b + 91) (σ.1 4) ++ (gl κ.S0 cI (b + 113) (σ.1 5) ++ (gl κ.S0 cI (b + 135) (σ.1 6) ++ (gl κ.S0 cI (b + 157) (σ.1 7) ++ ([.inr (2, [.ref (κ.S0 + (b + 180)), .int (σ.2.2 3)])] ++ ([.inl (cC, 60, .inl (σ.2.1))]))))))) : List va_E) 67 (by simp only [List.length_append, gl_len, List.length_cons, List.length_nil])
theorem yC_e68 (Y : YC κ h b cI cC cS') (σ : CS) : κ.HP σ = ov h b (([.inr (5, [.ref (κ.S0 + (b + 1)), .ref (κ.S0 + (b + 23)), .ref (κ.S0 + (b + 45)), .int (σ.2.2 0), .ref (κ.S0 + (b + 67)), .ref (κ.S0 + (b + 179))])] ++ (gl κ.S0 cI (b + 1) (σ.1 0) ++ (gl κ.S0 cI (b + 23) (σ.1 1) ++ (gl κ.S0 cI (b + 45) (σ.1 2) ++ ([.inr (1, [.ref (κ.S0 + (b + 68)), .int (σ.2.2 1), .int (σ.2.2 2)])])))) : List va_E) ++ (.inl (cS', 5, .inr (.inr (.inr (.inr (fun j => if j < 5 then some (κ.S0 + (b + 69 + 22 * j)) else none))))) :: (gl κ.S0 cI (b + 69) (σ.1 3) ++ (gl κ.S0 cI (b + 91) (σ.1 4) ++ (gl κ.S0 cI (b + 113) (σ.1 5) ++ (gl κ.S0 cI (b + 135) (σ.1 6) ++ (gl κ.S0 cI (b + 157) (σ.1 7) ++ ([.inr (2, [.ref (κ.S0 + (b + 180)), .int (σ.2.2 3)])] ++ ([.inl (cC, 60, .inl (σ.2.1))])))))) : List va_E))) := by
  rw [Y.1 σ]
  simp only [cl, List.append_assoc, List.cons_append, List.nil_append, List.append_nil]
theorem yC_68 (Y : YC κ h b cI cC cS') {σ : CS} : κ.HP σ (b + 68) = .inl (cS', 5, .inr (.inr (.inr (.inr (fun j => if j < 5 then some (κ.S0 + (b + 69 + 22 * j)) else none))))) := by
  rw [yC_e68 Y σ]
  exact ov_get ([.inr (5, [.ref (κ.S0 + (b + 1)), .ref (κ.S0 + (b + 23)), .ref (κ.S0 + (b + 45)), .int (σ.2.2 0), .ref (κ.S0 + (b + 67)), .ref (κ.S0 + (b + 179))])] ++ (gl κ.S0 cI (b + 1) (σ.1 0) ++ (gl κ.S0 cI (b + 23) (σ.1 1) ++ (gl κ.S0 cI (b + 45) (σ.1 2) ++ ([.inr (1, [.ref (κ.S0 + (b + 68)), .int (σ.2.2 1), .int (σ.2.2 2)])])))) : List va_E) _ (gl κ.S0 cI (b + 69) (σ.1 3) ++ (gl κ.S0 cI (b + 91) (σ.1 4) ++ (gl κ.S0 cI (b + 113) (σ.1 5) ++ (gl κ.S0 cI (b + 135) (σ.1 6) ++ (gl κ.S0 cI (b + 157) (σ.1 7) ++ ([.inr (2, [.ref (κ.S0 + (b + 180)), .int (σ.2.2 3)])] ++ ([.inl (cC, 60, .inl (σ.2.1))])))))) : List va_E) 68 (by simp only [List.length_append, gl_len, List.length_cons, List.length_nil])
theorem yC_e179 (Y : YC κ h b cI cC cS') (σ : CS) : κ.HP σ = ov h b (([.inr (5, [.ref (κ.S0 + (b + 1)), .ref (κ.S0 + (b + 23)), .ref (κ.S0 + (b + 45)), .int (σ.2.2 0), .ref (κ.S0 + (b + 67)), .ref (κ.S0 + (b + 179))])] ++ (gl κ.S0 cI (b + 1) (σ.1 0) ++ (gl κ.S0 cI (b + 23) (σ.1 1) ++ (gl κ.S0 cI (b + 45) (σ.1 2) ++ ([.inr (1, [.ref (κ.S0 + (b + 68)), .int (σ.2.2 1), .int (σ.2.2 2)])] ++ ([.inl (cS', 5, .inr (.inr (.inr (.inr (fun j => if j < 5 then some (κ.S0 + (b + 69 + 22 * j)) else none)))))] ++ (gl κ.S0 cI (b + 69) (σ.1 3) ++ (gl κ.S0 cI (b + 91) (σ.1 4) ++ (gl κ.S0 cI (b + 113) (σ.1 5) ++ (gl κ.S0 cI (b + 135) (σ.1 6) ++ (gl κ.S0 cI (b + 157) (σ.1 7))))))))))) : List va_E) ++ (.inr (2, [.ref (κ.S0 + (b + 180)), .int (σ.2.2 3)]) :: ([.inl (cC, 60, .inl (σ.2.1))] : List va_E))) := by
  rw [Y.1 σ]
  simp only [cl, List.append_assoc, List.cons_append, List.nil_append, List.append_nil]
theorem yC_179 (Y : YC κ h b cI cC cS') {σ : CS} : κ.HP σ (b + 179) = .inr (2, [.ref (κ.S0 + (b + 180)), .int (σ.2.2 3)]) := by
  rw [yC_e179 Y σ]
  exact ov_get ([.inr (5, [.ref (κ.S0 + (b + 1)), .ref (κ.S0 + (b + 23)), .ref (κ.S0 + (b + 45)), .int (σ.2.2 0), .ref (κ.S0 + (b + 67)), .ref (κ.S0 + (b + 179))])] ++ (gl κ.S0 cI (b + 1) (σ.1 0) ++ (gl κ.S0 cI (b + 23) (σ.1 1) ++ (gl κ.S0 cI (b + 45) (σ.1 2) ++ ([.inr (1, [.ref (κ.S0 + (b + 68)), .int (σ.2.2 1), .int (σ.2.2 2)])] ++ ([.inl (cS', 5, .inr (.inr (.inr (.inr (fun j => if j < 5 then some (κ.S0 + (b + 69 + 22 * j)) else none)))))] ++ (gl κ.S0 cI (b + 69) (σ.1 3) ++ (gl κ.S0 cI (b + 91) (σ.1 4) ++ (gl κ.S0 cI (b + 113) (σ.1 5) ++ (gl κ.S0 cI (b + 135) (σ.1 6) ++ (gl κ.S0 cI (b + 157) (σ.1 7))))))))))) : List va_E) _ ([.inl (cC, 60, .inl (σ.2.1))] : List va_E) 179 (by simp only [List.length_append, gl_len, List.length_cons, List.length_nil])
theorem yC_p179_1 (Y : YC κ h b cI cC cS') {σ : CS} : ∀ v, hset (κ.HP σ) (b + 179) (.inr (2, [.ref (κ.S0 + (b + 180)), .int (σ.2.2 3)].set 1 (.int v))) = κ.HP (cN σ 3 v) := fun v => by
  rw [yC_e179 Y σ, yC_e179 Y (cN σ 3 v)]
  exact ov_one ([.inr (5, [.ref (κ.S0 + (b + 1)), .ref (κ.S0 + (b + 23)), .ref (κ.S0 + (b + 45)), .int (σ.2.2 0), .ref (κ.S0 + (b + 67)), .ref (κ.S0 + (b + 179))])] ++ (gl κ.S0 cI (b + 1) (σ.1 0) ++ (gl κ.S0 cI (b + 23) (σ.1 1) ++ (gl κ.S0 cI (b + 45) (σ.1 2) ++ ([.inr (1, [.ref (κ.S0 + (b + 68)), .int (σ.2.2 1), .int (σ.2.2 2)])] ++ ([.inl (cS', 5, .inr (.inr (.inr (.inr (fun j => if j < 5 then some (κ.S0 + (b + 69 + 22 * j)) else none)))))] ++ (gl κ.S0 cI (b + 69) (σ.1 3) ++ (gl κ.S0 cI (b + 91) (σ.1 4) ++ (gl κ.S0 cI (b + 113) (σ.1 5) ++ (gl κ.S0 cI (b + 135) (σ.1 6) ++ (gl κ.S0 cI (b + 157) (σ.1 7))))))))))) : List va_E) _ _ ([.inl (cC, 60, .inl (σ.2.1))] : List va_E) 179 (by simp only [List.length_append, gl_len, List.length_cons, List.length_nil])
theorem yC_e180 (Y : YC κ h b cI cC cS') (σ : CS) : κ.HP σ = ov h b (([.inr (5, [.ref (κ.S0 + (b + 1)), .ref (κ.S0 + (b + 23)), .ref (κ.S0 + (b + 45)), .int (σ.2.2 0), .ref (κ.S0 + (b + 67)), .ref (κ.S0 + (b + 179))])] ++ (gl κ.S0 cI (b + 1) (σ.1 0) ++ (gl κ.S0 cI (b + 23) (σ.1 1) ++ (gl κ.S0 cI (b + 45) (σ.1 2) ++ ([.inr (1, [.ref (κ.S0 + (b + 68)), .int (σ.2.2 1), .int (σ.2.2 2)])] ++ ([.inl (cS', 5, .inr (.inr (.inr (.inr (fun j => if j < 5 then some (κ.S0 + (b + 69 + 22 * j)) else none)))))] ++ (gl κ.S0 cI (b + 69) (σ.1 3) ++ (gl κ.S0 cI (b + 91) (σ.1 4) ++ (gl κ.S0 cI (b + 113) (σ.1 5) ++ (gl κ.S0 cI (b + 135) (σ.1 6) ++ (gl κ.S0 cI (b + 157) (σ.1 7) ++ ([.inr (2, [.ref (κ.S0 + (b + 180)), .int (σ.2.2 3)])]))))))))))) : List va_E) ++ (.inl (cC, 60, .inl (σ.2.1)) :: ([] : List va_E))) := by
  rw [Y.1 σ]
  simp only [cl, List.append_assoc, List.cons_append, List.nil_append, List.append_nil]
theorem yC_180 (Y : YC κ h b cI cC cS') {σ : CS} : κ.HP σ (b + 180) = .inl (cC, 60, .inl (σ.2.1)) := by
  rw [yC_e180 Y σ]
  exact ov_get ([.inr (5, [.ref (κ.S0 + (b + 1)), .ref (κ.S0 + (b + 23)), .ref (κ.S0 + (b + 45)), .int (σ.2.2 0), .ref (κ.S0 + (b + 67)), .ref (κ.S0 + (b + 179))])] ++ (gl κ.S0 cI (b + 1) (σ.1 0) ++ (gl κ.S0 cI (b + 23) (σ.1 1) ++ (gl κ.S0 cI (b + 45) (σ.1 2) ++ ([.inr (1, [.ref (κ.S0 + (b + 68)), .int (σ.2.2 1), .int (σ.2.2 2)])] ++ ([.inl (cS', 5, .inr (.inr (.inr (.inr (fun j => if j < 5 then some (κ.S0 + (b + 69 + 22 * j)) else none)))))] ++ (gl κ.S0 cI (b + 69) (σ.1 3) ++ (gl κ.S0 cI (b + 91) (σ.1 4) ++ (gl κ.S0 cI (b + 113) (σ.1 5) ++ (gl κ.S0 cI (b + 135) (σ.1 6) ++ (gl κ.S0 cI (b + 157) (σ.1 7) ++ ([.inr (2, [.ref (κ.S0 + (b + 180)), .int (σ.2.2 3)])]))))))))))) : List va_E) _ ([] : List va_E) 180 (by simp only [List.length_append, gl_len, List.length_cons, List.length_nil])
theorem yC_s180 (Y : YC κ h b cI cC cS') {σ : CS} : ∀ f, hset (κ.HP σ) (b + 180) (.inl (cC, 60, .inl f)) = κ.HP (cT σ f) := fun f => by
  rw [yC_e180 Y σ, yC_e180 Y (cT σ f)]
  exact ov_one ([.inr (5, [.ref (κ.S0 + (b + 1)), .ref (κ.S0 + (b + 23)), .ref (κ.S0 + (b + 45)), .int (σ.2.2 0), .ref (κ.S0 + (b + 67)), .ref (κ.S0 + (b + 179))])] ++ (gl κ.S0 cI (b + 1) (σ.1 0) ++ (gl κ.S0 cI (b + 23) (σ.1 1) ++ (gl κ.S0 cI (b + 45) (σ.1 2) ++ ([.inr (1, [.ref (κ.S0 + (b + 68)), .int (σ.2.2 1), .int (σ.2.2 2)])] ++ ([.inl (cS', 5, .inr (.inr (.inr (.inr (fun j => if j < 5 then some (κ.S0 + (b + 69 + 22 * j)) else none)))))] ++ (gl κ.S0 cI (b + 69) (σ.1 3) ++ (gl κ.S0 cI (b + 91) (σ.1 4) ++ (gl κ.S0 cI (b + 113) (σ.1 5) ++ (gl κ.S0 cI (b + 135) (σ.1 6) ++ (gl κ.S0 cI (b + 157) (σ.1 7) ++ ([.inr (2, [.ref (κ.S0 + (b + 180)), .int (σ.2.2 3)])]))))))))))) : List va_E) _ _ ([] : List va_E) 180 (by simp only [List.length_append, gl_len, List.length_cons, List.length_nil])
theorem yC_f0 (Y : YC κ h b cI cC cS') (σ : CS) : κ.HP σ = ov h b (([.inr (5, [.ref (κ.S0 + (b + 1)), .ref (κ.S0 + (b + 23)), .ref (κ.S0 + (b + 45)), .int (σ.2.2 0), .ref (κ.S0 + (b + 67)), .ref (κ.S0 + (b + 179))])] : List va_E) ++ (gl κ.S0 cI (b + 1) (σ.1 0) ++ (gl κ.S0 cI (b + 23) (σ.1 1) ++ (gl κ.S0 cI (b + 45) (σ.1 2) ++ ([.inr (1, [.ref (κ.S0 + (b + 68)), .int (σ.2.2 1), .int (σ.2.2 2)])] ++ ([.inl (cS', 5, .inr (.inr (.inr (.inr (fun j => if j < 5 then some (κ.S0 + (b + 69 + 22 * j)) else none)))))] ++ (gl κ.S0 cI (b + 69) (σ.1 3) ++ (gl κ.S0 cI (b + 91) (σ.1 4) ++ (gl κ.S0 cI (b + 113) (σ.1 5) ++ (gl κ.S0 cI (b + 135) (σ.1 6) ++ (gl κ.S0 cI (b + 157) (σ.1 7) ++ ([.inr (2, [.ref (κ.S0 + (b + 180)), .int (σ.2.2 3)])] ++ ([.inl (cC, 60, .inl (σ.2.1))])))))))))) : List va_E))) := by
  rw [Y.1 σ]
  simp only [cl, List.append_assoc, List.cons_append, List.nil_append, List.append_nil]
theorem yC_g0 (Y : YC κ h b cI cC cS') (σ : CS) : κ.HP σ = ov (κ.HP σ) (b + 1) (gl κ.S0 cI (b + 1) (σ.1 0)) := by
  rw [yC_f0 Y σ]
  have e := ov_self (h := h) (b := b) ([.inr (5, [.ref (κ.S0 + (b + 1)), .ref (κ.S0 + (b + 23)), .ref (κ.S0 + (b + 45)), .int (σ.2.2 0), .ref (κ.S0 + (b + 67)), .ref (κ.S0 + (b + 179))])] : List va_E) (gl κ.S0 cI (b + 1) (σ.1 0)) (gl κ.S0 cI (b + 23) (σ.1 1) ++ (gl κ.S0 cI (b + 45) (σ.1 2) ++ ([.inr (1, [.ref (κ.S0 + (b + 68)), .int (σ.2.2 1), .int (σ.2.2 2)])] ++ ([.inl (cS', 5, .inr (.inr (.inr (.inr (fun j => if j < 5 then some (κ.S0 + (b + 69 + 22 * j)) else none)))))] ++ (gl κ.S0 cI (b + 69) (σ.1 3) ++ (gl κ.S0 cI (b + 91) (σ.1 4) ++ (gl κ.S0 cI (b + 113) (σ.1 5) ++ (gl κ.S0 cI (b + 135) (σ.1 6) ++ (gl κ.S0 cI (b + 157) (σ.1 7) ++ ([.inr (2, [.ref (κ.S0 + (b + 180)), .int (σ.2.2 3)])] ++ ([.inl (cC, 60, .inl (σ.2.1))])))))))))) : List va_E)
  have hn : (([.inr (5, [.ref (κ.S0 + (b + 1)), .ref (κ.S0 + (b + 23)), .ref (κ.S0 + (b + 45)), .int (σ.2.2 0), .ref (κ.S0 + (b + 67)), .ref (κ.S0 + (b + 179))])] : List va_E)).length = 1 := by simp only [List.length_append, gl_len, List.length_cons, List.length_nil]
  rw [hn] at e
  exact e
theorem yC_G0 (Y : YC κ h b cI cC cS') (σ : CS) (t : SS) : κ.HP (cS σ 0 t) = ov (κ.HP σ) (b + 1) (gl κ.S0 cI (b + 1) t) := by
  rw [yC_f0 Y σ, yC_f0 Y (cS σ 0 t)]
  have e := ov_part (h := h) (b := b) ([.inr (5, [.ref (κ.S0 + (b + 1)), .ref (κ.S0 + (b + 23)), .ref (κ.S0 + (b + 45)), .int (σ.2.2 0), .ref (κ.S0 + (b + 67)), .ref (κ.S0 + (b + 179))])] : List va_E) (gl κ.S0 cI (b + 1) (σ.1 0)) (gl κ.S0 cI (b + 23) (σ.1 1) ++ (gl κ.S0 cI (b + 45) (σ.1 2) ++ ([.inr (1, [.ref (κ.S0 + (b + 68)), .int (σ.2.2 1), .int (σ.2.2 2)])] ++ ([.inl (cS', 5, .inr (.inr (.inr (.inr (fun j => if j < 5 then some (κ.S0 + (b + 69 + 22 * j)) else none)))))] ++ (gl κ.S0 cI (b + 69) (σ.1 3) ++ (gl κ.S0 cI (b + 91) (σ.1 4) ++ (gl κ.S0 cI (b + 113) (σ.1 5) ++ (gl κ.S0 cI (b + 135) (σ.1 6) ++ (gl κ.S0 cI (b + 157) (σ.1 7) ++ ([.inr (2, [.ref (κ.S0 + (b + 180)), .int (σ.2.2 3)])] ++ ([.inl (cC, 60, .inl (σ.2.1))])))))))))) : List va_E) (gl κ.S0 cI (b + 1) t) rfl
  have hn : (([.inr (5, [.ref (κ.S0 + (b + 1)), .ref (κ.S0 + (b + 23)), .ref (κ.S0 + (b + 45)), .int (σ.2.2 0), .ref (κ.S0 + (b + 67)), .ref (κ.S0 + (b + 179))])] : List va_E)).length = 1 := by simp only [List.length_append, gl_len, List.length_cons, List.length_nil]
  rw [hn] at e
  exact e.symm
theorem yC_b0 (Y : YC κ h b cI cC cS') (σ : CS) : b + 1 + 22 ≤ κ.HC σ := Nat.le_trans (by omega) (Y.2.1 σ)
theorem yC_l0 (Y : YC κ h b cI cC cS') {σ : CS} (m : Nat) (hm : m < 22) : b + 1 + m < κ.HC σ := by have := Y.2.1 σ; omega
theorem yC_g0_0 (Y : YC κ h b cI cC cS') {σ : CS} : κ.HP σ (b + 1 + 0) = .inr (3, [.ref (κ.S0 + (b + 1 + 1)), .ref (κ.S0 + (b + 1 + 12)), .ref (κ.S0 + (b + 1 + 19)), .ref (κ.S0 + (b + 1 + 20)), .ref (κ.S0 + (b + 1 + 21)), .int ((σ.1 0).2 8), .int ((σ.1 0).2 9), .int ((σ.1 0).2 10)]) := by
  rw [yC_g0 Y σ]
  exact ov_at 0 rfl
theorem yC_g0_1 (Y : YC κ h b cI cC cS') {σ : CS} : κ.HP σ (b + 1 + 1) = .inr (0, [.ref (κ.S0 + (b + 1 + 2)), .ref (κ.S0 + (b + 1 + 3)), .ref (κ.S0 + (b + 1 + 4)), .ref (κ.S0 + (b + 1 + 5)), .ref (κ.S0 + (b + 1 + 6)), .ref (κ.S0 + (b + 1 + 7)), .ref (κ.S0 + (b + 1 + 8)), .ref (κ.S0 + (b + 1 + 9)), .int ((σ.1 0).2 0), .ref (κ.S0 + (b + 1 + 10)), .int ((σ.1 0).2 1), .ref (κ.S0 + (b + 1 + 11)), .int ((σ.1 0).2 2)]) := by
  rw [yC_g0 Y σ]
  exact ov_at 1 rfl
theorem yC_g0_6 (Y : YC κ h b cI cC cS') {σ : CS} : κ.HP σ (b + 1 + 6) = .inl (cI, 201, .inl ((σ.1 0).1 6)) := by
  rw [yC_g0 Y σ]
  exact ov_at 6 rfl
theorem yC_g0_12 (Y : YC κ h b cI cC cS') {σ : CS} : κ.HP σ (b + 1 + 12) = .inr (4, [.ref (κ.S0 + (b + 1 + 13)), .ref (κ.S0 + (b + 1 + 14)), .ref (κ.S0 + (b + 1 + 15)), .ref (κ.S0 + (b + 1 + 16)), .ref (κ.S0 + (b + 1 + 17)), .ref (κ.S0 + (b + 1 + 18)), .int ((σ.1 0).2 3), .int ((σ.1 0).2 4), .int ((σ.1 0).2 5), .int ((σ.1 0).2 6), .int ((σ.1 0).2 7)]) := by
  rw [yC_g0 Y σ]
  exact ov_at 12 rfl
theorem yC_f1 (Y : YC κ h b cI cC cS') (σ : CS) : κ.HP σ = ov h b (([.inr (5, [.ref (κ.S0 + (b + 1)), .ref (κ.S0 + (b + 23)), .ref (κ.S0 + (b + 45)), .int (σ.2.2 0), .ref (κ.S0 + (b + 67)), .ref (κ.S0 + (b + 179))])] ++ (gl κ.S0 cI (b + 1) (σ.1 0)) : List va_E) ++ (gl κ.S0 cI (b + 23) (σ.1 1) ++ (gl κ.S0 cI (b + 45) (σ.1 2) ++ ([.inr (1, [.ref (κ.S0 + (b + 68)), .int (σ.2.2 1), .int (σ.2.2 2)])] ++ ([.inl (cS', 5, .inr (.inr (.inr (.inr (fun j => if j < 5 then some (κ.S0 + (b + 69 + 22 * j)) else none)))))] ++ (gl κ.S0 cI (b + 69) (σ.1 3) ++ (gl κ.S0 cI (b + 91) (σ.1 4) ++ (gl κ.S0 cI (b + 113) (σ.1 5) ++ (gl κ.S0 cI (b + 135) (σ.1 6) ++ (gl κ.S0 cI (b + 157) (σ.1 7) ++ ([.inr (2, [.ref (κ.S0 + (b + 180)), .int (σ.2.2 3)])] ++ ([.inl (cC, 60, .inl (σ.2.1))]))))))))) : List va_E))) := by
  rw [Y.1 σ]
  simp only [cl, List.append_assoc, List.cons_append, List.nil_append, List.append_nil]
theorem yC_g1 (Y : YC κ h b cI cC cS') (σ : CS) : κ.HP σ = ov (κ.HP σ) (b + 23) (gl κ.S0 cI (b + 23) (σ.1 1)) := by
  rw [yC_f1 Y σ]
  have e := ov_self (h := h) (b := b) ([.inr (5, [.ref (κ.S0 + (b + 1)), .ref (κ.S0 + (b + 23)), .ref (κ.S0 + (b + 45)), .int (σ.2.2 0), .ref (κ.S0 + (b + 67)), .ref (κ.S0 + (b + 179))])] ++ (gl κ.S0 cI (b + 1) (σ.1 0)) : List va_E) (gl κ.S0 cI (b + 23) (σ.1 1)) (gl κ.S0 cI (b + 45) (σ.1 2) ++ ([.inr (1, [.ref (κ.S0 + (b + 68)), .int (σ.2.2 1), .int (σ.2.2 2)])] ++ ([.inl (cS', 5, .inr (.inr (.inr (.inr (fun j => if j < 5 then some (κ.S0 + (b + 69 + 22 * j)) else none)))))] ++ (gl κ.S0 cI (b + 69) (σ.1 3) ++ (gl κ.S0 cI (b + 91) (σ.1 4) ++ (gl κ.S0 cI (b + 113) (σ.1 5) ++ (gl κ.S0 cI (b + 135) (σ.1 6) ++ (gl κ.S0 cI (b + 157) (σ.1 7) ++ ([.inr (2, [.ref (κ.S0 + (b + 180)), .int (σ.2.2 3)])] ++ ([.inl (cC, 60, .inl (σ.2.1))]))))))))) : List va_E)
  have hn : (([.inr (5, [.ref (κ.S0 + (b + 1)), .ref (κ.S0 + (b + 23)), .ref (κ.S0 + (b + 45)), .int (σ.2.2 0), .ref (κ.S0 + (b + 67)), .ref (κ.S0 + (b + 179))])] ++ (gl κ.S0 cI (b + 1) (σ.1 0)) : List va_E)).length = 23 := by simp only [List.length_append, gl_len, List.length_cons, List.length_nil]
  rw [hn] at e
  exact e
theorem yC_G1 (Y : YC κ h b cI cC cS') (σ : CS) (t : SS) : κ.HP (cS σ 1 t) = ov (κ.HP σ) (b + 23) (gl κ.S0 cI (b + 23) t) := by
  rw [yC_f1 Y σ, yC_f1 Y (cS σ 1 t)]
  have e := ov_part (h := h) (b := b) ([.inr (5, [.ref (κ.S0 + (b + 1)), .ref (κ.S0 + (b + 23)), .ref (κ.S0 + (b + 45)), .int (σ.2.2 0), .ref (κ.S0 + (b + 67)), .ref (κ.S0 + (b + 179))])] ++ (gl κ.S0 cI (b + 1) (σ.1 0)) : List va_E) (gl κ.S0 cI (b + 23) (σ.1 1)) (gl κ.S0 cI (b + 45) (σ.1 2) ++ ([.inr (1, [.ref (κ.S0 + (b + 68)), .int (σ.2.2 1), .int (σ.2.2 2)])] ++ ([.inl (cS', 5, .inr (.inr (.inr (.inr (fun j => if j < 5 then some (κ.S0 + (b + 69 + 22 * j)) else none)))))] ++ (gl κ.S0 cI (b + 69) (σ.1 3) ++ (gl κ.S0 cI (b + 91) (σ.1 4) ++ (gl κ.S0 cI (b + 113) (σ.1 5) ++ (gl κ.S0 cI (b + 135) (σ.1 6) ++ (gl κ.S0 cI (b + 157) (σ.1 7) ++ ([.inr (2, [.ref (κ.S0 + (b + 180)), .int (σ.2.2 3)])] ++ ([.inl (cC, 60, .inl (σ.2.1))]))))))))) : List va_E) (gl κ.S0 cI (b + 23) t) rfl
  have hn : (([.inr (5, [.ref (κ.S0 + (b + 1)), .ref (κ.S0 + (b + 23)), .ref (κ.S0 + (b + 45)), .int (σ.2.2 0), .ref (κ.S0 + (b + 67)), .ref (κ.S0 + (b + 179))])] ++ (gl κ.S0 cI (b + 1) (σ.1 0)) : List va_E)).length = 23 := by simp only [List.length_append, gl_len, List.length_cons, List.length_nil]
  rw [hn] at e
  exact e.symm
theorem yC_b1 (Y : YC κ h b cI cC cS') (σ : CS) : b + 23 + 22 ≤ κ.HC σ := Nat.le_trans (by omega) (Y.2.1 σ)
theorem yC_l1 (Y : YC κ h b cI cC cS') {σ : CS} (m : Nat) (hm : m < 22) : b + 23 + m < κ.HC σ := by have := Y.2.1 σ; omega
theorem yC_g1_0 (Y : YC κ h b cI cC cS') {σ : CS} : κ.HP σ (b + 23 + 0) = .inr (3, [.ref (κ.S0 + (b + 23 + 1)), .ref (κ.S0 + (b + 23 + 12)), .ref (κ.S0 + (b + 23 + 19)), .ref (κ.S0 + (b + 23 + 20)), .ref (κ.S0 + (b + 23 + 21)), .int ((σ.1 1).2 8), .int ((σ.1 1).2 9), .int ((σ.1 1).2 10)]) := by
  rw [yC_g1 Y σ]
  exact ov_at 0 rfl
theorem yC_g1_1 (Y : YC κ h b cI cC cS') {σ : CS} : κ.HP σ (b + 23 + 1) = .inr (0, [.ref (κ.S0 + (b + 23 + 2)), .ref (κ.S0 + (b + 23 + 3)), .ref (κ.S0 + (b + 23 + 4)), .ref (κ.S0 + (b + 23 + 5)), .ref (κ.S0 + (b + 23 + 6)), .ref (κ.S0 + (b + 23 + 7)), .ref (κ.S0 + (b + 23 + 8)), .ref (κ.S0 + (b + 23 + 9)), .int ((σ.1 1).2 0), .ref (κ.S0 + (b + 23 + 10)), .int ((σ.1 1).2 1), .ref (κ.S0 + (b + 23 + 11)), .int ((σ.1 1).2 2)]) := by
  rw [yC_g1 Y σ]
  exact ov_at 1 rfl
theorem yC_g1_6 (Y : YC κ h b cI cC cS') {σ : CS} : κ.HP σ (b + 23 + 6) = .inl (cI, 201, .inl ((σ.1 1).1 6)) := by
  rw [yC_g1 Y σ]
  exact ov_at 6 rfl
theorem yC_g1_12 (Y : YC κ h b cI cC cS') {σ : CS} : κ.HP σ (b + 23 + 12) = .inr (4, [.ref (κ.S0 + (b + 23 + 13)), .ref (κ.S0 + (b + 23 + 14)), .ref (κ.S0 + (b + 23 + 15)), .ref (κ.S0 + (b + 23 + 16)), .ref (κ.S0 + (b + 23 + 17)), .ref (κ.S0 + (b + 23 + 18)), .int ((σ.1 1).2 3), .int ((σ.1 1).2 4), .int ((σ.1 1).2 5), .int ((σ.1 1).2 6), .int ((σ.1 1).2 7)]) := by
  rw [yC_g1 Y σ]
  exact ov_at 12 rfl
theorem yC_f2 (Y : YC κ h b cI cC cS') (σ : CS) : κ.HP σ = ov h b (([.inr (5, [.ref (κ.S0 + (b + 1)), .ref (κ.S0 + (b + 23)), .ref (κ.S0 + (b + 45)), .int (σ.2.2 0), .ref (κ.S0 + (b + 67)), .ref (κ.S0 + (b + 179))])] ++ (gl κ.S0 cI (b + 1) (σ.1 0) ++ (gl κ.S0 cI (b + 23) (σ.1 1))) : List va_E) ++ (gl κ.S0 cI (b + 45) (σ.1 2) ++ ([.inr (1, [.ref (κ.S0 + (b + 68)), .int (σ.2.2 1), .int (σ.2.2 2)])] ++ ([.inl (cS', 5, .inr (.inr (.inr (.inr (fun j => if j < 5 then some (κ.S0 + (b + 69 + 22 * j)) else none)))))] ++ (gl κ.S0 cI (b + 69) (σ.1 3) ++ (gl κ.S0 cI (b + 91) (σ.1 4) ++ (gl κ.S0 cI (b + 113) (σ.1 5) ++ (gl κ.S0 cI (b + 135) (σ.1 6) ++ (gl κ.S0 cI (b + 157) (σ.1 7) ++ ([.inr (2, [.ref (κ.S0 + (b + 180)), .int (σ.2.2 3)])] ++ ([.inl (cC, 60, .inl (σ.2.1))])))))))) : List va_E))) := by
  rw [Y.1 σ]
  simp only [cl, List.append_assoc, List.cons_append, List.nil_append, List.append_nil]
theorem yC_g2 (Y : YC κ h b cI cC cS') (σ : CS) : κ.HP σ = ov (κ.HP σ) (b + 45) (gl κ.S0 cI (b + 45) (σ.1 2)) := by
  rw [yC_f2 Y σ]
  have e := ov_self (h := h) (b := b) ([.inr (5, [.ref (κ.S0 + (b + 1)), .ref (κ.S0 + (b + 23)), .ref (κ.S0 + (b + 45)), .int (σ.2.2 0), .ref (κ.S0 + (b + 67)), .ref (κ.S0 + (b + 179))])] ++ (gl κ.S0 cI (b + 1) (σ.1 0) ++ (gl κ.S0 cI (b + 23) (σ.1 1))) : List va_E) (gl κ.S0 cI (b + 45) (σ.1 2)) ([.inr (1, [.ref (κ.S0 + (b + 68)), .int (σ.2.2 1), .int (σ.2.2 2)])] ++ ([.inl (cS', 5, .inr (.inr (.inr (.inr (fun j => if j < 5 then some (κ.S0 + (b + 69 + 22 * j)) else none)))))] ++ (gl κ.S0 cI (b + 69) (σ.1 3) ++ (gl κ.S0 cI (b + 91) (σ.1 4) ++ (gl κ.S0 cI (b + 113) (σ.1 5) ++ (gl κ.S0 cI (b + 135) (σ.1 6) ++ (gl κ.S0 cI (b + 157) (σ.1 7) ++ ([.inr (2, [.ref (κ.S0 + (b + 180)), .int (σ.2.2 3)])] ++ ([.inl (cC, 60, .inl (σ.2.1))])))))))) : List va_E)
  have hn : (([.inr (5, [.ref (κ.S0 + (b + 1)), .ref (κ.S0 + (b + 23)), .ref (κ.S0 + (b + 45)), .int (σ.2.2 0), .ref (κ.S0 + (b + 67)), .ref (κ.S0 + (b + 179))])] ++ (gl κ.S0 cI (b + 1) (σ.1 0) ++ (gl κ.S0 cI (b + 23) (σ.1 1))) : List va_E)).length = 45 := by simp only [List.length_append, gl_len, List.length_cons, List.length_nil]
  rw [hn] at e
  exact e
theorem yC_G2 (Y : YC κ h b cI cC cS') (σ : CS) (t : SS) : κ.HP (cS σ 2 t) = ov (κ.HP σ) (b + 45) (gl κ.S0 cI (b + 45) t) := by
  rw [yC_f2 Y σ, yC_f2 Y (cS σ 2 t)]
  have e := ov_part (h := h) (b := b) ([.inr (5, [.ref (κ.S0 + (b + 1)), .ref (κ.S0 + (b + 23)), .ref (κ.S0 + (b + 45)), .int (σ.2.2 0), .ref (κ.S0 + (b + 67)), .ref (κ.S0 + (b + 179))])] ++ (gl κ.S0 cI (b + 1) (σ.1 0) ++ (gl κ.S0 cI (b + 23) (σ.1 1))) : List va_E) (gl κ.S0 cI (b + 45) (σ.1 2)) ([.inr (1, [.ref (κ.S0 + (b + 68)), .int (σ.2.2 1), .int (σ.2.2 2)])] ++ ([.inl (cS', 5, .inr (.inr (.inr (.inr (fun j => if j < 5 then some (κ.S0 + (b + 69 + 22 * j)) else none)))))] ++ (gl κ.S0 cI (b + 69) (σ.1 3) ++ (gl κ.S0 cI (b + 91) (σ.1 4) ++ (gl κ.S0 cI (b + 113) (σ.1 5) ++ (gl κ.S0 cI (b + 135) (σ.1 6) ++ (gl κ.S0 cI (b + 157) (σ.1 7) ++ ([.inr (2, [.ref (κ.S0 + (b + 180)), .int (σ.2.2 3)])] ++ ([.inl (cC, 60, .inl (σ.2.1))])))))))) : List va_E) (gl κ.S0 cI (b + 45) t) rfl
  have hn : (([.inr (5, [.ref (κ.S0 + (b + 1)), .ref (κ.S0 + (b + 23)), .ref (κ.S0 + (b + 45)), .int (σ.2.2 0), .ref (κ.S0 + (b + 67)), .ref (κ.S0 + (b + 179))])] ++ (gl κ.S0 cI (b + 1) (σ.1 0) ++ (gl κ.S0 cI (b + 23) (σ.1 1))) : List va_E)).length = 45 := by simp only [List.length_append, gl_len, List.length_cons, List.length_nil]
  rw [hn] at e
  exact e.symm
theorem yC_b2 (Y : YC κ h b cI cC cS') (σ : CS) : b + 45 + 22 ≤ κ.HC σ := Nat.le_trans (by omega) (Y.2.1 σ)
theorem yC_l2 (Y : YC κ h b cI cC cS') {σ : CS} (m : Nat) (hm : m < 22) : b + 45 + m < κ.HC σ := by have := Y.2.1 σ; omega
theorem yC_g2_0 (Y : YC κ h b cI cC cS') {σ : CS} : κ.HP σ (b + 45 + 0) = .inr (3, [.ref (κ.S0 + (b + 45 + 1)), .ref (κ.S0 + (b + 45 + 12)), .ref (κ.S0 + (b + 45 + 19)), .ref (κ.S0 + (b + 45 + 20)), .ref (κ.S0 + (b + 45 + 21)), .int ((σ.1 2).2 8), .int ((σ.1 2).2 9), .int ((σ.1 2).2 10)]) := by
  rw [yC_g2 Y σ]
  exact ov_at 0 rfl
theorem yC_g2_1 (Y : YC κ h b cI cC cS') {σ : CS} : κ.HP σ (b + 45 + 1) = .inr (0, [.ref (κ.S0 + (b + 45 + 2)), .ref (κ.S0 + (b + 45 + 3)), .ref (κ.S0 + (b + 45 + 4)), .ref (κ.S0 + (b + 45 + 5)), .ref (κ.S0 + (b + 45 + 6)), .ref (κ.S0 + (b + 45 + 7)), .ref (κ.S0 + (b + 45 + 8)), .ref (κ.S0 + (b + 45 + 9)), .int ((σ.1 2).2 0), .ref (κ.S0 + (b + 45 + 10)), .int ((σ.1 2).2 1), .ref (κ.S0 + (b + 45 + 11)), .int ((σ.1 2).2 2)]) := by
  rw [yC_g2 Y σ]
  exact ov_at 1 rfl
theorem yC_g2_6 (Y : YC κ h b cI cC cS') {σ : CS} : κ.HP σ (b + 45 + 6) = .inl (cI, 201, .inl ((σ.1 2).1 6)) := by
  rw [yC_g2 Y σ]
  exact ov_at 6 rfl
theorem yC_g2_12 (Y : YC κ h b cI cC cS') {σ : CS} : κ.HP σ (b + 45 + 12) = .inr (4, [.ref (κ.S0 + (b + 45 + 13)), .ref (κ.S0 + (b + 45 + 14)), .ref (κ.S0 + (b + 45 + 15)), .ref (κ.S0 + (b + 45 + 16)), .ref (κ.S0 + (b + 45 + 17)), .ref (κ.S0 + (b + 45 + 18)), .int ((σ.1 2).2 3), .int ((σ.1 2).2 4), .int ((σ.1 2).2 5), .int ((σ.1 2).2 6), .int ((σ.1 2).2 7)]) := by
  rw [yC_g2 Y σ]
  exact ov_at 12 rfl
theorem yC_f3 (Y : YC κ h b cI cC cS') (σ : CS) : κ.HP σ = ov h b (([.inr (5, [.ref (κ.S0 + (b + 1)), .ref (κ.S0 + (b + 23)), .ref (κ.S0 + (b + 45)), .int (σ.2.2 0), .ref (κ.S0 + (b + 67)), .ref (κ.S0 + (b + 179))])] ++ (gl κ.S0 cI (b + 1) (σ.1 0) ++ (gl κ.S0 cI (b + 23) (σ.1 1) ++ (gl κ.S0 cI (b + 45) (σ.1 2) ++ ([.inr (1, [.ref (κ.S0 + (b + 68)), .int (σ.2.2 1), .int (σ.2.2 2)])] ++ ([.inl (cS', 5, .inr (.inr (.inr (.inr (fun j => if j < 5 then some (κ.S0 + (b + 69 + 22 * j)) else none)))))]))))) : List va_E) ++ (gl κ.S0 cI (b + 69) (σ.1 3) ++ (gl κ.S0 cI (b + 91) (σ.1 4) ++ (gl κ.S0 cI (b + 113) (σ.1 5) ++ (gl κ.S0 cI (b + 135) (σ.1 6) ++ (gl κ.S0 cI (b + 157) (σ.1 7) ++ ([.inr (2, [.ref (κ.S0 + (b + 180)), .int (σ.2.2 3)])] ++ ([.inl (cC, 60, .inl (σ.2.1))]))))) : List va_E))) := by
  rw [Y.1 σ]
  simp only [cl, List.append_assoc, List.cons_append, List.nil_append, List.append_nil]
theorem yC_g3 (Y : YC κ h b cI cC cS') (σ : CS) : κ.HP σ = ov (κ.HP σ) (b + 69) (gl κ.S0 cI (b + 69) (σ.1 3)) := by
  rw [yC_f3 Y σ]
  have e := ov_self (h := h) (b := b) ([.inr (5, [.ref (κ.S0 + (b + 1)), .ref (κ.S0 + (b + 23)), .ref (κ.S0 + (b + 45)), .int (σ.2.2 0), .ref (κ.S0 + (b + 67)), .ref (κ.S0 + (b + 179))])] ++ (gl κ.S0 cI (b + 1) (σ.1 0) ++ (gl κ.S0 cI (b + 23) (σ.1 1) ++ (gl κ.S0 cI (b + 45) (σ.1 2) ++ ([.inr (1, [.ref (κ.S0 + (b + 68)), .int (σ.2.2 1), .int (σ.2.2 2)])] ++ ([.inl (cS', 5, .inr (.inr (.inr (.inr (fun j => if j < 5 then some (κ.S0 + (b + 69 + 22 * j)) else none)))))]))))) : List va_E) (gl κ.S0 cI (b + 69) (σ.1 3)) (gl κ.S0 cI (b + 91) (σ.1 4) ++ (gl κ.S0 cI (b + 113) (σ.1 5) ++ (gl κ.S0 cI (b + 135) (σ.1 6) ++ (gl κ.S0 cI (b + 157) (σ.1 7) ++ ([.inr (2, [.ref (κ.S0 + (b + 180)), .int (σ.2.2 3)])] ++ ([.inl (cC, 60, .inl (σ.2.1))]))))) : List va_E)
  have hn : (([.inr (5, [.ref (κ.S0 + (b + 1)), .ref (κ.S0 + (b + 23)), .ref (κ.S0 + (b + 45)), .int (σ.2.2 0), .ref (κ.S0 + (b + 67)), .ref (κ.S0 + (b + 179))])] ++ (gl κ.S0 cI (b + 1) (σ.1 0) ++ (gl κ.S0 cI (b + 23) (σ.1 1) ++ (gl κ.S0 cI (b + 45) (σ.1 2) ++ ([.inr (1, [.ref (κ.S0 + (b + 68)), .int (σ.2.2 1), .int (σ.2.2 2)])] ++ ([.inl (cS', 5, .inr (.inr (.inr (.inr (fun j => if j < 5 then some (κ.S0 + (b + 69 + 22 * j)) else none)))))]))))) : List va_E)).length = 69 := by simp only [List.length_append, gl_len, List.length_cons, List.length_nil]
  rw [hn] at e
  exact e
theorem yC_G3 (Y : YC κ h b cI cC cS') (σ : CS) (t : SS) : κ.HP (cS σ 3 t) = ov (κ.HP σ) (b + 69) (gl κ.S0 cI (b + 69) t) := by
  rw [yC_f3 Y σ, yC_f3 Y (cS σ 3 t)]
  have e := ov_part (h := h) (b := b) ([.inr (5, [.ref (κ.S0 + (b + 1)), .ref (κ.S0 + (b + 23)), .ref (κ.S0 + (b + 45)), .int (σ.2.2 0), .ref (κ.S0 + (b + 67)), .ref (κ.S0 + (b + 179))])] ++ (gl κ.S0 cI (b + 1) (σ.1 0) ++ (gl κ.S0 cI (b + 23) (σ.1 1) ++ (gl κ.S0 cI (b + 45) (σ.1 2) ++ ([.inr (1, [.ref (κ.S0 + (b + 68)), .int (σ.2.2 1), .int (σ.2.2 2)])] ++ ([.inl (cS', 5, .inr (.inr (.inr (.inr (fun j => if j < 5 then some (κ.S0 + (b + 69 + 22 * j)) else none)))))]))))) : List va_E) (gl κ.S0 cI (b + 69) (σ.1 3)) (gl κ.S0 cI (b + 91) (σ.1 4) ++ (gl κ.S0 cI (b + 113) (σ.1 5) ++ (gl κ.S0 cI (b + 135) (σ.1 6) ++ (gl κ.S0 cI (b + 157) (σ.1 7) ++ ([.inr (2, [.ref (κ.S0 + (b + 180)), .int (σ.2.2 3)])] ++ ([.inl (cC, 60, .inl (σ.2.1))]))))) : List va_E) (gl κ.S0 cI (b + 69) t) rfl
  have hn : (([.inr (5, [.ref (κ.S0 + (b + 1)), .ref (κ.S0 + (b + 23)), .ref (κ.S0 + (b + 45)), .int (σ.2.2 0), .ref (κ.S0 + (b + 67)), .ref (κ.S0 + (b + 179))])] ++ (gl κ.S0 cI (b + 1) (σ.1 0) ++ (gl κ.S0 cI (b + 23) (σ.1 1) ++ (gl κ.S0 cI (b + 45) (σ.1 2) ++ ([.inr (1, [.ref (κ.S0 + (b + 68)), .int (σ.2.2 1), .int (σ.2.2 2)])] ++ ([.inl (cS', 5, .inr (.inr (.inr (.inr (fun j => if j < 5 then some (κ.S0 + (b + 69 + 22 * j)) else none)))))]))))) : List va_E)).length = 69 := by simp only [List.length_append, gl_len, List.length_cons, List.length_nil]
  rw [hn] at e
  exact e.symm
theorem yC_b3 (Y : YC κ h b cI cC cS') (σ : CS) : b + 69 + 22 ≤ κ.HC σ := Nat.le_trans (by omega) (Y.2.1 σ)
theorem yC_l3 (Y : YC κ h b cI cC cS') {σ : CS} (m : Nat) (hm : m < 22) : b + 69 + m < κ.HC σ := by have := Y.2.1 σ; omega
theorem yC_g3_0 (Y : YC κ h b cI cC cS') {σ : CS} : κ.HP σ (b + 69 + 0) = .inr (3, [.ref (κ.S0 + (b + 69 + 1)), .ref (κ.S0 + (b + 69 + 12)), .ref (κ.S0 + (b + 69 + 19)), .ref (κ.S0 + (b + 69 + 20)), .ref (κ.S0 + (b + 69 + 21)), .int ((σ.1 3).2 8), .int ((σ.1 3).2 9), .int ((σ.1 3).2 10)]) := by
  rw [yC_g3 Y σ]
  exact ov_at 0 rfl
theorem yC_g3_1 (Y : YC κ h b cI cC cS') {σ : CS} : κ.HP σ (b + 69 + 1) = .inr (0, [.ref (κ.S0 + (b + 69 + 2)), .ref (κ.S0 + (b + 69 + 3)), .ref (κ.S0 + (b + 69 + 4)), .ref (κ.S0 + (b + 69 + 5)), .ref (κ.S0 + (b + 69 + 6)), .ref (κ.S0 + (b + 69 + 7)), .ref (κ.S0 + (b + 69 + 8)), .ref (κ.S0 + (b + 69 + 9)), .int ((σ.1 3).2 0), .ref (κ.S0 + (b + 69 + 10)), .int ((σ.1 3).2 1), .ref (κ.S0 + (b + 69 + 11)), .int ((σ.1 3).2 2)]) := by
  rw [yC_g3 Y σ]
  exact ov_at 1 rfl
theorem yC_g3_6 (Y : YC κ h b cI cC cS') {σ : CS} : κ.HP σ (b + 69 + 6) = .inl (cI, 201, .inl ((σ.1 3).1 6)) := by
  rw [yC_g3 Y σ]
  exact ov_at 6 rfl
theorem yC_g3_12 (Y : YC κ h b cI cC cS') {σ : CS} : κ.HP σ (b + 69 + 12) = .inr (4, [.ref (κ.S0 + (b + 69 + 13)), .ref (κ.S0 + (b + 69 + 14)), .ref (κ.S0 + (b + 69 + 15)), .ref (κ.S0 + (b + 69 + 16)), .ref (κ.S0 + (b + 69 + 17)), .ref (κ.S0 + (b + 69 + 18)), .int ((σ.1 3).2 3), .int ((σ.1 3).2 4), .int ((σ.1 3).2 5), .int ((σ.1 3).2 6), .int ((σ.1 3).2 7)]) := by
  rw [yC_g3 Y σ]
  exact ov_at 12 rfl
theorem yC_f4 (Y : YC κ h b cI cC cS') (σ : CS) : κ.HP σ = ov h b (([.inr (5, [.ref (κ.S0 + (b + 1)), .ref (κ.S0 + (b + 23)), .ref (κ.S0 + (b + 45)), .int (σ.2.2 0), .ref (κ.S0 + (b + 67)), .ref (κ.S0 + (b + 179))])] ++ (gl κ.S0 cI (b + 1) (σ.1 0) ++ (gl κ.S0 cI (b + 23) (σ.1 1) ++ (gl κ.S0 cI (b + 45) (σ.1 2) ++ ([.inr (1, [.ref (κ.S0 + (b + 68)), .int (σ.2.2 1), .int (σ.2.2 2)])] ++ ([.inl (cS', 5, .inr (.inr (.inr (.inr (fun j => if j < 5 then some (κ.S0 + (b + 69 + 22 * j)) else none)))))] ++ (gl κ.S0 cI (b + 69) (σ.1 3))))))) : List va_E) ++ (gl κ.S0 cI (b + 91) (σ.1 4) ++ (gl κ.S0 cI (b + 113) (σ.1 5) ++ (gl κ.S0 cI (b + 135) (σ.1 6) ++ (gl κ.S0 cI (b + 157) (σ.1 7) ++ ([.inr (2, [.ref (κ.S0 + (b + 180)), .int (σ.2.2 3)])] ++ ([.inl (cC, 60, .inl (σ.2.1))])))) : List va_E))) := by
  rw [Y.1 σ]
  simp only [cl, List.append_assoc, List.cons_append, List.nil_append, List.append_nil]
theorem yC_g4 (Y : YC κ h b cI cC cS') (σ : CS) : κ.HP σ = ov (κ.HP σ) (b + 91) (gl κ.S0 cI (b + 91) (σ.1 4)) := by
  rw [yC_f4 Y σ]
  have e := ov_self (h := h) (b := b) ([.inr (5, [.ref (κ.S0 + (b + 1)), .ref (κ.S0 + (b + 23)), .ref (κ.S0 + (b + 45)), .int (σ.2.2 0), .ref (κ.S0 + (b + 67)), .ref (κ.S0 + (b + 179))])] ++ (gl κ.S0 cI (b + 1) (σ.1 0) ++ (gl κ.S0 cI (b + 23) (σ.1 1) ++ (gl κ.S0 cI (b + 45) (σ.1 2) ++ ([.inr (1, [.ref (κ.S0 + (b + 68)), .int (σ.2.2 1), .int (σ.2.2 2)])] ++ ([.inl (cS', 5, .inr (.inr (.inr (.inr (fun j => if j < 5 then some (κ.S0 + (b + 69 + 22 * j)) else none)))))] ++ (gl κ.S0 cI (b + 69) (σ.1 3))))))) : List va_E) (gl κ.S0 cI (b + 91) (σ.1 4)) (gl κ.S0 cI (b + 113) (σ.1 5) ++ (gl κ.S0 cI (b + 135) (σ.1 6) ++ (gl κ.S0 cI (b + 157) (σ.1 7) ++ ([.inr (2, [.ref (κ.S0 + (b + 180)), .int (σ.2.2 3)])] ++ ([.inl (cC, 60, .inl (σ.2.1))])))) : List va_E)
  have hn : (([.inr (5, [.ref (κ.S0 + (b + 1)), .ref (κ.S0 + (b + 23)), .ref (κ.S0 + (b + 45)), .int (σ.2.2 0), .ref (κ.S0 + (b + 67)), .ref (κ.S0 + (b + 179))])] ++ (gl κ.S0 cI (b + 1) (σ.1 0) ++ (gl κ.S0 cI (b + 23) (σ.1 1) ++ (gl κ.S0 cI (b + 45) (σ.1 2) ++ ([.inr (1, [.ref (κ.S0 + (b + 68)), .int (σ.2.2 1), .int (σ.2.2 2)])] ++ ([.inl (cS', 5, .inr (.inr (.inr (.inr (fun j => if j < 5 then some (κ.S0 + (b + 69 + 22 * j)) else none)))))] ++ (gl κ.S0 cI (b + 69) (σ.1 3))))))) : List va_E)).length = 91 := by simp only [List.length_append, gl_len, List.length_cons, List.length_nil]
  rw [hn] at e
  exact e
theorem yC_G4 (Y : YC κ h b cI cC cS') (σ : CS) (t : SS) : κ.HP (cS σ 4 t) = ov (κ.HP σ) (b + 91) (gl κ.S0 cI (b + 91) t) := by
  rw [yC_f4 Y σ, yC_f4 Y (cS σ 4 t)]
  have e := ov_part (h := h) (b := b) ([.inr (5, [.ref (κ.S0 + (b + 1)), .ref (κ.S0 + (b + 23)), .ref (κ.S0 + (b + 45)), .int (σ.2.2 0), .ref (κ.S0 + (b + 67)), .ref (κ.S0 + (b + 179))])] ++ (gl κ.S0 cI (b + 1) (σ.1 0) ++ (gl κ.S0 cI (b + 23) (σ.1 1) ++ (gl κ.S0 cI (b + 45) (σ.1 2) ++ ([.inr (1, [.ref (κ.S0 + (b + 68)), .int (σ.2.2 1), .int (σ.2.2 2)])] ++ ([.inl (cS', 5, .inr (.inr (.inr (.inr (fun j => if j < 5 then some (κ.S0 + (b + 69 + 22 * j)) else none)))))] ++ (gl κ.S0 cI (b + 69) (σ.1 3))))))) : List va_E) (gl κ.S0 cI (b + 91) (σ.1 4)) (gl κ.S0 cI (b + 113) (σ.1 5) ++ (gl κ.S0 cI (b + 135) (σ.1 6) ++ (gl κ.S0 cI (b + 157) (σ.1 7) ++ ([.inr (2, [.ref (κ.S0 + (b + 180)), .int (σ.2.2 3)])] ++ ([.inl (cC, 60, .inl (σ.2.1))])))) : List va_E) (gl κ.S0 cI (b + 91) t) rfl
  have hn : (([.inr (5, [.ref (κ.S0 + (b + 1)), .ref (κ.S0 + (b + 23)), .ref (κ.S0 + (b + 45)), .int (σ.2.2 0), .ref (κ.S0 + (b + 67)), .ref (κ.S0 + (b + 179))])] ++ (gl κ.S0 cI (b + 1) (σ.1 0) ++ (gl κ.S0 cI (b + 23) (σ.1 1) ++ (gl κ.S0 cI (b + 45) (σ.1 2) ++ ([.inr (1, [.ref (κ.S0 + (b + 68)), .int (σ.2.2 1), .int (σ.2.2 2)])] ++ ([.inl (cS', 5, .inr (.inr (.inr (.inr (fun j => if j < 5 then some (κ.S0 + (b + 69 + 22 * j)) else none)))))] ++ (gl κ.S0 cI (b + 69) (σ.1 3))))))) : List va_E)).length = 91 := by simp only [List.length_append, gl_len, List.length_cons, List.length_nil]
  rw [hn] at e
  exact e.symm
theorem yC_b4 (Y : YC κ h b cI cC cS') (σ : CS) : b + 91 + 22 ≤ κ.HC σ := Nat.le_trans (by omega) (Y.2.1 σ)
theorem yC_l4 (Y : YC κ h b cI cC cS') {σ : CS} (m : Nat) (hm : m < 22) : b + 91 + m < κ.HC σ := by have := Y.2.1 σ; omega
theorem yC_g4_0 (Y : YC κ h b cI cC cS') {σ : CS} : κ.HP σ (b + 91 + 0) = .inr (3, [.ref (κ.S0 + (b + 91 + 1)), .ref (κ.S0 + (b + 91 + 12)), .ref (κ.S0 + (b + 91 + 19)), .ref (κ.S0 + (b + 91 + 20)), .ref (κ.S0 + (b + 91 + 21)), .int ((σ.1 4).2 8), .int ((σ.1 4).2 9), .int ((σ.1 4).2 10)]) := by
  rw [yC_g4 Y σ]
  exact ov_at 0 rfl
theorem yC_g4_1 (Y : YC κ h b cI cC cS') {σ : CS} : κ.HP σ (b + 91 + 1) = .inr (0, [.ref (κ.S0 + (b + 91 + 2)), .ref (κ.S0 + (b + 91 + 3)), .ref (κ.S0 + (b + 91 + 4)), .ref (κ.S0 + (b + 91 + 5)), .ref (κ.S0 + (b + 91 + 6)), .ref (κ.S0 + (b + 91 + 7)), .ref (κ.S0 + (b + 91 + 8)), .ref (κ.S0 + (b + 91 + 9)), .int ((σ.1 4).2 0), .ref (κ.S0 + (b + 91 + 10)), .int ((σ.1 4).2 1), .ref (κ.S0 + (b + 91 + 11)), .int ((σ.1 4).2 2)]) := by
  rw [yC_g4 Y σ]
  exact ov_at 1 rfl
theorem yC_g4_6 (Y : YC κ h b cI cC cS') {σ : CS} : κ.HP σ (b + 91 + 6) = .inl (cI, 201, .inl ((σ.1 4).1 6)) := by
  rw [yC_g4 Y σ]
  exact ov_at 6 rfl
theorem yC_g4_12 (Y : YC κ h b cI cC cS') {σ : CS} : κ.HP σ (b + 91 + 12) = .inr (4, [.ref (κ.S0 + (b + 91 + 13)), .ref (κ.S0 + (b + 91 + 14)), .ref (κ.S0 + (b + 91 + 15)), .ref (κ.S0 + (b + 91 + 16)), .ref (κ.S0 + (b + 91 + 17)), .ref (κ.S0 + (b + 91 + 18)), .int ((σ.1 4).2 3), .int ((σ.1 4).2 4), .int ((σ.1 4).2 5), .int ((σ.1 4).2 6), .int ((σ.1 4).2 7)]) := by
  rw [yC_g4 Y σ]
  exact ov_at 12 rfl
theorem yC_f5 (Y : YC κ h b cI cC cS') (σ : CS) : κ.HP σ = ov h b (([.inr (5, [.ref (κ.S0 + (b + 1)), .ref (κ.S0 + (b + 23)), .ref (κ.S0 + (b + 45)), .int (σ.2.2 0), .ref (κ.S0 + (b + 67)), .ref (κ.S0 + (b + 179))])] ++ (gl κ.S0 cI (b + 1) (σ.1 0) ++ (gl κ.S0 cI (b + 23) (σ.1 1) ++ (gl κ.S0 cI (b + 45) (σ.1 2) ++ ([.inr (1, [.ref (κ.S0 + (b + 68)), .int (σ.2.2 1), .int (σ.2.2 2)])] ++ ([.inl (cS', 5, .inr (.inr (.inr (.inr (fun j => if j < 5 then some (κ.S0 + (b + 69 + 22 * j)) else none)))))] ++ (gl κ.S0 cI (b + 69) (σ.1 3) ++ (gl κ.S0 cI (b + 91) (σ.1 4)))))))) : List va_E) ++ (gl κ.S0 cI (b + 113) (σ.1 5) ++ (gl κ.S0 cI (b + 135) (σ.1 6) ++ (gl κ.S0 cI (b + 157) (σ.1 7) ++ ([.inr (2, [.ref (κ.S0 + (b + 180)), .int (σ.2.2 3)])] ++ ([.inl (cC, 60, .inl (σ.2.1))]))) : List va_E))) := by
  rw [Y.1 σ]
  simp only [cl, List.append_assoc, List.cons_append, List.nil_append, List.append_nil]
theorem yC_g5 (Y : YC κ h b cI cC cS') (σ : CS) : κ.HP σ = ov (κ.HP σ) (b + 113) (gl κ.S0 cI (b + 113) (σ.1 5)) := by
  rw [yC_f5 Y σ]
  have e := ov_self (h := h) (b := b) ([.inr (5, [.ref (κ.S0 + (b + 1)), .ref (κ.S0 + (b + 23)), .ref (κ.S0 + (b + 45)), .int (σ.2.2 0), .ref (κ.S0 + (b + 67)), .ref (κ.S0 + (b + 179))])] ++ (gl κ.S0 cI (b + 1) (σ.1 0) ++ (gl κ.S0 cI (b + 23) (σ.1 1) ++ (gl κ.S0 cI (b + 45) (σ.1 2) ++ ([.inr (1, [.ref (κ.S0 + (b + 68)), .int (σ.2.2 1), .int (σ.2.2 2)])] ++ ([.inl (cS', 5, .inr (.inr (.inr (.inr (fun j => if j < 5 then some (κ.S0 + (b + 69 + 22 * j)) else none)))))] ++ (gl κ.S0 cI (b + 69) (σ.1 3) ++ (gl κ.S0 cI (b + 91) (σ.1 4)))))))) : List va_E) (gl κ.S0 cI (b + 113) (σ.1 5)) (gl κ.S0 cI (b + 135) (σ.1 6) ++ (gl κ.S0 cI (b + 157) (σ.1 7) ++ ([.inr (2, [.ref (κ.S0 + (b + 180)), .int (σ.2.2 3)])] ++ ([.inl (cC, 60, .inl (σ.2.1))]))) : List va_E)
  have hn : (([.inr (5, [.ref (κ.S0 + (b + 1)), .ref (κ.S0 + (b + 23)), .ref (κ.S0 + (b + 45)), .int (σ.2.2 0), .ref (κ.S0 + (b + 67)), .ref (κ.S0 + (b + 179))])] ++ (gl κ.S0 cI (b + 1) (σ.1 0) ++ (gl κ.S0 cI (b + 23) (σ.1 1) ++ (gl κ.S0 cI (b + 45) (σ.1 2) ++ ([.inr (1, [.ref (κ.S0 + (b + 68)), .int (σ.2.2 1), .int (σ.2.2 2)])] ++ ([.inl (cS', 5, .inr (.inr (.inr (.inr (fun j => if j < 5 then some (κ.S0 + (b + 69 + 22 * j)) else none)))))] ++ (gl κ.S0 cI (b + 69) (σ.1 3) ++ (gl κ.S0 cI (b + 91) (σ.1 4)))))))) : List va_E)).length = 113 := by simp only [List.length_append, gl_len, List.length_cons, List.length_nil]
  rw [hn] at e
  exact e
theorem yC_G5 (Y : YC κ h b cI cC cS') (σ : CS) (t : SS) : κ.HP (cS σ 5 t) = ov (κ.HP σ) (b + 113) (gl κ.S0 cI (b + 113) t) := by
  rw [yC_f5 Y σ, yC_f5 Y (cS σ 5 t)]
  have e := ov_part (h := h) (b := b) ([.inr (5, [.ref (κ.S0 + (b + 1)), .ref (κ.S0 + (b + 23)), .ref (κ.S0 + (b + 45)), .int (σ.2.2 0), .ref (κ.S0 + (b + 67)), .ref (κ.S0 + (b + 179))])] ++ (gl κ.S0 cI (b + 1) (σ.1 0) ++ (gl κ.S0 cI (b + 23) (σ.1 1) ++ (gl κ.S0 cI (b + 45) (σ.1 2) ++ ([.inr (1, [.ref (κ.S0 + (b + 68)), .int (σ.2.2 1), .int (σ.2.2 2)])] ++ ([.inl (cS', 5, .inr (.inr (.inr (.inr (fun j => if j < 5 then some (κ.S0 + (b + 69 + 22 * j)) else none)))))] ++ (gl κ.S0 cI (b + 69) (σ.1 3) ++ (gl κ.S0 cI (b + 91) (σ.1 4)))))))) : List va_E) (gl κ.S0 cI (b + 113) (σ.1 5)) (gl κ.S0 cI (b + 135) (σ.1 6) ++ (gl κ.S0 cI (b + 157) (σ.1 7) ++ ([.inr (2, [.ref (κ.S0 + (b + 180)), .int (σ.2.2 3)])] ++ ([.inl (cC, 60, .inl (σ.2.1))]))) : List va_E) (gl κ.S0 cI (b + 113) t) rfl
  have hn : (([.inr (5, [.ref (κ.S0 + (b + 1)), .ref (κ.S0 + (b + 23)), .ref (κ.S0 + (b + 45)), .int (σ.2.2 0), .ref (κ.S0 + (b + 67)), .ref (κ.S0 + (b + 179))])] ++ (gl κ.S0 cI (b + 1) (σ.1 0) ++ (gl κ.S0 cI (b + 23) (σ.1 1) ++ (gl κ.S0 cI (b + 45) (σ.1 2) ++ ([.inr (1, [.ref (κ.S0 + (b + 68)), .int (σ.2.2 1), .int (σ.2.2 2)])] ++ ([.inl (cS', 5, .inr (.inr (.inr (.inr (fun j => if j < 5 then some (κ.S0 + (b + 69 + 22 * j)) else none)))))] ++ (gl κ.S0 cI (b + 69) (σ.1 3) ++ (gl κ.S0 cI (b + 91) (σ.1 4)))))))) : List va_E)).length = 113 := by simp only [List.length_append, gl_len, List.length_cons, List.length_nil]
  rw [hn] at e
  exact e.symm
theorem yC_b5 (Y : YC κ h b cI cC cS') (σ : CS) : b + 113 + 22 ≤ κ.HC σ := Nat.le_trans (by omega) (Y.2.1 σ)
theorem yC_l5 (Y : YC κ h b cI cC cS') {σ : CS} (m : Nat) (hm : m < 22) : b + 113 + m < κ.HC σ := by have := Y.2.1 σ; omega
theorem yC_g5_0 (Y : YC κ h b cI cC cS') {σ : CS} : κ.HP σ (b + 113 + 0) = .inr (3, [.ref (κ.S0 + (b + 113 + 1)), .ref (κ.S0 + (b + 113 + 12)), .ref (κ.S0 + (b + 113 + 19)), .ref (κ.S0 + (b + 113 + 20)), .ref (κ.S0 + (b + 113 + 21)), .int ((σ.1 5).2 8), .int ((σ.1 5).2 9), .int ((σ.1 5).2 10)]) := by
  rw [yC_g5 Y σ]
  exact ov_at 0 rfl
theorem yC_g5_1 (Y : YC κ h b cI cC cS') {σ : CS} : κ.HP σ (b + 113 + 1) = .inr (0, [.ref (κ.S0 + (b + 113 + 2)), .ref (κ.S0 + (b + 113 + 3)), .ref (κ.S0 + (b + 113 + 4)), .ref (κ.S0 + (b + 113 + 5)), .ref (κ.S0 + (b + 113 + 6)), .ref (κ.S0 + (b + 113 + 7)), .ref (κ.S0 + (b + 113 + 8)), .ref (κ.S0 + (b + 113 + 9)), .int ((σ.1 5).2 0), .ref (κ.S0 + (b + 113 + 10)), .int ((σ.1 5).2 1), .ref (κ.S0 + (b + 113 + 11)), .int ((σ.1 5).2 2)]) := by
  rw [yC_g5 Y σ]
  exact ov_at 1 rfl
theorem yC_g5_6 (Y : YC κ h b cI cC cS') {σ : CS} : κ.HP σ (b + 113 + 6) = .inl (cI, 201, .inl ((σ.1 5).1 6)) := by
  rw [yC_g5 Y σ]
  exact ov_at 6 rfl
theorem yC_g5_12 (Y : YC κ h b cI cC cS') {σ : CS} : κ.HP σ (b + 113 + 12) = .inr (4, [.ref (κ.S0 + (b + 113 + 13)), .ref (κ.S0 + (b + 113 + 14)), .ref (κ.S0 + (b + 113 + 15)), .ref (κ.S0 + (b + 113 + 16)), .ref (κ.S0 + (b + 113 + 17)), .ref (κ.S0 + (b + 113 + 18)), .int ((σ.1 5).2 3), .int ((σ.1 5).2 4), .int ((σ.1 5).2 5), .int ((σ.1 5).2 6), .int ((σ.1 5).2 7)]) := by
  rw [yC_g5 Y σ]
  exact ov_at 12 rfl
theorem yC_f6 (Y : YC κ h b cI cC cS') (σ : CS) : κ.HP σ = ov h b (([.inr (5, [.ref (κ.S0 + (b + 1)), .ref (κ.S0 + (b + 23)), .ref (κ.S0 + (b + 45)), .int (σ.2.2 0), .ref (κ.S0 + (b + 67)), .ref (κ.S0 + (b + 179))])] ++ (gl κ.S0 cI (b + 1) (σ.1 0) ++ (gl κ.S0 cI (b + 23) (σ.1 1) ++ (gl κ.S0 cI (b + 45) (σ.1 2) ++ ([.inr (1, [.ref (κ.S0 + (b + 68)), .int (σ.2.2 1), .int (σ.2.2 2)])] ++ ([.inl (cS', 5, .inr (.inr (.inr (.inr (fun j => if j < 5 then some (κ.S0 + (b + 69 + 22 * j)) else none)))))] ++ (gl κ.S0 cI (b + 69) (σ.1 3) ++ (gl κ.S0 cI (b + 91) (σ.1 4) ++ (gl κ.S0 cI (b + 113) (σ.1 5))))))))) : List va_E) ++ (gl κ.S0 cI (b + 135) (σ.1 6) ++ (gl κ.S0 cI (b + 157) (σ.1 7) ++ ([.inr (2, [.ref (κ.S0 + (b + 180)), .int (σ.2.2 3)])] ++ ([.inl (cC, 60, .inl (σ.2.1))])) : List va_E))) := by
  rw [Y.1 σ]
  simp only [cl, List.append_assoc, List.cons_append, List.nil_append, List.append_nil]
theorem yC_g6 (Y : YC κ h b cI cC cS') (σ : CS) : κ.HP σ = ov (κ.HP σ) (b + 135) (gl κ.S0 cI (b + 135) (σ.1 6)) := by
  rw [yC_f6 Y σ]
  have e := ov_self (h := h) (b := b) ([.inr (5, [.ref (κ.S0 + (b + 1)), .ref (κ.S0 + (b + 23)), .ref (κ.S0 + (b + 45)), .int (σ.2.2 0), .ref (κ.S0 + (b + 67)), .ref (κ.S0 + (b + 179))])] ++ (gl κ.S0 cI (b + 1) (σ.1 0) ++ (gl κ.S0 cI (b + 23) (σ.1 1) ++ (gl κ.S0 cI (b + 45) (σ.1 2) ++ ([.inr (1, [.ref (κ.S0 + (b + 68)), .int (σ.2.2 1), .int (σ.2.2 2)])] ++ ([.inl (cS', 5, .inr (.inr (.inr (.inr (fun j => if j < 5 then some (κ.S0 + (b + 69 + 22 * j)) else none)))))] ++ (gl κ.S0 cI (b + 69) (σ.1 3) ++ (gl κ.S0 cI (b + 91) (σ.1 4) ++ (gl κ.S0 cI (b + 113) (σ.1 5))))))))) : List va_E) (gl κ.S0 cI (b + 135) (σ.1 6)) (gl κ.S0 cI (b + 157) (σ.1 7) ++ ([.inr (2, [.ref (κ.S0 + (b + 180)), .int (σ.2.2 3)])] ++ ([.inl (cC, 60, .inl (σ.2.1))])) : List va_E)
  have hn : (([.inr (5, [.ref (κ.S0 + (b + 1)), .ref (κ.S0 + (b + 23)), .ref (κ.S0 + (b + 45)), .int (σ.2.2 0), .ref (κ.S0 + (b + 67)), .ref (κ.S0 + (b + 179))])] ++ (gl κ.S0 cI (b + 1) (σ.1 0) ++ (gl κ.S0 cI (b + 23) (σ.1 1) ++ (gl κ.S0 cI (b + 45) (σ.1 2) ++ ([.inr (1, [.ref (κ.S0 + (b + 68)), .int (σ.2.2 1), .int (σ.2.2 2)])] ++ ([.inl (cS', 5, .inr (.inr (.inr (.inr (fun j => if j < 5 then some (κ.S0 + (b + 69 + 22 * j)) else none)))))] ++ (gl κ.S0 cI (b + 69) (σ.1 3) ++ (gl κ.S0 cI (b + 91) (σ.1 4) ++ (gl κ.S0 cI (b + 113) (σ.1 5))))))))) : List va_E)).length = 135 := by simp only [List.length_append, gl_len, List.length_cons, List.length_nil]
  rw [hn] at e
  exact e
theorem yC_G6 (Y : YC κ h b cI cC cS') (σ : CS) (t : SS) : κ.HP (cS σ 6 t) = ov (κ.HP σ) (b + 135) (gl κ.S0 cI (b + 135) t) := by
  rw [yC_f6 Y σ, yC_f6 Y (cS σ 6 t)]
  have e := ov_part (h := h) (b := b) ([.inr (5, [.ref (κ.S0 + (b + 1)), .ref (κ.S0 + (b + 23)), .ref (κ.S0 + (b + 45)), .int (σ.2.2 0), .ref (κ.S0 + (b + 67)), .ref (κ.S0 + (b + 179))])] ++ (gl κ.S0 cI (b + 1) (σ.1 0) ++ (gl κ.S0 cI (b + 23) (σ.1 1) ++ (gl κ.S0 cI (b + 45) (σ.1 2) ++ ([.inr (1, [.ref (κ.S0 + (b + 68)), .int (σ.2.2 1), .int (σ.2.2 2)])] ++ ([.inl (cS', 5, .inr (.inr (.inr (.inr (fun j => if j < 5 then some (κ.S0 + (b + 69 + 22 * j)) else none)))))] ++ (gl κ.S0 cI (b + 69) (σ.1 3) ++ (gl κ.S0 cI (b + 91) (σ.1 4) ++ (gl κ.S0 cI (b + 113) (σ.1 5))))))))) : List va_E) (gl κ.S0 cI (b + 135) (σ.1 6)) (gl κ.S0 cI (b + 157) (σ.1 7) ++ ([.inr (2, [.ref (κ.S0 + (b + 180)), .int (σ.2.2 3)])] ++ ([.inl (cC, 60, .inl (σ.2.1))])) : List va_E) (gl κ.S0 cI (b + 135) t) rfl
  have hn : (([.inr (5, [.ref (κ.S0 + (b + 1)), .ref (κ.S0 + (b + 23)), .ref (κ.S0 + (b + 45)), .int (σ.2.2 0), .ref (κ.S0 + (b + 67)), .ref (κ.S0 + (b + 179))])] ++ (gl κ.S0 cI (b + 1) (σ.1 0) ++ (gl κ.S0 cI (b + 23) (σ.1 1) ++ (gl κ.S0 cI (b + 45) (σ.1 2) ++ ([.inr (1, [.ref (κ.S0 + (b + 68)), .int (σ.2.2 1), .int (σ.2.2 2)])] ++ ([.inl (cS', 5, .inr (.inr (.inr (.inr (fun j => if j < 5 then some (κ.S0 + (b + 69 + 22 * j)) else none)))))] ++ (gl κ.S0 cI (b + 69) (σ.1 3) ++ (gl κ.S0 cI (b + 91) (σ.1 4) ++ (gl κ.S0 cI (b + 113) (σ.1 5))))))))) : List va_E)).length = 135 := by simp only [List.length_append, gl_len, List.length_cons, List.length_nil]
  rw [hn] at e
  exact e.symm
theorem yC_b6 (Y : YC κ h b cI cC cS') (σ : CS) : b + 135 + 22 ≤ κ.HC σ := Nat.le_trans (by omega) (Y.2.1 σ)
theorem yC_l6 (Y : YC κ h b cI cC cS') {σ : CS} (m : Nat) (hm : m < 22) : b + 135 + m < κ.HC σ := by have := Y.2.1 σ; omega
theorem yC_g6_0 (Y : YC κ h b cI cC cS') {σ : CS} : κ.HP σ (b + 135 + 0) = .inr (3, [.ref (κ.S0 + (b + 135 + 1)), .ref (κ.S0 + (b + 135 + 12)), .ref (κ.S0 + (b + 135 + 19)), .ref (κ.S0 + (b + 135 + 20)), .ref (κ.S0 + (b + 135 + 21)), .int ((σ.1 6).2 8), .int ((σ.1 6).2 9), .int ((σ.1 6).2 10)]) := by
  rw [yC_g6 Y σ]
  exact ov_at 0 rfl
theorem yC_g6_1 (Y : YC κ h b cI cC cS') {σ : CS} : κ.HP σ (b + 135 + 1) = .inr (0, [.ref (κ.S0 + (b + 135 + 2)), .ref (κ.S0 + (b + 135 + 3)), .ref (κ.S0 + (b + 135 + 4)), .ref (κ.S0 + (b + 135 + 5)), .ref (κ.S0 + (b + 135 + 6)), .ref (κ.S0 + (b + 135 + 7)), .ref (κ.S0 + (b + 135 + 8)), .ref (κ.S0 + (b + 135 + 9)), .int ((σ.1 6).2 0), .ref (κ.S0 + (b + 135 + 10)), .int ((σ.1 6).2 1), .ref (κ.S0 + (b + 135 + 11)), .int ((σ.1 6).2 2)]) := by
  rw [yC_g6 Y σ]
  exact ov_at 1 rfl
theorem yC_g6_6 (Y : YC κ h b cI cC cS') {σ : CS} : κ.HP σ (b + 135 + 6) = .inl (cI, 201, .inl ((σ.1 6).1 6)) := by
  rw [yC_g6 Y σ]
  exact ov_at 6 rfl
theorem yC_g6_12 (Y : YC κ h b cI cC cS') {σ : CS} : κ.HP σ (b + 135 + 12) = .inr (4, [.ref (κ.S0 + (b + 135 + 13)), .ref (κ.S0 + (b + 135 + 14)), .ref (κ.S0 + (b + 135 + 15)), .ref (κ.S0 + (b + 135 + 16)), .ref (κ.S0 + (b + 135 + 17)), .ref (κ.S0 + (b + 135 + 18)), .int ((σ.1 6).2 3), .int ((σ.1 6).2 4), .int ((σ.1 6).2 5), .int ((σ.1 6).2 6), .int ((σ.1 6).2 7)]) := by
  rw [yC_g6 Y σ]
  exact ov_at 12 rfl
theorem yC_f7 (Y : YC κ h b cI cC cS') (σ : CS) : κ.HP σ = ov h b (([.inr (5, [.ref (κ.S0 + (b + 1)), .ref (κ.S0 + (b + 23)), .ref (κ.S0 + (b + 45)), .int (σ.2.2 0), .ref (κ.S0 + (b + 67)), .ref (κ.S0 + (b + 179))])] ++ (gl κ.S0 cI (b + 1) (σ.1 0) ++ (gl κ.S0 cI (b + 23) (σ.1 1) ++ (gl κ.S0 cI (b + 45) (σ.1 2) ++ ([.inr (1, [.ref (κ.S0 + (b + 68)), .int (σ.2.2 1), .int (σ.2.2 2)])] ++ ([.inl (cS', 5, .inr (.inr (.inr (.inr (fun j => if j < 5 then some (κ.S0 + (b + 69 + 22 * j)) else none)))))] ++ (gl κ.S0 cI (b + 69) (σ.1 3) ++ (gl κ.S0 cI (b + 91) (σ.1 4) ++ (gl κ.S0 cI (b + 113) (σ.1 5) ++ (gl κ.S0 cI (b + 135) (σ.1 6)))))))))) : List va_E) ++ (gl κ.S0 cI (b + 157) (σ.1 7) ++ ([.inr (2, [.ref (κ.S0 + (b + 180)), .int (σ.2.2 3)])] ++ ([.inl (cC, 60, .inl (σ.2.1))]) : List va_E))) := by
  rw [Y.1 σ]
  simp only [cl, List.append_assoc, List.cons_append, List.nil_append, List.append_nil]
theorem yC_g7 (Y : YC κ h b cI cC cS') (σ : CS) : κ.HP σ = ov (κ.HP σ) (b + 157) (gl κ.S0 cI (b + 157) (σ.1 7)) := by
  rw [yC_f7 Y σ]
  have e := ov_self (h := h) (b := b) ([.inr (5, [.ref (κ.S0 + (b + 1)), .ref (κ.S0 + (b + 23)), .ref (κ.S0 + (b + 45)), .int (σ.2.2 0), .ref (κ.S0 + (b + 67)), .ref (κ.S0 + (b + 179))])] ++ (gl κ.S0 cI (b + 1) (σ.1 0) ++ (gl κ.S0 cI (b + 23) (σ.1 1) ++ (gl κ.S0 cI (b + 45) (σ.1 2) ++ ([.inr (1, [.ref (κ.S0 + (b + 68)), .int (σ.2.2 1), .int (σ.2.2 2)])] ++ ([.inl (cS', 5, .inr (.inr (.inr (.inr (fun j => if j < 5 then some (κ.S0 + (b + 69 + 22 * j)) else none)))))] ++ (gl κ.S0 cI (b + 69) (σ.1 3) ++ (gl κ.S0 cI (b + 91) (σ.1 4) ++ (gl κ.S0 cI (b + 113) (σ.1 5) ++ (gl κ.S0 cI (b + 135) (σ.1 6)))))))))) : List va_E) (gl κ.S0 cI (b + 157) (σ.1 7)) ([.inr (2, [.ref (κ.S0 + (b + 180)), .int (σ.2.2 3)])] ++ ([.inl (cC, 60, .inl (σ.2.1))]) : List va_E)
  have hn : (([.inr (5, [.ref (κ.S0 + (b + 1)), .ref (κ.S0 + (b + 23)), .ref (κ.S0 + (b + 45)), .int (σ.2.2 0), .ref (κ.S0 + (b + 67)), .ref (κ.S0 + (b + 179))])] ++ (gl κ.S0 cI (b + 1) (σ.1 0) ++ (gl κ.S0 cI (b + 23) (σ.1 1) ++ (gl κ.S0 cI (b + 45) (σ.1 2) ++ ([.inr (1, [.ref (κ.S0 + (b + 68)), .int (σ.2.2 1), .int (σ.2.2 2)])] ++ ([.inl (cS', 5, .inr (.inr (.inr (.inr (fun j => if j < 5 then some (κ.S0 + (b + 69 + 22 * j)) else none)))))] ++ (gl κ.S0 cI (b + 69) (σ.1 3) ++ (gl κ.S0 cI (b + 91) (σ.1 4) ++ (gl κ.S0 cI (b + 113) (σ.1 5) ++ (gl κ.S0 cI (b + 135) (σ.1 6)))))))))) : List va_E)).length = 157 := by simp only [List.length_append, gl_len, List.length_cons, List.length_nil]
  rw [hn] at e
  exact e
theorem yC_G7 (Y : YC κ h b cI cC cS') (σ : CS) (t : SS) : κ.HP (cS σ 7 t) = ov (κ.HP σ) (b + 157) (gl κ.S0 cI (b + 157) t) := by
  rw [yC_f7 Y σ, yC_f7 Y (cS σ 7 t)]
  have e := ov_part (h := h) (b := b) ([.inr (5, [.ref (κ.S0 + (b + 1)), .ref (κ.S0 + (b + 23)), .ref (κ.S0 + (b + 45)), .int (σ.2.2 0), .ref (κ.S0 + (b + 67)), .ref (κ.S0 + (b + 179))])] ++ (gl κ.S0 cI (b + 1) (σ.1 0) ++ (gl κ.S0 cI (b + 23) (σ.1 1) ++ (gl κ.S0 cI (b + 45) (σ.1 2) ++ ([.inr (1, [.ref (κ.S0 + (b + 68)), .int (σ.2.2 1), .int (σ.2.2 2)])] ++ ([.inl (cS', 5, .inr (.inr (.inr (.inr (fun j => if j < 5 then some (κ.S0 + (b + 69 + 22 * j)) else none)))))] ++ (gl κ.S0 cI (b + 69) (σ.1 3) ++ (gl κ.S0 cI (b + 91) (σ.1 4) ++ (gl κ.S0 cI (b + 113) (σ.1 5) ++ (gl κ.S0 cI (b + 135) (σ.1 6)))))))))) : List va_E) (gl κ.S0 cI (b + 157) (σ.1 7)) ([.inr (2, [.ref (κ.S0 + (b + 180)), .int (σ.2.2 3)])] ++ ([.inl (cC, 60, .inl (σ.2.1))]) : List va_E) (gl κ.S0 cI (b + 157) t) rfl
  have hn : (([.inr (5, [.ref (κ.S0 + (b + 1)), .ref (κ.S0 + (b + 23)), .ref (κ.S0 + (b + 45)), .int (σ.2.2 0), .ref (κ.S0 + (b + 67)), .ref (κ.S0 + (b + 179))])] ++ (gl κ.S0 cI (b + 1) (σ.1 0) ++ (gl κ.S0 cI (b + 23) (σ.1 1) ++ (gl κ.S0 cI (b + 45) (σ.1 2) ++ ([.inr (1, [.ref (κ.S0 + (b + 68)), .int (σ.2.2 1), .int (σ.2.2 2)])] ++ ([.inl (cS', 5, .inr (.inr (.inr (.inr (fun j => if j < 5 then some (κ.S0 + (b + 69 + 22 * j)) else none)))))] ++ (gl κ.S0 cI (b + 69) (σ.1 3) ++ (gl κ.S0 cI (b + 91) (σ.1 4) ++ (gl κ.S0 cI (b + 113) (σ.1 5) ++ (gl κ.S0 cI (b + 135) (σ.1 6)))))))))) : List va_E)).length = 157 := by simp only [List.length_append, gl_len, List.length_cons, List.length_nil]
  rw [hn] at e
  exact e.symm
theorem yC_b7 (Y : YC κ h b cI cC cS') (σ : CS) : b + 157 + 22 ≤ κ.HC σ := Nat.le_trans (by omega) (Y.2.1 σ)
theorem yC_l7 (Y : YC κ h b cI cC cS') {σ : CS} (m : Nat) (hm : m < 22) : b + 157 + m < κ.HC σ := by have := Y.2.1 σ; omega
theorem yC_g7_0 (Y : YC κ h b cI cC cS') {σ : CS} : κ.HP σ (b + 157 + 0) = .inr (3, [.ref (κ.S0 + (b + 157 + 1)), .ref (κ.S0 + (b + 157 + 12)), .ref (κ.S0 + (b + 157 + 19)), .ref (κ.S0 + (b + 157 + 20)), .ref (κ.S0 + (b + 157 + 21)), .int ((σ.1 7).2 8), .int ((σ.1 7).2 9), .int ((σ.1 7).2 10)]) := by
  rw [yC_g7 Y σ]
  exact ov_at 0 rfl
theorem yC_g7_1 (Y : YC κ h b cI cC cS') {σ : CS} : κ.HP σ (b + 157 + 1) = .inr (0, [.ref (κ.S0 + (b + 157 + 2)), .ref (κ.S0 + (b + 157 + 3)), .ref (κ.S0 + (b + 157 + 4)), .ref (κ.S0 + (b + 157 + 5)), .ref (κ.S0 + (b + 157 + 6)), .ref (κ.S0 + (b + 157 + 7)), .ref (κ.S0 + (b + 157 + 8)), .ref (κ.S0 + (b + 157 + 9)), .int ((σ.1 7).2 0), .ref (κ.S0 + (b + 157 + 10)), .int ((σ.1 7).2 1), .ref (κ.S0 + (b + 157 + 11)), .int ((σ.1 7).2 2)]) := by
  rw [yC_g7 Y σ]
  exact ov_at 1 rfl
theorem yC_g7_6 (Y : YC κ h b cI cC cS') {σ : CS} : κ.HP σ (b + 157 + 6) = .inl (cI, 201, .inl ((σ.1 7).1 6)) := by
  rw [yC_g7 Y σ]
  exact ov_at 6 rfl
theorem yC_g7_12 (Y : YC κ h b cI cC cS') {σ : CS} : κ.HP σ (b + 157 + 12) = .inr (4, [.ref (κ.S0 + (b + 157 + 13)), .ref (κ.S0 + (b + 157 + 14)), .ref (κ.S0 + (b + 157 + 15)), .ref (κ.S0 + (b + 157 + 16)), .ref (κ.S0 + (b + 157 + 17)), .ref (κ.S0 + (b + 157 + 18)), .int ((σ.1 7).2 3), .int ((σ.1 7).2 4), .int ((σ.1 7).2 5), .int ((σ.1 7).2 6), .int ((σ.1 7).2 7)]) := by
  rw [yC_g7 Y σ]
  exact ov_at 12 rfl
end YC
end
