section
-- ===== PART A: goes FIRST, ahead of the names: the tables' words, and 'selects' of the private methods out of them =====
/-- a private method of a class that the tables say can be made, by its rows of tables_1 -/
def lw_okq (q : MethodName × Nat) : Prop := (q.1.cls ≠ "java/lang/invoke/MethodHandle" ∧ q.1.cls ≠ "java/lang/invoke/VarHandle") ∧ Cond.instantiable q.1.cls q.2 ∈ tables_1 ∧ Cond.privateMethod q.1 ∈ tables_1 ∧ Cond.instanceMethod q.1 ∈ tables_1
theorem lw_p0 : lw_okq (⟨"AppendZones$History", "slotBehind", "()LAppendZones$State;"⟩, 3) := ⟨⟨by decide +kernel, by decide +kernel⟩, List.mem_of_getElem? (i := 158) (by decide +kernel), List.mem_of_getElem? (i := 220) (by decide +kernel), List.mem_of_getElem? (i := 221) (by decide +kernel)⟩
theorem lw_p1 : lw_okq (⟨"AppendZones$State", "changeOpenLimit", "(I)I"⟩, 8) := ⟨⟨by decide +kernel, by decide +kernel⟩, List.mem_of_getElem? (i := 18) (by decide +kernel), List.mem_of_getElem? (i := 248) (by decide +kernel), List.mem_of_getElem? (i := 249) (by decide +kernel)⟩
theorem lw_p2 : lw_okq (⟨"AppendZones$State", "changeUseLimit", "(I)I"⟩, 8) := ⟨⟨by decide +kernel, by decide +kernel⟩, List.mem_of_getElem? (i := 18) (by decide +kernel), List.mem_of_getElem? (i := 259) (by decide +kernel), List.mem_of_getElem? (i := 260) (by decide +kernel)⟩
theorem lw_p3 : lw_okq (⟨"AppendZones$State", "changeChannels", "(I)I"⟩, 8) := ⟨⟨by decide +kernel, by decide +kernel⟩, List.mem_of_getElem? (i := 18) (by decide +kernel), List.mem_of_getElem? (i := 267) (by decide +kernel), List.mem_of_getElem? (i := 268) (by decide +kernel)⟩
theorem lw_p4 : lw_okq (⟨"AppendZones$State", "changeManner", "(I)I"⟩, 8) := ⟨⟨by decide +kernel, by decide +kernel⟩, List.mem_of_getElem? (i := 18) (by decide +kernel), List.mem_of_getElem? (i := 271) (by decide +kernel), List.mem_of_getElem? (i := 272) (by decide +kernel)⟩
theorem lw_p5 : lw_okq (⟨"AppendZones$State", "letOnePass", "()V"⟩, 8) := ⟨⟨by decide +kernel, by decide +kernel⟩, List.mem_of_getElem? (i := 18) (by decide +kernel), List.mem_of_getElem? (i := 381) (by decide +kernel), List.mem_of_getElem? (i := 382) (by decide +kernel)⟩
theorem lw_p6 : lw_okq (⟨"AppendZones$State", "tellDue", "()V"⟩, 8) := ⟨⟨by decide +kernel, by decide +kernel⟩, List.mem_of_getElem? (i := 18) (by decide +kernel), List.mem_of_getElem? (i := 385) (by decide +kernel), List.mem_of_getElem? (i := 386) (by decide +kernel)⟩
theorem lw_p7 : lw_okq (⟨"AppendZones$State", "putInOrder", "()I"⟩, 8) := ⟨⟨by decide +kernel, by decide +kernel⟩, List.mem_of_getElem? (i := 18) (by decide +kernel), List.mem_of_getElem? (i := 397) (by decide +kernel), List.mem_of_getElem? (i := 398) (by decide +kernel)⟩
theorem lw_p8 : lw_okq (⟨"AppendZones$State", "hasBegun", "(I)Z"⟩, 8) := ⟨⟨by decide +kernel, by decide +kernel⟩, List.mem_of_getElem? (i := 18) (by decide +kernel), List.mem_of_getElem? (i := 401) (by decide +kernel), List.mem_of_getElem? (i := 402) (by decide +kernel)⟩
theorem lw_p9 : lw_okq (⟨"AppendZones$State", "couldOpen", "(I)Z"⟩, 8) := ⟨⟨by decide +kernel, by decide +kernel⟩, List.mem_of_getElem? (i := 18) (by decide +kernel), List.mem_of_getElem? (i := 410) (by decide +kernel), List.mem_of_getElem? (i := 411) (by decide +kernel)⟩
theorem lw_p10 : lw_okq (⟨"AppendZones$State", "longestIdle", "()I"⟩, 8) := ⟨⟨by decide +kernel, by decide +kernel⟩, List.mem_of_getElem? (i := 18) (by decide +kernel), List.mem_of_getElem? (i := 414) (by decide +kernel), List.mem_of_getElem? (i := 415) (by decide +kernel)⟩
theorem lw_p11 : lw_okq (⟨"AppendZones", "doOrder", "(I)I"⟩, 6) := ⟨⟨by decide +kernel, by decide +kernel⟩, List.mem_of_getElem? (i := 10) (by decide +kernel), List.mem_of_getElem? (i := 442) (by decide +kernel), List.mem_of_getElem? (i := 443) (by decide +kernel)⟩
theorem lw_p12 : lw_okq (⟨"AppendZones$State", "readableFromStart", "(I)I"⟩, 8) := ⟨⟨by decide +kernel, by decide +kernel⟩, List.mem_of_getElem? (i := 18) (by decide +kernel), List.mem_of_getElem? (i := 521) (by decide +kernel), List.mem_of_getElem? (i := 522) (by decide +kernel)⟩
theorem lw_p13 : lw_okq (⟨"AppendZonesModel", "sweep", "(I)V"⟩, 15) := ⟨⟨by decide +kernel, by decide +kernel⟩, List.mem_of_getElem? (i := 578) (by decide +kernel), List.mem_of_getElem? (i := 587) (by decide +kernel), List.mem_of_getElem? (i := 588) (by decide +kernel)⟩
theorem lw_p14 : lw_okq (⟨"AppendZonesModel", "zones", "(Z)I"⟩, 15) := ⟨⟨by decide +kernel, by decide +kernel⟩, List.mem_of_getElem? (i := 578) (by decide +kernel), List.mem_of_getElem? (i := 648) (by decide +kernel), List.mem_of_getElem? (i := 649) (by decide +kernel)⟩
theorem lw_p15 : lw_okq (⟨"AppendZonesModel", "change", "(II)I"⟩, 15) := ⟨⟨by decide +kernel, by decide +kernel⟩, List.mem_of_getElem? (i := 578) (by decide +kernel), List.mem_of_getElem? (i := 652) (by decide +kernel), List.mem_of_getElem? (i := 653) (by decide +kernel)⟩
def lw_privs_1 : List (MethodName × Nat) := [(⟨"AppendZones$History", "slotBehind", "()LAppendZones$State;"⟩, 3), (⟨"AppendZones$State", "changeOpenLimit", "(I)I"⟩, 8), (⟨"AppendZones$State", "changeUseLimit", "(I)I"⟩, 8), (⟨"AppendZones$State", "changeChannels", "(I)I"⟩, 8), (⟨"AppendZones$State", "changeManner", "(I)I"⟩, 8), (⟨"AppendZones$State", "letOnePass", "()V"⟩, 8), (⟨"AppendZones$State", "tellDue", "()V"⟩, 8), (⟨"AppendZones$State", "putInOrder", "()I"⟩, 8), (⟨"AppendZones$State", "hasBegun", "(I)Z"⟩, 8), (⟨"AppendZones$State", "couldOpen", "(I)Z"⟩, 8), (⟨"AppendZones$State", "longestIdle", "()I"⟩, 8), (⟨"AppendZones", "doOrder", "(I)I"⟩, 6), (⟨"AppendZones$State", "readableFromStart", "(I)I"⟩, 8), (⟨"AppendZonesModel", "sweep", "(I)V"⟩, 15), (⟨"AppendZonesModel", "zones", "(Z)I"⟩, 15), (⟨"AppendZonesModel", "change", "(II)I"⟩, 15)]
theorem lw_r1 : ∀ q ∈ lw_privs_1, lw_okq q := List.forall_mem_cons.mpr ⟨lw_p0, List.forall_mem_cons.mpr ⟨lw_p1, List.forall_mem_cons.mpr ⟨lw_p2, List.forall_mem_cons.mpr ⟨lw_p3, List.forall_mem_cons.mpr ⟨lw_p4, List.forall_mem_cons.mpr ⟨lw_p5, List.forall_mem_cons.mpr ⟨lw_p6, List.forall_mem_cons.mpr ⟨lw_p7, List.forall_mem_cons.mpr ⟨lw_p8, List.forall_mem_cons.mpr ⟨lw_p9, List.forall_mem_cons.mpr ⟨lw_p10, List.forall_mem_cons.mpr ⟨lw_p11, List.forall_mem_cons.mpr ⟨lw_p12, List.forall_mem_cons.mpr ⟨lw_p13, List.forall_mem_cons.mpr ⟨lw_p14, List.forall_mem_cons.mpr ⟨lw_p15, fun _ h => absurd h List.not_mem_nil⟩⟩⟩⟩⟩⟩⟩⟩⟩⟩⟩⟩⟩⟩⟩⟩
theorem lw_p16 : lw_okq (⟨"AppendZonesModel", "know", "()V"⟩, 15) := ⟨⟨by decide +kernel, by decide +kernel⟩, List.mem_of_getElem? (i := 578) (by decide +kernel), List.mem_of_getElem? (i := 656) (by decide +kernel), List.mem_of_getElem? (i := 657) (by decide +kernel)⟩
theorem lw_p17 : lw_okq (⟨"AppendZonesModel", "isRoom", "(I)Z"⟩, 15) := ⟨⟨by decide +kernel, by decide +kernel⟩, List.mem_of_getElem? (i := 578) (by decide +kernel), List.mem_of_getElem? (i := 678) (by decide +kernel), List.mem_of_getElem? (i := 679) (by decide +kernel)⟩
theorem lw_p18 : lw_okq (⟨"AppendZonesModel", "appendsOf", "(II)I"⟩, 15) := ⟨⟨by decide +kernel, by decide +kernel⟩, List.mem_of_getElem? (i := 578) (by decide +kernel), List.mem_of_getElem? (i := 682) (by decide +kernel), List.mem_of_getElem? (i := 683) (by decide +kernel)⟩
theorem lw_p19 : lw_okq (⟨"AppendZonesModel", "send", "(III)I"⟩, 15) := ⟨⟨by decide +kernel, by decide +kernel⟩, List.mem_of_getElem? (i := 578) (by decide +kernel), List.mem_of_getElem? (i := 689) (by decide +kernel), List.mem_of_getElem? (i := 690) (by decide +kernel)⟩
theorem lw_p20 : lw_okq (⟨"AppendZonesModel", "resets", "(I)I"⟩, 15) := ⟨⟨by decide +kernel, by decide +kernel⟩, List.mem_of_getElem? (i := 578) (by decide +kernel), List.mem_of_getElem? (i := 697) (by decide +kernel), List.mem_of_getElem? (i := 698) (by decide +kernel)⟩
theorem lw_p21 : lw_okq (⟨"AppendZonesModel", "readable", "(I)I"⟩, 15) := ⟨⟨by decide +kernel, by decide +kernel⟩, List.mem_of_getElem? (i := 578) (by decide +kernel), List.mem_of_getElem? (i := 701) (by decide +kernel), List.mem_of_getElem? (i := 702) (by decide +kernel)⟩
theorem lw_p22 : lw_okq (⟨"AppendZonesModel", "failAll", "(III)I"⟩, 15) := ⟨⟨by decide +kernel, by decide +kernel⟩, List.mem_of_getElem? (i := 578) (by decide +kernel), List.mem_of_getElem? (i := 705) (by decide +kernel), List.mem_of_getElem? (i := 706) (by decide +kernel)⟩
theorem lw_p23 : lw_okq (⟨"AppendZonesModel", "fail", "(II)V"⟩, 15) := ⟨⟨by decide +kernel, by decide +kernel⟩, List.mem_of_getElem? (i := 578) (by decide +kernel), List.mem_of_getElem? (i := 709) (by decide +kernel), List.mem_of_getElem? (i := 710) (by decide +kernel)⟩
theorem lw_p24 : lw_okq (⟨"AppendZonesModel", "finishFault", "(I)I"⟩, 15) := ⟨⟨by decide +kernel, by decide +kernel⟩, List.mem_of_getElem? (i := 578) (by decide +kernel), List.mem_of_getElem? (i := 717) (by decide +kernel), List.mem_of_getElem? (i := 718) (by decide +kernel)⟩
theorem lw_p25 : lw_okq (⟨"AppendZonesModel", "finishes", "(I)I"⟩, 15) := ⟨⟨by decide +kernel, by decide +kernel⟩, List.mem_of_getElem? (i := 578) (by decide +kernel), List.mem_of_getElem? (i := 721) (by decide +kernel), List.mem_of_getElem? (i := 722) (by decide +kernel)⟩
theorem lw_p26 : lw_okq (⟨"AppendZonesModel", "appends", "(II)I"⟩, 15) := ⟨⟨by decide +kernel, by decide +kernel⟩, List.mem_of_getElem? (i := 578) (by decide +kernel), List.mem_of_getElem? (i := 729) (by decide +kernel), List.mem_of_getElem? (i := 730) (by decide +kernel)⟩
theorem lw_p27 : lw_okq (⟨"AppendZonesModel", "goBy", "(I)I"⟩, 15) := ⟨⟨by decide +kernel, by decide +kernel⟩, List.mem_of_getElem? (i := 578) (by decide +kernel), List.mem_of_getElem? (i := 737) (by decide +kernel), List.mem_of_getElem? (i := 738) (by decide +kernel)⟩
theorem lw_p28 : lw_okq (⟨"AppendZonesModel", "tick", "()I"⟩, 15) := ⟨⟨by decide +kernel, by decide +kernel⟩, List.mem_of_getElem? (i := 578) (by decide +kernel), List.mem_of_getElem? (i := 741) (by decide +kernel), List.mem_of_getElem? (i := 742) (by decide +kernel)⟩
theorem lw_p29 : lw_okq (⟨"AppendZonesModel", "tell", "(I)V"⟩, 15) := ⟨⟨by decide +kernel, by decide +kernel⟩, List.mem_of_getElem? (i := 578) (by decide +kernel), List.mem_of_getElem? (i := 745) (by decide +kernel), List.mem_of_getElem? (i := 746) (by decide +kernel)⟩
theorem lw_p30 : lw_okq (⟨"AppendZonesModel", "lookAtAll", "(I)V"⟩, 15) := ⟨⟨by decide +kernel, by decide +kernel⟩, List.mem_of_getElem? (i := 578) (by decide +kernel), List.mem_of_getElem? (i := 749) (by decide +kernel), List.mem_of_getElem? (i := 750) (by decide +kernel)⟩
theorem lw_p31 : lw_okq (⟨"AppendZonesModel", "lookAt", "(I)I"⟩, 15) := ⟨⟨by decide +kernel, by decide +kernel⟩, List.mem_of_getElem? (i := 578) (by decide +kernel), List.mem_of_getElem? (i := 753) (by decide +kernel), List.mem_of_getElem? (i := 754) (by decide +kernel)⟩
def lw_privs_2 : List (MethodName × Nat) := [(⟨"AppendZonesModel", "know", "()V"⟩, 15), (⟨"AppendZonesModel", "isRoom", "(I)Z"⟩, 15), (⟨"AppendZonesModel", "appendsOf", "(II)I"⟩, 15), (⟨"AppendZonesModel", "send", "(III)I"⟩, 15), (⟨"AppendZonesModel", "resets", "(I)I"⟩, 15), (⟨"AppendZonesModel", "readable", "(I)I"⟩, 15), (⟨"AppendZonesModel", "failAll", "(III)I"⟩, 15), (⟨"AppendZonesModel", "fail", "(II)V"⟩, 15), (⟨"AppendZonesModel", "finishFault", "(I)I"⟩, 15), (⟨"AppendZonesModel", "finishes", "(I)I"⟩, 15), (⟨"AppendZonesModel", "appends", "(II)I"⟩, 15), (⟨"AppendZonesModel", "goBy", "(I)I"⟩, 15), (⟨"AppendZonesModel", "tick", "()I"⟩, 15), (⟨"AppendZonesModel", "tell", "(I)V"⟩, 15), (⟨"AppendZonesModel", "lookAtAll", "(I)V"⟩, 15), (⟨"AppendZonesModel", "lookAt", "(I)I"⟩, 15)]
theorem lw_r2 : ∀ q ∈ lw_privs_2, lw_okq q := List.forall_mem_cons.mpr ⟨lw_p16, List.forall_mem_cons.mpr ⟨lw_p17, List.forall_mem_cons.mpr ⟨lw_p18, List.forall_mem_cons.mpr ⟨lw_p19, List.forall_mem_cons.mpr ⟨lw_p20, List.forall_mem_cons.mpr ⟨lw_p21, List.forall_mem_cons.mpr ⟨lw_p22, List.forall_mem_cons.mpr ⟨lw_p23, List.forall_mem_cons.mpr ⟨lw_p24, List.forall_mem_cons.mpr ⟨lw_p25, List.forall_mem_cons.mpr ⟨lw_p26, List.forall_mem_cons.mpr ⟨lw_p27, List.forall_mem_cons.mpr ⟨lw_p28, List.forall_mem_cons.mpr ⟨lw_p29, List.forall_mem_cons.mpr ⟨lw_p30, List.forall_mem_cons.mpr ⟨lw_p31, fun _ h => absurd h List.not_mem_nil⟩⟩⟩⟩⟩⟩⟩⟩⟩⟩⟩⟩⟩⟩⟩⟩
theorem lw_p32 : lw_okq (⟨"AppendZonesModel", "opens", "(I)Z"⟩, 15) := ⟨⟨by decide +kernel, by decide +kernel⟩, List.mem_of_getElem? (i := 578) (by decide +kernel), List.mem_of_getElem? (i := 757) (by decide +kernel), List.mem_of_getElem? (i := 758) (by decide +kernel)⟩
theorem lw_p33 : lw_okq (⟨"AppendZonesModel", "idlest", "()I"⟩, 15) := ⟨⟨by decide +kernel, by decide +kernel⟩, List.mem_of_getElem? (i := 578) (by decide +kernel), List.mem_of_getElem? (i := 761) (by decide +kernel), List.mem_of_getElem? (i := 762) (by decide +kernel)⟩
theorem lw_p34 : lw_okq (⟨"AppendZonesModel", "go", "(Z)I"⟩, 15) := ⟨⟨by decide +kernel, by decide +kernel⟩, List.mem_of_getElem? (i := 578) (by decide +kernel), List.mem_of_getElem? (i := 769) (by decide +kernel), List.mem_of_getElem? (i := 770) (by decide +kernel)⟩
theorem lw_p35 : lw_okq (⟨"AppendZonesModel", "order", "()V"⟩, 15) := ⟨⟨by decide +kernel, by decide +kernel⟩, List.mem_of_getElem? (i := 578) (by decide +kernel), List.mem_of_getElem? (i := 773) (by decide +kernel), List.mem_of_getElem? (i := 774) (by decide +kernel)⟩
theorem lw_p36 : lw_okq (⟨"AppendZonesModel", "sign", "(II)I"⟩, 15) := ⟨⟨by decide +kernel, by decide +kernel⟩, List.mem_of_getElem? (i := 578) (by decide +kernel), List.mem_of_getElem? (i := 777) (by decide +kernel), List.mem_of_getElem? (i := 778) (by decide +kernel)⟩
theorem lw_p37 : lw_okq (⟨"AppendZonesModel", "does", "()I"⟩, 15) := ⟨⟨by decide +kernel, by decide +kernel⟩, List.mem_of_getElem? (i := 578) (by decide +kernel), List.mem_of_getElem? (i := 781) (by decide +kernel), List.mem_of_getElem? (i := 782) (by decide +kernel)⟩
theorem lw_p38 : lw_okq (⟨"AppendZonesModel", "putAside", "()V"⟩, 15) := ⟨⟨by decide +kernel, by decide +kernel⟩, List.mem_of_getElem? (i := 578) (by decide +kernel), List.mem_of_getElem? (i := 785) (by decide +kernel), List.mem_of_getElem? (i := 786) (by decide +kernel)⟩
theorem lw_p39 : lw_okq (⟨"AppendZonesModel", "putBack", "()V"⟩, 15) := ⟨⟨by decide +kernel, by decide +kernel⟩, List.mem_of_getElem? (i := 578) (by decide +kernel), List.mem_of_getElem? (i := 789) (by decide +kernel), List.mem_of_getElem? (i := 790) (by decide +kernel)⟩
theorem lw_p40 : lw_okq (⟨"AppendZonesModel", "isAppend", "(I)Z"⟩, 15) := ⟨⟨by decide +kernel, by decide +kernel⟩, List.mem_of_getElem? (i := 578) (by decide +kernel), List.mem_of_getElem? (i := 825) (by decide +kernel), List.mem_of_getElem? (i := 826) (by decide +kernel)⟩
theorem lw_p41 : lw_okq (⟨"AppendZonesModel", "ticksOf", "(I)I"⟩, 15) := ⟨⟨by decide +kernel, by decide +kernel⟩, List.mem_of_getElem? (i := 578) (by decide +kernel), List.mem_of_getElem? (i := 841) (by decide +kernel), List.mem_of_getElem? (i := 842) (by decide +kernel)⟩
def lw_privs_3 : List (MethodName × Nat) := [(⟨"AppendZonesModel", "opens", "(I)Z"⟩, 15), (⟨"AppendZonesModel", "idlest", "()I"⟩, 15), (⟨"AppendZonesModel", "go", "(Z)I"⟩, 15), (⟨"AppendZonesModel", "order", "()V"⟩, 15), (⟨"AppendZonesModel", "sign", "(II)I"⟩, 15), (⟨"AppendZonesModel", "does", "()I"⟩, 15), (⟨"AppendZonesModel", "putAside", "()V"⟩, 15), (⟨"AppendZonesModel", "putBack", "()V"⟩, 15), (⟨"AppendZonesModel", "isAppend", "(I)Z"⟩, 15), (⟨"AppendZonesModel", "ticksOf", "(I)I"⟩, 15)]
theorem lw_r3 : ∀ q ∈ lw_privs_3, lw_okq q := List.forall_mem_cons.mpr ⟨lw_p32, List.forall_mem_cons.mpr ⟨lw_p33, List.forall_mem_cons.mpr ⟨lw_p34, List.forall_mem_cons.mpr ⟨lw_p35, List.forall_mem_cons.mpr ⟨lw_p36, List.forall_mem_cons.mpr ⟨lw_p37, List.forall_mem_cons.mpr ⟨lw_p38, List.forall_mem_cons.mpr ⟨lw_p39, List.forall_mem_cons.mpr ⟨lw_p40, List.forall_mem_cons.mpr ⟨lw_p41, fun _ h => absurd h List.not_mem_nil⟩⟩⟩⟩⟩⟩⟩⟩⟩⟩
def lw_privs : List (MethodName × Nat) := lw_privs_1 ++ (lw_privs_2 ++ (lw_privs_3))
def lw_tbl : List Cond := k2_sels lw_privs ++ tables_1
theorem lw_privs_ok : ∀ q ∈ lw_privs, lw_okq q := by
  show ∀ q ∈ lw_privs_1 ++ (lw_privs_2 ++ (lw_privs_3)), lw_okq q
  exact List.forall_mem_append.mpr ⟨lw_r1, List.forall_mem_append.mpr ⟨lw_r2, lw_r3⟩⟩

def RX0 : String := "AppendZones$Appends"
def TX0 : u_T := fun k => match k with
  | 0 => ("AppendZones$Appends", "writerOf", "[I", true)
  | 1 => ("AppendZones$Appends", "zoneOf", "[I", true)
  | 2 => ("AppendZones$Appends", "valueOf", "[I", true)
  | 3 => ("AppendZones$Appends", "phaseOf", "[I", true)
  | 4 => ("AppendZones$Appends", "placeOf", "[I", true)
  | 5 => ("AppendZones$Appends", "tickOf", "[I", true)
  | 6 => ("AppendZones$Appends", "reasonOf", "[I", true)
  | 7 => ("AppendZones$Appends", "generationOf", "[I", true)
  | 8 => ("AppendZones$Appends", "sent", "I", false)
  | 9 => ("AppendZones$Appends", "toldOrder", "[I", true)
  | 10 => ("AppendZones$Appends", "toldSoFar", "I", false)
  | 11 => ("AppendZones$Appends", "live", "[I", true)
  | _ => ("AppendZones$Appends", "liveCount", "I", false)
def tyX0 : Nat → FieldType := fun k => match k with
  | 0 => .array .int
  | 1 => .array .int
  | 2 => .array .int
  | 3 => .array .int
  | 4 => .array .int
  | 5 => .array .int
  | 6 => .array .int
  | 7 => .array .int
  | 8 => .int
  | 9 => .array .int
  | 10 => .int
  | 11 => .array .int
  | _ => .int
abbrev wsX00 : List Cond := u_ws RX0 TX0 13
theorem nmX0 : ∀ a, a < 13 → ∀ b, b < 13 → a ≠ b → (TX0 a).2.1 ≠ (TX0 b).2.1 := by decide +kernel
theorem tyX0_ok : ∀ k, k < 13 → parseFieldDescriptor (TX0 k).2.2.1 = some (tyX0 k) := by decide +kernel
abbrev cX0_init : ByteArray := prog_2_method_1_code
def yX0_init : MethodName := ⟨RX0, "<init>", "()V"⟩
abbrev cX0_copyFrom : ByteArray := prog_2_method_2_code
def yX0_copyFrom : MethodName := ⟨RX0, "copyFrom", "(LAppendZones$Appends;)V"⟩
abbrev cX0_isNumber : ByteArray := prog_2_method_3_code
def yX0_isNumber : MethodName := ⟨RX0, "isNumber", "(I)Z"⟩
abbrev cX0_isLive : ByteArray := prog_2_method_4_code
def yX0_isLive : MethodName := ⟨RX0, "isLive", "(I)Z"⟩
abbrev cX0_add : ByteArray := prog_2_method_5_code
def yX0_add : MethodName := ⟨RX0, "add", "(III)I"⟩
abbrev cX0_begin : ByteArray := prog_2_method_6_code
def yX0_begin : MethodName := ⟨RX0, "begin", "(IIII)V"⟩
abbrev cX0_markTold : ByteArray := prog_2_method_7_code
def yX0_markTold : MethodName := ⟨RX0, "markTold", "(I)V"⟩
abbrev cX0_markFailed : ByteArray := prog_2_method_8_code
def yX0_markFailed : MethodName := ⟨RX0, "markFailed", "(II)V"⟩
abbrev cX0_failInZone : ByteArray := prog_2_method_9_code
def yX0_failInZone : MethodName := ⟨RX0, "failInZone", "(III)I"⟩
abbrev cX0_dropEnded : ByteArray := prog_2_method_10_code
def yX0_dropEnded : MethodName := ⟨RX0, "dropEnded", "()V"⟩
abbrev cX0_liveIn : ByteArray := prog_2_method_11_code
def yX0_liveIn : MethodName := ⟨RX0, "liveIn", "(I)I"⟩
abbrev cX0_liveInZone : ByteArray := prog_2_method_12_code
def yX0_liveInZone : MethodName := ⟨RX0, "liveInZone", "(II)I"⟩
abbrev cX0_ofWriter : ByteArray := prog_2_method_13_code
def yX0_ofWriter : MethodName := ⟨RX0, "ofWriter", "(II)I"⟩
abbrev cX0_isAhead : ByteArray := prog_2_method_14_code
def yX0_isAhead : MethodName := ⟨RX0, "isAhead", "(I)Z"⟩
abbrev cX0_toldInGeneration : ByteArray := prog_2_method_15_code
def yX0_toldInGeneration : MethodName := ⟨RX0, "toldInGeneration", "(II)I"⟩
abbrev cX0_holderOf : ByteArray := prog_2_method_16_code
def yX0_holderOf : MethodName := ⟨RX0, "holderOf", "(III)I"⟩
abbrev cX0_toldAt : ByteArray := prog_2_method_17_code
def yX0_toldAt : MethodName := ⟨RX0, "toldAt", "(I)I"⟩
abbrev cX0_tellAppend : ByteArray := prog_2_method_18_code
def yX0_tellAppend : MethodName := ⟨RX0, "tellAppend", "(II)I"⟩
def RX1 : String := "AppendZones$History"
def TX1 : u_T := fun k => match k with
  | 0 => ("AppendZones$History", "slots", "[LAppendZones$State;", true)
  | 1 => ("AppendZones$History", "oldest", "I", false)
  | _ => ("AppendZones$History", "kept", "I", false)
def tyX1 : Nat → FieldType := fun k => match k with
  | 0 => .array (.object "AppendZones$State")
  | 1 => .int
  | _ => .int
abbrev wsX10 : List Cond := u_ws RX1 TX1 3
theorem nmX1 : ∀ a, a < 3 → ∀ b, b < 3 → a ≠ b → (TX1 a).2.1 ≠ (TX1 b).2.1 := by decide +kernel
theorem tyX1_ok : ∀ k, k < 3 → parseFieldDescriptor (TX1 k).2.2.1 = some (tyX1 k) := by decide +kernel
abbrev cX1_init : ByteArray := prog_3_method_1_code
def yX1_init : MethodName := ⟨RX1, "<init>", "()V"⟩
abbrev cX1_slotBehind : ByteArray := prog_3_method_2_code
def yX1_slotBehind : MethodName := ⟨RX1, "slotBehind", "()LAppendZones$State;"⟩
abbrev cX1_draft : ByteArray := prog_3_method_3_code
def yX1_draft : MethodName := ⟨RX1, "draft", "(LAppendZones$State;)V"⟩
abbrev cX1_takeDraftBack : ByteArray := prog_3_method_4_code
def yX1_takeDraftBack : MethodName := ⟨RX1, "takeDraftBack", "(LAppendZones$State;)V"⟩
abbrev cX1_settle : ByteArray := prog_3_method_5_code
def yX1_settle : MethodName := ⟨RX1, "settle", "(I)I"⟩
abbrev cX1_stepBack : ByteArray := prog_3_method_6_code
def yX1_stepBack : MethodName := ⟨RX1, "stepBack", "(LAppendZones$State;)I"⟩
def RX2 : String := "AppendZones$OrderText"
def TX2 : u_T := fun k => match k with
  | 0 => ("AppendZones$OrderText", "signs", "[C", true)
  | _ => ("AppendZones$OrderText", "length", "I", false)
def tyX2 : Nat → FieldType := fun k => match k with
  | 0 => .array .char
  | _ => .int
abbrev wsX20 : List Cond := u_ws RX2 TX2 2
theorem nmX2 : ∀ a, a < 2 → ∀ b, b < 2 → a ≠ b → (TX2 a).2.1 ≠ (TX2 b).2.1 := by decide +kernel
theorem tyX2_ok : ∀ k, k < 2 → parseFieldDescriptor (TX2 k).2.2.1 = some (tyX2 k) := by decide +kernel
abbrev cX2_init : ByteArray := prog_4_method_1_code
def yX2_init : MethodName := ⟨RX2, "<init>", "()V"⟩
abbrev cX2_add : ByteArray := prog_4_method_2_code
def yX2_add : MethodName := ⟨RX2, "add", "(C)I"⟩
abbrev cX2_empty : ByteArray := prog_4_method_3_code
def yX2_empty : MethodName := ⟨RX2, "empty", "()I"⟩
abbrev cX2_fault : ByteArray := prog_4_method_4_code
def yX2_fault : MethodName := ⟨RX2, "fault", "()I"⟩
abbrev cX2_placeBehind : ByteArray := prog_4_method_5_code
def yX2_placeBehind : MethodName := ⟨RX2, "placeBehind", "(IC)I"⟩
abbrev cX2_placeBehindFirst : ByteArray := prog_4_method_6_code
def yX2_placeBehindFirst : MethodName := ⟨RX2, "placeBehindFirst", "(C)I"⟩
abbrev cX2_sign : ByteArray := prog_4_method_7_code
def yX2_sign : MethodName := ⟨RX2, "sign", "(I)C"⟩
abbrev cX2_digit : ByteArray := prog_4_method_8_code
def yX2_digit : MethodName := ⟨RX2, "digit", "(I)I"⟩
abbrev cX2_valueFrom : ByteArray := prog_4_method_9_code
def yX2_valueFrom : MethodName := ⟨RX2, "valueFrom", "(I)I"⟩
abbrev cX2_behindOrder : ByteArray := prog_4_method_10_code
def yX2_behindOrder : MethodName := ⟨RX2, "behindOrder", "(I)I"⟩
def RX3 : String := "AppendZones$State"
def TX3 : u_T := fun k => match k with
  | 0 => ("AppendZones$State", "appends", "LAppendZones$Appends;", true)
  | 1 => ("AppendZones$State", "zones", "LAppendZones$Zones;", true)
  | 2 => ("AppendZones$State", "windowOf", "[I", true)
  | 3 => ("AppendZones$State", "aheadOf", "[I", true)
  | 4 => ("AppendZones$State", "order", "[I", true)
  | 5 => ("AppendZones$State", "channels", "I", false)
  | 6 => ("AppendZones$State", "manner", "I", false)
  | _ => ("AppendZones$State", "tick", "I", false)
def tyX3 : Nat → FieldType := fun k => match k with
  | 0 => .object "AppendZones$Appends"
  | 1 => .object "AppendZones$Zones"
  | 2 => .array .int
  | 3 => .array .int
  | 4 => .array .int
  | 5 => .int
  | 6 => .int
  | _ => .int
abbrev wsX30 : List Cond := u_ws RX3 TX3 8
theorem nmX3 : ∀ a, a < 8 → ∀ b, b < 8 → a ≠ b → (TX3 a).2.1 ≠ (TX3 b).2.1 := by decide +kernel
theorem tyX3_ok : ∀ k, k < 8 → parseFieldDescriptor (TX3 k).2.2.1 = some (tyX3 k) := by decide +kernel
abbrev cX3_init : ByteArray := prog_5_method_1_code
def yX3_init : MethodName := ⟨RX3, "<init>", "()V"⟩
abbrev cX3_copyFrom : ByteArray := prog_5_method_2_code
def yX3_copyFrom : MethodName := ⟨RX3, "copyFrom", "(LAppendZones$State;)V"⟩
abbrev cX3_changeNumber : ByteArray := prog_5_method_3_code
def yX3_changeNumber : MethodName := ⟨RX3, "changeNumber", "(II)I"⟩
abbrev cX3_changeOpenLimit : ByteArray := prog_5_method_4_code
def yX3_changeOpenLimit : MethodName := ⟨RX3, "changeOpenLimit", "(I)I"⟩
abbrev cX3_changeUseLimit : ByteArray := prog_5_method_5_code
def yX3_changeUseLimit : MethodName := ⟨RX3, "changeUseLimit", "(I)I"⟩
abbrev cX3_changeChannels : ByteArray := prog_5_method_6_code
def yX3_changeChannels : MethodName := ⟨RX3, "changeChannels", "(I)I"⟩
abbrev cX3_changeManner : ByteArray := prog_5_method_7_code
def yX3_changeManner : MethodName := ⟨RX3, "changeManner", "(I)I"⟩
abbrev cX3_changeDelay : ByteArray := prog_5_method_8_code
def yX3_changeDelay : MethodName := ⟨RX3, "changeDelay", "(II)I"⟩
abbrev cX3_changeCapacity : ByteArray := prog_5_method_9_code
def yX3_changeCapacity : MethodName := ⟨RX3, "changeCapacity", "(II)I"⟩
abbrev cX3_changeWindow : ByteArray := prog_5_method_10_code
def yX3_changeWindow : MethodName := ⟨RX3, "changeWindow", "(II)I"⟩
abbrev cX3_send : ByteArray := prog_5_method_11_code
def yX3_send : MethodName := ⟨RX3, "send", "(III)I"⟩
abbrev cX3_wipe : ByteArray := prog_5_method_12_code
def yX3_wipe : MethodName := ⟨RX3, "wipe", "(I)I"⟩
abbrev cX3_fill : ByteArray := prog_5_method_13_code
def yX3_fill : MethodName := ⟨RX3, "fill", "(I)I"⟩
abbrev cX3_shut : ByteArray := prog_5_method_14_code
def yX3_shut : MethodName := ⟨RX3, "shut", "(I)I"⟩
abbrev cX3_letPass : ByteArray := prog_5_method_15_code
def yX3_letPass : MethodName := ⟨RX3, "letPass", "(I)I"⟩
abbrev cX3_letOnePass : ByteArray := prog_5_method_16_code
def yX3_letOnePass : MethodName := ⟨RX3, "letOnePass", "()V"⟩
abbrev cX3_tellDue : ByteArray := prog_5_method_17_code
def yX3_tellDue : MethodName := ⟨RX3, "tellDue", "()V"⟩
abbrev cX3_putInOrder : ByteArray := prog_5_method_18_code
def yX3_putInOrder : MethodName := ⟨RX3, "putInOrder", "()I"⟩
abbrev cX3_hasBegun : ByteArray := prog_5_method_19_code
def yX3_hasBegun : MethodName := ⟨RX3, "hasBegun", "(I)Z"⟩
abbrev cX3_couldOpen : ByteArray := prog_5_method_20_code
def yX3_couldOpen : MethodName := ⟨RX3, "couldOpen", "(I)Z"⟩
abbrev cX3_longestIdle : ByteArray := prog_5_method_21_code
def yX3_longestIdle : MethodName := ⟨RX3, "longestIdle", "()I"⟩
abbrev cX3_ticksUntilTold : ByteArray := prog_5_method_22_code
def yX3_ticksUntilTold : MethodName := ⟨RX3, "ticksUntilTold", "(I)I"⟩
abbrev cX3_blockAt : ByteArray := prog_5_method_23_code
def yX3_blockAt : MethodName := ⟨RX3, "blockAt", "(II)I"⟩
abbrev cX3_tellZone : ByteArray := prog_5_method_24_code
def yX3_tellZone : MethodName := ⟨RX3, "tellZone", "(II)I"⟩
abbrev cX3_readableFromStart : ByteArray := prog_5_method_25_code
def yX3_readableFromStart : MethodName := ⟨RX3, "readableFromStart", "(I)I"⟩
abbrev cX3_tellWriter : ByteArray := prog_5_method_26_code
def yX3_tellWriter : MethodName := ⟨RX3, "tellWriter", "(II)I"⟩
abbrev cX3_tellNumber : ByteArray := prog_5_method_27_code
def yX3_tellNumber : MethodName := ⟨RX3, "tellNumber", "(I)I"⟩
def RX4 : String := "AppendZones$Zones"
def TX4 : u_T := fun k => match k with
  | 0 => ("AppendZones$Zones", "phaseOf", "[I", true)
  | 1 => ("AppendZones$Zones", "capacityOf", "[I", true)
  | 2 => ("AppendZones$Zones", "delayOf", "[I", true)
  | 3 => ("AppendZones$Zones", "pointerOf", "[I", true)
  | 4 => ("AppendZones$Zones", "generationOf", "[I", true)
  | 5 => ("AppendZones$Zones", "latestEventOf", "[I", true)
  | 6 => ("AppendZones$Zones", "events", "I", false)
  | 7 => ("AppendZones$Zones", "openLimit", "I", false)
  | 8 => ("AppendZones$Zones", "useLimit", "I", false)
  | 9 => ("AppendZones$Zones", "turn", "I", false)
  | _ => ("AppendZones$Zones", "madeWay", "I", false)
def tyX4 : Nat → FieldType := fun k => match k with
  | 0 => .array .int
  | 1 => .array .int
  | 2 => .array .int
  | 3 => .array .int
  | 4 => .array .int
  | 5 => .array .int
  | 6 => .int
  | 7 => .int
  | 8 => .int
  | 9 => .int
  | _ => .int
abbrev wsX40 : List Cond := u_ws RX4 TX4 11
theorem nmX4 : ∀ a, a < 11 → ∀ b, b < 11 → a ≠ b → (TX4 a).2.1 ≠ (TX4 b).2.1 := by decide +kernel
theorem tyX4_ok : ∀ k, k < 11 → parseFieldDescriptor (TX4 k).2.2.1 = some (tyX4 k) := by decide +kernel
abbrev cX4_init : ByteArray := prog_6_method_1_code
def yX4_init : MethodName := ⟨RX4, "<init>", "()V"⟩
abbrev cX4_copyFrom : ByteArray := prog_6_method_2_code
def yX4_copyFrom : MethodName := ⟨RX4, "copyFrom", "(LAppendZones$Zones;)V"⟩
abbrev cX4_inPhase : ByteArray := prog_6_method_3_code
def yX4_inPhase : MethodName := ⟨RX4, "inPhase", "(I)I"⟩
abbrev cX4_inUse : ByteArray := prog_6_method_4_code
def yX4_inUse : MethodName := ⟨RX4, "inUse", "()I"⟩
abbrev cX4_takePlace : ByteArray := prog_6_method_5_code
def yX4_takePlace : MethodName := ⟨RX4, "takePlace", "(I)I"⟩
abbrev cX4_clear : ByteArray := prog_6_method_6_code
def yX4_clear : MethodName := ⟨RX4, "clear", "(I)V"⟩
def RX5 : String := "AppendZones"
def TX5 : u_T := fun k => match k with
  | 0 => ("AppendZones", "now", "LAppendZones$State;", true)
  | 1 => ("AppendZones", "forecast", "LAppendZones$State;", true)
  | 2 => ("AppendZones", "snapshot", "LAppendZones$State;", true)
  | 3 => ("AppendZones", "hasSnapshot", "Z", false)
  | 4 => ("AppendZones", "history", "LAppendZones$History;", true)
  | _ => ("AppendZones", "text", "LAppendZones$OrderText;", true)
def tyX5 : Nat → FieldType := fun k => match k with
  | 0 => .object "AppendZones$State"
  | 1 => .object "AppendZones$State"
  | 2 => .object "AppendZones$State"
  | 3 => .boolean
  | 4 => .object "AppendZones$History"
  | _ => .object "AppendZones$OrderText"
abbrev wsX50 : List Cond := u_ws RX5 TX5 6
theorem nmX5 : ∀ a, a < 6 → ∀ b, b < 6 → a ≠ b → (TX5 a).2.1 ≠ (TX5 b).2.1 := by decide +kernel
theorem tyX5_ok : ∀ k, k < 6 → parseFieldDescriptor (TX5 k).2.2.1 = some (tyX5 k) := by decide +kernel
abbrev cX5_init : ByteArray := prog_1_method_1_code
def yX5_init : MethodName := ⟨RX5, "<init>", "()V"⟩
abbrev cX5_set : ByteArray := prog_1_method_2_code
def yX5_set : MethodName := ⟨RX5, "set", "(II)I"⟩
abbrev cX5_setZone : ByteArray := prog_1_method_3_code
def yX5_setZone : MethodName := ⟨RX5, "setZone", "(IZI)I"⟩
abbrev cX5_setWindow : ByteArray := prog_1_method_4_code
def yX5_setWindow : MethodName := ⟨RX5, "setWindow", "(II)I"⟩
abbrev cX5_append : ByteArray := prog_1_method_5_code
def yX5_append : MethodName := ⟨RX5, "append", "(III)I"⟩
abbrev cX5_reset : ByteArray := prog_1_method_6_code
def yX5_reset : MethodName := ⟨RX5, "reset", "(I)I"⟩
abbrev cX5_finish : ByteArray := prog_1_method_7_code
def yX5_finish : MethodName := ⟨RX5, "finish", "(I)I"⟩
abbrev cX5_close : ByteArray := prog_1_method_8_code
def yX5_close : MethodName := ⟨RX5, "close", "(I)I"⟩
abbrev cX5_pass : ByteArray := prog_1_method_9_code
def yX5_pass : MethodName := ⟨RX5, "pass", "(I)I"⟩
abbrev cX5_follow : ByteArray := prog_1_method_10_code
def yX5_follow : MethodName := ⟨RX5, "follow", "()I"⟩
abbrev cX5_type : ByteArray := prog_1_method_11_code
def yX5_type : MethodName := ⟨RX5, "type", "(C)I"⟩
abbrev cX5_clearText : ByteArray := prog_1_method_12_code
def yX5_clearText : MethodName := ⟨RX5, "clearText", "()I"⟩
abbrev cX5_undo : ByteArray := prog_1_method_13_code
def yX5_undo : MethodName := ⟨RX5, "undo", "()I"⟩
abbrev cX5_keep : ByteArray := prog_1_method_14_code
def yX5_keep : MethodName := ⟨RX5, "keep", "()I"⟩
abbrev cX5_restore : ByteArray := prog_1_method_15_code
def yX5_restore : MethodName := ⟨RX5, "restore", "()I"⟩
abbrev cX5_read : ByteArray := prog_1_method_16_code
def yX5_read : MethodName := ⟨RX5, "read", "(II)I"⟩
abbrev cX5_zone : ByteArray := prog_1_method_17_code
def yX5_zone : MethodName := ⟨RX5, "zone", "(II)I"⟩
abbrev cX5_appended : ByteArray := prog_1_method_18_code
def yX5_appended : MethodName := ⟨RX5, "appended", "(II)I"⟩
abbrev cX5_writer : ByteArray := prog_1_method_19_code
def yX5_writer : MethodName := ⟨RX5, "writer", "(II)I"⟩
abbrev cX5_told : ByteArray := prog_1_method_20_code
def yX5_told : MethodName := ⟨RX5, "told", "(I)I"⟩
abbrev cX5_toldIn : ByteArray := prog_1_method_21_code
def yX5_toldIn : MethodName := ⟨RX5, "toldIn", "(I)I"⟩
abbrev cX5_would : ByteArray := prog_1_method_22_code
def yX5_would : MethodName := ⟨RX5, "would", "(II)I"⟩
abbrev cX5_count : ByteArray := prog_1_method_23_code
def yX5_count : MethodName := ⟨RX5, "count", "(I)I"⟩
abbrev cX5_doOrder : ByteArray := prog_1_method_24_code
def yX5_doOrder : MethodName := ⟨RX5, "doOrder", "(I)I"⟩
abbrev cX5_isZone : ByteArray := prog_1_method_25_code
def yX5_isZone : MethodName := ⟨RX5, "isZone", "(I)Z"⟩
abbrev cX5_isWriter : ByteArray := prog_1_method_26_code
def yX5_isWriter : MethodName := ⟨RX5, "isWriter", "(I)Z"⟩
abbrev cX5_isFrom : ByteArray := prog_1_method_27_code
def yX5_isFrom : MethodName := ⟨RX5, "isFrom", "(III)Z"⟩
abbrev cX5_copy : ByteArray := prog_1_method_28_code
def yX5_copy : MethodName := ⟨RX5, "copy", "([I[II)V"⟩
def RX6 : String := "AppendZonesModel"
def TX6 : u_T := fun k => match k with
  | 0 => ("AppendZonesModel", "s", "[I", true)
  | 1 => ("AppendZonesModel", "aside", "[I", true)
  | 2 => ("AppendZonesModel", "before", "[I", true)
  | 3 => ("AppendZonesModel", "known", "I", false)
  | 4 => ("AppendZonesModel", "kept", "[I", true)
  | 5 => ("AppendZonesModel", "isKept", "Z", false)
  | 6 => ("AppendZonesModel", "text", "[I", true)
  | 7 => ("AppendZonesModel", "typed", "I", false)
  | 8 => ("AppendZonesModel", "isLooked", "[Z", true)
  | 9 => ("AppendZonesModel", "isMoved", "Z", false)
  | 10 => ("AppendZonesModel", "first", "I", false)
  | 11 => ("AppendZonesModel", "at", "I", false)
  | 12 => ("AppendZonesModel", "isWrong", "Z", false)
  | 13 => ("AppendZonesModel", "told", "[I", true)
  | _ => ("AppendZonesModel", "fault", "I", false)
def tyX6 : Nat → FieldType := fun k => match k with
  | 0 => .array .int
  | 1 => .array .int
  | 2 => .array .int
  | 3 => .int
  | 4 => .array .int
  | 5 => .boolean
  | 6 => .array .int
  | 7 => .int
  | 8 => .array .boolean
  | 9 => .boolean
  | 10 => .int
  | 11 => .int
  | 12 => .boolean
  | 13 => .array .int
  | _ => .int
abbrev wsX60 : List Cond := u_ws RX6 TX6 15
theorem nmX6 : ∀ a, a < 15 → ∀ b, b < 15 → a ≠ b → (TX6 a).2.1 ≠ (TX6 b).2.1 := by decide +kernel
theorem tyX6_ok : ∀ k, k < 15 → parseFieldDescriptor (TX6 k).2.2.1 = some (tyX6 k) := by decide +kernel
abbrev cX6_init : ByteArray := prog_8_method_1_code
def yX6_init : MethodName := ⟨RX6, "<init>", "()V"⟩
abbrev cX6_in : ByteArray := prog_8_method_3_code
def yX6_in : MethodName := ⟨RX6, "in", "(III)Z"⟩
abbrev cX6_isZone : ByteArray := prog_8_method_4_code
def yX6_isZone : MethodName := ⟨RX6, "isZone", "(I)Z"⟩
abbrev cX6_isWriter : ByteArray := prog_8_method_5_code
def yX6_isWriter : MethodName := ⟨RX6, "isWriter", "(I)Z"⟩
abbrev cX6_isAppend : ByteArray := prog_8_method_6_code
def yX6_isAppend : MethodName := ⟨RX6, "isAppend", "(I)Z"⟩
abbrev cX6_of : ByteArray := prog_8_method_7_code
def yX6_of : MethodName := ⟨RX6, "of", "(II)I"⟩
abbrev cX6_ofWriter : ByteArray := prog_8_method_8_code
def yX6_ofWriter : MethodName := ⟨RX6, "ofWriter", "(II)I"⟩
abbrev cX6_ofAppend : ByteArray := prog_8_method_9_code
def yX6_ofAppend : MethodName := ⟨RX6, "ofAppend", "(II)I"⟩
abbrev cX6_know : ByteArray := prog_8_method_10_code
def yX6_know : MethodName := ⟨RX6, "know", "()V"⟩
abbrev cX6_putAside : ByteArray := prog_8_method_11_code
def yX6_putAside : MethodName := ⟨RX6, "putAside", "()V"⟩
abbrev cX6_putBack : ByteArray := prog_8_method_12_code
def yX6_putBack : MethodName := ⟨RX6, "putBack", "()V"⟩
abbrev cX6_change : ByteArray := prog_8_method_13_code
def yX6_change : MethodName := ⟨RX6, "change", "(II)I"⟩
abbrev cX6_zones : ByteArray := prog_8_method_14_code
def yX6_zones : MethodName := ⟨RX6, "zones", "(Z)I"⟩
abbrev cX6_appends : ByteArray := prog_8_method_15_code
def yX6_appends : MethodName := ⟨RX6, "appends", "(II)I"⟩
abbrev cX6_appendsOf : ByteArray := prog_8_method_16_code
def yX6_appendsOf : MethodName := ⟨RX6, "appendsOf", "(II)I"⟩
abbrev cX6_set : ByteArray := prog_8_method_17_code
def yX6_set : MethodName := ⟨RX6, "set", "(II)I"⟩
abbrev cX6_setZone : ByteArray := prog_8_method_18_code
def yX6_setZone : MethodName := ⟨RX6, "setZone", "(IZI)I"⟩
abbrev cX6_setWindow : ByteArray := prog_8_method_19_code
def yX6_setWindow : MethodName := ⟨RX6, "setWindow", "(II)I"⟩
abbrev cX6_send : ByteArray := prog_8_method_20_code
def yX6_send : MethodName := ⟨RX6, "send", "(III)I"⟩
abbrev cX6_isRoom : ByteArray := prog_8_method_21_code
def yX6_isRoom : MethodName := ⟨RX6, "isRoom", "(I)Z"⟩
abbrev cX6_append : ByteArray := prog_8_method_22_code
def yX6_append : MethodName := ⟨RX6, "append", "(III)I"⟩
abbrev cX6_fail : ByteArray := prog_8_method_23_code
def yX6_fail : MethodName := ⟨RX6, "fail", "(II)V"⟩
abbrev cX6_failAll : ByteArray := prog_8_method_24_code
def yX6_failAll : MethodName := ⟨RX6, "failAll", "(III)I"⟩
abbrev cX6_sweep : ByteArray := prog_8_method_25_code
def yX6_sweep : MethodName := ⟨RX6, "sweep", "(I)V"⟩
abbrev cX6_readable : ByteArray := prog_8_method_26_code
def yX6_readable : MethodName := ⟨RX6, "readable", "(I)I"⟩
abbrev cX6_resets : ByteArray := prog_8_method_27_code
def yX6_resets : MethodName := ⟨RX6, "resets", "(I)I"⟩
abbrev cX6_reset : ByteArray := prog_8_method_28_code
def yX6_reset : MethodName := ⟨RX6, "reset", "(I)I"⟩
abbrev cX6_finishes : ByteArray := prog_8_method_29_code
def yX6_finishes : MethodName := ⟨RX6, "finishes", "(I)I"⟩
abbrev cX6_finishFault : ByteArray := prog_8_method_30_code
def yX6_finishFault : MethodName := ⟨RX6, "finishFault", "(I)I"⟩
abbrev cX6_finish : ByteArray := prog_8_method_31_code
def yX6_finish : MethodName := ⟨RX6, "finish", "(I)I"⟩
abbrev cX6_close : ByteArray := prog_8_method_32_code
def yX6_close : MethodName := ⟨RX6, "close", "(I)I"⟩
abbrev cX6_tell : ByteArray := prog_8_method_33_code
def yX6_tell : MethodName := ⟨RX6, "tell", "(I)V"⟩
abbrev cX6_idlest : ByteArray := prog_8_method_34_code
def yX6_idlest : MethodName := ⟨RX6, "idlest", "()I"⟩
abbrev cX6_opens : ByteArray := prog_8_method_35_code
def yX6_opens : MethodName := ⟨RX6, "opens", "(I)Z"⟩
abbrev cX6_lookAt : ByteArray := prog_8_method_36_code
def yX6_lookAt : MethodName := ⟨RX6, "lookAt", "(I)I"⟩
abbrev cX6_lookAtAll : ByteArray := prog_8_method_37_code
def yX6_lookAtAll : MethodName := ⟨RX6, "lookAtAll", "(I)V"⟩
abbrev cX6_tick : ByteArray := prog_8_method_38_code
def yX6_tick : MethodName := ⟨RX6, "tick", "()I"⟩
abbrev cX6_goBy : ByteArray := prog_8_method_39_code
def yX6_goBy : MethodName := ⟨RX6, "goBy", "(I)I"⟩
abbrev cX6_pass : ByteArray := prog_8_method_40_code
def yX6_pass : MethodName := ⟨RX6, "pass", "(I)I"⟩
abbrev cX6_sign : ByteArray := prog_8_method_41_code
def yX6_sign : MethodName := ⟨RX6, "sign", "(II)I"⟩
abbrev cX6_order : ByteArray := prog_8_method_42_code
def yX6_order : MethodName := ⟨RX6, "order", "()V"⟩
abbrev cX6_does : ByteArray := prog_8_method_43_code
def yX6_does : MethodName := ⟨RX6, "does", "()I"⟩
abbrev cX6_go : ByteArray := prog_8_method_44_code
def yX6_go : MethodName := ⟨RX6, "go", "(Z)I"⟩
abbrev cX6_follow : ByteArray := prog_8_method_45_code
def yX6_follow : MethodName := ⟨RX6, "follow", "()I"⟩
abbrev cX6_type : ByteArray := prog_8_method_46_code
def yX6_type : MethodName := ⟨RX6, "type", "(C)I"⟩
abbrev cX6_clearText : ByteArray := prog_8_method_47_code
def yX6_clearText : MethodName := ⟨RX6, "clearText", "()I"⟩
abbrev cX6_undo : ByteArray := prog_8_method_48_code
def yX6_undo : MethodName := ⟨RX6, "undo", "()I"⟩
abbrev cX6_keep : ByteArray := prog_8_method_49_code
def yX6_keep : MethodName := ⟨RX6, "keep", "()I"⟩
abbrev cX6_restore : ByteArray := prog_8_method_50_code
def yX6_restore : MethodName := ⟨RX6, "restore", "()I"⟩
abbrev cX6_read : ByteArray := prog_8_method_51_code
def yX6_read : MethodName := ⟨RX6, "read", "(II)I"⟩
abbrev cX6_zone : ByteArray := prog_8_method_52_code
def yX6_zone : MethodName := ⟨RX6, "zone", "(II)I"⟩
abbrev cX6_appended : ByteArray := prog_8_method_53_code
def yX6_appended : MethodName := ⟨RX6, "appended", "(II)I"⟩
abbrev cX6_writer : ByteArray := prog_8_method_54_code
def yX6_writer : MethodName := ⟨RX6, "writer", "(II)I"⟩
abbrev cX6_told : ByteArray := prog_8_method_55_code
def yX6_told : MethodName := ⟨RX6, "told", "(I)I"⟩
abbrev cX6_ticksOf : ByteArray := prog_8_method_56_code
def yX6_ticksOf : MethodName := ⟨RX6, "ticksOf", "(I)I"⟩
abbrev cX6_toldIn : ByteArray := prog_8_method_57_code
def yX6_toldIn : MethodName := ⟨RX6, "toldIn", "(I)I"⟩
abbrev cX6_would : ByteArray := prog_8_method_58_code
def yX6_would : MethodName := ⟨RX6, "would", "(II)I"⟩
abbrev cX6_count : ByteArray := prog_8_method_59_code
def yX6_count : MethodName := ⟨RX6, "count", "(I)I"⟩
def RJ10 : String := "java/lang/System"
def TJ10 : u_T := fun k => match k with
  | _ => ("", "", "", false)
def tyJ10 : Nat → FieldType := fun k => match k with
  | _ => .int
abbrev wsJ100 : List Cond := u_ws RJ10 TJ10 0
theorem nmJ10 : ∀ a, a < 0 → ∀ b, b < 0 → a ≠ b → (TJ10 a).2.1 ≠ (TJ10 b).2.1 := by decide +kernel
theorem tyJ10_ok : ∀ k, k < 0 → parseFieldDescriptor (TJ10 k).2.2.1 = some (tyJ10 k) := by decide +kernel
def RL : String := "AppendZonesLaw"
abbrev cL_law : ByteArray := code
def yL_law : MethodName := ⟨RL, "law", "([I)Z"⟩
abbrev vwCl : List vw_C := [(RX0, TX0, 13), (RX1, TX1, 3), (RX2, TX2, 2), (RX3, TX3, 8), (RX4, TX4, 11), (RX5, TX5, 6), (RX6, TX6, 15)]
end
section
/-! THE LAYER: one world for a whole run; cell i of it lies at the address S0 + i. A judgement XG over a state of any type, of which HP tells the cells. -/
def goodTbl : List Cond := lw_tbl.filter goodWord
theorem mem_good {w : Cond} (i : Nat) (h : lw_tbl[i]? = some w) (hg : goodWord w = true) : w ∈ goodTbl := List.mem_filter.mpr ⟨List.mem_of_getElem? h, hg⟩
theorem good_all : ∀ w ∈ goodTbl, (w.onTables && w.keeps) = true ∨ ∃ ty, w = .arrayClass ty := fun _ h => good_of_word (List.mem_filter.mp h).2
theorem goodIn_cons {w : Cond} (h : w ∈ goodTbl) : GoodIn goodTbl (w :: goodTbl) := fun x hx => by
  rcases List.mem_cons.mp hx with e | hx
  · subst e; exact ⟨h, good_all _ h⟩
  · exact ⟨hx, good_all _ hx⟩
/-- the words of calls between nest mates: they are no words of the tables that keep of themselves -/
def nestL : List (String × Nat × MethodName) := [(RX0, 52, yX5_copy), (RX2, 27, yX5_isFrom), (RX3, 11, yX0_init), (RX3, 52, yX5_copy), (RX3, 72, yX5_isFrom), (RX3, 86, yX5_isZone), (RX3, 99, yX5_isWriter), (RX4, 46, yX5_copy), (RX5, 35, yX2_init)]
-- worlds
def hset (h : Nat → va_E) (i : Nat) (v : va_E) : Nat → va_E := fun j => if j = i then v else h j
def xw (S0 c : Nat) (h : Nat → va_E) : va_W := (List.range c).map (fun i => (S0 + i, h i))
theorem xw_get {S0 c i : Nat} {h : Nat → va_E} (hi : i < c) : (xw S0 c h)[i]? = some (S0 + i, h i) := by
  unfold xw
  rw [List.getElem?_map, List.getElem?_range hi]
  rfl
theorem xw_lt {S0 c k : Nat} {h : Nat → va_E} {q : Nat × va_E} (hq : (xw S0 c h)[k]? = some q) : k < c ∧ q = (S0 + k, h k) := by
  have hk : k < c := by
    have := (List.getElem?_eq_some_iff.mp hq).1
    simpa [xw] using this
  rw [xw_get hk] at hq
  exact ⟨hk, (Option.some.inj hq).symm⟩
theorem xw_none {S0 c k : Nat} {h : Nat → va_E} (hk : c ≤ k) : (xw S0 c h)[k]? = none := by
  rw [List.getElem?_eq_none_iff]
  simpa [xw] using hk
theorem xw_set {S0 c i : Nat} {h : Nat → va_E} {v : va_E} (hi : i < c) : (xw S0 c h).set i (S0 + i, v) = xw S0 c (hset h i v) := by
  apply List.ext_getElem?
  intro k
  rcases Nat.lt_or_ge k c with hk | hk
  · rw [xw_get hk]
    by_cases hki : k = i
    · subst hki
      rw [List.getElem?_set_self (by simpa [xw] using hk)]
      simp [hset]
    · rw [List.getElem?_set_ne (Ne.symm hki), xw_get hk]
      simp [hset, hki]
  · rw [xw_none hk, List.getElem?_eq_none_iff]
    simpa [xw] using hk
theorem xw_push {S0 c : Nat} {h : Nat → va_E} {v : va_E} : xw S0 c h ++ [(S0 + c, v)] = xw S0 (c + 1) (hset h c v) := by
  apply List.ext_getElem?
  intro k
  have hlen : (xw S0 c h).length = c := by simp [xw]
  rcases Nat.lt_or_ge k c with hk | hk
  · rw [List.getElem?_append_left (by rw [hlen]; exact hk), xw_get hk, xw_get (Nat.lt_succ_of_lt hk)]
    simp [hset, Nat.ne_of_lt hk]
  · rw [List.getElem?_append_right (by rw [hlen]; exact hk), hlen]
    rcases Nat.eq_or_lt_of_le hk with rfl | hk2
    · rw [xw_get (Nat.lt_succ_self _)]
      simp [hset]
    · rw [xw_none hk2, List.getElem?_eq_none_iff]
      simp
      omega
def XA (S0 : Nat) : Nat → Prop := fun q => S0 ≤ q
theorem xw_D {S0 c : Nat} {h : Nat → va_E} : va_D (XA S0) (xw S0 c h) := by
  refine ⟨fun i j p q hp hq e => ?_, fun k q hq => ?_⟩
  · obtain ⟨-, rfl⟩ := xw_lt hp
    obtain ⟨-, rfl⟩ := xw_lt hq
    exact Nat.add_left_cancel e
  · obtain ⟨-, rfl⟩ := xw_lt hq
    exact Nat.le_add_right _ _
def XW (G : va_G) (S0 c : Nat) (h : Nat → va_E) (H : Heap) : Prop := H.size = S0 + c ∧ va_P G vwCl (xw S0 c h) H
theorem XW.set {G : va_G} {S0 c i : Nat} {h : Nat → va_E} {v : va_E} {H H1 : Heap} (hs : H1.size = S0 + c) (hi : i < c) (hP : va_P G vwCl ((xw S0 c h).set i (S0 + i, v)) H1) : XW G S0 c (hset h i v) H1 := ⟨hs, by rw [← xw_set hi]; exact hP⟩
/-- what of the machine's tables is carried from method to method -/
def XK (G : va_G) (tys : List (ClassId × FieldType)) (U : State) : Prop := va_K G vwCl tys U ∧ (∀ q ∈ nestL, va_Nw (.methodLinkNest q.1 q.2.1 q.2.2 "AppendZones") U) ∧ va_AO "AppendZones$State" U
theorem XK.moved {G : va_G} {tys : List (ClassId × FieldType)} {s U : State} (hW : s.WarmedH U.vm) (h : XK G tys s) : XK G tys U :=
  ⟨va_K.moved hW.alike h.1, fun q hq => va_Nw.warmM hW (h.2.1 q hq), va_AO.moved hW.alike h.2.2⟩
theorem XK.calling {G : va_G} {tys : List (ClassId × FieldType)} {U : State} {g : JFrame} {mk : MethodId} {a : Array Value} (h : XK G tys U) : XK G tys (U.calling g mk a) :=
  ⟨va_K.moved (u := U) (U := U.calling g mk a) (Vm.Alike.refl U.vm) h.1, fun q hq => va_Nw.same rfl rfl (h.2.1 q hq), va_AO.moved (u := U) (U := U.calling g mk a) (Vm.Alike.refl U.vm) h.2.2⟩
/-- a method's end: what it answers, and the world behind it -/
def XQ (G : va_G) (S0 c2 : Nat) (rv : Option Value) (h2 : Nat → va_E) : Array Value → State → Outcome → State → Prop := fun _ st oc t => oc = .returned rv ∧ XW G S0 c2 h2 t.heap ∧ ∀ q, q < S0 → t.heap[q]? = st.heap[q]?
/-- the contract of a method at one state: from the cells h1 it comes to the cells h2, and answers rv -/
def XMet (l : Launch) (G : va_G) (tys : List (ClassId × FieldType)) (S0 c : Nat) (y : MethodName) (bytes : ByteArray) (maxL : Nat) (ret : Option FieldType) (F L : Nat) (av : List Value) (h1 : Nat → va_E) (c2 : Nat) (rv : Option Value) (h2 : Nat → va_E) (mc ms : Nat) : Prop :=
  Met l y (.code y bytes maxL ret :: goodTbl) { frames := F, cells := mc, slots := ms, locals := L } (va_Pc av (fun U => XW G S0 c h1 U.heap ∧ XK G tys U)) (XQ G S0 c2 rv h2) mc ms (XA S0)
-- the fixed things of a method's body
def XCtx (ST : Type) : Type := Program × Launch × Env × Room × State × MethodId × Array Value × List Frame × Method × Code × Nat × va_G × List (ClassId × FieldType) × Nat × (ST → Nat) × (ST → Nat → va_E) × (ST → Nat) × (ST → Nat) × (State → Prop)
section CTX
variable {ST : Type}
def XCtx.p (κ : XCtx ST) : Program := κ.1
def XCtx.l (κ : XCtx ST) : Launch := κ.2.1
def XCtx.e (κ : XCtx ST) : Env := κ.2.2.1
def XCtx.R (κ : XCtx ST) : Room := κ.2.2.2.1
def XCtx.s (κ : XCtx ST) : State := κ.2.2.2.2.1
def XCtx.m (κ : XCtx ST) : MethodId := κ.2.2.2.2.2.1
def XCtx.args (κ : XCtx ST) : Array Value := κ.2.2.2.2.2.2.1
def XCtx.below (κ : XCtx ST) : List Frame := κ.2.2.2.2.2.2.2.1
def XCtx.meth (κ : XCtx ST) : Method := κ.2.2.2.2.2.2.2.2.1
def XCtx.c (κ : XCtx ST) : Code := κ.2.2.2.2.2.2.2.2.2.1
def XCtx.nL (κ : XCtx ST) : Nat := κ.2.2.2.2.2.2.2.2.2.2.1
def XCtx.G (κ : XCtx ST) : va_G := κ.2.2.2.2.2.2.2.2.2.2.2.1
def XCtx.tys (κ : XCtx ST) : List (ClassId × FieldType) := κ.2.2.2.2.2.2.2.2.2.2.2.2.1
def XCtx.S0 (κ : XCtx ST) : Nat := κ.2.2.2.2.2.2.2.2.2.2.2.2.2.1
def XCtx.HC (κ : XCtx ST) : ST → Nat := κ.2.2.2.2.2.2.2.2.2.2.2.2.2.2.1
def XCtx.HP (κ : XCtx ST) : ST → Nat → va_E := κ.2.2.2.2.2.2.2.2.2.2.2.2.2.2.2.1
def XCtx.K (κ : XCtx ST) : ST → Nat := κ.2.2.2.2.2.2.2.2.2.2.2.2.2.2.2.2.1
def XCtx.N (κ : XCtx ST) : ST → Nat := κ.2.2.2.2.2.2.2.2.2.2.2.2.2.2.2.2.2.1
def XCtx.Q (κ : XCtx ST) : State → Prop := κ.2.2.2.2.2.2.2.2.2.2.2.2.2.2.2.2.2.2
end CTX
/-- what holds all through a method's body: the machine, the code, the tables -/
def XC {ST : Type} (κ : XCtx ST) (cc : ByteArray) (nL : Nat) (own : String) (ret : Option FieldType) (F L : Nat) : Prop :=
  κ.p.tables.exec = Jvm.exec ∧ κ.c.code = cc ∧ κ.c.maxLocals = nL ∧ κ.nL = nL ∧ κ.s.vm.findClass own = some κ.m.cls ∧ (∀ w ∈ goodTbl, w.before κ.args κ.s = true) ∧ XK κ.G κ.tys κ.s ∧ κ.S0 ≤ κ.s.heap.size ∧ κ.meth.locks = false ∧ κ.meth.sig.returnType = ret ∧ F ≤ κ.R.frames ∧ L ≤ κ.R.locals
def XR {ST : Type} (κ : XCtx ST) (c2 : Nat) (rv : Option Value) (h2 : Nat → va_E) (mc ms : Nat) : Prop := κ.Q = MQ κ.below (XQ κ.G κ.S0 c2 rv h2) κ.args κ.s mc ms (XA κ.S0)
/-- the judgement: from the state σ, the frame at pc with the locals lv and the stack st comes to its goal -/
def XG {ST : Type} (κ : XCtx ST) (σ : ST) (pc : Nat) (lv : List (Nat × Value)) (st : List Value) : Prop :=
  ∀ (H : Heap) (locs : List Loc) (ls : Array Slot), XW κ.G κ.S0 (κ.HC σ) (κ.HP σ) H → va_S (XA κ.S0) κ.s.heap H locs → lv_has ls κ.nL lv → W κ.p κ.l κ.e κ.R κ.s κ.m κ.args κ.below κ.meth κ.c H locs (κ.K σ) (κ.N σ) κ.Q (F0 κ.m pc ls st)
-- the shallow words
def oA {α : Type} (n : Nat) (f : Nat → Int32) (j : Int32) (k : Int32 → Option α) : Option α := if ¬ (j < 0 ∨ n ≤ j.toNatClampNeg) then k (f j.toNatClampNeg) else none
def oS {ST α : Type} (n : Nat) (f : Nat → Int32) (j x : Int32) (w : (Nat → Int32) → ST) (k : ST → Option α) : Option α := if ¬ (j < 0 ∨ n ≤ j.toNatClampNeg) then k (w (upd f j.toNatClampNeg x)) else none
def oN {ST α : Type} (v : Int32) (w : Int32 → ST) (k : ST → Option α) : Option α := k (w v)
def oZ {ST α : Type} (v : Int32) (w : Int32 → ST) (k : ST → Option α) : Option α := if v = 0 ∨ v = 1 then k (w v) else none
def oR {β α : Type} (x : Option β) (k : β → Option α) : Option α := match x with
  | none => none
  | some r => k r
def oW {ST ST' α : Type} (x : Option (Int32 × ST')) (w : ST' → ST) (k : Int32 → ST → Option α) : Option α := match x with
  | none => none
  | some r => k r.1 (w r.2)
def oV {ST ST' α : Type} (x : Option ST') (w : ST' → ST) (k : ST → Option α) : Option α := match x with
  | none => none
  | some r => k (w r)
def oJ {κ α : Type} (r : κ) (b : κ → Option α) : Option α := b r
def oB (v : Int32) : Option Int32 := if v = 0 ∨ v = 1 then some v else none
def oC (v : Int32) : Option Int32 := if vp_nar .char v = v then some v else none
section ROWS
variable {ST α : Type} {κ : XCtx ST} {cc : ByteArray} {nL : Nat} {own : String} {ret : Option FieldType} {F L pc : Nat} {σ : ST} {lv lv' : List (Nat × Value)} {st : List Value} {res : α}
theorem x_iconst (X : XC κ cc nL own ret F L) {n : Int} {v : Int32} (hd : decode cc pc = .ok (.iconst n, 1)) (hv : Int32.ofInt n = v) (kk : XG κ σ (pc + 1) lv (.int v :: st)) : XG κ σ pc lv st :=
  fun H locs ls hW hS hl => lv_iconst X.1 X.2.1 hd hv (kk H locs ls hW hS hl)
theorem x_bipush (X : XC κ cc nL own ret F L) {n : Int} {v : Int32} (hd : decode cc pc = .ok (.bipush n, 2)) (hv : (Int8.ofInt n).toInt32 = v) (kk : XG κ σ (pc + 2) lv (.int v :: st)) : XG κ σ pc lv st :=
  fun H locs ls hW hS hl => lv_bipush X.1 X.2.1 hd hv (kk H locs ls hW hS hl)
theorem x_sipush (X : XC κ cc nL own ret F L) {n : Int} {v : Int32} (hd : decode cc pc = .ok (.sipush n, 3)) (hv : (Int16.ofInt n).toInt32 = v) (kk : XG κ σ (pc + 3) lv (.int v :: st)) : XG κ σ pc lv st :=
  fun H locs ls hW hS hl => lv_sipush X.1 X.2.1 hd hv (kk H locs ls hW hS hl)
theorem x_iload_n (X : XC κ cc nL own ret F L) {k : Fin 4} {i : Nat} {x : Int32} (hd : decode cc pc = .ok (.iload_n k, 1)) (hi : (k : Nat) = i) (q : Nat) (hq : lv[q]? = some (i, .int x)) (kk : XG κ σ (pc + 1) lv (.int x :: st)) : XG κ σ pc lv st :=
  fun H locs ls hW hS hl => lv_iload_n X.1 X.2.1 hd hi (lv_at hl q hq) (kk H locs ls hW hS hl)
theorem x_iload (X : XC κ cc nL own ret F L) {i : Nat} {x : Int32} (hd : decode cc pc = .ok (.iload i, 2)) (q : Nat) (hq : lv[q]? = some (i, .int x)) (kk : XG κ σ (pc + 2) lv (.int x :: st)) : XG κ σ pc lv st :=
  fun H locs ls hW hS hl => lv_iload X.1 X.2.1 hd (lv_at hl q hq) (kk H locs ls hW hS hl)
theorem x_aload_n (X : XC κ cc nL own ret F L) {k : Fin 4} {i x : Nat} (hd : decode cc pc = .ok (.aload_n k, 1)) (hi : (k : Nat) = i) (q : Nat) (hq : lv[q]? = some (i, .ref x)) (kk : XG κ σ (pc + 1) lv (.ref x :: st)) : XG κ σ pc lv st :=
  fun H locs ls hW hS hl => lv_aload_n X.1 X.2.1 hd hi (lv_at hl q hq) (kk H locs ls hW hS hl)
theorem x_istore_n (X : XC κ cc nL own ret F L) {k : Fin 4} {i : Nat} {x : Int32} (hd : decode cc pc = .ok (.istore_n k, 1)) (hi : (k : Nat) = i) (hn : i < nL) (hl' : (i, Value.int x) :: lv.filter (fun q => !(q.1 == i) && !(q.1 + 1 == i && q.2.category == 2)) = lv') (kk : XG κ σ (pc + 1) lv' st) : XG κ σ pc lv (.int x :: st) :=
  fun H locs ls hW hS hl => lv_istore_n X.1 X.2.1 hd hi hl (by rw [X.2.2.2.1]; exact hn) hl' (fun ls' h' => kk H locs ls' hW hS h')
theorem x_istore (X : XC κ cc nL own ret F L) {i : Nat} {x : Int32} (hd : decode cc pc = .ok (.istore i, 2)) (hn : i < nL) (hl' : (i, Value.int x) :: lv.filter (fun q => !(q.1 == i) && !(q.1 + 1 == i && q.2.category == 2)) = lv') (kk : XG κ σ (pc + 2) lv' st) : XG κ σ pc lv (.int x :: st) :=
  fun H locs ls hW hS hl => lv_istore X.1 X.2.1 hd hl (by rw [X.2.2.2.1]; exact hn) hl' (fun ls' h' => kk H locs ls' hW hS h')
theorem x_astore_n (X : XC κ cc nL own ret F L) {k : Fin 4} {i x : Nat} (hd : decode cc pc = .ok (.astore_n k, 1)) (hi : (k : Nat) = i) (hn : i < nL) (hl' : (i, Value.ref x) :: lv.filter (fun q => !(q.1 == i) && !(q.1 + 1 == i && q.2.category == 2)) = lv') (kk : XG κ σ (pc + 1) lv' st) : XG κ σ pc lv (.ref x :: st) :=
  fun H locs ls hW hS hl => lv_astore_n X.1 X.2.1 hd hi hl (by rw [X.2.2.2.1]; exact hn) hl' (fun ls' h' => kk H locs ls' hW hS h')
theorem x_iinc (X : XC κ cc nL own ret F L) {i : Nat} {n : Int} {x v : Int32} (hd : decode cc pc = .ok (.iinc i n, 3)) (q : Nat) (hq : lv[q]? = some (i, .int x)) (hv : x + Int32.ofInt n = v) (hn : i < nL) (hl' : (i, Value.int v) :: lv.filter (fun q => !(q.1 == i) && !(q.1 + 1 == i && q.2.category == 2)) = lv') (kk : XG κ σ (pc + 3) lv' st) : XG κ σ pc lv st :=
  fun H locs ls hW hS hl => lv_iinc X.1 X.2.1 hd hl hq hv (by rw [X.2.2.2.1]; exact hn) hl' (fun ls' h' => kk H locs ls' hW hS h')
theorem x_sub (ks : List Nat) (hl' : lv_pick lv ks = lv') (kk : XG κ σ pc lv' st) : XG κ σ pc lv st :=
  fun H locs ls hW hS hl => kk H locs ls hW hS (lv_sub hl ks hl')
theorem x_iadd (X : XC κ cc nL own ret F L) {x y : Int32} (hd : decode cc pc = .ok (.iadd, 1)) (kk : XG κ σ (pc + 1) lv (.int (x + y) :: st)) : XG κ σ pc lv (.int y :: .int x :: st) :=
  fun H locs ls hW hS hl => lv_iadd X.1 X.2.1 hd (kk H locs ls hW hS hl)
theorem x_isub (X : XC κ cc nL own ret F L) {x y : Int32} (hd : decode cc pc = .ok (.isub, 1)) (kk : XG κ σ (pc + 1) lv (.int (x - y) :: st)) : XG κ σ pc lv (.int y :: .int x :: st) :=
  fun H locs ls hW hS hl => lv_isub X.1 X.2.1 hd (kk H locs ls hW hS hl)
theorem x_imul (X : XC κ cc nL own ret F L) {x y : Int32} (hd : decode cc pc = .ok (.imul, 1)) (kk : XG κ σ (pc + 1) lv (.int (x * y) :: st)) : XG κ σ pc lv (.int y :: .int x :: st) :=
  fun H locs ls hW hS hl => lv_imul X.1 X.2.1 hd (kk H locs ls hW hS hl)
theorem x_iand (X : XC κ cc nL own ret F L) {x y : Int32} (hd : decode cc pc = .ok (.iand, 1)) (kk : XG κ σ (pc + 1) lv (.int (x &&& y) :: st)) : XG κ σ pc lv (.int y :: .int x :: st) :=
  fun H locs ls hW hS hl => lv_iand X.1 X.2.1 hd (kk H locs ls hW hS hl)
theorem x_ior (X : XC κ cc nL own ret F L) {x y : Int32} (hd : decode cc pc = .ok (.ior, 1)) (kk : XG κ σ (pc + 1) lv (.int (x ||| y) :: st)) : XG κ σ pc lv (.int y :: .int x :: st) :=
  fun H locs ls hW hS hl => lv_ior X.1 X.2.1 hd (kk H locs ls hW hS hl)
theorem x_irem (X : XC κ cc nL own ret F L) {x y : Int32} (hd : decode cc pc = .ok (.irem, 1)) (hne : ¬ y = 0) (kk : XG κ σ (pc + 1) lv (.int (x - x / y * y) :: st)) : XG κ σ pc lv (.int y :: .int x :: st) :=
  fun H locs ls hW hS hl => lv_irem X.1 X.2.1 hd hne (kk H locs ls hW hS hl)
theorem x_ishl (X : XC κ cc nL own ret F L) {x y : Int32} (hd : decode cc pc = .ok (.ishl, 1)) (kk : XG κ σ (pc + 1) lv (.int (x <<< (y &&& 31)) :: st)) : XG κ σ pc lv (.int y :: .int x :: st) :=
  fun H locs ls hW hS hl => lv_ishl X.1 X.2.1 hd (kk H locs ls hW hS hl)
theorem x_i2c (X : XC κ cc nL own ret F L) {x : Int32} (hd : decode cc pc = .ok (.i2c, 1)) (kk : XG κ σ (pc + 1) lv (.int (x.toUInt32 % 65536).toInt32 :: st)) : XG κ σ pc lv (.int x :: st) :=
  fun H locs ls hW hS hl => lv_i2c X.1 X.2.1 hd rfl (kk H locs ls hW hS hl)
theorem x_dup (X : XC κ cc nL own ret F L) {v : Value} (hd : decode cc pc = .ok (.dup, 1)) (hv : v.category = 1) (kk : XG κ σ (pc + 1) lv (v :: v :: st)) : XG κ σ pc lv (v :: st) :=
  fun H locs ls hW hS hl => lv_dup X.1 X.2.1 hd hv (kk H locs ls hW hS hl)
theorem x_dup2 (X : XC κ cc nL own ret F L) {v w : Value} (hd : decode cc pc = .ok (.dup2, 1)) (hv : v.category = 1) (hw : w.category = 1) (kk : XG κ σ (pc + 1) lv (v :: w :: v :: w :: st)) : XG κ σ pc lv (v :: w :: st) :=
  fun H locs ls hW hS hl => lv_dup2_11 X.1 X.2.1 hd hv hw (kk H locs ls hW hS hl)
theorem x_pop (X : XC κ cc nL own ret F L) {v : Value} (hd : decode cc pc = .ok (.pop, 1)) (hv : v.category = 1) (kk : XG κ σ (pc + 1) lv st) : XG κ σ pc lv (v :: st) :=
  fun H locs ls hW hS hl => lv_pop X.1 X.2.1 hd hv (kk H locs ls hW hS hl)
theorem x_goto (X : XC κ cc nL own ret F L) {off : Int} {tgt : Nat} (hd : decode cc pc = .ok (.goto off, 3)) (ht : (pc : Int) + off = (tgt : Int)) (kk : XG κ σ tgt lv st) : XG κ σ pc lv st :=
  fun H locs ls hW hS hl => lv_goto X.1 X.2.1 hd ht (kk H locs ls hW hS hl)
-- branches: the shallow word's own 'if' goes along
theorem x_if {P : Prop} [Decidable P] {a b : Option α} {G : Prop} (hf : (if P then a else b) = some res) (kt : P → a = some res → G) (kf : ¬ P → b = some res → G) : G := by
  by_cases h : P
  · rw [if_pos h] at hf; exact kt h hf
  · rw [if_neg h] at hf; exact kf h hf
theorem x_if_eq (X : XC κ cc nL own ret F L) {x : Int32} {off : Int} {tgt : Nat} {a b : Option α} (hd : decode cc pc = .ok (.ifCond .eq off, 3)) (ht : (pc : Int) + off = (tgt : Int)) (hf : (if x = 0 then a else b) = some res) (kt : a = some res → XG κ σ tgt lv st) (kf : b = some res → XG κ σ (pc + 3) lv st) : XG κ σ pc lv (.int x :: st) :=
  fun H locs ls hW hS hl => lv_if_eq X.1 X.2.1 hd ht (fun h => kt (by rwa [if_pos h] at hf) H locs ls hW hS hl) (fun h => kf (by rwa [if_neg h] at hf) H locs ls hW hS hl)
theorem x_if_ne (X : XC κ cc nL own ret F L) {x : Int32} {off : Int} {tgt : Nat} {a b : Option α} (hd : decode cc pc = .ok (.ifCond .ne off, 3)) (ht : (pc : Int) + off = (tgt : Int)) (hf : (if x = 0 then b else a) = some res) (kt : a = some res → XG κ σ tgt lv st) (kf : b = some res → XG κ σ (pc + 3) lv st) : XG κ σ pc lv (.int x :: st) :=
  fun H locs ls hW hS hl => lv_if_ne X.1 X.2.1 hd ht (fun h => kt (by rwa [if_neg h] at hf) H locs ls hW hS hl) (fun h => kf (by rwa [if_pos h] at hf) H locs ls hW hS hl)
theorem x_if_lt (X : XC κ cc nL own ret F L) {x : Int32} {off : Int} {tgt : Nat} {a b : Option α} (hd : decode cc pc = .ok (.ifCond .lt off, 3)) (ht : (pc : Int) + off = (tgt : Int)) (hf : (if x < 0 then a else b) = some res) (kt : a = some res → XG κ σ tgt lv st) (kf : b = some res → XG κ σ (pc + 3) lv st) : XG κ σ pc lv (.int x :: st) :=
  fun H locs ls hW hS hl => lv_if_lt X.1 X.2.1 hd ht (fun h => kt (by rwa [if_pos h] at hf) H locs ls hW hS hl) (fun h => kf (by rwa [if_neg h] at hf) H locs ls hW hS hl)
theorem x_if_ge (X : XC κ cc nL own ret F L) {x : Int32} {off : Int} {tgt : Nat} {a b : Option α} (hd : decode cc pc = .ok (.ifCond .ge off, 3)) (ht : (pc : Int) + off = (tgt : Int)) (hf : (if 0 ≤ x then a else b) = some res) (kt : a = some res → XG κ σ tgt lv st) (kf : b = some res → XG κ σ (pc + 3) lv st) : XG κ σ pc lv (.int x :: st) :=
  fun H locs ls hW hS hl => lv_if_ge X.1 X.2.1 hd ht (fun h => kt (by rwa [if_pos h] at hf) H locs ls hW hS hl) (fun h => kf (by rwa [if_neg h] at hf) H locs ls hW hS hl)
theorem x_if_gt (X : XC κ cc nL own ret F L) {x : Int32} {off : Int} {tgt : Nat} {a b : Option α} (hd : decode cc pc = .ok (.ifCond .gt off, 3)) (ht : (pc : Int) + off = (tgt : Int)) (hf : (if 0 < x then a else b) = some res) (kt : a = some res → XG κ σ tgt lv st) (kf : b = some res → XG κ σ (pc + 3) lv st) : XG κ σ pc lv (.int x :: st) :=
  fun H locs ls hW hS hl => lv_if_gt X.1 X.2.1 hd ht (fun h => kt (by rwa [if_pos h] at hf) H locs ls hW hS hl) (fun h => kf (by rwa [if_neg h] at hf) H locs ls hW hS hl)
theorem x_if_le (X : XC κ cc nL own ret F L) {x : Int32} {off : Int} {tgt : Nat} {a b : Option α} (hd : decode cc pc = .ok (.ifCond .le off, 3)) (ht : (pc : Int) + off = (tgt : Int)) (hf : (if x ≤ 0 then a else b) = some res) (kt : a = some res → XG κ σ tgt lv st) (kf : b = some res → XG κ σ (pc + 3) lv st) : XG κ σ pc lv (.int x :: st) :=
  fun H locs ls hW hS hl => lv_if_le X.1 X.2.1 hd ht (fun h => kt (by rwa [if_pos h] at hf) H locs ls hW hS hl) (fun h => kf (by rwa [if_neg h] at hf) H locs ls hW hS hl)
theorem x_icmp_eq (X : XC κ cc nL own ret F L) {x y : Int32} {off : Int} {tgt : Nat} {a b : Option α} (hd : decode cc pc = .ok (.if_icmp .eq off, 3)) (ht : (pc : Int) + off = (tgt : Int)) (hf : (if x = y then a else b) = some res) (kt : a = some res → XG κ σ tgt lv st) (kf : b = some res → XG κ σ (pc + 3) lv st) : XG κ σ pc lv (.int y :: .int x :: st) :=
  fun H locs ls hW hS hl => lv_icmp_eq X.1 X.2.1 hd ht (fun h => kt (by rwa [if_pos h] at hf) H locs ls hW hS hl) (fun h => kf (by rwa [if_neg h] at hf) H locs ls hW hS hl)
theorem x_icmp_ne (X : XC κ cc nL own ret F L) {x y : Int32} {off : Int} {tgt : Nat} {a b : Option α} (hd : decode cc pc = .ok (.if_icmp .ne off, 3)) (ht : (pc : Int) + off = (tgt : Int)) (hf : (if x = y then b else a) = some res) (kt : a = some res → XG κ σ tgt lv st) (kf : b = some res → XG κ σ (pc + 3) lv st) : XG κ σ pc lv (.int y :: .int x :: st) :=
  fun H locs ls hW hS hl => lv_icmp_ne X.1 X.2.1 hd ht (fun h => kt (by rwa [if_neg h] at hf) H locs ls hW hS hl) (fun h => kf (by rwa [if_pos h] at hf) H locs ls hW hS hl)
theorem x_icmp_lt (X : XC κ cc nL own ret F L) {x y : Int32} {off : Int} {tgt : Nat} {a b : Option α} (hd : decode cc pc = .ok (.if_icmp .lt off, 3)) (ht : (pc : Int) + off = (tgt : Int)) (hf : (if x < y then a else b) = some res) (kt : a = some res → XG κ σ tgt lv st) (kf : b = some res → XG κ σ (pc + 3) lv st) : XG κ σ pc lv (.int y :: .int x :: st) :=
  fun H locs ls hW hS hl => lv_icmp_lt X.1 X.2.1 hd ht (fun h => kt (by rwa [if_pos h] at hf) H locs ls hW hS hl) (fun h => kf (by rwa [if_neg h] at hf) H locs ls hW hS hl)
theorem x_icmp_ge (X : XC κ cc nL own ret F L) {x y : Int32} {off : Int} {tgt : Nat} {a b : Option α} (hd : decode cc pc = .ok (.if_icmp .ge off, 3)) (ht : (pc : Int) + off = (tgt : Int)) (hf : (if y ≤ x then a else b) = some res) (kt : a = some res → XG κ σ tgt lv st) (kf : b = some res → XG κ σ (pc + 3) lv st) : XG κ σ pc lv (.int y :: .int x :: st) :=
  fun H locs ls hW hS hl => lv_icmp_ge X.1 X.2.1 hd ht (fun h => kt (by rwa [if_pos h] at hf) H locs ls hW hS hl) (fun h => kf (by rwa [if_neg h] at hf) H locs ls hW hS hl)
theorem x_icmp_gt (X : XC κ cc nL own ret F L) {x y : Int32} {off : Int} {tgt : Nat} {a b : Option α} (hd : decode cc pc = .ok (.if_icmp .gt off, 3)) (ht : (pc : Int) + off = (tgt : Int)) (hf : (if y < x then a else b) = some res) (kt : a = some res → XG κ σ tgt lv st) (kf : b = some res → XG κ σ (pc + 3) lv st) : XG κ σ pc lv (.int y :: .int x :: st) :=
  fun H locs ls hW hS hl => lv_icmp_gt X.1 X.2.1 hd ht (fun h => kt (by rwa [if_pos h] at hf) H locs ls hW hS hl) (fun h => kf (by rwa [if_neg h] at hf) H locs ls hW hS hl)
theorem x_icmp_le (X : XC κ cc nL own ret F L) {x y : Int32} {off : Int} {tgt : Nat} {a b : Option α} (hd : decode cc pc = .ok (.if_icmp .le off, 3)) (ht : (pc : Int) + off = (tgt : Int)) (hf : (if x ≤ y then a else b) = some res) (kt : a = some res → XG κ σ tgt lv st) (kf : b = some res → XG κ σ (pc + 3) lv st) : XG κ σ pc lv (.int y :: .int x :: st) :=
  fun H locs ls hW hS hl => lv_icmp_le X.1 X.2.1 hd ht (fun h => kt (by rwa [if_pos h] at hf) H locs ls hW hS hl) (fun h => kf (by rwa [if_neg h] at hf) H locs ls hW hS hl)
theorem x_tabIn (X : XC κ cc nL own ret F L) {dflt lo hi : Int} {offs : Array Int} {len : Nat} {x : Int32} {off : Int} {tgt : Nat} (hd : decode cc pc = .ok (.tableswitch dflt lo hi offs, len)) (h1 : ¬ x.toInt < lo) (h2 : ¬ hi < x.toInt) (ho : offs[(x.toInt - lo).toNat]? = some off) (ht : (pc : Int) + off = (tgt : Int)) (kk : XG κ σ tgt lv st) : XG κ σ pc lv (.int x :: st) :=
  fun H locs ls hW hS hl => lv_tableIn X.1 X.2.1 hd h1 h2 ho ht (kk H locs ls hW hS hl)
theorem x_tabOut (X : XC κ cc nL own ret F L) {dflt lo hi : Int} {offs : Array Int} {len : Nat} {x : Int32} {tgt : Nat} (hd : decode cc pc = .ok (.tableswitch dflt lo hi offs, len)) (h : x.toInt < lo ∨ hi < x.toInt) (ht : (pc : Int) + dflt = (tgt : Int)) (kk : XG κ σ tgt lv st) : XG κ σ pc lv (.int x :: st) :=
  fun H locs ls hW hS hl => lv_tableOut X.1 X.2.1 hd h ht (kk H locs ls hW hS hl)
theorem x_lookup (X : XC κ cc nL own ret F L) {dflt : Int} {ps : Array (Int × Int)} {len : Nat} {x : Int32} {off : Int} {tgt : Nat} (hd : decode cc pc = .ok (.lookupswitch dflt ps, len)) (hp : (ps.toList.zip (ps.toList.drop 1)).all (fun (a, next) => a.1 < next.1) = true) (ho : Op.lookupswitch.offset ps.toList dflt x.toInt = off) (ht : (pc : Int) + off = (tgt : Int)) (kk : XG κ σ tgt lv st) : XG κ σ pc lv (.int x :: st) :=
  fun H locs ls hW hS hl => lv_lookup X.1 X.2.1 hd hp ho ht (kk H locs ls hW hS hl)
theorem x_join {κ' : Type} {r : κ'} {b : κ' → Option α} {G : Prop} (P : κ' → Prop) (hf : oJ r b = some res) (h1 : P r) (h2 : ∀ k, P k → b k = some res → G) : G := h2 r h1 hf
-- fields
def FL (own : String) (index ci k : Nat) : Prop := ∃ (C : String) (T : u_T) (N : Nat), vwCl[ci]? = some (C, T, N) ∧ (∀ w ∈ u_ws C T N, w ∈ goodTbl) ∧ k < N ∧ Cond.fieldLink own index (T k).1 (T k).2.1 (T k).2.2.1 ∈ goodTbl
theorem x_getf (X : XC κ cc nL own ret F L) {index ci k i : Nat} (hF : FL own index ci k) {fs : List Value} {v : Value} (he : κ.HP σ i = .inr (ci, fs)) (hi : i < κ.HC σ) (hv : fs[k]? = some v) (hd : decode cc pc = .ok (.getfield index, 3)) (kk : XG κ σ (pc + 3) lv (v :: st)) : XG κ σ pc lv (.ref (κ.S0 + i) :: st) := by
  intro H locs ls hW hS hl
  obtain ⟨hx, hb, -, -, hown, hts, hK, -⟩ := X
  obtain ⟨C, T, N, hc, hin, hk, hlk⟩ := hF
  exact va_get hx hb hts hin hown hK.1 hW.2 i ((xw_get hi).trans (by rw [he])) hc k hk (hts _ hlk) (fun _ h => h) hv hd (kk H locs ls hW hS hl)
def FP (own : String) (index ci k : Nat) (ty : FieldType) (fin : Bool) : Prop := ∃ (C : String) (T : u_T) (N : Nat) (ty0 : Nat → FieldType), vwCl[ci]? = some (C, T, N) ∧ (∀ w ∈ u_ws C T N, w ∈ goodTbl) ∧ (∀ k, k < N → parseFieldDescriptor (T k).2.2.1 = some (ty0 k)) ∧ (∀ a, a < N → ∀ b, b < N → a ≠ b → (T a).2.1 ≠ (T b).2.1) ∧ k < N ∧ Cond.fieldLink own index (T k).1 (T k).2.1 (T k).2.2.1 ∈ goodTbl ∧ (T k).2.2.2 = fin ∧ (T k).1 = C ∧ parseFieldDescriptor (T k).2.2.1 = some ty
/-- behind a store into cell i -/
theorem XW.put {G : va_G} {S0 c i : Nat} {h : Nat → va_E} {v : va_E} {H H1 : Heap} (hW : XW G S0 c h H) (hi : i < c) (he : va_at G vwCl (S0 + i, v) H1) (hz : H1.size = H.size) (hq : ∀ q, q ≠ S0 + i → H1[q]? = H[q]?) : XW G S0 c (hset h i v) H1 :=
  ⟨hz.trans hW.1, by rw [← xw_set hi]; exact va_P.set hW.2 (xw_D (S0 := S0)) (xw_get hi) he hq⟩
theorem va_S.putA {S0 : Nat} {H0 H H1 : Heap} {locs : List Loc} {i k : Nat} (h : va_S (XA S0) H0 H locs) (z : H1.size = H.size) (oq : ∀ q : Nat, q ≠ S0 + i → H1[q]? = H[q]?) : va_S (XA S0) H0 H1 (locs ++ [⟨S0 + i, k⟩]) := va_S.put h z oq (Nat.le_add_right _ _)
theorem x_put0 (X : XC κ cc nL own ret F L) {index ci k i : Nat} {ty : FieldType} (hF : FP own index ci k ty false) {fs : List Value} {v : Value} (he : κ.HP σ i = .inr (ci, fs)) (hi : i < κ.HC σ) (hl0 : k < fs.length) (hn : narrow ty v = v) (hfit : fits ty v = true) (hd : decode cc pc = .ok (.putfield index, 3)) {σ1 : ST} (e1 : hset (κ.HP σ) i (.inr (ci, fs.set k v)) = κ.HP σ1) (e2 : κ.HC σ1 = κ.HC σ) (e3 : κ.K σ1 = κ.K σ) (e4 : κ.N σ1 = κ.N σ) (kk : XG κ σ1 (pc + 3) lv st) : XG κ σ pc lv (v :: .ref (κ.S0 + i) :: st) := by
  intro H locs ls hW hS hl
  obtain ⟨hx, hb, -, -, hown, hts, ⟨hK, -⟩, -⟩ := X
  obtain ⟨C, T, N, ty0, hc, hin, hty, hnm, hk, hlk, hfin, hdecl, hde⟩ := hF
  have hap := va_apart (own := own) hts hin ty0 hty hnm hK hc
  have hat := hW.2 i _ (xw_get hi)
  rw [he] at hat
  obtain ⟨r, h1, cell, q1, q2, q3, q4⟩ := hat
  have hr : r = (C, T, N) := Option.some.inj (h1.symm.trans hc)
  subst hr
  obtain ⟨hSl, hfc, kC, hkC, hkind⟩ := hK.1 ci _ hc
  obtain ⟨cf, kf, fi, f, hfi, hsl⟩ := hSl k hk
  have hlay := hts _ (hin _ (u_in_lay hk))
  unfold u_lay at hlay
  rw [if_neg (by rw [hfin]; decide)] at hlay
  have hst := (u_facts hfc hkC (u_lays hts hin hk) hfi).1
  have h6 := u_store hfc hkC hkind hlay hfi hde hn hfit
  refine W.putK hx hb (f := f) ⟨hown, hts _ hlk, ⟨_, _, _, hfi⟩, hst⟩ (by rw [q2]; exact h6) q1 q3 (by rw [hsl]; exact k2_hasslot (q4 k hk)) rfl rfl hd fun H1 g1 g2 g3 => ?_
  rw [hsl] at g1 ⊢
  have hW1 : XW κ.G κ.S0 (κ.HC σ) (hset (κ.HP σ) i (.inr (ci, fs.set k v))) H1 := hW.put hi ⟨_, hc, t_OB.to (V := updV (vp_V fs) k v) ⟨_, g1, q2, q3, t_set q4 hap hk v⟩ (fun j _ => vp_updV_set hl0 v j)⟩ g2 g3
  have hS1 := hS.putA (k := κ.G.2 ci k) g2 g3
  rw [e1, ← e2] at hW1
  have hg := kk H1 _ ls hW1 hS1 hl
  rw [e3, e4] at hg
  exact hg
theorem x_putF0 (X : XC κ cc nL own ret F L) {index ci k i : Nat} {ty : FieldType} (hF : FP own index ci k ty true) (hin2 : κ.meth.name = "<init>") (hownC : ∀ C T N, vwCl[ci]? = some (C, T, N) → C = own) {fs : List Value} {v : Value} (he : κ.HP σ i = .inr (ci, fs)) (hi : i < κ.HC σ) (hl0 : k < fs.length) (hn : narrow ty v = v) (hfit : fits ty v = true) (hd : decode cc pc = .ok (.putfield index, 3)) {σ1 : ST} (e1 : hset (κ.HP σ) i (.inr (ci, fs.set k v)) = κ.HP σ1) (e2 : κ.HC σ1 = κ.HC σ) (e3 : κ.K σ1 = κ.K σ) (e4 : κ.N σ1 = κ.N σ) (kk : XG κ σ1 (pc + 3) lv st) : XG κ σ pc lv (v :: .ref (κ.S0 + i) :: st) := by
  intro H locs ls hW hS hl
  obtain ⟨hx, hb, -, -, hown, hts, ⟨hK, -⟩, -⟩ := X
  obtain ⟨C, T, N, ty0, hc, hin, hty, hnm, hk, hlk, hfin, hdecl, hde⟩ := hF
  have hap := va_apart (own := own) hts hin ty0 hty hnm hK hc
  have hat := hW.2 i _ (xw_get hi)
  rw [he] at hat
  obtain ⟨r, h1, cell, q1, q2, q3, q4⟩ := hat
  have hr : r = (C, T, N) := Option.some.inj (h1.symm.trans hc)
  subst hr
  obtain ⟨hSl, hfc, kC, hkC, hkind⟩ := hK.1 ci _ hc
  obtain ⟨cf, kf, fi, f, hfi, hsl⟩ := hSl k hk
  have hlay := hts _ (hin _ (u_in_lay hk))
  unfold u_lay at hlay
  rw [if_pos hfin] at hlay
  have hst := (u_facts hfc hkC (u_lays hts hin hk) hfi).1
  have hcf : κ.m.cls = cf := by
    obtain ⟨_, _, c', _, _, _, -, -, hf', -, -, -, hown2, -⟩ := Cond.laysFinal_spec hlay
    have e1 : c' = cf := by have := hfi.symm.trans hf'; simp at this; exact this.1.symm
    rw [hdecl, hownC C T N hc] at hown2
    rw [← e1]; exact Option.some.inj (hown.symm.trans hown2)
  have h6 := u_fits hfc hkC hkind (Or.inr hlay) hfi hde hn hfit
  refine W.putFinK hx hb hown (hts _ hlk) hfi hst hcf hin2 (by rw [q2]; exact h6) q1 q3 (by rw [hsl]; exact k2_hasslot (q4 k hk)) rfl rfl hd fun H1 g1 g2 g3 => ?_
  rw [hsl] at g1 ⊢
  have hW1 : XW κ.G κ.S0 (κ.HC σ) (hset (κ.HP σ) i (.inr (ci, fs.set k v))) H1 := hW.put hi ⟨_, hc, t_OB.to (V := updV (vp_V fs) k v) ⟨_, g1, q2, q3, t_set q4 hap hk v⟩ (fun j _ => vp_updV_set hl0 v j)⟩ g2 g3
  have hS1 := hS.putA (k := κ.G.2 ci k) g2 g3
  rw [e1, ← e2] at hW1
  have hg := kk H1 _ ls hW1 hS1 hl
  rw [e3, e4] at hg
  exact hg
theorem x_iast0 (X : XC κ cc nL own ret F L) {i : Nat} {cA : ClassId} {n : Nat} {f : Nat → Int32} (t0 : Nat) (ht : κ.tys[t0]? = some (cA, .int)) (he : κ.HP σ i = .inl (cA, n, .inl f)) (hi : i < κ.HC σ) {j x : Int32} (hin : ¬ (j < 0 ∨ n ≤ j.toNatClampNeg)) (hd : decode cc pc = .ok (.iastore, 1)) {σ1 : ST} (e1 : hset (κ.HP σ) i (.inl (cA, n, .inl (upd f j.toNatClampNeg (x)))) = κ.HP σ1) (e2 : κ.HC σ1 = κ.HC σ) (e3 : κ.K σ1 = κ.K σ) (e4 : κ.N σ1 = κ.N σ) (kk : XG κ σ1 (pc + 1) lv st) : XG κ σ pc lv (.int x :: .int j :: .ref (κ.S0 + i) :: st) := by
  intro H locs ls hW hS hl
  obtain ⟨hx, hb, -, -, hown, hts, ⟨hK, -⟩, -⟩ := X
  have hat := hW.2 i _ (xw_get hi)
  rw [he] at hat
  refine W.iast hx hb hat ((hK.2 t0 _ ht).1 n (fun j => .int (f j))) (fun q => by cases q) (by show ¬ (j < 0 ∨ (arrV _ _ _).slots.size ≤ _); rw [arrV_size]; exact hin) rfl rfl hd fun H1 g1 g2 g3 => ?_
  have hW1 : XW κ.G κ.S0 (κ.HC σ) (hset (κ.HP σ) i (.inl (cA, n, .inl (upd f j.toNatClampNeg (x))))) H1 := by
    refine hW.put hi ?_ g2 g3
    show H1[κ.S0 + i]? = some (vp_cell _ _)
    rw [g1]
    rw [vp_cell_i, vp_cell_i, arrV_store]
    congr 2
    funext q
    by_cases hq : q = j.toNatClampNeg
    · subst hq
      simp [updV, upd, vp_nar]
      try rfl
    · simp [updV, upd, hq]
  have hS1 := hS.putA (k := j.toNatClampNeg) g2 g3
  rw [e1, ← e2] at hW1
  have hg := kk H1 _ ls hW1 hS1 hl
  rw [e3, e4] at hg
  exact hg
theorem x_zast0 (X : XC κ cc nL own ret F L) {i : Nat} {cA : ClassId} {n : Nat} {f : Nat → Int32} (t0 : Nat) (ht : κ.tys[t0]? = some (cA, .boolean)) (he : κ.HP σ i = .inl (cA, n, .inl f)) (hi : i < κ.HC σ) {j x : Int32} (hin : ¬ (j < 0 ∨ n ≤ j.toNatClampNeg)) (hd : decode cc pc = .ok (.bastore, 1)) {σ1 : ST} (e1 : hset (κ.HP σ) i (.inl (cA, n, .inl (upd f j.toNatClampNeg (vp_nar .boolean x)))) = κ.HP σ1) (e2 : κ.HC σ1 = κ.HC σ) (e3 : κ.K σ1 = κ.K σ) (e4 : κ.N σ1 = κ.N σ) (kk : XG κ σ1 (pc + 1) lv st) : XG κ σ pc lv (.int x :: .int j :: .ref (κ.S0 + i) :: st) := by
  intro H locs ls hW hS hl
  obtain ⟨hx, hb, -, -, hown, hts, ⟨hK, -⟩, -⟩ := X
  have hat := hW.2 i _ (xw_get hi)
  rw [he] at hat
  refine W.zast hx hb hat ((hK.2 t0 _ ht).1 n (fun j => .int (f j))) (fun q => by cases q) (by show ¬ (j < 0 ∨ (arrV _ _ _).slots.size ≤ _); rw [arrV_size]; exact hin) rfl rfl hd fun H1 g1 g2 g3 => ?_
  have hW1 : XW κ.G κ.S0 (κ.HC σ) (hset (κ.HP σ) i (.inl (cA, n, .inl (upd f j.toNatClampNeg (vp_nar .boolean x))))) H1 := by
    refine hW.put hi ?_ g2 g3
    show H1[κ.S0 + i]? = some (vp_cell _ _)
    rw [g1]
    rw [vp_cell_i, vp_cell_i, arrV_store]
    congr 2
    funext q
    by_cases hq : q = j.toNatClampNeg
    · subst hq
      simp [updV, upd, vp_nar]
      try rfl
    · simp [updV, upd, hq]
  have hS1 := hS.putA (k := j.toNatClampNeg) g2 g3
  rw [e1, ← e2] at hW1
  have hg := kk H1 _ ls hW1 hS1 hl
  rw [e3, e4] at hg
  exact hg
theorem x_cast0 (X : XC κ cc nL own ret F L) {i : Nat} {cA : ClassId} {n : Nat} {f : Nat → Int32} (t0 : Nat) (ht : κ.tys[t0]? = some (cA, .char)) (he : κ.HP σ i = .inl (cA, n, .inl f)) (hi : i < κ.HC σ) {j x : Int32} (hin : ¬ (j < 0 ∨ n ≤ j.toNatClampNeg)) (hd : decode cc pc = .ok (.castore, 1)) {σ1 : ST} (e1 : hset (κ.HP σ) i (.inl (cA, n, .inl (upd f j.toNatClampNeg (vp_nar .char x)))) = κ.HP σ1) (e2 : κ.HC σ1 = κ.HC σ) (e3 : κ.K σ1 = κ.K σ) (e4 : κ.N σ1 = κ.N σ) (kk : XG κ σ1 (pc + 1) lv st) : XG κ σ pc lv (.int x :: .int j :: .ref (κ.S0 + i) :: st) := by
  intro H locs ls hW hS hl
  obtain ⟨hx, hb, -, -, hown, hts, ⟨hK, -⟩, -⟩ := X
  have hat := hW.2 i _ (xw_get hi)
  rw [he] at hat
  refine W.cast hx hb hat ((hK.2 t0 _ ht).1 n (fun j => .int (f j))) (fun q => by cases q) (by show ¬ (j < 0 ∨ (arrV _ _ _).slots.size ≤ _); rw [arrV_size]; exact hin) rfl rfl hd fun H1 g1 g2 g3 => ?_
  have hW1 : XW κ.G κ.S0 (κ.HC σ) (hset (κ.HP σ) i (.inl (cA, n, .inl (upd f j.toNatClampNeg (vp_nar .char x))))) H1 := by
    refine hW.put hi ?_ g2 g3
    show H1[κ.S0 + i]? = some (vp_cell _ _)
    rw [g1]
    rw [vp_cell_i, vp_cell_i, arrV_store]
    congr 2
    funext q
    by_cases hq : q = j.toNatClampNeg
    · subst hq
      simp [updV, upd, vp_nar]
      try rfl
    · simp [updV, upd, hq]
  have hS1 := hS.putA (k := j.toNatClampNeg) g2 g3
  rw [e1, ← e2] at hW1
  have hg := kk H1 _ ls hW1 hS1 hl
  rw [e3, e4] at hg
  exact hg
theorem x_iald0 (X : XC κ cc nL own ret F L) {i : Nat} {cA : ClassId} {n : Nat} {f : Nat → Int32} (t0 : Nat) (ht : κ.tys[t0]? = some (cA, .int)) (he : κ.HP σ i = .inl (cA, n, .inl f)) (hi : i < κ.HC σ) {j : Int32} (hin : ¬ (j < 0 ∨ n ≤ j.toNatClampNeg)) (hd : decode cc pc = .ok (.iaload, 1)) (kk : XG κ σ (pc + 1) lv (.int (f j.toNatClampNeg) :: st)) : XG κ σ pc lv (.int j :: .ref (κ.S0 + i) :: st) := by
  intro H locs ls hW hS hl
  obtain ⟨hx, hb, -, -, hown, hts, ⟨hK, -⟩, -⟩ := X
  exact va_iald hx hb hK hW.2 i t0 ((xw_get hi).trans (by rw [he])) ht hin hd (kk H locs ls hW hS hl)
theorem x_zald0 (X : XC κ cc nL own ret F L) {i : Nat} {cA : ClassId} {n : Nat} {f : Nat → Int32} (t0 : Nat) (ht : κ.tys[t0]? = some (cA, .boolean)) (he : κ.HP σ i = .inl (cA, n, .inl f)) (hi : i < κ.HC σ) {j : Int32} (hin : ¬ (j < 0 ∨ n ≤ j.toNatClampNeg)) (hd : decode cc pc = .ok (.baload, 1)) (kk : XG κ σ (pc + 1) lv (.int (f j.toNatClampNeg) :: st)) : XG κ σ pc lv (.int j :: .ref (κ.S0 + i) :: st) := by
  intro H locs ls hW hS hl
  obtain ⟨hx, hb, -, -, hown, hts, ⟨hK, -⟩, -⟩ := X
  exact va_zald hx hb hK hW.2 i t0 ((xw_get hi).trans (by rw [he])) ht hin hd (kk H locs ls hW hS hl)
theorem x_cald0 (X : XC κ cc nL own ret F L) {i : Nat} {cA : ClassId} {n : Nat} {f : Nat → Int32} (t0 : Nat) (ht : κ.tys[t0]? = some (cA, .char)) (he : κ.HP σ i = .inl (cA, n, .inl f)) (hi : i < κ.HC σ) {j : Int32} (hin : ¬ (j < 0 ∨ n ≤ j.toNatClampNeg)) (hd : decode cc pc = .ok (.caload, 1)) (kk : XG κ σ (pc + 1) lv (.int (f j.toNatClampNeg) :: st)) : XG κ σ pc lv (.int j :: .ref (κ.S0 + i) :: st) := by
  intro H locs ls hW hS hl
  obtain ⟨hx, hb, -, -, hown, hts, ⟨hK, -⟩, -⟩ := X
  exact va_cald hx hb hK hW.2 i t0 ((xw_get hi).trans (by rw [he])) ht hin hd (kk H locs ls hW hS hl)
end ROWS
end
section
/-! THE LAYER, second part: rows that carry the shallow word along; calls; a method's entry and end -/
section ROWS2
variable {ST α : Type} {κ : XCtx ST} {cc : ByteArray} {nL : Nat} {own : String} {ret : Option FieldType} {F L pc : Nat} {σ : ST} {lv lv' : List (Nat × Value)} {st : List Value} {res : α}
/-- a body that makes no cell -/
def XZ (κ : XCtx ST) : Prop := (∀ σ σ' : ST, κ.HC σ = κ.HC σ') ∧ (∀ σ σ' : ST, κ.K σ = κ.K σ') ∧ (∀ σ σ' : ST, κ.N σ = κ.N σ')
theorem oA_some {n : Nat} {f : Nat → Int32} {j : Int32} {k : Int32 → Option α} (hf : oA n f j k = some res) : ¬ (j < 0 ∨ n ≤ j.toNatClampNeg) ∧ k (f j.toNatClampNeg) = some res := by
  unfold oA at hf
  split at hf
  next h => exact ⟨h, hf⟩
  next => cases hf
theorem oS_some {n : Nat} {f : Nat → Int32} {j x : Int32} {w : (Nat → Int32) → ST} {k : ST → Option α} (hf : oS n f j x w k = some res) : ¬ (j < 0 ∨ n ≤ j.toNatClampNeg) ∧ k (w (upd f j.toNatClampNeg x)) = some res := by
  unfold oS at hf
  split at hf
  next h => exact ⟨h, hf⟩
  next => cases hf
theorem x_iald (X : XC κ cc nL own ret F L) {i : Nat} {cA : ClassId} {n : Nat} {f : Nat → Int32} (t0 : Nat) (ht : κ.tys[t0]? = some (cA, .int)) (he : κ.HP σ i = .inl (cA, n, .inl f)) (hi : i < κ.HC σ) {j : Int32} {k : Int32 → Option α} (hd : decode cc pc = .ok (.iaload, 1)) (hf : oA n f j k = some res) (kk : ∀ x, k x = some res → XG κ σ (pc + 1) lv (.int x :: st)) : XG κ σ pc lv (.int j :: .ref (κ.S0 + i) :: st) :=
  x_iald0 X t0 ht he hi (oA_some hf).1 hd (kk _ (oA_some hf).2)
theorem x_zald (X : XC κ cc nL own ret F L) {i : Nat} {cA : ClassId} {n : Nat} {f : Nat → Int32} (t0 : Nat) (ht : κ.tys[t0]? = some (cA, .boolean)) (he : κ.HP σ i = .inl (cA, n, .inl f)) (hi : i < κ.HC σ) {j : Int32} {k : Int32 → Option α} (hd : decode cc pc = .ok (.baload, 1)) (hf : oA n f j k = some res) (kk : ∀ x, k x = some res → XG κ σ (pc + 1) lv (.int x :: st)) : XG κ σ pc lv (.int j :: .ref (κ.S0 + i) :: st) :=
  x_zald0 X t0 ht he hi (oA_some hf).1 hd (kk _ (oA_some hf).2)
theorem x_cald (X : XC κ cc nL own ret F L) {i : Nat} {cA : ClassId} {n : Nat} {f : Nat → Int32} (t0 : Nat) (ht : κ.tys[t0]? = some (cA, .char)) (he : κ.HP σ i = .inl (cA, n, .inl f)) (hi : i < κ.HC σ) {j : Int32} {k : Int32 → Option α} (hd : decode cc pc = .ok (.caload, 1)) (hf : oA n f j k = some res) (kk : ∀ x, k x = some res → XG κ σ (pc + 1) lv (.int x :: st)) : XG κ σ pc lv (.int j :: .ref (κ.S0 + i) :: st) :=
  x_cald0 X t0 ht he hi (oA_some hf).1 hd (kk _ (oA_some hf).2)
theorem x_iast (X : XC κ cc nL own ret F L) (Z : XZ κ) {i : Nat} {cA : ClassId} {n : Nat} {f : Nat → Int32} {w : (Nat → Int32) → ST} (t0 : Nat) (ht : κ.tys[t0]? = some (cA, .int)) (he : κ.HP σ i = .inl (cA, n, .inl f)) (hi : i < κ.HC σ) (e1 : ∀ f', hset (κ.HP σ) i (.inl (cA, n, .inl f')) = κ.HP (w f')) {j x : Int32} {k : ST → Option α} (hd : decode cc pc = .ok (.iastore, 1)) (hf : oS n f j (x) w k = some res) (kk : ∀ σ1, k σ1 = some res → XG κ σ1 (pc + 1) lv st) : XG κ σ pc lv (.int x :: .int j :: .ref (κ.S0 + i) :: st) :=
  x_iast0 X t0 ht he hi (oS_some hf).1 hd (e1 _) (Z.1 _ _) (Z.2.1 _ _) (Z.2.2 _ _) (kk _ (oS_some hf).2)
theorem x_zast (X : XC κ cc nL own ret F L) (Z : XZ κ) {i : Nat} {cA : ClassId} {n : Nat} {f : Nat → Int32} {w : (Nat → Int32) → ST} (t0 : Nat) (ht : κ.tys[t0]? = some (cA, .boolean)) (he : κ.HP σ i = .inl (cA, n, .inl f)) (hi : i < κ.HC σ) (e1 : ∀ f', hset (κ.HP σ) i (.inl (cA, n, .inl f')) = κ.HP (w f')) {j x : Int32} {k : ST → Option α} (hd : decode cc pc = .ok (.bastore, 1)) (hf : oS n f j (vp_nar .boolean x) w k = some res) (kk : ∀ σ1, k σ1 = some res → XG κ σ1 (pc + 1) lv st) : XG κ σ pc lv (.int x :: .int j :: .ref (κ.S0 + i) :: st) :=
  x_zast0 X t0 ht he hi (oS_some hf).1 hd (e1 _) (Z.1 _ _) (Z.2.1 _ _) (Z.2.2 _ _) (kk _ (oS_some hf).2)
theorem x_cast (X : XC κ cc nL own ret F L) (Z : XZ κ) {i : Nat} {cA : ClassId} {n : Nat} {f : Nat → Int32} {w : (Nat → Int32) → ST} (t0 : Nat) (ht : κ.tys[t0]? = some (cA, .char)) (he : κ.HP σ i = .inl (cA, n, .inl f)) (hi : i < κ.HC σ) (e1 : ∀ f', hset (κ.HP σ) i (.inl (cA, n, .inl f')) = κ.HP (w f')) {j x : Int32} {k : ST → Option α} (hd : decode cc pc = .ok (.castore, 1)) (hf : oS n f j (vp_nar .char x) w k = some res) (kk : ∀ σ1, k σ1 = some res → XG κ σ1 (pc + 1) lv st) : XG κ σ pc lv (.int x :: .int j :: .ref (κ.S0 + i) :: st) :=
  x_cast0 X t0 ht he hi (oS_some hf).1 hd (e1 _) (Z.1 _ _) (Z.2.1 _ _) (Z.2.2 _ _) (kk _ (oS_some hf).2)
theorem x_putI (X : XC κ cc nL own ret F L) (Z : XZ κ) {index ci k i : Nat} (hF : FP own index ci k .int false) {fs : List Value} (he : κ.HP σ i = .inr (ci, fs)) (hi : i < κ.HC σ) (hl0 : k < fs.length) {w : Int32 → ST} (e1 : ∀ v, hset (κ.HP σ) i (.inr (ci, fs.set k (.int v))) = κ.HP (w v)) {v : Int32} {kt : ST → Option α} (hd : decode cc pc = .ok (.putfield index, 3)) (hf : oN v w kt = some res) (kk : ∀ σ1, kt σ1 = some res → XG κ σ1 (pc + 3) lv st) : XG κ σ pc lv (.int v :: .ref (κ.S0 + i) :: st) :=
  x_put0 X hF he hi hl0 rfl rfl hd (e1 v) (Z.1 _ _) (Z.2.1 _ _) (Z.2.2 _ _) (kk _ hf)
theorem x_putZ (X : XC κ cc nL own ret F L) (Z : XZ κ) {index ci k i : Nat} (hF : FP own index ci k .boolean false) {fs : List Value} (he : κ.HP σ i = .inr (ci, fs)) (hi : i < κ.HC σ) (hl0 : k < fs.length) {w : Int32 → ST} (e1 : ∀ v, hset (κ.HP σ) i (.inr (ci, fs.set k (.int v))) = κ.HP (w v)) {v : Int32} {kt : ST → Option α} (hd : decode cc pc = .ok (.putfield index, 3)) (hf : oZ v w kt = some res) (kk : ∀ σ1, kt σ1 = some res → XG κ σ1 (pc + 3) lv st) : XG κ σ pc lv (.int v :: .ref (κ.S0 + i) :: st) := by
  unfold oZ at hf
  split at hf
  next h =>
    refine x_put0 X hF he hi hl0 ?_ ?_ hd (e1 v) (Z.1 _ _) (Z.2.1 _ _) (Z.2.2 _ _) (kk _ hf)
    · rcases h with rfl | rfl <;> rfl
    · rcases h with rfl | rfl <;> rfl
  next => cases hf
-- calls
def XCall (κ : XCtx ST) (σ : ST) (pc : Nat) (stk rest : List Value) (Qa : State → Outcome → State → Prop) (mc ms : Nat) : Prop :=
  ∀ (H : Heap) (locs : List Loc) (ls : Array Slot), XW κ.G κ.S0 (κ.HC σ) (κ.HP σ) H → ls.size = κ.nL → va_Run κ.p κ.l κ.e κ.R κ.s κ.m κ.args κ.below κ.meth κ.c H locs (κ.K σ) (κ.N σ) mc ms (F0 κ.m pc ls stk) rest Qa (XA κ.S0)
theorem x_callk {stk rest : List Value} {G : va_G} {av : Array Value} {c2 : Nat} {rv : Option Value} {h2 : Nat → va_E} {mc ms : Nat} (hc : XCall κ σ pc stk rest (XQ κ.G κ.S0 c2 rv h2 av) mc ms) (X : XC κ cc nL own ret F L) {σ1 : ST} (e1 : h2 = κ.HP σ1) (e2 : c2 = κ.HC σ1) (hle : κ.HC σ ≤ κ.HC σ1) (e3 : κ.K σ + mc = κ.K σ1) (e4 : κ.N σ + ms = κ.N σ1) (kk : XG κ σ1 (pc + 3) lv (rv.toList ++ rest)) : XG κ σ pc lv stk := by
  subst e1; subst e2
  intro H locs ls hW hS hl T hT XT
  obtain ⟨v, st₀, t, T', L', h0, X', hL, g1, g2, ⟨hv, hW1, hk⟩, stp⟩ := hc H locs ls hW hl.1 T hT XT
  cases hv
  rw [e3, e4] at X'
  rw [h0] at hk
  have hS0 : κ.S0 ≤ κ.s.heap.size := X.2.2.2.2.2.2.2.1
  have hS1 : va_S (XA κ.S0) κ.s.heap T'.heap (locs ++ L') := by
    refine ⟨?_, fun q h1 h2 => ?_, fun q hq => ?_⟩
    · rw [g1, hW1.1]
      have := hS.1
      rw [hW.1] at this
      omega
    · rw [g1, hk q (Nat.lt_of_not_le h2)]
      exact hS.2.1 q h1 h2
    · rcases List.mem_append.mp hq with h | h
      · exact hS.2.2 q h
      · exact hL q h
  rw [← g1] at hW1
  obtain ⟨t2, a1, b1⟩ := kk T'.heap _ ls hW1 hS1 hl T' rfl X'
  exact ⟨t2, stp t2 a1, b1⟩
theorem x_blind {G : va_G} {tys : List (ClassId × FieldType)} {S0 c : Nat} {h1 : Nat → va_E} {av : List Value} : FrameBlind (va_Pc av (fun U => XW G S0 c h1 U.heap ∧ XK G tys U)) := fun _ _ _ _ q => ⟨q.1, q.2.1, XK.calling q.2.2⟩
/-- what the tables say of a method that is called -/
def CM (y : MethodName) (n : Nat) (bytes : ByteArray) (maxL : Nat) (rt : Option FieldType) : Prop := Cond.initialized y.cls ∈ goodTbl ∧ Cond.code y bytes maxL rt ∈ goodTbl ∧ (y.cls ≠ "java/lang/invoke/MethodHandle" ∧ y.cls ≠ "java/lang/invoke/VarHandle" ∧ (parseMethodDescriptor y.desc).map (fun d => d.parameters.length) = some n)
theorem x_cb (X : XC κ cc nL own ret F L) {index n maxL F' L' mc ms : Nat} {y : MethodName} {bytes : ByteArray} {rt : Option FieldType} (hm : CM y n bytes maxL rt) (hl : Cond.methodLink own index y ∈ goodTbl) (hR : F' + 1 ≤ F ∧ 8 + (maxL + 11) + L' ≤ L) : CallB κ.R κ.s κ.args own index y bytes maxL rt (.code y bytes maxL rt :: goodTbl) { frames := F', cells := mc, slots := ms, locals := L' } mc ms n := by
  obtain ⟨-, -, -, -, -, hts, -, -, -, -, hF, hL⟩ := X
  exact callB_of n hts (goodIn_cons hm.2.1) rfl rfl rfl (hts _ hm.1) (hts _ hl) hm.2.2 ⟨Nat.le_trans hR.1 hF, Nat.le_trans hR.2 hL⟩
theorem x_cV (X : XC κ cc nL own ret F L) {index n ci maxL F' L' mc ms i c2 : Nat} {y : MethodName} {bytes : ByteArray} {rt : Option FieldType} {T : u_T} {N : Nat} {fs As stk rest : List Value} {rv : Option Value} {h2 : Nat → va_E}
    (hm : CM y n bytes maxL rt) (hlk : Cond.methodLink own index y ∈ goodTbl ∧ Cond.instanceMethod y ∈ goodTbl ∧ Cond.selects y.cls y y ∈ goodTbl) (hci : vwCl[ci]? = some (y.cls, T, N)) (hR : F' + 1 ≤ F ∧ 8 + (maxL + 11) + L' ≤ L) (he : κ.HP σ i = .inr (ci, fs)) (hi : i < κ.HC σ)
    (hM : XMet κ.l κ.G κ.tys κ.S0 (κ.HC σ) y bytes maxL rt F' L' (.ref (κ.S0 + i) :: As) (κ.HP σ) c2 rv h2 mc ms) (hn : As.length = n) (hst : stk = As.reverse ++ .ref (κ.S0 + i) :: rest) (hcat : (rest.map fun v => v.category).sum ≤ 8) (hf : κ.K σ + mc ≤ κ.R.cells ∧ κ.N σ + ms ≤ κ.R.slots) (hd : decode cc pc = .ok (.invokevirtual index, 3)) :
    XCall κ σ pc stk rest (XQ κ.G κ.S0 c2 rv h2 (Value.ref (κ.S0 + i) :: As).toArray) mc ms := by
  intro H locs ls hW hls
  have hcb := x_cb (mc := mc) (ms := ms) X hm hlk.1 hR
  obtain ⟨hx, hb, hml, hnl, hown, hts, hK, -⟩ := X
  refine va_runV (C := y.cls) ⟨hx, hb, hml, hown, hts⟩ hM ⟨hcb, hts _ hlk.2.1, hts _ hlk.2.2⟩ ⟨x_blind, ?_, fun U hU hWm => ⟨rfl, by rw [hU]; exact hW, hK.moved hWm⟩⟩ rfl hn (hls.trans hnl) hst (lv_room hcat) hd hf
  exact va_recv hK.1 hW.2 hci ((xw_get hi).trans (by rw [he]))
theorem x_cS (X : XC κ cc nL own ret F L) {index n maxL F' L' mc ms c2 : Nat} {y : MethodName} {bytes : ByteArray} {rt : Option FieldType} {As stk rest : List Value} {rv : Option Value} {h2 : Nat → va_E}
    (hm : CM y n bytes maxL rt) (hlk : Cond.methodLink own index y ∈ goodTbl ∧ Cond.static y ∈ goodTbl) (hR : F' + 1 ≤ F ∧ 8 + (maxL + 11) + L' ≤ L)
    (hM : XMet κ.l κ.G κ.tys κ.S0 (κ.HC σ) y bytes maxL rt F' L' As (κ.HP σ) c2 rv h2 mc ms) (hn : As.length = n) (hst : stk = As.reverse ++ rest) (hcat : (rest.map fun v => v.category).sum ≤ 8) (hf : κ.K σ + mc ≤ κ.R.cells ∧ κ.N σ + ms ≤ κ.R.slots) (hd : decode cc pc = .ok (.invokestatic index, 3)) :
    XCall κ σ pc stk rest (XQ κ.G κ.S0 c2 rv h2 As.toArray) mc ms := by
  intro H locs ls hW hls
  have hcb := x_cb (mc := mc) (ms := ms) X hm hlk.1 hR
  obtain ⟨hx, hb, hml, hnl, hown, hts, hK, -⟩ := X
  exact va_runS ⟨hx, hb, hml, hown, hts⟩ hM ⟨hcb, hts _ hlk.2⟩ ⟨x_blind, fun U hU hWm => ⟨rfl, by rw [hU]; exact hW, hK.moved hWm⟩⟩ rfl hn (hls.trans hnl) hst (lv_room hcat) hd hf
theorem x_cn (X : XC κ cc nL own ret F L) {index n maxL F' L' mc ms : Nat} {y : MethodName} {bytes : ByteArray} {rt : Option FieldType} (hm : CM y n bytes maxL rt) (hl : (own, index, y) ∈ nestL) (hR : F' + 1 ≤ F ∧ 8 + (maxL + 11) + L' ≤ L) : va_CN κ.R κ.s κ.args own index y "AppendZones" bytes maxL rt (.code y bytes maxL rt :: goodTbl) { frames := F', cells := mc, slots := ms, locals := L' } mc ms n := by
  obtain ⟨-, -, -, -, -, hts, hK, -, -, -, hF, hL⟩ := X
  exact va_cnB n hts (goodIn_cons hm.2.1) rfl rfl rfl (hK.2.1 _ hl) (hts _ hm.1) hm.2.2 ⟨Nat.le_trans hR.1 hF, Nat.le_trans hR.2 hL⟩
theorem x_cSN (X : XC κ cc nL own ret F L) {index n maxL F' L' mc ms c2 : Nat} {y : MethodName} {bytes : ByteArray} {rt : Option FieldType} {As stk rest : List Value} {rv : Option Value} {h2 : Nat → va_E}
    (hm : CM y n bytes maxL rt) (hlk : (own, index, y) ∈ nestL ∧ Cond.static y ∈ goodTbl) (hR : F' + 1 ≤ F ∧ 8 + (maxL + 11) + L' ≤ L)
    (hM : XMet κ.l κ.G κ.tys κ.S0 (κ.HC σ) y bytes maxL rt F' L' As (κ.HP σ) c2 rv h2 mc ms) (hn : As.length = n) (hst : stk = As.reverse ++ rest) (hcat : (rest.map fun v => v.category).sum ≤ 8) (hf : κ.K σ + mc ≤ κ.R.cells ∧ κ.N σ + ms ≤ κ.R.slots) (hd : decode cc pc = .ok (.invokestatic index, 3)) :
    XCall κ σ pc stk rest (XQ κ.G κ.S0 c2 rv h2 As.toArray) mc ms := by
  intro H locs ls hW hls
  have hcb := x_cn (mc := mc) (ms := ms) X hm hlk.1 hR
  obtain ⟨hx, hb, hml, hnl, hown, hts, hK, -⟩ := X
  exact va_runSN ⟨hx, hb, hml, hown, hts⟩ hM ⟨hcb, hts _ hlk.2, trivial⟩ ⟨x_blind, fun U hU hWm => ⟨rfl, by rw [hU]; exact hW, hK.moved hWm⟩⟩ rfl hn (hls.trans hnl) hst (lv_room hcat) hd hf
theorem x_cI (X : XC κ cc nL own ret F L) {index n maxL F' L' mc ms c2 i : Nat} {y : MethodName} {bytes : ByteArray} {As stk rest : List Value} {h2 : Nat → va_E} {rv : Option Value}
    (hm : CM y n bytes maxL none) (hlk : Cond.methodLink own index y ∈ goodTbl ∧ y.name = "<init>" ∧ Cond.instanceMethod y ∈ goodTbl) (hR : F' + 1 ≤ F ∧ 8 + (maxL + 11) + L' ≤ L)
    (hM : XMet κ.l κ.G κ.tys κ.S0 (κ.HC σ) y bytes maxL none F' L' (.ref i :: As) (κ.HP σ) c2 rv h2 mc ms) (hn : As.length = n) (hst : stk = As.reverse ++ .ref i :: rest) (hcat : (rest.map fun v => v.category).sum ≤ 8) (hf : κ.K σ + mc ≤ κ.R.cells ∧ κ.N σ + ms ≤ κ.R.slots) (hd : decode cc pc = .ok (.invokespecial index, 3)) :
    XCall κ σ pc stk rest (XQ κ.G κ.S0 c2 rv h2 (Value.ref i :: As).toArray) mc ms := by
  intro H locs ls hW hls
  have hcb := x_cb (mc := mc) (ms := ms) X hm hlk.1 hR
  obtain ⟨hx, hb, hml, hnl, hown, hts, hK, -⟩ := X
  exact va_runI ⟨hx, hb, hml, hown, hts⟩ hM ⟨hcb, hlk.2.1, hts _ hlk.2.2⟩ ⟨x_blind, fun U hU hWm => ⟨rfl, by rw [hU]; exact hW, hK.moved hWm⟩⟩ rfl hn (hls.trans hnl) hst (lv_room hcat) hd hf
theorem x_cIN (X : XC κ cc nL own ret F L) {index n maxL F' L' mc ms c2 i : Nat} {y : MethodName} {bytes : ByteArray} {As stk rest : List Value} {h2 : Nat → va_E} {rv : Option Value}
    (hm : CM y n bytes maxL none) (hlk : (own, index, y) ∈ nestL ∧ y.name = "<init>" ∧ Cond.instanceMethod y ∈ goodTbl) (hR : F' + 1 ≤ F ∧ 8 + (maxL + 11) + L' ≤ L)
    (hM : XMet κ.l κ.G κ.tys κ.S0 (κ.HC σ) y bytes maxL none F' L' (.ref i :: As) (κ.HP σ) c2 rv h2 mc ms) (hn : As.length = n) (hst : stk = As.reverse ++ .ref i :: rest) (hcat : (rest.map fun v => v.category).sum ≤ 8) (hf : κ.K σ + mc ≤ κ.R.cells ∧ κ.N σ + ms ≤ κ.R.slots) (hd : decode cc pc = .ok (.invokespecial index, 3)) :
    XCall κ σ pc stk rest (XQ κ.G κ.S0 c2 rv h2 (Value.ref i :: As).toArray) mc ms := by
  intro H locs ls hW hls
  have hcb := x_cn (mc := mc) (ms := ms) X hm hlk.1 hR
  obtain ⟨hx, hb, hml, hnl, hown, hts, hK, -⟩ := X
  exact va_runIN ⟨hx, hb, hml, hown, hts⟩ hM ⟨hcb, hlk.2.1, hts _ hlk.2.2⟩ ⟨x_blind, fun U hU hWm => ⟨rfl, by rw [hU]; exact hW, hK.moved hWm⟩⟩ rfl hn (hls.trans hnl) hst (lv_room hcat) hd hf
-- a call's answer goes on in the shallow word
theorem x_callR (X : XC κ cc nL own ret F L) {av : Array Value} {x : Option Int32} {k : Int32 → Option α} {stk rest : List Value} (hf : oR x k = some res) (hc : ∀ r, x = some r → XCall κ σ pc stk rest (XQ κ.G κ.S0 (κ.HC σ) (some (.int r)) (κ.HP σ) av) 0 0) (kk : ∀ r, k r = some res → XG κ σ (pc + 3) lv (.int r :: rest)) : XG κ σ pc lv stk := by
  cases x with
  | none => cases hf
  | some r => exact x_callk (G := κ.G) (hc r rfl) X rfl rfl (Nat.le_refl _) rfl rfl (kk r hf)
theorem x_callW (X : XC κ cc nL own ret F L) (Z : XZ κ) {ST' : Type} {av : Array Value} {x : Option (Int32 × ST')} {w : ST' → ST} {k : Int32 → ST → Option α} {stk rest : List Value} (hf : oW x w k = some res) (hc : ∀ r t, x = some (r, t) → XCall κ σ pc stk rest (XQ κ.G κ.S0 (κ.HC σ) (some (.int r)) (κ.HP (w t)) av) 0 0) (kk : ∀ r σ1, k r σ1 = some res → XG κ σ1 (pc + 3) lv (.int r :: rest)) : XG κ σ pc lv stk := by
  cases x with
  | none => cases hf
  | some r => exact x_callk (G := κ.G) (hc r.1 r.2 rfl) X rfl (Z.1 _ _) (Nat.le_of_eq (Z.1 _ _)) (Z.2.1 _ _) (Z.2.2 _ _) (kk r.1 _ hf)
theorem x_callV (X : XC κ cc nL own ret F L) (Z : XZ κ) {ST' : Type} {av : Array Value} {x : Option ST'} {w : ST' → ST} {k : ST → Option α} {stk rest : List Value} (hf : oV x w k = some res) (hc : ∀ t, x = some t → XCall κ σ pc stk rest (XQ κ.G κ.S0 (κ.HC σ) none (κ.HP (w t)) av) 0 0) (kk : ∀ σ1, k σ1 = some res → XG κ σ1 (pc + 3) lv rest) : XG κ σ pc lv stk := by
  cases x with
  | none => cases hf
  | some r => exact x_callk (G := κ.G) (hc r rfl) X rfl (Z.1 _ _) (Nat.le_of_eq (Z.1 _ _)) (Z.2.1 _ _) (Z.2.2 _ _) (kk _ hf)
-- ends
theorem x_qf {c2 : Nat} {rv : Option Value} {h2 : Nat → va_E} (X : XC κ cc nL own ret F L) {H : Heap} {locs : List Loc} (hW : XW κ.G κ.S0 c2 h2 H) (hS : va_S (XA κ.S0) κ.s.heap H locs) : ∀ t : State, t.heap = H → κ.s.WarmedH t.vm → XQ κ.G κ.S0 c2 rv h2 κ.args κ.s (.returned rv) t := by
  intro t ht _
  refine ⟨rfl, by rw [ht]; exact hW, fun q hq => ?_⟩
  rw [ht]
  exact hS.2.1 q (Nat.lt_of_lt_of_le hq X.2.2.2.2.2.2.2.1) (Nat.not_le.mpr hq)
theorem x_iret0 {c2 mc ms : Nat} {h2 : Nat → va_E} {v : Int32} {ty : FieldType} (X : XC κ cc nL own (some ty) F L) (hQ : XR κ c2 (some (.int v)) h2 mc ms) (hn : narrow ty (.int v) = .int v) (e1 : κ.HP σ = h2) (e2 : κ.HC σ = c2) (hk : κ.K σ ≤ mc ∧ κ.N σ ≤ ms) (hd : decode cc pc = .ok (.ireturn, 1)) : XG κ σ pc lv [.int v] := by
  intro H locs ls hW hS hl
  rw [show κ.Q = _ from hQ]
  rw [e1, e2] at hW
  exact W.widen hk.1 hk.2 (W.zret X.1 X.2.1 X.2.2.2.2.2.2.2.2.2.1 hn (x_qf X hW hS) (fun q hq => hS.2.2 q hq) hd X.2.2.2.2.2.2.2.2.1)
theorem x_vret0 {c2 mc ms : Nat} {h2 : Nat → va_E} (X : XC κ cc nL own none F L) (hQ : XR κ c2 none h2 mc ms) (e1 : κ.HP σ = h2) (e2 : κ.HC σ = c2) (hk : κ.K σ ≤ mc ∧ κ.N σ ≤ ms) (hd : decode cc pc = .ok (.return_, 1)) : XG κ σ pc lv [] := by
  intro H locs ls hW hS hl
  rw [show κ.Q = _ from hQ]
  rw [e1, e2] at hW
  exact W.widen hk.1 hk.2 (W.vret X.1 X.2.1 X.2.2.2.2.2.2.2.2.2.1 (x_qf X hW hS) (fun q hq => hS.2.2 q hq) hd X.2.2.2.2.2.2.2.2.1)
/-- what a body without new cells has at its end: the answer and the state -/
def XE (κ : XCtx ST) : Prop := XZ κ ∧ ∀ σ, κ.K σ = 0 ∧ κ.N σ = 0
theorem x_iretR {r v : Int32} {σ0 : ST} (X : XC κ cc nL own (some .int) F L) (E : XE κ) (hQ : XR κ (κ.HC σ0) (some (.int r)) (κ.HP σ) 0 0) (hf : some v = some r) (hd : decode cc pc = .ok (.ireturn, 1)) : XG κ σ pc lv [.int v] := by
  cases hf
  exact x_iret0 X hQ rfl rfl (E.1.1 _ _) ⟨Nat.le_of_eq (E.2 _).1, Nat.le_of_eq (E.2 _).2⟩ hd
theorem x_zretR {r v : Int32} {σ0 : ST} (X : XC κ cc nL own (some .boolean) F L) (E : XE κ) (hQ : XR κ (κ.HC σ0) (some (.int r)) (κ.HP σ) 0 0) (hf : oB v = some r) (hd : decode cc pc = .ok (.ireturn, 1)) : XG κ σ pc lv [.int v] := by
  unfold oB at hf
  split at hf
  next h =>
    cases hf
    refine x_iret0 X hQ ?_ rfl (E.1.1 _ _) ⟨Nat.le_of_eq (E.2 _).1, Nat.le_of_eq (E.2 _).2⟩ hd
    rcases h with rfl | rfl <;> rfl
  next => cases hf
theorem x_cretR {r v : Int32} {σ0 : ST} (X : XC κ cc nL own (some .char) F L) (E : XE κ) (hQ : XR κ (κ.HC σ0) (some (.int r)) (κ.HP σ) 0 0) (hf : oC v = some r) (hd : decode cc pc = .ok (.ireturn, 1)) : XG κ σ pc lv [.int v] := by
  unfold oC at hf
  split at hf
  next h =>
    cases hf
    refine x_iret0 X hQ ?_ rfl (E.1.1 _ _) ⟨Nat.le_of_eq (E.2 _).1, Nat.le_of_eq (E.2 _).2⟩ hd
    exact congrArg Value.int h
  next => cases hf
theorem x_iretW {r v : Int32} {σ0 σ1 : ST} (X : XC κ cc nL own (some .int) F L) (E : XE κ) (hQ : XR κ (κ.HC σ0) (some (.int r)) (κ.HP σ1) 0 0) (hf : some (v, σ) = some (r, σ1)) (hd : decode cc pc = .ok (.ireturn, 1)) : XG κ σ pc lv [.int v] := by
  cases hf
  exact x_iret0 X hQ rfl rfl (E.1.1 _ _) ⟨Nat.le_of_eq (E.2 _).1, Nat.le_of_eq (E.2 _).2⟩ hd
theorem x_zretW {r v : Int32} {σ0 σ1 : ST} (X : XC κ cc nL own (some .boolean) F L) (E : XE κ) (hQ : XR κ (κ.HC σ0) (some (.int r)) (κ.HP σ1) 0 0) (hf : (oB v).map (fun x => (x, σ)) = some (r, σ1)) (hd : decode cc pc = .ok (.ireturn, 1)) : XG κ σ pc lv [.int v] := by
  unfold oB at hf
  split at hf
  next h =>
    cases hf
    refine x_iret0 X hQ ?_ rfl (E.1.1 _ _) ⟨Nat.le_of_eq (E.2 _).1, Nat.le_of_eq (E.2 _).2⟩ hd
    rcases h with rfl | rfl <;> rfl
  next => cases hf
theorem x_vretV {σ0 σ1 : ST} (X : XC κ cc nL own none F L) (E : XE κ) (hQ : XR κ (κ.HC σ0) none (κ.HP σ1) 0 0) (hf : some σ = some σ1) (hd : decode cc pc = .ok (.return_, 1)) : XG κ σ pc lv [] := by
  cases hf
  exact x_vret0 X hQ rfl (E.1.1 _ _) ⟨Nat.le_of_eq (E.2 _).1, Nat.le_of_eq (E.2 _).2⟩ hd
end ROWS2
/-- a method's contract out of its body -/
theorem XMet.of {ST : Type} (HC : ST → Nat) (HP : ST → Nat → va_E) (K N : ST → Nat) {l : Launch} {G : va_G} {tys : List (ClassId × FieldType)} {S0 c2 nL F L mc ms : Nat} {y : MethodName} {bytes : ByteArray} {rt : Option FieldType} {av : List Value} {rv : Option Value} {h2 : Nat → va_E} (σ0 : ST) (hy : plainName y.cls = true) (hk : K σ0 = 0 ∧ N σ0 = 0) (hlen : (lg_sl av).length ≤ nL)
    (body : ∀ κ : XCtx ST, κ.HC = HC → κ.HP = HP → κ.K = K → κ.N = N → κ.l = l → κ.G = G → κ.tys = tys → κ.S0 = S0 → κ.R.cells = mc → κ.R.slots = ms → κ.meth.name = y.name → XC κ bytes nL y.cls rt F L → XR κ c2 rv h2 mc ms → XG κ σ0 0 (lv_args 0 av) []) :
    XMet l G tys S0 (HC σ0) y bytes nL rt F L av (HP σ0) c2 rv h2 mc ms := by
  refine Met.ofW (cc := bytes) (maxL := nL) (ret := rt) hy rfl ?_
  intro p e s m args below meth c s₁ B hml hv
  obtain ⟨rfl, hW, hK⟩ := hv
  have hts := atoms_spec (ws := .code y bytes nL rt :: goodTbl) B.pre
  have hs0 : S0 ≤ s.heap.size := by rw [hW.1]; exact Nat.le_add_right _ _
  have hl := lv_entry av (n := nL) hlen
  rw [lg_entry_eq]
  have key := body (p, l, e, (headSpec (.code y bytes nL rt :: goodTbl) { frames := F, cells := mc, slots := ms, locals := L }).room, s, m, av.toArray, below, meth, c, nL, G, tys, S0, HC, HP, K, N, MQ below (XQ G S0 c2 rv h2) av.toArray s mc ms (XA S0)) rfl rfl rfl rfl rfl rfl rfl rfl rfl rfl (name_of_methodNamed B.named B.method).1
    ⟨B.exec, B.bytes, hml, rfl, findClass_of_methodNamed B.named, fun w hw => hts w (List.mem_cons_of_mem _ hw), hK, hs0, B.notSynchronized, B.returns, Nat.le_refl _, Nat.le_refl _⟩ rfl s.heap [] _ hW va_S.rf hl
  have e1 : XCtx.K (p, l, e, (headSpec (.code y bytes nL rt :: goodTbl) { frames := F, cells := mc, slots := ms, locals := L }).room, s, m, av.toArray, below, meth, c, nL, G, tys, S0, HC, HP, K, N, MQ below (XQ G S0 c2 rv h2) av.toArray s mc ms (XA S0)) σ0 = 0 := hk.1
  have e2 : XCtx.N (p, l, e, (headSpec (.code y bytes nL rt :: goodTbl) { frames := F, cells := mc, slots := ms, locals := L }).room, s, m, av.toArray, below, meth, c, nL, G, tys, S0, HC, HP, K, N, MQ below (XQ G S0 c2 rv h2) av.toArray s mc ms (XA S0)) σ0 = 0 := hk.2
  rw [e1, e2] at key
  exact key
end
section
/-! WORLDS: the cells of one State with all that it holds (gl), of the class (cl), of the reference (ml), each over numbers alone; a world is laid over any other cells (ov). -/
def ov (h : Nat → va_E) (b : Nat) (L : List va_E) : Nat → va_E := fun i => if b ≤ i ∧ i < b + L.length then L.getD (i - b) (h i) else h i
theorem ov_at {h : Nat → va_E} {b : Nat} {L : List va_E} (m : Nat) {e : va_E} (hm : L[m]? = some e) : ov h b L (b + m) = e := by
  have hl : m < L.length := (List.getElem?_eq_some_iff.mp hm).1
  unfold ov
  rw [if_pos ⟨Nat.le_add_right _ _, Nat.add_lt_add_left hl _⟩, Nat.add_sub_cancel_left, List.getD_eq_getElem?_getD, hm]
  rfl
theorem ov_set {h : Nat → va_E} {b : Nat} {L : List va_E} (m : Nat) (v : va_E) (hm : m < L.length) : hset (ov h b L) (b + m) v = ov h b (L.set m v) := by
  funext i
  unfold hset ov
  rw [List.length_set]
  by_cases hi : i = b + m
  · subst hi
    rw [if_pos rfl, if_pos ⟨Nat.le_add_right _ _, Nat.add_lt_add_left hm _⟩, Nat.add_sub_cancel_left, List.getD_eq_getElem?_getD, List.getElem?_set_self hm]
    rfl
  · rw [if_neg hi]
    by_cases hc : b ≤ i ∧ i < b + L.length
    · rw [if_pos hc, if_pos hc, List.getD_eq_getElem?_getD, List.getD_eq_getElem?_getD, List.getElem?_set_ne (by omega)]
    · rw [if_neg hc, if_neg hc]
theorem ov_eqset {h : Nat → va_E} {b : Nat} {L L' : List va_E} (m : Nat) (v : va_E) (hm : m < L.length) (e : L.set m v = L') : hset (ov h b L) (b + m) v = ov h b L' := by rw [ov_set m v hm, e]
theorem ov_part {h : Nat → va_E} {b : Nat} (A M B M' : List va_E) (hl : M'.length = M.length) : ov (ov h b (A ++ (M ++ B))) (b + A.length) M' = ov h b (A ++ (M' ++ B)) := by
  funext i
  unfold ov
  simp only [List.length_append, hl]
  by_cases h1 : b + A.length ≤ i ∧ i < b + A.length + M.length
  · have h2 : b ≤ i ∧ i < b + (A.length + (M.length + B.length)) := by omega
    rw [if_pos h1, if_pos h2, if_pos h2]
    have h3 : (A ++ (M' ++ B))[i - b]? = M'[i - (b + A.length)]? := by
      rw [List.getElem?_append_right (by omega), List.getElem?_append_left (by omega), show i - b - A.length = i - (b + A.length) by omega]
    have h4 : i - (b + A.length) < M'.length := by omega
    rw [List.getD_eq_getElem?_getD (l := M'), List.getD_eq_getElem?_getD (l := A ++ (M' ++ B)), h3, List.getElem?_eq_getElem h4]
    rfl
  · rw [if_neg h1]
    by_cases h2 : b ≤ i ∧ i < b + (A.length + (M.length + B.length))
    · rw [if_pos h2, if_pos h2, List.getD_eq_getElem?_getD, List.getD_eq_getElem?_getD]
      rcases Nat.lt_or_ge (i - b) A.length with g | g
      · rw [List.getElem?_append_left g, List.getElem?_append_left g]
      · rw [List.getElem?_append_right g, List.getElem?_append_right g, List.getElem?_append_right (by omega), List.getElem?_append_right (by omega), hl]
    · rw [if_neg h2, if_neg h2]
theorem ov_one {h : Nat → va_E} {b : Nat} (A : List va_E) (c v : va_E) (B : List va_E) (m : Nat) (hm : A.length = m) : hset (ov h b (A ++ (c :: B))) (b + m) v = ov h b (A ++ (v :: B)) := by
  subst hm
  rw [ov_set A.length v (by simp)]
  simp
theorem ov_get {h : Nat → va_E} {b : Nat} (A : List va_E) (c : va_E) (B : List va_E) (m : Nat) (hm : A.length = m) : ov h b (A ++ (c :: B)) (b + m) = c := by
  subst hm
  exact ov_at _ (by simp)
theorem ov_self {h : Nat → va_E} {b : Nat} (A M B : List va_E) : ov h b (A ++ (M ++ B)) = ov (ov h b (A ++ (M ++ B))) (b + A.length) M := (ov_part A M B M rfl).symm
/-- a State: its arrays by their places, its numbers by theirs -/
abbrev SS : Type := (Nat → Nat → Int32) × (Nat → Int32)
def sA {T : Type} (σ : (Nat → Nat → Int32) × T) (m : Nat) (f : Nat → Int32) : (Nat → Nat → Int32) × T := (fun j => if j = m then f else σ.1 j, σ.2)
def sN {T : Type} (σ : T × (Nat → Int32)) (k : Nat) (v : Int32) : T × (Nat → Int32) := (σ.1, upd σ.2 k v)
abbrev MS : Type := (Nat → Nat → Int32) × (Nat → Int32)
/-- the class: its eight States, its text, its numbers -/
abbrev CS : Type := (Nat → SS) × (Nat → Int32) × (Nat → Int32)
def cS (σ : CS) (k : Nat) (t : SS) : CS := (fun j => if j = k then t else σ.1 j, σ.2)
def cT (σ : CS) (f : Nat → Int32) : CS := (σ.1, f, σ.2.2)
def cN (σ : CS) (k : Nat) (v : Int32) : CS := (σ.1, σ.2.1, upd σ.2.2 k v)

def gl (S0 : Nat) (cI : ClassId) (b : Nat) (σ : SS) : List va_E := [.inr (3, [.ref (S0 + (b + 1)), .ref (S0 + (b + 12)), .ref (S0 + (b + 19)), .ref (S0 + (b + 20)), .ref (S0 + (b + 21)), .int (σ.2 8), .int (σ.2 9), .int (σ.2 10)]),
  .inr (0, [.ref (S0 + (b + 2)), .ref (S0 + (b + 3)), .ref (S0 + (b + 4)), .ref (S0 + (b + 5)), .ref (S0 + (b + 6)), .ref (S0 + (b + 7)), .ref (S0 + (b + 8)), .ref (S0 + (b + 9)), .int (σ.2 0), .ref (S0 + (b + 10)), .int (σ.2 1), .ref (S0 + (b + 11)), .int (σ.2 2)]),
  .inl (cI, 201, .inl (σ.1 2)),
  .inl (cI, 201, .inl (σ.1 3)),
  .inl (cI, 201, .inl (σ.1 4)),
  .inl (cI, 201, .inl (σ.1 5)),
  .inl (cI, 201, .inl (σ.1 6)),
  .inl (cI, 201, .inl (σ.1 7)),
  .inl (cI, 201, .inl (σ.1 8)),
  .inl (cI, 201, .inl (σ.1 9)),
  .inl (cI, 201, .inl (σ.1 10)),
  .inl (cI, 33, .inl (σ.1 11)),
  .inr (4, [.ref (S0 + (b + 13)), .ref (S0 + (b + 14)), .ref (S0 + (b + 15)), .ref (S0 + (b + 16)), .ref (S0 + (b + 17)), .ref (S0 + (b + 18)), .int (σ.2 3), .int (σ.2 4), .int (σ.2 5), .int (σ.2 6), .int (σ.2 7)]),
  .inl (cI, 8, .inl (σ.1 13)),
  .inl (cI, 8, .inl (σ.1 14)),
  .inl (cI, 8, .inl (σ.1 15)),
  .inl (cI, 8, .inl (σ.1 16)),
  .inl (cI, 8, .inl (σ.1 17)),
  .inl (cI, 8, .inl (σ.1 18)),
  .inl (cI, 4, .inl (σ.1 19)),
  .inl (cI, 4, .inl (σ.1 20)),
  .inl (cI, 33, .inl (σ.1 21))]
def ml (S0 : Nat) (cI cZ : ClassId) (b : Nat) (σ : MS) : List va_E := [.inr (6, [.ref (S0 + (b + 1)), .ref (S0 + (b + 2)), .ref (S0 + (b + 3)), .int (σ.2 0), .ref (S0 + (b + 4)), .int (σ.2 1), .ref (S0 + (b + 5)), .int (σ.2 2), .ref (S0 + (b + 6)), .int (σ.2 3), .int (σ.2 4), .int (σ.2 5), .int (σ.2 6), .ref (S0 + (b + 7)), .int (σ.2 7)]),
  .inl (cI, 2204, .inl (σ.1 1)),
  .inl (cI, 2204, .inl (σ.1 2)),
  .inl (cI, 8816, .inl (σ.1 3)),
  .inl (cI, 2204, .inl (σ.1 4)),
  .inl (cI, 60, .inl (σ.1 5)),
  .inl (cZ, 201, .inl (σ.1 6)),
  .inl (cI, 4, .inl (σ.1 7))]
def cl (S0 : Nat) (cI cC cS' : ClassId) (b : Nat) (σ : CS) : List va_E := [.inr (5, [.ref (S0 + (b + 1)), .ref (S0 + (b + 23)), .ref (S0 + (b + 45)), .int (σ.2.2 0), .ref (S0 + (b + 67)), .ref (S0 + (b + 179))])] ++ (gl S0 cI (b + 1) (σ.1 0) ++ (gl S0 cI (b + 23) (σ.1 1) ++ (gl S0 cI (b + 45) (σ.1 2) ++ ([.inr (1, [.ref (S0 + (b + 68)), .int (σ.2.2 1), .int (σ.2.2 2)])] ++ ([.inl (cS', 5, .inr (.inr (.inr (.inr (fun j => if j < 5 then some (S0 + (b + 69 + 22 * j)) else none)))))] ++ (gl S0 cI (b + 69) (σ.1 3) ++ (gl S0 cI (b + 91) (σ.1 4) ++ (gl S0 cI (b + 113) (σ.1 5) ++ (gl S0 cI (b + 135) (σ.1 6) ++ (gl S0 cI (b + 157) (σ.1 7) ++ ([.inr (2, [.ref (S0 + (b + 180)), .int (σ.2.2 3)])] ++ ([.inl (cC, 60, .inl (σ.2.1))]))))))))))))
theorem gl_len (S0 : Nat) (cI : ClassId) (b : Nat) (σ : SS) : (gl S0 cI b σ).length = 22 := rfl
theorem ml_len (S0 : Nat) (cI cZ : ClassId) (b : Nat) (σ : MS) : (ml S0 cI cZ b σ).length = 8 := rfl
theorem cl_len (S0 : Nat) (cI cC cS' : ClassId) (b : Nat) (σ : CS) : (cl S0 cI cC cS' b σ).length = 181 := by
  simp only [cl, List.length_append, gl_len, List.length_cons, List.length_nil]
section YS
variable {κ : XCtx SS} {h : Nat → va_E} {b : Nat} {cI : ClassId}
def YS (κ : XCtx SS) (h : Nat → va_E) (b : Nat) (cI : ClassId) : Prop := (∀ σ, κ.HP σ = ov h b (gl κ.S0 cI b σ)) ∧ (∀ σ, b + 22 ≤ κ.HC σ) ∧ κ.tys[0]? = some (cI, .int)
theorem yS_hp (Y : YS κ h b cI) (σ : SS) : κ.HP σ = ov h b (gl κ.S0 cI b σ) := Y.1 σ
theorem yS_hb (Y : YS κ h b cI) (σ : SS) : b + 22 ≤ κ.HC σ := Y.2.1 σ
theorem yS_ht (Y : YS κ h b cI) : κ.tys[0]? = some (cI, .int) := Y.2.2
theorem yS_l (Y : YS κ h b cI) {σ : SS} (m : Nat) (hm : m < 22) : b + m < κ.HC σ := Nat.lt_of_lt_of_le (Nat.add_lt_add_left hm b) (Y.2.1 σ)
theorem yS_set (Y : YS κ h b cI) {σ σ1 : SS} (m : Nat) (v : va_E) (hm : m < 22) (e : (gl κ.S0 cI b σ).set m v = gl κ.S0 cI b σ1) : hset (κ.HP σ) (b + m) v = κ.HP σ1 := by
  rw [Y.1 σ, Y.1 σ1]
  exact ov_eqset m v hm e
theorem yS_0 (Y : YS κ h b cI) {σ : SS} : κ.HP σ (b + 0) = .inr (3, [.ref (κ.S0 + (b + 1)), .ref (κ.S0 + (b + 12)), .ref (κ.S0 + (b + 19)), .ref (κ.S0 + (b + 20)), .ref (κ.S0 + (b + 21)), .int (σ.2 8), .int (σ.2 9), .int (σ.2 10)]) := by
  rw [Y.1 σ]
  exact ov_at 0 rfl
theorem yS_p0_5 (Y : YS κ h b cI) {σ : SS} : ∀ v, hset (κ.HP σ) (b + 0) (.inr (3, [.ref (κ.S0 + (b + 1)), .ref (κ.S0 + (b + 12)), .ref (κ.S0 + (b + 19)), .ref (κ.S0 + (b + 20)), .ref (κ.S0 + (b + 21)), .int (σ.2 8), .int (σ.2 9), .int (σ.2 10)].set 5 (.int v))) = κ.HP (sN σ 8 v) := fun _ => yS_set Y 0 _ (by decide) rfl
theorem yS_p0_6 (Y : YS κ h b cI) {σ : SS} : ∀ v, hset (κ.HP σ) (b + 0) (.inr (3, [.ref (κ.S0 + (b + 1)), .ref (κ.S0 + (b + 12)), .ref (κ.S0 + (b + 19)), .ref (κ.S0 + (b + 20)), .ref (κ.S0 + (b + 21)), .int (σ.2 8), .int (σ.2 9), .int (σ.2 10)].set 6 (.int v))) = κ.HP (sN σ 9 v) := fun _ => yS_set Y 0 _ (by decide) rfl
theorem yS_p0_7 (Y : YS κ h b cI) {σ : SS} : ∀ v, hset (κ.HP σ) (b + 0) (.inr (3, [.ref (κ.S0 + (b + 1)), .ref (κ.S0 + (b + 12)), .ref (κ.S0 + (b + 19)), .ref (κ.S0 + (b + 20)), .ref (κ.S0 + (b + 21)), .int (σ.2 8), .int (σ.2 9), .int (σ.2 10)].set 7 (.int v))) = κ.HP (sN σ 10 v) := fun _ => yS_set Y 0 _ (by decide) rfl
theorem yS_1 (Y : YS κ h b cI) {σ : SS} : κ.HP σ (b + 1) = .inr (0, [.ref (κ.S0 + (b + 2)), .ref (κ.S0 + (b + 3)), .ref (κ.S0 + (b + 4)), .ref (κ.S0 + (b + 5)), .ref (κ.S0 + (b + 6)), .ref (κ.S0 + (b + 7)), .ref (κ.S0 + (b + 8)), .ref (κ.S0 + (b + 9)), .int (σ.2 0), .ref (κ.S0 + (b + 10)), .int (σ.2 1), .ref (κ.S0 + (b + 11)), .int (σ.2 2)]) := by
  rw [Y.1 σ]
  exact ov_at 1 rfl
theorem yS_p1_8 (Y : YS κ h b cI) {σ : SS} : ∀ v, hset (κ.HP σ) (b + 1) (.inr (0, [.ref (κ.S0 + (b + 2)), .ref (κ.S0 + (b + 3)), .ref (κ.S0 + (b + 4)), .ref (κ.S0 + (b + 5)), .ref (κ.S0 + (b + 6)), .ref (κ.S0 + (b + 7)), .ref (κ.S0 + (b + 8)), .ref (κ.S0 + (b + 9)), .int (σ.2 0), .ref (κ.S0 + (b + 10)), .int (σ.2 1), .ref (κ.S0 + (b + 11)), .int (σ.2 2)].set 8 (.int v))) = κ.HP (sN σ 0 v) := fun _ => yS_set Y 1 _ (by decide) rfl
theorem yS_p1_10 (Y : YS κ h b cI) {σ : SS} : ∀ v, hset (κ.HP σ) (b + 1) (.inr (0, [.ref (κ.S0 + (b + 2)), .ref (κ.S0 + (b + 3)), .ref (κ.S0 + (b + 4)), .ref (κ.S0 + (b + 5)), .ref (κ.S0 + (b + 6)), .ref (κ.S0 + (b + 7)), .ref (κ.S0 + (b + 8)), .ref (κ.S0 + (b + 9)), .int (σ.2 0), .ref (κ.S0 + (b + 10)), .int (σ.2 1), .ref (κ.S0 + (b + 11)), .int (σ.2 2)].set 10 (.int v))) = κ.HP (sN σ 1 v) := fun _ => yS_set Y 1 _ (by decide) rfl
theorem yS_p1_12 (Y : YS κ h b cI) {σ : SS} : ∀ v, hset (κ.HP σ) (b + 1) (.inr (0, [.ref (κ.S0 + (b + 2)), .ref (κ.S0 + (b + 3)), .ref (κ.S0 + (b + 4)), .ref (κ.S0 + (b + 5)), .ref (κ.S0 + (b + 6)), .ref (κ.S0 + (b + 7)), .ref (κ.S0 + (b + 8)), .ref (κ.S0 + (b + 9)), .int (σ.2 0), .ref (κ.S0 + (b + 10)), .int (σ.2 1), .ref (κ.S0 + (b + 11)), .int (σ.2 2)].set 12 (.int v))) = κ.HP (sN σ 2 v) := fun _ => yS_set Y 1 _ (by decide) rfl
theorem yS_2 (Y : YS κ h b cI) {σ : SS} : κ.HP σ (b + 2) = .inl (cI, 201, .inl (σ.1 2)) := by
  rw [Y.1 σ]
  exact ov_at 2 rfl
theorem yS_s2 (Y : YS κ h b cI) {σ : SS} : ∀ f, hset (κ.HP σ) (b + 2) (.inl (cI, 201, .inl f)) = κ.HP (sA σ 2 f) := fun _ => yS_set Y 2 _ (by decide) rfl
theorem yS_3 (Y : YS κ h b cI) {σ : SS} : κ.HP σ (b + 3) = .inl (cI, 201, .inl (σ.1 3)) := by
  rw [Y.1 σ]
  exact ov_at 3 rfl
theorem yS_s3 (Y : YS κ h b cI) {σ : SS} : ∀ f, hset (κ.HP σ) (b + 3) (.inl (cI, 201, .inl f)) = κ.HP (sA σ 3 f) := fun _ => yS_set Y 3 _ (by decide) rfl
theorem yS_4 (Y : YS κ h b cI) {σ : SS} : κ.HP σ (b + 4) = .inl (cI, 201, .inl (σ.1 4)) := by
  rw [Y.1 σ]
  exact ov_at 4 rfl
theorem yS_s4 (Y : YS κ h b cI) {σ : SS} : ∀ f, hset (κ.HP σ) (b + 4) (.inl (cI, 201, .inl f)) = κ.HP (sA σ 4 f) := fun _ => yS_set Y 4 _ (by decide) rfl
theorem yS_5 (Y : YS κ h b cI) {σ : SS} : κ.HP σ (b + 5) = .inl (cI, 201, .inl (σ.1 5)) := by
  rw [Y.1 σ]
  exact ov_at 5 rfl
theorem yS_s5 (Y : YS κ h b cI) {σ : SS} : ∀ f, hset (κ.HP σ) (b + 5) (.inl (cI, 201, .inl f)) = κ.HP (sA σ 5 f) := fun _ => yS_set Y 5 _ (by decide) rfl
theorem yS_6 (Y : YS κ h b cI) {σ : SS} : κ.HP σ (b + 6) = .inl (cI, 201, .inl (σ.1 6)) := by
  rw [Y.1 σ]
  exact ov_at 6 rfl
theorem yS_s6 (Y : YS κ h b cI) {σ : SS} : ∀ f, hset (κ.HP σ) (b + 6) (.inl (cI, 201, .inl f)) = κ.HP (sA σ 6 f) := fun _ => yS_set Y 6 _ (by decide) rfl
theorem yS_7 (Y : YS κ h b cI) {σ : SS} : κ.HP σ (b + 7) = .inl (cI, 201, .inl (σ.1 7)) := by
  rw [Y.1 σ]
  exact ov_at 7 rfl
theorem yS_s7 (Y : YS κ h b cI) {σ : SS} : ∀ f, hset (κ.HP σ) (b + 7) (.inl (cI, 201, .inl f)) = κ.HP (sA σ 7 f) := fun _ => yS_set Y 7 _ (by decide) rfl
theorem yS_8 (Y : YS κ h b cI) {σ : SS} : κ.HP σ (b + 8) = .inl (cI, 201, .inl (σ.1 8)) := by
  rw [Y.1 σ]
  exact ov_at 8 rfl
theorem yS_s8 (Y : YS κ h b cI) {σ : SS} : ∀ f, hset (κ.HP σ) (b + 8) (.inl (cI, 201, .inl f)) = κ.HP (sA σ 8 f) := fun _ => yS_set Y 8 _ (by decide) rfl
theorem yS_9 (Y : YS κ h b cI) {σ : SS} : κ.HP σ (b + 9) = .inl (cI, 201, .inl (σ.1 9)) := by
  rw [Y.1 σ]
  exact ov_at 9 rfl
theorem yS_s9 (Y : YS κ h b cI) {σ : SS} : ∀ f, hset (κ.HP σ) (b + 9) (.inl (cI, 201, .inl f)) = κ.HP (sA σ 9 f) := fun _ => yS_set Y 9 _ (by decide) rfl
theorem yS_10 (Y : YS κ h b cI) {σ : SS} : κ.HP σ (b + 10) = .inl (cI, 201, .inl (σ.1 10)) := by
  rw [Y.1 σ]
  exact ov_at 10 rfl
theorem yS_s10 (Y : YS κ h b cI) {σ : SS} : ∀ f, hset (κ.HP σ) (b + 10) (.inl (cI, 201, .inl f)) = κ.HP (sA σ 10 f) := fun _ => yS_set Y 10 _ (by decide) rfl
theorem yS_11 (Y : YS κ h b cI) {σ : SS} : κ.HP σ (b + 11) = .inl (cI, 33, .inl (σ.1 11)) := by
  rw [Y.1 σ]
  exact ov_at 11 rfl
theorem yS_s11 (Y : YS κ h b cI) {σ : SS} : ∀ f, hset (κ.HP σ) (b + 11) (.inl (cI, 33, .inl f)) = κ.HP (sA σ 11 f) := fun _ => yS_set Y 11 _ (by decide) rfl
theorem yS_12 (Y : YS κ h b cI) {σ : SS} : κ.HP σ (b + 12) = .inr (4, [.ref (κ.S0 + (b + 13)), .ref (κ.S0 + (b + 14)), .ref (κ.S0 + (b + 15)), .ref (κ.S0 + (b + 16)), .ref (κ.S0 + (b + 17)), .ref (κ.S0 + (b + 18)), .int (σ.2 3), .int (σ.2 4), .int (σ.2 5), .int (σ.2 6), .int (σ.2 7)]) := by
  rw [Y.1 σ]
  exact ov_at 12 rfl
theorem yS_p12_6 (Y : YS κ h b cI) {σ : SS} : ∀ v, hset (κ.HP σ) (b + 12) (.inr (4, [.ref (κ.S0 + (b + 13)), .ref (κ.S0 + (b + 14)), .ref (κ.S0 + (b + 15)), .ref (κ.S0 + (b + 16)), .ref (κ.S0 + (b + 17)), .ref (κ.S0 + (b + 18)), .int (σ.2 3), .int (σ.2 4), .int (σ.2 5), .int (σ.2 6), .int (σ.2 7)].set 6 (.int v))) = κ.HP (sN σ 3 v) := fun _ => yS_set Y 12 _ (by decide) rfl
theorem yS_p12_7 (Y : YS κ h b cI) {σ : SS} : ∀ v, hset (κ.HP σ) (b + 12) (.inr (4, [.ref (κ.S0 + (b + 13)), .ref (κ.S0 + (b + 14)), .ref (κ.S0 + (b + 15)), .ref (κ.S0 + (b + 16)), .ref (κ.S0 + (b + 17)), .ref (κ.S0 + (b + 18)), .int (σ.2 3), .int (σ.2 4), .int (σ.2 5), .int (σ.2 6), .int (σ.2 7)].set 7 (.int v))) = κ.HP (sN σ 4 v) := fun _ => yS_set Y 12 _ (by decide) rfl
theorem yS_p12_8 (Y : YS κ h b cI) {σ : SS} : ∀ v, hset (κ.HP σ) (b + 12) (.inr (4, [.ref (κ.S0 + (b + 13)), .ref (κ.S0 + (b + 14)), .ref (κ.S0 + (b + 15)), .ref (κ.S0 + (b + 16)), .ref (κ.S0 + (b + 17)), .ref (κ.S0 + (b + 18)), .int (σ.2 3), .int (σ.2 4), .int (σ.2 5), .int (σ.2 6), .int (σ.2 7)].set 8 (.int v))) = κ.HP (sN σ 5 v) := fun _ => yS_set Y 12 _ (by decide) rfl
theorem yS_p12_9 (Y : YS κ h b cI) {σ : SS} : ∀ v, hset (κ.HP σ) (b + 12) (.inr (4, [.ref (κ.S0 + (b + 13)), .ref (κ.S0 + (b + 14)), .ref (κ.S0 + (b + 15)), .ref (κ.S0 + (b + 16)), .ref (κ.S0 + (b + 17)), .ref (κ.S0 + (b + 18)), .int (σ.2 3), .int (σ.2 4), .int (σ.2 5), .int (σ.2 6), .int (σ.2 7)].set 9 (.int v))) = κ.HP (sN σ 6 v) := fun _ => yS_set Y 12 _ (by decide) rfl
theorem yS_p12_10 (Y : YS κ h b cI) {σ : SS} : ∀ v, hset (κ.HP σ) (b + 12) (.inr (4, [.ref (κ.S0 + (b + 13)), .ref (κ.S0 + (b + 14)), .ref (κ.S0 + (b + 15)), .ref (κ.S0 + (b + 16)), .ref (κ.S0 + (b + 17)), .ref (κ.S0 + (b + 18)), .int (σ.2 3), .int (σ.2 4), .int (σ.2 5), .int (σ.2 6), .int (σ.2 7)].set 10 (.int v))) = κ.HP (sN σ 7 v) := fun _ => yS_set Y 12 _ (by decide) rfl
theorem yS_13 (Y : YS κ h b cI) {σ : SS} : κ.HP σ (b + 13) = .inl (cI, 8, .inl (σ.1 13)) := by
  rw [Y.1 σ]
  exact ov_at 13 rfl
theorem yS_s13 (Y : YS κ h b cI) {σ : SS} : ∀ f, hset (κ.HP σ) (b + 13) (.inl (cI, 8, .inl f)) = κ.HP (sA σ 13 f) := fun _ => yS_set Y 13 _ (by decide) rfl
theorem yS_14 (Y : YS κ h b cI) {σ : SS} : κ.HP σ (b + 14) = .inl (cI, 8, .inl (σ.1 14)) := by
  rw [Y.1 σ]
  exact ov_at 14 rfl
theorem yS_s14 (Y : YS κ h b cI) {σ : SS} : ∀ f, hset (κ.HP σ) (b + 14) (.inl (cI, 8, .inl f)) = κ.HP (sA σ 14 f) := fun _ => yS_set Y 14 _ (by decide) rfl
theorem yS_15 (Y : YS κ h b cI) {σ : SS} : κ.HP σ (b + 15) = .inl (cI, 8, .inl (σ.1 15)) := by
  rw [Y.1 σ]
  exact ov_at 15 rfl
theorem yS_s15 (Y : YS κ h b cI) {σ : SS} : ∀ f, hset (κ.HP σ) (b + 15) (.inl (cI, 8, .inl f)) = κ.HP (sA σ 15 f) := fun _ => yS_set Y 15 _ (by decide) rfl
theorem yS_16 (Y : YS κ h b cI) {σ : SS} : κ.HP σ (b + 16) = .inl (cI, 8, .inl (σ.1 16)) := by
  rw [Y.1 σ]
  exact ov_at 16 rfl
theorem yS_s16 (Y : YS κ h b cI) {σ : SS} : ∀ f, hset (κ.HP σ) (b + 16) (.inl (cI, 8, .inl f)) = κ.HP (sA σ 16 f) := fun _ => yS_set Y 16 _ (by decide) rfl
theorem yS_17 (Y : YS κ h b cI) {σ : SS} : κ.HP σ (b + 17) = .inl (cI, 8, .inl (σ.1 17)) := by
  rw [Y.1 σ]
  exact ov_at 17 rfl
theorem yS_s17 (Y : YS κ h b cI) {σ : SS} : ∀ f, hset (κ.HP σ) (b + 17) (.inl (cI, 8, .inl f)) = κ.HP (sA σ 17 f) := fun _ => yS_set Y 17 _ (by decide) rfl
theorem yS_18 (Y : YS κ h b cI) {σ : SS} : κ.HP σ (b + 18) = .inl (cI, 8, .inl (σ.1 18)) := by
  rw [Y.1 σ]
  exact ov_at 18 rfl
theorem yS_s18 (Y : YS κ h b cI) {σ : SS} : ∀ f, hset (κ.HP σ) (b + 18) (.inl (cI, 8, .inl f)) = κ.HP (sA σ 18 f) := fun _ => yS_set Y 18 _ (by decide) rfl
theorem yS_19 (Y : YS κ h b cI) {σ : SS} : κ.HP σ (b + 19) = .inl (cI, 4, .inl (σ.1 19)) := by
  rw [Y.1 σ]
  exact ov_at 19 rfl
theorem yS_s19 (Y : YS κ h b cI) {σ : SS} : ∀ f, hset (κ.HP σ) (b + 19) (.inl (cI, 4, .inl f)) = κ.HP (sA σ 19 f) := fun _ => yS_set Y 19 _ (by decide) rfl
theorem yS_20 (Y : YS κ h b cI) {σ : SS} : κ.HP σ (b + 20) = .inl (cI, 4, .inl (σ.1 20)) := by
  rw [Y.1 σ]
  exact ov_at 20 rfl
theorem yS_s20 (Y : YS κ h b cI) {σ : SS} : ∀ f, hset (κ.HP σ) (b + 20) (.inl (cI, 4, .inl f)) = κ.HP (sA σ 20 f) := fun _ => yS_set Y 20 _ (by decide) rfl
theorem yS_21 (Y : YS κ h b cI) {σ : SS} : κ.HP σ (b + 21) = .inl (cI, 33, .inl (σ.1 21)) := by
  rw [Y.1 σ]
  exact ov_at 21 rfl
theorem yS_s21 (Y : YS κ h b cI) {σ : SS} : ∀ f, hset (κ.HP σ) (b + 21) (.inl (cI, 33, .inl f)) = κ.HP (sA σ 21 f) := fun _ => yS_set Y 21 _ (by decide) rfl
end YS
section YM
variable {κ : XCtx MS} {h : Nat → va_E} {b : Nat} {cI cZ : ClassId}
def YM (κ : XCtx MS) (h : Nat → va_E) (b : Nat) (cI cZ : ClassId) : Prop := (∀ σ, κ.HP σ = ov h b (ml κ.S0 cI cZ b σ)) ∧ (∀ σ, b + 8 ≤ κ.HC σ) ∧ κ.tys[0]? = some (cI, .int) ∧ κ.tys[2]? = some (cZ, .boolean)
theorem yM_hp (Y : YM κ h b cI cZ) (σ : MS) : κ.HP σ = ov h b (ml κ.S0 cI cZ b σ) := Y.1 σ
theorem yM_hb (Y : YM κ h b cI cZ) (σ : MS) : b + 8 ≤ κ.HC σ := Y.2.1 σ
theorem yM_ht (Y : YM κ h b cI cZ) : κ.tys[0]? = some (cI, .int) := Y.2.2.1
theorem yM_htz (Y : YM κ h b cI cZ) : κ.tys[2]? = some (cZ, .boolean) := Y.2.2.2
theorem yM_l (Y : YM κ h b cI cZ) {σ : MS} (m : Nat) (hm : m < 8) : b + m < κ.HC σ := Nat.lt_of_lt_of_le (Nat.add_lt_add_left hm b) (Y.2.1 σ)
theorem yM_set (Y : YM κ h b cI cZ) {σ σ1 : MS} (m : Nat) (v : va_E) (hm : m < 8) (e : (ml κ.S0 cI cZ b σ).set m v = ml κ.S0 cI cZ b σ1) : hset (κ.HP σ) (b + m) v = κ.HP σ1 := by
  rw [Y.1 σ, Y.1 σ1]
  exact ov_eqset m v hm e
theorem yM_0 (Y : YM κ h b cI cZ) {σ : MS} : κ.HP σ (b + 0) = .inr (6, [.ref (κ.S0 + (b + 1)), .ref (κ.S0 + (b + 2)), .ref (κ.S0 + (b + 3)), .int (σ.2 0), .ref (κ.S0 + (b + 4)), .int (σ.2 1), .ref (κ.S0 + (b + 5)), .int (σ.2 2), .ref (κ.S0 + (b + 6)), .int (σ.2 3), .int (σ.2 4), .int (σ.2 5), .int (σ.2 6), .ref (κ.S0 + (b + 7)), .int (σ.2 7)]) := by
  rw [Y.1 σ]
  exact ov_at 0 rfl
theorem yM_p0_3 (Y : YM κ h b cI cZ) {σ : MS} : ∀ v, hset (κ.HP σ) (b + 0) (.inr (6, [.ref (κ.S0 + (b + 1)), .ref (κ.S0 + (b + 2)), .ref (κ.S0 + (b + 3)), .int (σ.2 0), .ref (κ.S0 + (b + 4)), .int (σ.2 1), .ref (κ.S0 + (b + 5)), .int (σ.2 2), .ref (κ.S0 + (b + 6)), .int (σ.2 3), .int (σ.2 4), .int (σ.2 5), .int (σ.2 6), .ref (κ.S0 + (b + 7)), .int (σ.2 7)].set 3 (.int v))) = κ.HP (sN σ 0 v) := fun _ => yM_set Y 0 _ (by decide) rfl
theorem yM_p0_5 (Y : YM κ h b cI cZ) {σ : MS} : ∀ v, hset (κ.HP σ) (b + 0) (.inr (6, [.ref (κ.S0 + (b + 1)), .ref (κ.S0 + (b + 2)), .ref (κ.S0 + (b + 3)), .int (σ.2 0), .ref (κ.S0 + (b + 4)), .int (σ.2 1), .ref (κ.S0 + (b + 5)), .int (σ.2 2), .ref (κ.S0 + (b + 6)), .int (σ.2 3), .int (σ.2 4), .int (σ.2 5), .int (σ.2 6), .ref (κ.S0 + (b + 7)), .int (σ.2 7)].set 5 (.int v))) = κ.HP (sN σ 1 v) := fun _ => yM_set Y 0 _ (by decide) rfl
theorem yM_p0_7 (Y : YM κ h b cI cZ) {σ : MS} : ∀ v, hset (κ.HP σ) (b + 0) (.inr (6, [.ref (κ.S0 + (b + 1)), .ref (κ.S0 + (b + 2)), .ref (κ.S0 + (b + 3)), .int (σ.2 0), .ref (κ.S0 + (b + 4)), .int (σ.2 1), .ref (κ.S0 + (b + 5)), .int (σ.2 2), .ref (κ.S0 + (b + 6)), .int (σ.2 3), .int (σ.2 4), .int (σ.2 5), .int (σ.2 6), .ref (κ.S0 + (b + 7)), .int (σ.2 7)].set 7 (.int v))) = κ.HP (sN σ 2 v) := fun _ => yM_set Y 0 _ (by decide) rfl
theorem yM_p0_9 (Y : YM κ h b cI cZ) {σ : MS} : ∀ v, hset (κ.HP σ) (b + 0) (.inr (6, [.ref (κ.S0 + (b + 1)), .ref (κ.S0 + (b + 2)), .ref (κ.S0 + (b + 3)), .int (σ.2 0), .ref (κ.S0 + (b + 4)), .int (σ.2 1), .ref (κ.S0 + (b + 5)), .int (σ.2 2), .ref (κ.S0 + (b + 6)), .int (σ.2 3), .int (σ.2 4), .int (σ.2 5), .int (σ.2 6), .ref (κ.S0 + (b + 7)), .int (σ.2 7)].set 9 (.int v))) = κ.HP (sN σ 3 v) := fun _ => yM_set Y 0 _ (by decide) rfl
theorem yM_p0_10 (Y : YM κ h b cI cZ) {σ : MS} : ∀ v, hset (κ.HP σ) (b + 0) (.inr (6, [.ref (κ.S0 + (b + 1)), .ref (κ.S0 + (b + 2)), .ref (κ.S0 + (b + 3)), .int (σ.2 0), .ref (κ.S0 + (b + 4)), .int (σ.2 1), .ref (κ.S0 + (b + 5)), .int (σ.2 2), .ref (κ.S0 + (b + 6)), .int (σ.2 3), .int (σ.2 4), .int (σ.2 5), .int (σ.2 6), .ref (κ.S0 + (b + 7)), .int (σ.2 7)].set 10 (.int v))) = κ.HP (sN σ 4 v) := fun _ => yM_set Y 0 _ (by decide) rfl
theorem yM_p0_11 (Y : YM κ h b cI cZ) {σ : MS} : ∀ v, hset (κ.HP σ) (b + 0) (.inr (6, [.ref (κ.S0 + (b + 1)), .ref (κ.S0 + (b + 2)), .ref (κ.S0 + (b + 3)), .int (σ.2 0), .ref (κ.S0 + (b + 4)), .int (σ.2 1), .ref (κ.S0 + (b + 5)), .int (σ.2 2), .ref (κ.S0 + (b + 6)), .int (σ.2 3), .int (σ.2 4), .int (σ.2 5), .int (σ.2 6), .ref (κ.S0 + (b + 7)), .int (σ.2 7)].set 11 (.int v))) = κ.HP (sN σ 5 v) := fun _ => yM_set Y 0 _ (by decide) rfl
theorem yM_p0_12 (Y : YM κ h b cI cZ) {σ : MS} : ∀ v, hset (κ.HP σ) (b + 0) (.inr (6, [.ref (κ.S0 + (b + 1)), .ref (κ.S0 + (b + 2)), .ref (κ.S0 + (b + 3)), .int (σ.2 0), .ref (κ.S0 + (b + 4)), .int (σ.2 1), .ref (κ.S0 + (b + 5)), .int (σ.2 2), .ref (κ.S0 + (b + 6)), .int (σ.2 3), .int (σ.2 4), .int (σ.2 5), .int (σ.2 6), .ref (κ.S0 + (b + 7)), .int (σ.2 7)].set 12 (.int v))) = κ.HP (sN σ 6 v) := fun _ => yM_set Y 0 _ (by decide) rfl
theorem yM_p0_14 (Y : YM κ h b cI cZ) {σ : MS} : ∀ v, hset (κ.HP σ) (b + 0) (.inr (6, [.ref (κ.S0 + (b + 1)), .ref (κ.S0 + (b + 2)), .ref (κ.S0 + (b + 3)), .int (σ.2 0), .ref (κ.S0 + (b + 4)), .int (σ.2 1), .ref (κ.S0 + (b + 5)), .int (σ.2 2), .ref (κ.S0 + (b + 6)), .int (σ.2 3), .int (σ.2 4), .int (σ.2 5), .int (σ.2 6), .ref (κ.S0 + (b + 7)), .int (σ.2 7)].set 14 (.int v))) = κ.HP (sN σ 7 v) := fun _ => yM_set Y 0 _ (by decide) rfl
theorem yM_1 (Y : YM κ h b cI cZ) {σ : MS} : κ.HP σ (b + 1) = .inl (cI, 2204, .inl (σ.1 1)) := by
  rw [Y.1 σ]
  exact ov_at 1 rfl
theorem yM_s1 (Y : YM κ h b cI cZ) {σ : MS} : ∀ f, hset (κ.HP σ) (b + 1) (.inl (cI, 2204, .inl f)) = κ.HP (sA σ 1 f) := fun _ => yM_set Y 1 _ (by decide) rfl
theorem yM_2 (Y : YM κ h b cI cZ) {σ : MS} : κ.HP σ (b + 2) = .inl (cI, 2204, .inl (σ.1 2)) := by
  rw [Y.1 σ]
  exact ov_at 2 rfl
theorem yM_s2 (Y : YM κ h b cI cZ) {σ : MS} : ∀ f, hset (κ.HP σ) (b + 2) (.inl (cI, 2204, .inl f)) = κ.HP (sA σ 2 f) := fun _ => yM_set Y 2 _ (by decide) rfl
theorem yM_3 (Y : YM κ h b cI cZ) {σ : MS} : κ.HP σ (b + 3) = .inl (cI, 8816, .inl (σ.1 3)) := by
  rw [Y.1 σ]
  exact ov_at 3 rfl
theorem yM_s3 (Y : YM κ h b cI cZ) {σ : MS} : ∀ f, hset (κ.HP σ) (b + 3) (.inl (cI, 8816, .inl f)) = κ.HP (sA σ 3 f) := fun _ => yM_set Y 3 _ (by decide) rfl
theorem yM_4 (Y : YM κ h b cI cZ) {σ : MS} : κ.HP σ (b + 4) = .inl (cI, 2204, .inl (σ.1 4)) := by
  rw [Y.1 σ]
  exact ov_at 4 rfl
theorem yM_s4 (Y : YM κ h b cI cZ) {σ : MS} : ∀ f, hset (κ.HP σ) (b + 4) (.inl (cI, 2204, .inl f)) = κ.HP (sA σ 4 f) := fun _ => yM_set Y 4 _ (by decide) rfl
theorem yM_5 (Y : YM κ h b cI cZ) {σ : MS} : κ.HP σ (b + 5) = .inl (cI, 60, .inl (σ.1 5)) := by
  rw [Y.1 σ]
  exact ov_at 5 rfl
theorem yM_s5 (Y : YM κ h b cI cZ) {σ : MS} : ∀ f, hset (κ.HP σ) (b + 5) (.inl (cI, 60, .inl f)) = κ.HP (sA σ 5 f) := fun _ => yM_set Y 5 _ (by decide) rfl
theorem yM_6 (Y : YM κ h b cI cZ) {σ : MS} : κ.HP σ (b + 6) = .inl (cZ, 201, .inl (σ.1 6)) := by
  rw [Y.1 σ]
  exact ov_at 6 rfl
theorem yM_s6 (Y : YM κ h b cI cZ) {σ : MS} : ∀ f, hset (κ.HP σ) (b + 6) (.inl (cZ, 201, .inl f)) = κ.HP (sA σ 6 f) := fun _ => yM_set Y 6 _ (by decide) rfl
theorem yM_7 (Y : YM κ h b cI cZ) {σ : MS} : κ.HP σ (b + 7) = .inl (cI, 4, .inl (σ.1 7)) := by
  rw [Y.1 σ]
  exact ov_at 7 rfl
theorem yM_s7 (Y : YM κ h b cI cZ) {σ : MS} : ∀ f, hset (κ.HP σ) (b + 7) (.inl (cI, 4, .inl f)) = κ.HP (sA σ 7 f) := fun _ => yM_set Y 7 _ (by decide) rfl
end YM
section YC
variable {κ : XCtx CS} {h : Nat → va_E} {b : Nat} {cI cC cS' : ClassId}
def YC (κ : XCtx CS) (h : Nat → va_E) (b : Nat) (cI cC cS' : ClassId) : Prop := (∀ σ, κ.HP σ = ov h b (cl κ.S0 cI cC cS' b σ)) ∧ (∀ σ, b + 181 ≤ κ.HC σ) ∧ κ.tys[0]? = some (cI, .int) ∧ κ.tys[1]? = some (cC, .char) ∧ κ.tys[3]? = some (cS', .object "AppendZones$State")
theorem yC_hp (Y : YC κ h b cI cC cS') (σ : CS) : κ.HP σ = ov h b (cl κ.S0 cI cC cS' b σ) := Y.1 σ
theorem yC_hb (Y : YC κ h b cI cC cS') (σ : CS) : b + 181 ≤ κ.HC σ := Y.2.1 σ
theorem yC_ht (Y : YC κ h b cI cC cS') : κ.tys[0]? = some (cI, .int) := Y.2.2.1
theorem yC_htc (Y : YC κ h b cI cC cS') : κ.tys[1]? = some (cC, .char) := Y.2.2.2.1
theorem yC_hts (Y : YC κ h b cI cC cS') : κ.tys[3]? = some (cS', .object "AppendZones$State") := Y.2.2.2.2
theorem yC_l (Y : YC κ h b cI cC cS') {σ : CS} (m : Nat) (hm : m < 181) : b + m < κ.HC σ := Nat.lt_of_lt_of_le (Nat.add_lt_add_left hm b) (Y.2.1 σ)
theorem yC_set (Y : YC κ h b cI cC cS') {σ σ1 : CS} (m : Nat) (v : va_E) (hm : m < 181) (e : (cl κ.S0 cI cC cS' b σ).set m v = cl κ.S0 cI cC cS' b σ1) : hset (κ.HP σ) (b + m) v = κ.HP σ1 := by
  rw [Y.1 σ, Y.1 σ1]
  exact ov_eqset m v (by rw [cl_len]; exact hm) e
theorem yC_e0 (Y : YC κ h b cI cC cS') (σ : CS) : κ.HP σ = ov h b (([] : List va_E) ++ (.inr (5, [.ref (κ.S0 + (b + 1)), .ref (κ.S0 + (b + 23)), .ref (κ.S0 + (b + 45)), .int (σ.2.2 0), .ref (κ.S0 + (b + 67)), .ref (κ.S0 + (b + 179))]) :: (gl κ.S0 cI (b + 1) (σ.1 0) ++ (gl κ.S0 cI (b + 23) (σ.1 1) ++ (gl κ.S0 cI (b + 45) (σ.1 2) ++ ([.inr (1, [.ref (κ.S0 + (b + 68)), .int (σ.2.2 1), .int (σ.2.2 2)])] ++ ([.inl (cS', 5, .inr (.inr (.inr (.inr (fun j => if j < 5 then some (κ.S0 + (b + 69 + 22 * j)) else none)))))] ++ (gl κ.S0 cI (b + 69) (σ.1 3) ++ (gl κ.S0 cI (b + 91) (σ.1 4) ++ (gl κ.S0 cI (b + 113) (σ.1 5) ++ (gl κ.S0 cI (b + 135) (σ.1 6) ++ (gl κ.S0 cI (b + 157) (σ.1 7) ++ ([.inr (2, [.ref (κ.S0 + (b + 180)), .int (σ.2.2 3)])] ++ ([.inl (cC, 60, .inl (σ.2.1))]))))))))))) : List va_E))) := by
  rw [Y.1 σ]
  simp only [cl, List.append_assoc, List.cons_append, List.nil_append, List.append_nil]
theorem yC_0 (Y : YC κ h b cI cC cS') {σ : CS} : κ.HP σ (b + 0) = .inr (5, [.ref (κ.S0 + (b + 1)), .ref (κ.S0 + (b + 23)), .ref (κ.S0 + (b + 45)), .int (σ.2.2 0), .ref (κ.S0 + (b + 67)), .ref (κ.S0 + (b + 179))]) := by
  rw [yC_e0 Y σ]
  exact ov_get ([] : List va_E) _ (gl κ.S0 cI (b + 1) (σ.1 0) ++ (gl κ.S0 cI (b + 23) (σ.1 1) ++ (gl κ.S0 cI (b + 45) (σ.1 2) ++ ([.inr (1, [.ref (κ.S0 + (b + 68)), .int (σ.2.2 1), .int (σ.2.2 2)])] ++ ([.inl (cS', 5, .inr (.inr (.inr (.inr (fun j => if j < 5 then some (κ.S0 + (b + 69 + 22 * j)) else none)))))] ++ (gl κ.S0 cI (b + 69) (σ.1 3) ++ (gl κ.S0 cI (b + 91) (σ.1 4) ++ (gl κ.S0 cI (b + 113) (σ.1 5) ++ (gl κ.S0 cI (b + 135) (σ.1 6) ++ (gl κ.S0 cI (b + 157) (σ.1 7) ++ ([.inr (2, [.ref (κ.S0 + (b + 180)), .int (σ.2.2 3)])] ++ ([.inl (cC, 60, .inl (σ.2.1))]))))))))))) : List va_E) 0 (by simp only [List.length_append, gl_len, List.length_cons, List.length_nil])
theorem yC_p0_3 (Y : YC κ h b cI cC cS') {σ : CS} : ∀ v, hset (κ.HP σ) (b + 0) (.inr (5, [.ref (κ.S0 + (b + 1)), .ref (κ.S0 + (b + 23)), .ref (κ.S0 + (b + 45)), .int (σ.2.2 0), .ref (κ.S0 + (b + 67)), .ref (κ.S0 + (b + 179))].set 3 (.int v))) = κ.HP (cN σ 0 v) := fun v => by
  rw [yC_e0 Y σ, yC_e0 Y (cN σ 0 v)]
  exact ov_one ([] : List va_E) _ _ (gl κ.S0 cI (b + 1) (σ.1 0) ++ (gl κ.S0 cI (b + 23) (σ.1 1) ++ (gl κ.S0 cI (b + 45) (σ.1 2) ++ ([.inr (1, [.ref (κ.S0 + (b + 68)), .int (σ.2.2 1), .int (σ.2.2 2)])] ++ ([.inl (cS', 5, .inr (.inr (.inr (.inr (fun j => if j < 5 then some (κ.S0 + (b + 69 + 22 * j)) else none)))))] ++ (gl κ.S0 cI (b + 69) (σ.1 3) ++ (gl κ.S0 cI (b + 91) (σ.1 4) ++ (gl κ.S0 cI (b + 113) (σ.1 5) ++ (gl κ.S0 cI (b + 135) (σ.1 6) ++ (gl κ.S0 cI (b + 157) (σ.1 7) ++ ([.inr (2, [.ref (κ.S0 + (b + 180)), .int (σ.2.2 3)])] ++ ([.inl (cC, 60, .inl (σ.2.1))]))))))))))) : List va_E) 0 (by simp only [List.length_append, gl_len, List.length_cons, List.length_nil])
theorem yC_e67 (Y : YC κ h b cI cC cS') (σ : CS) : κ.HP σ = ov h b (([.inr (5, [.ref (κ.S0 + (b + 1)), .ref (κ.S0 + (b + 23)), .ref (κ.S0 + (b + 45)), .int (σ.2.2 0), .ref (κ.S0 + (b + 67)), .ref (κ.S0 + (b + 179))])] ++ (gl κ.S0 cI (b + 1) (σ.1 0) ++ (gl κ.S0 cI (b + 23) (σ.1 1) ++ (gl κ.S0 cI (b + 45) (σ.1 2)))) : List va_E) ++ (.inr (1, [.ref (κ.S0 + (b + 68)), .int (σ.2.2 1), .int (σ.2.2 2)]) :: ([.inl (cS', 5, .inr (.inr (.inr (.inr (fun j => if j < 5 then some (κ.S0 + (b + 69 + 22 * j)) else none)))))] ++ (gl κ.S0 cI (b + 69) (σ.1 3) ++ (gl κ.S0 cI (b + 91) (σ.1 4) ++ (gl κ.S0 cI (b + 113) (σ.1 5) ++ (gl κ.S0 cI (b + 135) (σ.1 6) ++ (gl κ.S0 cI (b + 157) (σ.1 7) ++ ([.inr (2, [.ref (κ.S0 + (b + 180)), .int (σ.2.2 3)])] ++ ([.inl (cC, 60, .inl (σ.2.1))]))))))) : List va_E))) := by
  rw [Y.1 σ]
  simp only [cl, List.append_assoc, List.cons_append, List.nil_append, List.append_nil]
theorem yC_67 (Y : YC κ h b cI cC cS') {σ : CS} : κ.HP σ (b + 67) = .inr (1, [.ref (κ.S0 + (b + 68)), .int (σ.2.2 1), .int (σ.2.2 2)]) := by
  rw [yC_e67 Y σ]
  exact ov_get ([.inr (5, [.ref (κ.S0 + (b + 1)), .ref (κ.S0 + (b + 23)), .ref (κ.S0 + (b + 45)), .int (σ.2.2 0), .ref (κ.S0 + (b + 67)), .ref (κ.S0 + (b + 179))])] ++ (gl κ.S0 cI (b + 1) (σ.1 0) ++ (gl κ.S0 cI (b + 23) (σ.1 1) ++ (gl κ.S0 cI (b + 45) (σ.1 2)))) : List va_E) _ ([.inl (cS', 5, .inr (.inr (.inr (.inr (fun j => if j < 5 then some (κ.S0 + (b + 69 + 22 * j)) else none)))))] ++ (gl κ.S0 cI (b + 69) (σ.1 3) ++ (gl κ.S0 cI (b + 91) (σ.1 4) ++ (gl κ.S0 cI (b + 113) (σ.1 5) ++ (gl κ.S0 cI (b + 135) (σ.1 6) ++ (gl κ.S0 cI (b + 157) (σ.1 7) ++ ([.inr (2, [.ref (κ.S0 + (b + 180)), .int (σ.2.2 3)])] ++ ([.inl (cC, 60, .inl (σ.2.1))]))))))) : List va_E) 67 (by simp only [List.length_append, gl_len, List.length_cons, List.length_nil])
theorem yC_p67_1 (Y : YC κ h b cI cC cS') {σ : CS} : ∀ v, hset (κ.HP σ) (b + 67) (.inr (1, [.ref (κ.S0 + (b + 68)), .int (σ.2.2 1), .int (σ.2.2 2)].set 1 (.int v))) = κ.HP (cN σ 1 v) := fun v => by
  rw [yC_e67 Y σ, yC_e67 Y (cN σ 1 v)]
  exact ov_one ([.inr (5, [.ref (κ.S0 + (b + 1)), .ref (κ.S0 + (b + 23)), .ref (κ.S0 + (b + 45)), .int (σ.2.2 0), .ref (κ.S0 + (b + 67)), .ref (κ.S0 + (b + 179))])] ++ (gl κ.S0 cI (b + 1) (σ.1 0) ++ (gl κ.S0 cI (b + 23) (σ.1 1) ++ (gl κ.S0 cI (b + 45) (σ.1 2)))) : List va_E) _ _ ([.inl (cS', 5, .inr (.inr (.inr (.inr (fun j => if j < 5 then some (κ.S0 + (b + 69 + 22 * j)) else none)))))] ++ (gl κ.S0 cI (b + 69) (σ.1 3) ++ (gl κ.S0 cI (b + 91) (σ.1 4) ++ (gl κ.S0 cI (b + 113) (σ.1 5) ++ (gl κ.S0 cI (b + 135) (σ.1 6) ++ (gl κ.S0 cI (b + 157) (σ.1 7) ++ ([.inr (2, [.ref (κ.S0 + (b + 180)), .int (σ.2.2 3)])] ++ ([.inl (cC, 60, .inl (σ.2.1))]))))))) : List va_E) 67 (by simp only [List.length_append, gl_len, List.length_cons, List.length_nil])
theorem yC_p67_2 (Y : YC κ h b cI cC cS') {σ : CS} : ∀ v, hset (κ.HP σ) (b + 67) (.inr (1, [.ref (κ.S0 + (b + 68)), .int (σ.2.2 1), .int (σ.2.2 2)].set 2 (.int v))) = κ.HP (cN σ 2 v) := fun v => by
  rw [yC_e67 Y σ, yC_e67 Y (cN σ 2 v)]
  exact ov_one ([.inr (5, [.ref (κ.S0 + (b + 1)), .ref (κ.S0 + (b + 23)), .ref (κ.S0 + (b + 45)), .int (σ.2.2 0), .ref (κ.S0 + (b + 67)), .ref (κ.S0 + (b + 179))])] ++ (gl κ.S0 cI (b + 1) (σ.1 0) ++ (gl κ.S0 cI (b + 23) (σ.1 1) ++ (gl κ.S0 cI (b + 45) (σ.1 2)))) : List va_E) _ _ ([.inl (cS', 5, .inr (.inr (.inr (.inr (fun j => if j < 5 then some (κ.S0 + (b + 69 + 22 * j)) else none)))))] ++ (gl κ.S0 cI (b + 69) (σ.1 3) ++ (gl κ.S0 cI (b + 91) (σ.1 4) ++ (gl κ.S0 cI (b + 113) (σ.1 5) ++ (gl κ.S0 cI (b + 135) (σ.1 6) ++ (gl κ.S0 cI (b + 157) (σ.1 7) ++ ([.inr (2, [.ref (κ.S0 + (b + 180)), .int (σ.2.2 3)])] ++ ([.inl (cC, 60, .inl (σ.2.1))]))))))) : List va_E) 67 (by simp only [List.length_append, gl_len, List.length_cons, List.length_nil])
theorem yC_e68 (Y : YC κ h b cI cC cS') (σ : CS) : κ.HP σ = ov h b (([.inr (5, [.ref (κ.S0 + (b + 1)), .ref (κ.S0 + (b + 23)), .ref (κ.S0 + (b + 45)), .int (σ.2.2 0), .ref (κ.S0 + (b + 67)), .ref (κ.S0 + (b + 179))])] ++ (gl κ.S0 cI (b + 1) (σ.1 0) ++ (gl κ.S0 cI (b + 23) (σ.1 1) ++ (gl κ.S0 cI (b + 45) (σ.1 2) ++ ([.inr (1, [.ref (κ.S0 + (b + 68)), .int (σ.2.2 1), .int (σ.2.2 2)])])))) : List va_E) ++ (.inl (cS', 5, .inr (.inr (.inr (.inr (fun j => if j < 5 then some (κ.S0 + (b + 69 + 22 * j)) else none))))) :: (gl κ.S0 cI (b + 69) (σ.1 3) ++ (gl κ.S0 cI (b + 91) (σ.1 4) ++ (gl κ.S0 cI (b + 113) (σ.1 5) ++ (gl κ.S0 cI (b + 135) (σ.1 6) ++ (gl κ.S0 cI (b + 157) (σ.1 7) ++ ([.inr (2, [.ref (κ.S0 + (b + 180)), .int (σ.2.2 3)])] ++ ([.inl (cC, 60, .inl (σ.2.1))])))))) : List va_E))) := by
  rw [Y.1 σ]
  simp only [cl, List.append_assoc, List.cons_append, List.nil_append, List.append_nil]
theorem yC_68 (Y : YC κ h b cI cC cS') {σ : CS} : κ.HP σ (b + 68) = .inl (cS', 5, .inr (.inr (.inr (.inr (fun j => if j < 5 then some (κ.S0 + (b + 69 + 22 * j)) else none))))) := by
  rw [yC_e68 Y σ]
  exact ov_get ([.inr (5, [.ref (κ.S0 + (b + 1)), .ref (κ.S0 + (b + 23)), .ref (κ.S0 + (b + 45)), .int (σ.2.2 0), .ref (κ.S0 + (b + 67)), .ref (κ.S0 + (b + 179))])] ++ (gl κ.S0 cI (b + 1) (σ.1 0) ++ (gl κ.S0 cI (b + 23) (σ.1 1) ++ (gl κ.S0 cI (b + 45) (σ.1 2) ++ ([.inr (1, [.ref (κ.S0 + (b + 68)), .int (σ.2.2 1), .int (σ.2.2 2)])])))) : List va_E) _ (gl κ.S0 cI (b + 69) (σ.1 3) ++ (gl κ.S0 cI (b + 91) (σ.1 4) ++ (gl κ.S0 cI (b + 113) (σ.1 5) ++ (gl κ.S0 cI (b + 135) (σ.1 6) ++ (gl κ.S0 cI (b + 157) (σ.1 7) ++ ([.inr (2, [.ref (κ.S0 + (b + 180)), .int (σ.2.2 3)])] ++ ([.inl (cC, 60, .inl (σ.2.1))])))))) : List va_E) 68 (by simp only [List.length_append, gl_len, List.length_cons, List.length_nil])
theorem yC_e179 (Y : YC κ h b cI cC cS') (σ : CS) : κ.HP σ = ov h b (([.inr (5, [.ref (κ.S0 + (b + 1)), .ref (κ.S0 + (b + 23)), .ref (κ.S0 + (b + 45)), .int (σ.2.2 0), .ref (κ.S0 + (b + 67)), .ref (κ.S0 + (b + 179))])] ++ (gl κ.S0 cI (b + 1) (σ.1 0) ++ (gl κ.S0 cI (b + 23) (σ.1 1) ++ (gl κ.S0 cI (b + 45) (σ.1 2) ++ ([.inr (1, [.ref (κ.S0 + (b + 68)), .int (σ.2.2 1), .int (σ.2.2 2)])] ++ ([.inl (cS', 5, .inr (.inr (.inr (.inr (fun j => if j < 5 then some (κ.S0 + (b + 69 + 22 * j)) else none)))))] ++ (gl κ.S0 cI (b + 69) (σ.1 3) ++ (gl κ.S0 cI (b + 91) (σ.1 4) ++ (gl κ.S0 cI (b + 113) (σ.1 5) ++ (gl κ.S0 cI (b + 135) (σ.1 6) ++ (gl κ.S0 cI (b + 157) (σ.1 7))))))))))) : List va_E) ++ (.inr (2, [.ref (κ.S0 + (b + 180)), .int (σ.2.2 3)]) :: ([.inl (cC, 60, .inl (σ.2.1))] : List va_E))) := by
  rw [Y.1 σ]
  simp only [cl, List.append_assoc, List.cons_append, List.nil_append, List.append_nil]
theorem yC_179 (Y : YC κ h b cI cC cS') {σ : CS} : κ.HP σ (b + 179) = .inr (2, [.ref (κ.S0 + (b + 180)), .int (σ.2.2 3)]) := by
  rw [yC_e179 Y σ]
  exact ov_get ([.inr (5, [.ref (κ.S0 + (b + 1)), .ref (κ.S0 + (b + 23)), .ref (κ.S0 + (b + 45)), .int (σ.2.2 0), .ref (κ.S0 + (b + 67)), .ref (κ.S0 + (b + 179))])] ++ (gl κ.S0 cI (b + 1) (σ.1 0) ++ (gl κ.S0 cI (b + 23) (σ.1 1) ++ (gl κ.S0 cI (b + 45) (σ.1 2) ++ ([.inr (1, [.ref (κ.S0 + (b + 68)), .int (σ.2.2 1), .int (σ.2.2 2)])] ++ ([.inl (cS', 5, .inr (.inr (.inr (.inr (fun j => if j < 5 then some (κ.S0 + (b + 69 + 22 * j)) else none)))))] ++ (gl κ.S0 cI (b + 69) (σ.1 3) ++ (gl κ.S0 cI (b + 91) (σ.1 4) ++ (gl κ.S0 cI (b + 113) (σ.1 5) ++ (gl κ.S0 cI (b + 135) (σ.1 6) ++ (gl κ.S0 cI (b + 157) (σ.1 7))))))))))) : List va_E) _ ([.inl (cC, 60, .inl (σ.2.1))] : List va_E) 179 (by simp only [List.length_append, gl_len, List.length_cons, List.length_nil])
theorem yC_p179_1 (Y : YC κ h b cI cC cS') {σ : CS} : ∀ v, hset (κ.HP σ) (b + 179) (.inr (2, [.ref (κ.S0 + (b + 180)), .int (σ.2.2 3)].set 1 (.int v))) = κ.HP (cN σ 3 v) := fun v => by
  rw [yC_e179 Y σ, yC_e179 Y (cN σ 3 v)]
  exact ov_one ([.inr (5, [.ref (κ.S0 + (b + 1)), .ref (κ.S0 + (b + 23)), .ref (κ.S0 + (b + 45)), .int (σ.2.2 0), .ref (κ.S0 + (b + 67)), .ref (κ.S0 + (b + 179))])] ++ (gl κ.S0 cI (b + 1) (σ.1 0) ++ (gl κ.S0 cI (b + 23) (σ.1 1) ++ (gl κ.S0 cI (b + 45) (σ.1 2) ++ ([.inr (1, [.ref (κ.S0 + (b + 68)), .int (σ.2.2 1), .int (σ.2.2 2)])] ++ ([.inl (cS', 5, .inr (.inr (.inr (.inr (fun j => if j < 5 then some (κ.S0 + (b + 69 + 22 * j)) else none)))))] ++ (gl κ.S0 cI (b + 69) (σ.1 3) ++ (gl κ.S0 cI (b + 91) (σ.1 4) ++ (gl κ.S0 cI (b + 113) (σ.1 5) ++ (gl κ.S0 cI (b + 135) (σ.1 6) ++ (gl κ.S0 cI (b + 157) (σ.1 7))))))))))) : List va_E) _ _ ([.inl (cC, 60, .inl (σ.2.1))] : List va_E) 179 (by simp only [List.length_append, gl_len, List.length_cons, List.length_nil])
theorem yC_e180 (Y : YC κ h b cI cC cS') (σ : CS) : κ.HP σ = ov h b (([.inr (5, [.ref (κ.S0 + (b + 1)), .ref (κ.S0 + (b + 23)), .ref (κ.S0 + (b + 45)), .int (σ.2.2 0), .ref (κ.S0 + (b + 67)), .ref (κ.S0 + (b + 179))])] ++ (gl κ.S0 cI (b + 1) (σ.1 0) ++ (gl κ.S0 cI (b + 23) (σ.1 1) ++ (gl κ.S0 cI (b + 45) (σ.1 2) ++ ([.inr (1, [.ref (κ.S0 + (b + 68)), .int (σ.2.2 1), .int (σ.2.2 2)])] ++ ([.inl (cS', 5, .inr (.inr (.inr (.inr (fun j => if j < 5 then some (κ.S0 + (b + 69 + 22 * j)) else none)))))] ++ (gl κ.S0 cI (b + 69) (σ.1 3) ++ (gl κ.S0 cI (b + 91) (σ.1 4) ++ (gl κ.S0 cI (b + 113) (σ.1 5) ++ (gl κ.S0 cI (b + 135) (σ.1 6) ++ (gl κ.S0 cI (b + 157) (σ.1 7) ++ ([.inr (2, [.ref (κ.S0 + (b + 180)), .int (σ.2.2 3)])]))))))))))) : List va_E) ++ (.inl (cC, 60, .inl (σ.2.1)) :: ([] : List va_E))) := by
  rw [Y.1 σ]
  simp only [cl, List.append_assoc, List.cons_append, List.nil_append, List.append_nil]
theorem yC_180 (Y : YC κ h b cI cC cS') {σ : CS} : κ.HP σ (b + 180) = .inl (cC, 60, .inl (σ.2.1)) := by
  rw [yC_e180 Y σ]
  exact ov_get ([.inr (5, [.ref (κ.S0 + (b + 1)), .ref (κ.S0 + (b + 23)), .ref (κ.S0 + (b + 45)), .int (σ.2.2 0), .ref (κ.S0 + (b + 67)), .ref (κ.S0 + (b + 179))])] ++ (gl κ.S0 cI (b + 1) (σ.1 0) ++ (gl κ.S0 cI (b + 23) (σ.1 1) ++ (gl κ.S0 cI (b + 45) (σ.1 2) ++ ([.inr (1, [.ref (κ.S0 + (b + 68)), .int (σ.2.2 1), .int (σ.2.2 2)])] ++ ([.inl (cS', 5, .inr (.inr (.inr (.inr (fun j => if j < 5 then some (κ.S0 + (b + 69 + 22 * j)) else none)))))] ++ (gl κ.S0 cI (b + 69) (σ.1 3) ++ (gl κ.S0 cI (b + 91) (σ.1 4) ++ (gl κ.S0 cI (b + 113) (σ.1 5) ++ (gl κ.S0 cI (b + 135) (σ.1 6) ++ (gl κ.S0 cI (b + 157) (σ.1 7) ++ ([.inr (2, [.ref (κ.S0 + (b + 180)), .int (σ.2.2 3)])]))))))))))) : List va_E) _ ([] : List va_E) 180 (by simp only [List.length_append, gl_len, List.length_cons, List.length_nil])
theorem yC_s180 (Y : YC κ h b cI cC cS') {σ : CS} : ∀ f, hset (κ.HP σ) (b + 180) (.inl (cC, 60, .inl f)) = κ.HP (cT σ f) := fun f => by
  rw [yC_e180 Y σ, yC_e180 Y (cT σ f)]
  exact ov_one ([.inr (5, [.ref (κ.S0 + (b + 1)), .ref (κ.S0 + (b + 23)), .ref (κ.S0 + (b + 45)), .int (σ.2.2 0), .ref (κ.S0 + (b + 67)), .ref (κ.S0 + (b + 179))])] ++ (gl κ.S0 cI (b + 1) (σ.1 0) ++ (gl κ.S0 cI (b + 23) (σ.1 1) ++ (gl κ.S0 cI (b + 45) (σ.1 2) ++ ([.inr (1, [.ref (κ.S0 + (b + 68)), .int (σ.2.2 1), .int (σ.2.2 2)])] ++ ([.inl (cS', 5, .inr (.inr (.inr (.inr (fun j => if j < 5 then some (κ.S0 + (b + 69 + 22 * j)) else none)))))] ++ (gl κ.S0 cI (b + 69) (σ.1 3) ++ (gl κ.S0 cI (b + 91) (σ.1 4) ++ (gl κ.S0 cI (b + 113) (σ.1 5) ++ (gl κ.S0 cI (b + 135) (σ.1 6) ++ (gl κ.S0 cI (b + 157) (σ.1 7) ++ ([.inr (2, [.ref (κ.S0 + (b + 180)), .int (σ.2.2 3)])]))))))))))) : List va_E) _ _ ([] : List va_E) 180 (by simp only [List.length_append, gl_len, List.length_cons, List.length_nil])
theorem yC_f0 (Y : YC κ h b cI cC cS') (σ : CS) : κ.HP σ = ov h b (([.inr (5, [.ref (κ.S0 + (b + 1)), .ref (κ.S0 + (b + 23)), .ref (κ.S0 + (b + 45)), .int (σ.2.2 0), .ref (κ.S0 + (b + 67)), .ref (κ.S0 + (b + 179))])] : List va_E) ++ (gl κ.S0 cI (b + 1) (σ.1 0) ++ (gl κ.S0 cI (b + 23) (σ.1 1) ++ (gl κ.S0 cI (b + 45) (σ.1 2) ++ ([.inr (1, [.ref (κ.S0 + (b + 68)), .int (σ.2.2 1), .int (σ.2.2 2)])] ++ ([.inl (cS', 5, .inr (.inr (.inr (.inr (fun j => if j < 5 then some (κ.S0 + (b + 69 + 22 * j)) else none)))))] ++ (gl κ.S0 cI (b + 69) (σ.1 3) ++ (gl κ.S0 cI (b + 91) (σ.1 4) ++ (gl κ.S0 cI (b + 113) (σ.1 5) ++ (gl κ.S0 cI (b + 135) (σ.1 6) ++ (gl κ.S0 cI (b + 157) (σ.1 7) ++ ([.inr (2, [.ref (κ.S0 + (b + 180)), .int (σ.2.2 3)])] ++ ([.inl (cC, 60, .inl (σ.2.1))])))))))))) : List va_E))) := by
  rw [Y.1 σ]
  simp only [cl, List.append_assoc, List.cons_append, List.nil_append, List.append_nil]
theorem yC_g0 (Y : YC κ h b cI cC cS') (σ : CS) : κ.HP σ = ov (κ.HP σ) (b + 1) (gl κ.S0 cI (b + 1) (σ.1 0)) := by
  rw [yC_f0 Y σ]
  have e := ov_self (h := h) (b := b) ([.inr (5, [.ref (κ.S0 + (b + 1)), .ref (κ.S0 + (b + 23)), .ref (κ.S0 + (b + 45)), .int (σ.2.2 0), .ref (κ.S0 + (b + 67)), .ref (κ.S0 + (b + 179))])] : List va_E) (gl κ.S0 cI (b + 1) (σ.1 0)) (gl κ.S0 cI (b + 23) (σ.1 1) ++ (gl κ.S0 cI (b + 45) (σ.1 2) ++ ([.inr (1, [.ref (κ.S0 + (b + 68)), .int (σ.2.2 1), .int (σ.2.2 2)])] ++ ([.inl (cS', 5, .inr (.inr (.inr (.inr (fun j => if j < 5 then some (κ.S0 + (b + 69 + 22 * j)) else none)))))] ++ (gl κ.S0 cI (b + 69) (σ.1 3) ++ (gl κ.S0 cI (b + 91) (σ.1 4) ++ (gl κ.S0 cI (b + 113) (σ.1 5) ++ (gl κ.S0 cI (b + 135) (σ.1 6) ++ (gl κ.S0 cI (b + 157) (σ.1 7) ++ ([.inr (2, [.ref (κ.S0 + (b + 180)), .int (σ.2.2 3)])] ++ ([.inl (cC, 60, .inl (σ.2.1))])))))))))) : List va_E)
  have hn : (([.inr (5, [.ref (κ.S0 + (b + 1)), .ref (κ.S0 + (b + 23)), .ref (κ.S0 + (b + 45)), .int (σ.2.2 0), .ref (κ.S0 + (b + 67)), .ref (κ.S0 + (b + 179))])] : List va_E)).length = 1 := by simp only [List.length_append, gl_len, List.length_cons, List.length_nil]
  rw [hn] at e
  exact e
theorem yC_G0 (Y : YC κ h b cI cC cS') (σ : CS) (t : SS) : κ.HP (cS σ 0 t) = ov (κ.HP σ) (b + 1) (gl κ.S0 cI (b + 1) t) := by
  rw [yC_f0 Y σ, yC_f0 Y (cS σ 0 t)]
  have e := ov_part (h := h) (b := b) ([.inr (5, [.ref (κ.S0 + (b + 1)), .ref (κ.S0 + (b + 23)), .ref (κ.S0 + (b + 45)), .int (σ.2.2 0), .ref (κ.S0 + (b + 67)), .ref (κ.S0 + (b + 179))])] : List va_E) (gl κ.S0 cI (b + 1) (σ.1 0)) (gl κ.S0 cI (b + 23) (σ.1 1) ++ (gl κ.S0 cI (b + 45) (σ.1 2) ++ ([.inr (1, [.ref (κ.S0 + (b + 68)), .int (σ.2.2 1), .int (σ.2.2 2)])] ++ ([.inl (cS', 5, .inr (.inr (.inr (.inr (fun j => if j < 5 then some (κ.S0 + (b + 69 + 22 * j)) else none)))))] ++ (gl κ.S0 cI (b + 69) (σ.1 3) ++ (gl κ.S0 cI (b + 91) (σ.1 4) ++ (gl κ.S0 cI (b + 113) (σ.1 5) ++ (gl κ.S0 cI (b + 135) (σ.1 6) ++ (gl κ.S0 cI (b + 157) (σ.1 7) ++ ([.inr (2, [.ref (κ.S0 + (b + 180)), .int (σ.2.2 3)])] ++ ([.inl (cC, 60, .inl (σ.2.1))])))))))))) : List va_E) (gl κ.S0 cI (b + 1) t) rfl
  have hn : (([.inr (5, [.ref (κ.S0 + (b + 1)), .ref (κ.S0 + (b + 23)), .ref (κ.S0 + (b + 45)), .int (σ.2.2 0), .ref (κ.S0 + (b + 67)), .ref (κ.S0 + (b + 179))])] : List va_E)).length = 1 := by simp only [List.length_append, gl_len, List.length_cons, List.length_nil]
  rw [hn] at e
  exact e.symm
theorem yC_b0 (Y : YC κ h b cI cC cS') (σ : CS) : b + 1 + 22 ≤ κ.HC σ := Nat.le_trans (by omega) (Y.2.1 σ)
theorem yC_l0 (Y : YC κ h b cI cC cS') {σ : CS} (m : Nat) (hm : m < 22) : b + 1 + m < κ.HC σ := by have := Y.2.1 σ; omega
theorem yC_g0_0 (Y : YC κ h b cI cC cS') {σ : CS} : κ.HP σ (b + 1 + 0) = .inr (3, [.ref (κ.S0 + (b + 1 + 1)), .ref (κ.S0 + (b + 1 + 12)), .ref (κ.S0 + (b + 1 + 19)), .ref (κ.S0 + (b + 1 + 20)), .ref (κ.S0 + (b + 1 + 21)), .int ((σ.1 0).2 8), .int ((σ.1 0).2 9), .int ((σ.1 0).2 10)]) := by
  rw [yC_g0 Y σ]
  exact ov_at 0 rfl
theorem yC_g0_1 (Y : YC κ h b cI cC cS') {σ : CS} : κ.HP σ (b + 1 + 1) = .inr (0, [.ref (κ.S0 + (b + 1 + 2)), .ref (κ.S0 + (b + 1 + 3)), .ref (κ.S0 + (b + 1 + 4)), .ref (κ.S0 + (b + 1 + 5)), .ref (κ.S0 + (b + 1 + 6)), .ref (κ.S0 + (b + 1 + 7)), .ref (κ.S0 + (b + 1 + 8)), .ref (κ.S0 + (b + 1 + 9)), .int ((σ.1 0).2 0), .ref (κ.S0 + (b + 1 + 10)), .int ((σ.1 0).2 1), .ref (κ.S0 + (b + 1 + 11)), .int ((σ.1 0).2 2)]) := by
  rw [yC_g0 Y σ]
  exact ov_at 1 rfl
theorem yC_g0_6 (Y : YC κ h b cI cC cS') {σ : CS} : κ.HP σ (b + 1 + 6) = .inl (cI, 201, .inl ((σ.1 0).1 6)) := by
  rw [yC_g0 Y σ]
  exact ov_at 6 rfl
theorem yC_g0_12 (Y : YC κ h b cI cC cS') {σ : CS} : κ.HP σ (b + 1 + 12) = .inr (4, [.ref (κ.S0 + (b + 1 + 13)), .ref (κ.S0 + (b + 1 + 14)), .ref (κ.S0 + (b + 1 + 15)), .ref (κ.S0 + (b + 1 + 16)), .ref (κ.S0 + (b + 1 + 17)), .ref (κ.S0 + (b + 1 + 18)), .int ((σ.1 0).2 3), .int ((σ.1 0).2 4), .int ((σ.1 0).2 5), .int ((σ.1 0).2 6), .int ((σ.1 0).2 7)]) := by
  rw [yC_g0 Y σ]
  exact ov_at 12 rfl
theorem yC_f1 (Y : YC κ h b cI cC cS') (σ : CS) : κ.HP σ = ov h b (([.inr (5, [.ref (κ.S0 + (b + 1)), .ref (κ.S0 + (b + 23)), .ref (κ.S0 + (b + 45)), .int (σ.2.2 0), .ref (κ.S0 + (b + 67)), .ref (κ.S0 + (b + 179))])] ++ (gl κ.S0 cI (b + 1) (σ.1 0)) : List va_E) ++ (gl κ.S0 cI (b + 23) (σ.1 1) ++ (gl κ.S0 cI (b + 45) (σ.1 2) ++ ([.inr (1, [.ref (κ.S0 + (b + 68)), .int (σ.2.2 1), .int (σ.2.2 2)])] ++ ([.inl (cS', 5, .inr (.inr (.inr (.inr (fun j => if j < 5 then some (κ.S0 + (b + 69 + 22 * j)) else none)))))] ++ (gl κ.S0 cI (b + 69) (σ.1 3) ++ (gl κ.S0 cI (b + 91) (σ.1 4) ++ (gl κ.S0 cI (b + 113) (σ.1 5) ++ (gl κ.S0 cI (b + 135) (σ.1 6) ++ (gl κ.S0 cI (b + 157) (σ.1 7) ++ ([.inr (2, [.ref (κ.S0 + (b + 180)), .int (σ.2.2 3)])] ++ ([.inl (cC, 60, .inl (σ.2.1))]))))))))) : List va_E))) := by
  rw [Y.1 σ]
  simp only [cl, List.append_assoc, List.cons_append, List.nil_append, List.append_nil]
theorem yC_g1 (Y : YC κ h b cI cC cS') (σ : CS) : κ.HP σ = ov (κ.HP σ) (b + 23) (gl κ.S0 cI (b + 23) (σ.1 1)) := by
  rw [yC_f1 Y σ]
  have e := ov_self (h := h) (b := b) ([.inr (5, [.ref (κ.S0 + (b + 1)), .ref (κ.S0 + (b + 23)), .ref (κ.S0 + (b + 45)), .int (σ.2.2 0), .ref (κ.S0 + (b + 67)), .ref (κ.S0 + (b + 179))])] ++ (gl κ.S0 cI (b + 1) (σ.1 0)) : List va_E) (gl κ.S0 cI (b + 23) (σ.1 1)) (gl κ.S0 cI (b + 45) (σ.1 2) ++ ([.inr (1, [.ref (κ.S0 + (b + 68)), .int (σ.2.2 1), .int (σ.2.2 2)])] ++ ([.inl (cS', 5, .inr (.inr (.inr (.inr (fun j => if j < 5 then some (κ.S0 + (b + 69 + 22 * j)) else none)))))] ++ (gl κ.S0 cI (b + 69) (σ.1 3) ++ (gl κ.S0 cI (b + 91) (σ.1 4) ++ (gl κ.S0 cI (b + 113) (σ.1 5) ++ (gl κ.S0 cI (b + 135) (σ.1 6) ++ (gl κ.S0 cI (b + 157) (σ.1 7) ++ ([.inr (2, [.ref (κ.S0 + (b + 180)), .int (σ.2.2 3)])] ++ ([.inl (cC, 60, .inl (σ.2.1))]))))))))) : List va_E)
  have hn : (([.inr (5, [.ref (κ.S0 + (b + 1)), .ref (κ.S0 + (b + 23)), .ref (κ.S0 + (b + 45)), .int (σ.2.2 0), .ref (κ.S0 + (b + 67)), .ref (κ.S0 + (b + 179))])] ++ (gl κ.S0 cI (b + 1) (σ.1 0)) : List va_E)).length = 23 := by simp only [List.length_append, gl_len, List.length_cons, List.length_nil]
  rw [hn] at e
  exact e
theorem yC_G1 (Y : YC κ h b cI cC cS') (σ : CS) (t : SS) : κ.HP (cS σ 1 t) = ov (κ.HP σ) (b + 23) (gl κ.S0 cI (b + 23) t) := by
  rw [yC_f1 Y σ, yC_f1 Y (cS σ 1 t)]
  have e := ov_part (h := h) (b := b) ([.inr (5, [.ref (κ.S0 + (b + 1)), .ref (κ.S0 + (b + 23)), .ref (κ.S0 + (b + 45)), .int (σ.2.2 0), .ref (κ.S0 + (b + 67)), .ref (κ.S0 + (b + 179))])] ++ (gl κ.S0 cI (b + 1) (σ.1 0)) : List va_E) (gl κ.S0 cI (b + 23) (σ.1 1)) (gl κ.S0 cI (b + 45) (σ.1 2) ++ ([.inr (1, [.ref (κ.S0 + (b + 68)), .int (σ.2.2 1), .int (σ.2.2 2)])] ++ ([.inl (cS', 5, .inr (.inr (.inr (.inr (fun j => if j < 5 then some (κ.S0 + (b + 69 + 22 * j)) else none)))))] ++ (gl κ.S0 cI (b + 69) (σ.1 3) ++ (gl κ.S0 cI (b + 91) (σ.1 4) ++ (gl κ.S0 cI (b + 113) (σ.1 5) ++ (gl κ.S0 cI (b + 135) (σ.1 6) ++ (gl κ.S0 cI (b + 157) (σ.1 7) ++ ([.inr (2, [.ref (κ.S0 + (b + 180)), .int (σ.2.2 3)])] ++ ([.inl (cC, 60, .inl (σ.2.1))]))))))))) : List va_E) (gl κ.S0 cI (b + 23) t) rfl
  have hn : (([.inr (5, [.ref (κ.S0 + (b + 1)), .ref (κ.S0 + (b + 23)), .ref (κ.S0 + (b + 45)), .int (σ.2.2 0), .ref (κ.S0 + (b + 67)), .ref (κ.S0 + (b + 179))])] ++ (gl κ.S0 cI (b + 1) (σ.1 0)) : List va_E)).length = 23 := by simp only [List.length_append, gl_len, List.length_cons, List.length_nil]
  rw [hn] at e
  exact e.symm
theorem yC_b1 (Y : YC κ h b cI cC cS') (σ : CS) : b + 23 + 22 ≤ κ.HC σ := Nat.le_trans (by omega) (Y.2.1 σ)
theorem yC_l1 (Y : YC κ h b cI cC cS') {σ : CS} (m : Nat) (hm : m < 22) : b + 23 + m < κ.HC σ := by have := Y.2.1 σ; omega
theorem yC_g1_0 (Y : YC κ h b cI cC cS') {σ : CS} : κ.HP σ (b + 23 + 0) = .inr (3, [.ref (κ.S0 + (b + 23 + 1)), .ref (κ.S0 + (b + 23 + 12)), .ref (κ.S0 + (b + 23 + 19)), .ref (κ.S0 + (b + 23 + 20)), .ref (κ.S0 + (b + 23 + 21)), .int ((σ.1 1).2 8), .int ((σ.1 1).2 9), .int ((σ.1 1).2 10)]) := by
  rw [yC_g1 Y σ]
  exact ov_at 0 rfl
theorem yC_g1_1 (Y : YC κ h b cI cC cS') {σ : CS} : κ.HP σ (b + 23 + 1) = .inr (0, [.ref (κ.S0 + (b + 23 + 2)), .ref (κ.S0 + (b + 23 + 3)), .ref (κ.S0 + (b + 23 + 4)), .ref (κ.S0 + (b + 23 + 5)), .ref (κ.S0 + (b + 23 + 6)), .ref (κ.S0 + (b + 23 + 7)), .ref (κ.S0 + (b + 23 + 8)), .ref (κ.S0 + (b + 23 + 9)), .int ((σ.1 1).2 0), .ref (κ.S0 + (b + 23 + 10)), .int ((σ.1 1).2 1), .ref (κ.S0 + (b + 23 + 11)), .int ((σ.1 1).2 2)]) := by
  rw [yC_g1 Y σ]
  exact ov_at 1 rfl
theorem yC_g1_6 (Y : YC κ h b cI cC cS') {σ : CS} : κ.HP σ (b + 23 + 6) = .inl (cI, 201, .inl ((σ.1 1).1 6)) := by
  rw [yC_g1 Y σ]
  exact ov_at 6 rfl
theorem yC_g1_12 (Y : YC κ h b cI cC cS') {σ : CS} : κ.HP σ (b + 23 + 12) = .inr (4, [.ref (κ.S0 + (b + 23 + 13)), .ref (κ.S0 + (b + 23 + 14)), .ref (κ.S0 + (b + 23 + 15)), .ref (κ.S0 + (b + 23 + 16)), .ref (κ.S0 + (b + 23 + 17)), .ref (κ.S0 + (b + 23 + 18)), .int ((σ.1 1).2 3), .int ((σ.1 1).2 4), .int ((σ.1 1).2 5), .int ((σ.1 1).2 6), .int ((σ.1 1).2 7)]) := by
  rw [yC_g1 Y σ]
  exact ov_at 12 rfl
theorem yC_f2 (Y : YC κ h b cI cC cS') (σ : CS) : κ.HP σ = ov h b (([.inr (5, [.ref (κ.S0 + (b + 1)), .ref (κ.S0 + (b + 23)), .ref (κ.S0 + (b + 45)), .int (σ.2.2 0), .ref (κ.S0 + (b + 67)), .ref (κ.S0 + (b + 179))])] ++ (gl κ.S0 cI (b + 1) (σ.1 0) ++ (gl κ.S0 cI (b + 23) (σ.1 1))) : List va_E) ++ (gl κ.S0 cI (b + 45) (σ.1 2) ++ ([.inr (1, [.ref (κ.S0 + (b + 68)), .int (σ.2.2 1), .int (σ.2.2 2)])] ++ ([.inl (cS', 5, .inr (.inr (.inr (.inr (fun j => if j < 5 then some (κ.S0 + (b + 69 + 22 * j)) else none)))))] ++ (gl κ.S0 cI (b + 69) (σ.1 3) ++ (gl κ.S0 cI (b + 91) (σ.1 4) ++ (gl κ.S0 cI (b + 113) (σ.1 5) ++ (gl κ.S0 cI (b + 135) (σ.1 6) ++ (gl κ.S0 cI (b + 157) (σ.1 7) ++ ([.inr (2, [.ref (κ.S0 + (b + 180)), .int (σ.2.2 3)])] ++ ([.inl (cC, 60, .inl (σ.2.1))])))))))) : List va_E))) := by
  rw [Y.1 σ]
  simp only [cl, List.append_assoc, List.cons_append, List.nil_append, List.append_nil]
theorem yC_g2 (Y : YC κ h b cI cC cS') (σ : CS) : κ.HP σ = ov (κ.HP σ) (b + 45) (gl κ.S0 cI (b + 45) (σ.1 2)) := by
  rw [yC_f2 Y σ]
  have e := ov_self (h := h) (b := b) ([.inr (5, [.ref (κ.S0 + (b + 1)), .ref (κ.S0 + (b + 23)), .ref (κ.S0 + (b + 45)), .int (σ.2.2 0), .ref (κ.S0 + (b + 67)), .ref (κ.S0 + (b + 179))])] ++ (gl κ.S0 cI (b + 1) (σ.1 0) ++ (gl κ.S0 cI (b + 23) (σ.1 1))) : List va_E) (gl κ.S0 cI (b + 45) (σ.1 2)) ([.inr (1, [.ref (κ.S0 + (b + 68)), .int (σ.2.2 1), .int (σ.2.2 2)])] ++ ([.inl (cS', 5, .inr (.inr (.inr (.inr (fun j => if j < 5 then some (κ.S0 + (b + 69 + 22 * j)) else none)))))] ++ (gl κ.S0 cI (b + 69) (σ.1 3) ++ (gl κ.S0 cI (b + 91) (σ.1 4) ++ (gl κ.S0 cI (b + 113) (σ.1 5) ++ (gl κ.S0 cI (b + 135) (σ.1 6) ++ (gl κ.S0 cI (b + 157) (σ.1 7) ++ ([.inr (2, [.ref (κ.S0 + (b + 180)), .int (σ.2.2 3)])] ++ ([.inl (cC, 60, .inl (σ.2.1))])))))))) : List va_E)
  have hn : (([.inr (5, [.ref (κ.S0 + (b + 1)), .ref (κ.S0 + (b + 23)), .ref (κ.S0 + (b + 45)), .int (σ.2.2 0), .ref (κ.S0 + (b + 67)), .ref (κ.S0 + (b + 179))])] ++ (gl κ.S0 cI (b + 1) (σ.1 0) ++ (gl κ.S0 cI (b + 23) (σ.1 1))) : List va_E)).length = 45 := by simp only [List.length_append, gl_len, List.length_cons, List.length_nil]
  rw [hn] at e
  exact e
theorem yC_G2 (Y : YC κ h b cI cC cS') (σ : CS) (t : SS) : κ.HP (cS σ 2 t) = ov (κ.HP σ) (b + 45) (gl κ.S0 cI (b + 45) t) := by
  rw [yC_f2 Y σ, yC_f2 Y (cS σ 2 t)]
  have e := ov_part (h := h) (b := b) ([.inr (5, [.ref (κ.S0 + (b + 1)), .ref (κ.S0 + (b + 23)), .ref (κ.S0 + (b + 45)), .int (σ.2.2 0), .ref (κ.S0 + (b + 67)), .ref (κ.S0 + (b + 179))])] ++ (gl κ.S0 cI (b + 1) (σ.1 0) ++ (gl κ.S0 cI (b + 23) (σ.1 1))) : List va_E) (gl κ.S0 cI (b + 45) (σ.1 2)) ([.inr (1, [.ref (κ.S0 + (b + 68)), .int (σ.2.2 1), .int (σ.2.2 2)])] ++ ([.inl (cS', 5, .inr (.inr (.inr (.inr (fun j => if j < 5 then some (κ.S0 + (b + 69 + 22 * j)) else none)))))] ++ (gl κ.S0 cI (b + 69) (σ.1 3) ++ (gl κ.S0 cI (b + 91) (σ.1 4) ++ (gl κ.S0 cI (b + 113) (σ.1 5) ++ (gl κ.S0 cI (b + 135) (σ.1 6) ++ (gl κ.S0 cI (b + 157) (σ.1 7) ++ ([.inr (2, [.ref (κ.S0 + (b + 180)), .int (σ.2.2 3)])] ++ ([.inl (cC, 60, .inl (σ.2.1))])))))))) : List va_E) (gl κ.S0 cI (b + 45) t) rfl
  have hn : (([.inr (5, [.ref (κ.S0 + (b + 1)), .ref (κ.S0 + (b + 23)), .ref (κ.S0 + (b + 45)), .int (σ.2.2 0), .ref (κ.S0 + (b + 67)), .ref (κ.S0 + (b + 179))])] ++ (gl κ.S0 cI (b + 1) (σ.1 0) ++ (gl κ.S0 cI (b + 23) (σ.1 1))) : List va_E)).length = 45 := by simp only [List.length_append, gl_len, List.length_cons, List.length_nil]
  rw [hn] at e
  exact e.symm
theorem yC_b2 (Y : YC κ h b cI cC cS') (σ : CS) : b + 45 + 22 ≤ κ.HC σ := Nat.le_trans (by omega) (Y.2.1 σ)
theorem yC_l2 (Y : YC κ h b cI cC cS') {σ : CS} (m : Nat) (hm : m < 22) : b + 45 + m < κ.HC σ := by have := Y.2.1 σ; omega
theorem yC_g2_0 (Y : YC κ h b cI cC cS') {σ : CS} : κ.HP σ (b + 45 + 0) = .inr (3, [.ref (κ.S0 + (b + 45 + 1)), .ref (κ.S0 + (b + 45 + 12)), .ref (κ.S0 + (b + 45 + 19)), .ref (κ.S0 + (b + 45 + 20)), .ref (κ.S0 + (b + 45 + 21)), .int ((σ.1 2).2 8), .int ((σ.1 2).2 9), .int ((σ.1 2).2 10)]) := by
  rw [yC_g2 Y σ]
  exact ov_at 0 rfl
theorem yC_g2_1 (Y : YC κ h b cI cC cS') {σ : CS} : κ.HP σ (b + 45 + 1) = .inr (0, [.ref (κ.S0 + (b + 45 + 2)), .ref (κ.S0 + (b + 45 + 3)), .ref (κ.S0 + (b + 45 + 4)), .ref (κ.S0 + (b + 45 + 5)), .ref (κ.S0 + (b + 45 + 6)), .ref (κ.S0 + (b + 45 + 7)), .ref (κ.S0 + (b + 45 + 8)), .ref (κ.S0 + (b + 45 + 9)), .int ((σ.1 2).2 0), .ref (κ.S0 + (b + 45 + 10)), .int ((σ.1 2).2 1), .ref (κ.S0 + (b + 45 + 11)), .int ((σ.1 2).2 2)]) := by
  rw [yC_g2 Y σ]
  exact ov_at 1 rfl
theorem yC_g2_6 (Y : YC κ h b cI cC cS') {σ : CS} : κ.HP σ (b + 45 + 6) = .inl (cI, 201, .inl ((σ.1 2).1 6)) := by
  rw [yC_g2 Y σ]
  exact ov_at 6 rfl
theorem yC_g2_12 (Y : YC κ h b cI cC cS') {σ : CS} : κ.HP σ (b + 45 + 12) = .inr (4, [.ref (κ.S0 + (b + 45 + 13)), .ref (κ.S0 + (b + 45 + 14)), .ref (κ.S0 + (b + 45 + 15)), .ref (κ.S0 + (b + 45 + 16)), .ref (κ.S0 + (b + 45 + 17)), .ref (κ.S0 + (b + 45 + 18)), .int ((σ.1 2).2 3), .int ((σ.1 2).2 4), .int ((σ.1 2).2 5), .int ((σ.1 2).2 6), .int ((σ.1 2).2 7)]) := by
  rw [yC_g2 Y σ]
  exact ov_at 12 rfl
theorem yC_f3 (Y : YC κ h b cI cC cS') (σ : CS) : κ.HP σ = ov h b (([.inr (5, [.ref (κ.S0 + (b + 1)), .ref (κ.S0 + (b + 23)), .ref (κ.S0 + (b + 45)), .int (σ.2.2 0), .ref (κ.S0 + (b + 67)), .ref (κ.S0 + (b + 179))])] ++ (gl κ.S0 cI (b + 1) (σ.1 0) ++ (gl κ.S0 cI (b + 23) (σ.1 1) ++ (gl κ.S0 cI (b + 45) (σ.1 2) ++ ([.inr (1, [.ref (κ.S0 + (b + 68)), .int (σ.2.2 1), .int (σ.2.2 2)])] ++ ([.inl (cS', 5, .inr (.inr (.inr (.inr (fun j => if j < 5 then some (κ.S0 + (b + 69 + 22 * j)) else none)))))]))))) : List va_E) ++ (gl κ.S0 cI (b + 69) (σ.1 3) ++ (gl κ.S0 cI (b + 91) (σ.1 4) ++ (gl κ.S0 cI (b + 113) (σ.1 5) ++ (gl κ.S0 cI (b + 135) (σ.1 6) ++ (gl κ.S0 cI (b + 157) (σ.1 7) ++ ([.inr (2, [.ref (κ.S0 + (b + 180)), .int (σ.2.2 3)])] ++ ([.inl (cC, 60, .inl (σ.2.1))]))))) : List va_E))) := by
  rw [Y.1 σ]
  simp only [cl, List.append_assoc, List.cons_append, List.nil_append, List.append_nil]
theorem yC_g3 (Y : YC κ h b cI cC cS') (σ : CS) : κ.HP σ = ov (κ.HP σ) (b + 69) (gl κ.S0 cI (b + 69) (σ.1 3)) := by
  rw [yC_f3 Y σ]
  have e := ov_self (h := h) (b := b) ([.inr (5, [.ref (κ.S0 + (b + 1)), .ref (κ.S0 + (b + 23)), .ref (κ.S0 + (b + 45)), .int (σ.2.2 0), .ref (κ.S0 + (b + 67)), .ref (κ.S0 + (b + 179))])] ++ (gl κ.S0 cI (b + 1) (σ.1 0) ++ (gl κ.S0 cI (b + 23) (σ.1 1) ++ (gl κ.S0 cI (b + 45) (σ.1 2) ++ ([.inr (1, [.ref (κ.S0 + (b + 68)), .int (σ.2.2 1), .int (σ.2.2 2)])] ++ ([.inl (cS', 5, .inr (.inr (.inr (.inr (fun j => if j < 5 then some (κ.S0 + (b + 69 + 22 * j)) else none)))))]))))) : List va_E) (gl κ.S0 cI (b + 69) (σ.1 3)) (gl κ.S0 cI (b + 91) (σ.1 4) ++ (gl κ.S0 cI (b + 113) (σ.1 5) ++ (gl κ.S0 cI (b + 135) (σ.1 6) ++ (gl κ.S0 cI (b + 157) (σ.1 7) ++ ([.inr (2, [.ref (κ.S0 + (b + 180)), .int (σ.2.2 3)])] ++ ([.inl (cC, 60, .inl (σ.2.1))]))))) : List va_E)
  have hn : (([.inr (5, [.ref (κ.S0 + (b + 1)), .ref (κ.S0 + (b + 23)), .ref (κ.S0 + (b + 45)), .int (σ.2.2 0), .ref (κ.S0 + (b + 67)), .ref (κ.S0 + (b + 179))])] ++ (gl κ.S0 cI (b + 1) (σ.1 0) ++ (gl κ.S0 cI (b + 23) (σ.1 1) ++ (gl κ.S0 cI (b + 45) (σ.1 2) ++ ([.inr (1, [.ref (κ.S0 + (b + 68)), .int (σ.2.2 1), .int (σ.2.2 2)])] ++ ([.inl (cS', 5, .inr (.inr (.inr (.inr (fun j => if j < 5 then some (κ.S0 + (b + 69 + 22 * j)) else none)))))]))))) : List va_E)).length = 69 := by simp only [List.length_append, gl_len, List.length_cons, List.length_nil]
  rw [hn] at e
  exact e
theorem yC_G3 (Y : YC κ h b cI cC cS') (σ : CS) (t : SS) : κ.HP (cS σ 3 t) = ov (κ.HP σ) (b + 69) (gl κ.S0 cI (b + 69) t) := by
  rw [yC_f3 Y σ, yC_f3 Y (cS σ 3 t)]
  have e := ov_part (h := h) (b := b) ([.inr (5, [.ref (κ.S0 + (b + 1)), .ref (κ.S0 + (b + 23)), .ref (κ.S0 + (b + 45)), .int (σ.2.2 0), .ref (κ.S0 + (b + 67)), .ref (κ.S0 + (b + 179))])] ++ (gl κ.S0 cI (b + 1) (σ.1 0) ++ (gl κ.S0 cI (b + 23) (σ.1 1) ++ (gl κ.S0 cI (b + 45) (σ.1 2) ++ ([.inr (1, [.ref (κ.S0 + (b + 68)), .int (σ.2.2 1), .int (σ.2.2 2)])] ++ ([.inl (cS', 5, .inr (.inr (.inr (.inr (fun j => if j < 5 then some (κ.S0 + (b + 69 + 22 * j)) else none)))))]))))) : List va_E) (gl κ.S0 cI (b + 69) (σ.1 3)) (gl κ.S0 cI (b + 91) (σ.1 4) ++ (gl κ.S0 cI (b + 113) (σ.1 5) ++ (gl κ.S0 cI (b + 135) (σ.1 6) ++ (gl κ.S0 cI (b + 157) (σ.1 7) ++ ([.inr (2, [.ref (κ.S0 + (b + 180)), .int (σ.2.2 3)])] ++ ([.inl (cC, 60, .inl (σ.2.1))]))))) : List va_E) (gl κ.S0 cI (b + 69) t) rfl
  have hn : (([.inr (5, [.ref (κ.S0 + (b + 1)), .ref (κ.S0 + (b + 23)), .ref (κ.S0 + (b + 45)), .int (σ.2.2 0), .ref (κ.S0 + (b + 67)), .ref (κ.S0 + (b + 179))])] ++ (gl κ.S0 cI (b + 1) (σ.1 0) ++ (gl κ.S0 cI (b + 23) (σ.1 1) ++ (gl κ.S0 cI (b + 45) (σ.1 2) ++ ([.inr (1, [.ref (κ.S0 + (b + 68)), .int (σ.2.2 1), .int (σ.2.2 2)])] ++ ([.inl (cS', 5, .inr (.inr (.inr (.inr (fun j => if j < 5 then some (κ.S0 + (b + 69 + 22 * j)) else none)))))]))))) : List va_E)).length = 69 := by simp only [List.length_append, gl_len, List.length_cons, List.length_nil]
  rw [hn] at e
  exact e.symm
theorem yC_b3 (Y : YC κ h b cI cC cS') (σ : CS) : b + 69 + 22 ≤ κ.HC σ := Nat.le_trans (by omega) (Y.2.1 σ)
theorem yC_l3 (Y : YC κ h b cI cC cS') {σ : CS} (m : Nat) (hm : m < 22) : b + 69 + m < κ.HC σ := by have := Y.2.1 σ; omega
theorem yC_g3_0 (Y : YC κ h b cI cC cS') {σ : CS} : κ.HP σ (b + 69 + 0) = .inr (3, [.ref (κ.S0 + (b + 69 + 1)), .ref (κ.S0 + (b + 69 + 12)), .ref (κ.S0 + (b + 69 + 19)), .ref (κ.S0 + (b + 69 + 20)), .ref (κ.S0 + (b + 69 + 21)), .int ((σ.1 3).2 8), .int ((σ.1 3).2 9), .int ((σ.1 3).2 10)]) := by
  rw [yC_g3 Y σ]
  exact ov_at 0 rfl
theorem yC_g3_1 (Y : YC κ h b cI cC cS') {σ : CS} : κ.HP σ (b + 69 + 1) = .inr (0, [.ref (κ.S0 + (b + 69 + 2)), .ref (κ.S0 + (b + 69 + 3)), .ref (κ.S0 + (b + 69 + 4)), .ref (κ.S0 + (b + 69 + 5)), .ref (κ.S0 + (b + 69 + 6)), .ref (κ.S0 + (b + 69 + 7)), .ref (κ.S0 + (b + 69 + 8)), .ref (κ.S0 + (b + 69 + 9)), .int ((σ.1 3).2 0), .ref (κ.S0 + (b + 69 + 10)), .int ((σ.1 3).2 1), .ref (κ.S0 + (b + 69 + 11)), .int ((σ.1 3).2 2)]) := by
  rw [yC_g3 Y σ]
  exact ov_at 1 rfl
theorem yC_g3_6 (Y : YC κ h b cI cC cS') {σ : CS} : κ.HP σ (b + 69 + 6) = .inl (cI, 201, .inl ((σ.1 3).1 6)) := by
  rw [yC_g3 Y σ]
  exact ov_at 6 rfl
theorem yC_g3_12 (Y : YC κ h b cI cC cS') {σ : CS} : κ.HP σ (b + 69 + 12) = .inr (4, [.ref (κ.S0 + (b + 69 + 13)), .ref (κ.S0 + (b + 69 + 14)), .ref (κ.S0 + (b + 69 + 15)), .ref (κ.S0 + (b + 69 + 16)), .ref (κ.S0 + (b + 69 + 17)), .ref (κ.S0 + (b + 69 + 18)), .int ((σ.1 3).2 3), .int ((σ.1 3).2 4), .int ((σ.1 3).2 5), .int ((σ.1 3).2 6), .int ((σ.1 3).2 7)]) := by
  rw [yC_g3 Y σ]
  exact ov_at 12 rfl
theorem yC_f4 (Y : YC κ h b cI cC cS') (σ : CS) : κ.HP σ = ov h b (([.inr (5, [.ref (κ.S0 + (b + 1)), .ref (κ.S0 + (b + 23)), .ref (κ.S0 + (b + 45)), .int (σ.2.2 0), .ref (κ.S0 + (b + 67)), .ref (κ.S0 + (b + 179))])] ++ (gl κ.S0 cI (b + 1) (σ.1 0) ++ (gl κ.S0 cI (b + 23) (σ.1 1) ++ (gl κ.S0 cI (b + 45) (σ.1 2) ++ ([.inr (1, [.ref (κ.S0 + (b + 68)), .int (σ.2.2 1), .int (σ.2.2 2)])] ++ ([.inl (cS', 5, .inr (.inr (.inr (.inr (fun j => if j < 5 then some (κ.S0 + (b + 69 + 22 * j)) else none)))))] ++ (gl κ.S0 cI (b + 69) (σ.1 3))))))) : List va_E) ++ (gl κ.S0 cI (b + 91) (σ.1 4) ++ (gl κ.S0 cI (b + 113) (σ.1 5) ++ (gl κ.S0 cI (b + 135) (σ.1 6) ++ (gl κ.S0 cI (b + 157) (σ.1 7) ++ ([.inr (2, [.ref (κ.S0 + (b + 180)), .int (σ.2.2 3)])] ++ ([.inl (cC, 60, .inl (σ.2.1))])))) : List va_E))) := by
  rw [Y.1 σ]
  simp only [cl, List.append_assoc, List.cons_append, List.nil_append, List.append_nil]
theorem yC_g4 (Y : YC κ h b cI cC cS') (σ : CS) : κ.HP σ = ov (κ.HP σ) (b + 91) (gl κ.S0 cI (b + 91) (σ.1 4)) := by
  rw [yC_f4 Y σ]
  have e := ov_self (h := h) (b := b) ([.inr (5, [.ref (κ.S0 + (b + 1)), .ref (κ.S0 + (b + 23)), .ref (κ.S0 + (b + 45)), .int (σ.2.2 0), .ref (κ.S0 + (b + 67)), .ref (κ.S0 + (b + 179))])] ++ (gl κ.S0 cI (b + 1) (σ.1 0) ++ (gl κ.S0 cI (b + 23) (σ.1 1) ++ (gl κ.S0 cI (b + 45) (σ.1 2) ++ ([.inr (1, [.ref (κ.S0 + (b + 68)), .int (σ.2.2 1), .int (σ.2.2 2)])] ++ ([.inl (cS', 5, .inr (.inr (.inr (.inr (fun j => if j < 5 then some (κ.S0 + (b + 69 + 22 * j)) else none)))))] ++ (gl κ.S0 cI (b + 69) (σ.1 3))))))) : List va_E) (gl κ.S0 cI (b + 91) (σ.1 4)) (gl κ.S0 cI (b + 113) (σ.1 5) ++ (gl κ.S0 cI (b + 135) (σ.1 6) ++ (gl κ.S0 cI (b + 157) (σ.1 7) ++ ([.inr (2, [.ref (κ.S0 + (b + 180)), .int (σ.2.2 3)])] ++ ([.inl (cC, 60, .inl (σ.2.1))])))) : List va_E)
  have hn : (([.inr (5, [.ref (κ.S0 + (b + 1)), .ref (κ.S0 + (b + 23)), .ref (κ.S0 + (b + 45)), .int (σ.2.2 0), .ref (κ.S0 + (b + 67)), .ref (κ.S0 + (b + 179))])] ++ (gl κ.S0 cI (b + 1) (σ.1 0) ++ (gl κ.S0 cI (b + 23) (σ.1 1) ++ (gl κ.S0 cI (b + 45) (σ.1 2) ++ ([.inr (1, [.ref (κ.S0 + (b + 68)), .int (σ.2.2 1), .int (σ.2.2 2)])] ++ ([.inl (cS', 5, .inr (.inr (.inr (.inr (fun j => if j < 5 then some (κ.S0 + (b + 69 + 22 * j)) else none)))))] ++ (gl κ.S0 cI (b + 69) (σ.1 3))))))) : List va_E)).length = 91 := by simp only [List.length_append, gl_len, List.length_cons, List.length_nil]
  rw [hn] at e
  exact e
theorem yC_G4 (Y : YC κ h b cI cC cS') (σ : CS) (t : SS) : κ.HP (cS σ 4 t) = ov (κ.HP σ) (b + 91) (gl κ.S0 cI (b + 91) t) := by
  rw [yC_f4 Y σ, yC_f4 Y (cS σ 4 t)]
  have e := ov_part (h := h) (b := b) ([.inr (5, [.ref (κ.S0 + (b + 1)), .ref (κ.S0 + (b + 23)), .ref (κ.S0 + (b + 45)), .int (σ.2.2 0), .ref (κ.S0 + (b + 67)), .ref (κ.S0 + (b + 179))])] ++ (gl κ.S0 cI (b + 1) (σ.1 0) ++ (gl κ.S0 cI (b + 23) (σ.1 1) ++ (gl κ.S0 cI (b + 45) (σ.1 2) ++ ([.inr (1, [.ref (κ.S0 + (b + 68)), .int (σ.2.2 1), .int (σ.2.2 2)])] ++ ([.inl (cS', 5, .inr (.inr (.inr (.inr (fun j => if j < 5 then some (κ.S0 + (b + 69 + 22 * j)) else none)))))] ++ (gl κ.S0 cI (b + 69) (σ.1 3))))))) : List va_E) (gl κ.S0 cI (b + 91) (σ.1 4)) (gl κ.S0 cI (b + 113) (σ.1 5) ++ (gl κ.S0 cI (b + 135) (σ.1 6) ++ (gl κ.S0 cI (b + 157) (σ.1 7) ++ ([.inr (2, [.ref (κ.S0 + (b + 180)), .int (σ.2.2 3)])] ++ ([.inl (cC, 60, .inl (σ.2.1))])))) : List va_E) (gl κ.S0 cI (b + 91) t) rfl
  have hn : (([.inr (5, [.ref (κ.S0 + (b + 1)), .ref (κ.S0 + (b + 23)), .ref (κ.S0 + (b + 45)), .int (σ.2.2 0), .ref (κ.S0 + (b + 67)), .ref (κ.S0 + (b + 179))])] ++ (gl κ.S0 cI (b + 1) (σ.1 0) ++ (gl κ.S0 cI (b + 23) (σ.1 1) ++ (gl κ.S0 cI (b + 45) (σ.1 2) ++ ([.inr (1, [.ref (κ.S0 + (b + 68)), .int (σ.2.2 1), .int (σ.2.2 2)])] ++ ([.inl (cS', 5, .inr (.inr (.inr (.inr (fun j => if j < 5 then some (κ.S0 + (b + 69 + 22 * j)) else none)))))] ++ (gl κ.S0 cI (b + 69) (σ.1 3))))))) : List va_E)).length = 91 := by simp only [List.length_append, gl_len, List.length_cons, List.length_nil]
  rw [hn] at e
  exact e.symm
theorem yC_b4 (Y : YC κ h b cI cC cS') (σ : CS) : b + 91 + 22 ≤ κ.HC σ := Nat.le_trans (by omega) (Y.2.1 σ)
theorem yC_l4 (Y : YC κ h b cI cC cS') {σ : CS} (m : Nat) (hm : m < 22) : b + 91 + m < κ.HC σ := by have := Y.2.1 σ; omega
theorem yC_g4_0 (Y : YC κ h b cI cC cS') {σ : CS} : κ.HP σ (b + 91 + 0) = .inr (3, [.ref (κ.S0 + (b + 91 + 1)), .ref (κ.S0 + (b + 91 + 12)), .ref (κ.S0 + (b + 91 + 19)), .ref (κ.S0 + (b + 91 + 20)), .ref (κ.S0 + (b + 91 + 21)), .int ((σ.1 4).2 8), .int ((σ.1 4).2 9), .int ((σ.1 4).2 10)]) := by
  rw [yC_g4 Y σ]
  exact ov_at 0 rfl
theorem yC_g4_1 (Y : YC κ h b cI cC cS') {σ : CS} : κ.HP σ (b + 91 + 1) = .inr (0, [.ref (κ.S0 + (b + 91 + 2)), .ref (κ.S0 + (b + 91 + 3)), .ref (κ.S0 + (b + 91 + 4)), .ref (κ.S0 + (b + 91 + 5)), .ref (κ.S0 + (b + 91 + 6)), .ref (κ.S0 + (b + 91 + 7)), .ref (κ.S0 + (b + 91 + 8)), .ref (κ.S0 + (b + 91 + 9)), .int ((σ.1 4).2 0), .ref (κ.S0 + (b + 91 + 10)), .int ((σ.1 4).2 1), .ref (κ.S0 + (b + 91 + 11)), .int ((σ.1 4).2 2)]) := by
  rw [yC_g4 Y σ]
  exact ov_at 1 rfl
theorem yC_g4_6 (Y : YC κ h b cI cC cS') {σ : CS} : κ.HP σ (b + 91 + 6) = .inl (cI, 201, .inl ((σ.1 4).1 6)) := by
  rw [yC_g4 Y σ]
  exact ov_at 6 rfl
theorem yC_g4_12 (Y : YC κ h b cI cC cS') {σ : CS} : κ.HP σ (b + 91 + 12) = .inr (4, [.ref (κ.S0 + (b + 91 + 13)), .ref (κ.S0 + (b + 91 + 14)), .ref (κ.S0 + (b + 91 + 15)), .ref (κ.S0 + (b + 91 + 16)), .ref (κ.S0 + (b + 91 + 17)), .ref (κ.S0 + (b + 91 + 18)), .int ((σ.1 4).2 3), .int ((σ.1 4).2 4), .int ((σ.1 4).2 5), .int ((σ.1 4).2 6), .int ((σ.1 4).2 7)]) := by
  rw [yC_g4 Y σ]
  exact ov_at 12 rfl
theorem yC_f5 (Y : YC κ h b cI cC cS') (σ : CS) : κ.HP σ = ov h b (([.inr (5, [.ref (κ.S0 + (b + 1)), .ref (κ.S0 + (b + 23)), .ref (κ.S0 + (b + 45)), .int (σ.2.2 0), .ref (κ.S0 + (b + 67)), .ref (κ.S0 + (b + 179))])] ++ (gl κ.S0 cI (b + 1) (σ.1 0) ++ (gl κ.S0 cI (b + 23) (σ.1 1) ++ (gl κ.S0 cI (b + 45) (σ.1 2) ++ ([.inr (1, [.ref (κ.S0 + (b + 68)), .int (σ.2.2 1), .int (σ.2.2 2)])] ++ ([.inl (cS', 5, .inr (.inr (.inr (.inr (fun j => if j < 5 then some (κ.S0 + (b + 69 + 22 * j)) else none)))))] ++ (gl κ.S0 cI (b + 69) (σ.1 3) ++ (gl κ.S0 cI (b + 91) (σ.1 4)))))))) : List va_E) ++ (gl κ.S0 cI (b + 113) (σ.1 5) ++ (gl κ.S0 cI (b + 135) (σ.1 6) ++ (gl κ.S0 cI (b + 157) (σ.1 7) ++ ([.inr (2, [.ref (κ.S0 + (b + 180)), .int (σ.2.2 3)])] ++ ([.inl (cC, 60, .inl (σ.2.1))]))) : List va_E))) := by
  rw [Y.1 σ]
  simp only [cl, List.append_assoc, List.cons_append, List.nil_append, List.append_nil]
theorem yC_g5 (Y : YC κ h b cI cC cS') (σ : CS) : κ.HP σ = ov (κ.HP σ) (b + 113) (gl κ.S0 cI (b + 113) (σ.1 5)) := by
  rw [yC_f5 Y σ]
  have e := ov_self (h := h) (b := b) ([.inr (5, [.ref (κ.S0 + (b + 1)), .ref (κ.S0 + (b + 23)), .ref (κ.S0 + (b + 45)), .int (σ.2.2 0), .ref (κ.S0 + (b + 67)), .ref (κ.S0 + (b + 179))])] ++ (gl κ.S0 cI (b + 1) (σ.1 0) ++ (gl κ.S0 cI (b + 23) (σ.1 1) ++ (gl κ.S0 cI (b + 45) (σ.1 2) ++ ([.inr (1, [.ref (κ.S0 + (b + 68)), .int (σ.2.2 1), .int (σ.2.2 2)])] ++ ([.inl (cS', 5, .inr (.inr (.inr (.inr (fun j => if j < 5 then some (κ.S0 + (b + 69 + 22 * j)) else none)))))] ++ (gl κ.S0 cI (b + 69) (σ.1 3) ++ (gl κ.S0 cI (b + 91) (σ.1 4)))))))) : List va_E) (gl κ.S0 cI (b + 113) (σ.1 5)) (gl κ.S0 cI (b + 135) (σ.1 6) ++ (gl κ.S0 cI (b + 157) (σ.1 7) ++ ([.inr (2, [.ref (κ.S0 + (b + 180)), .int (σ.2.2 3)])] ++ ([.inl (cC, 60, .inl (σ.2.1))]))) : List va_E)
  have hn : (([.inr (5, [.ref (κ.S0 + (b + 1)), .ref (κ.S0 + (b + 23)), .ref (κ.S0 + (b + 45)), .int (σ.2.2 0), .ref (κ.S0 + (b + 67)), .ref (κ.S0 + (b + 179))])] ++ (gl κ.S0 cI (b + 1) (σ.1 0) ++ (gl κ.S0 cI (b + 23) (σ.1 1) ++ (gl κ.S0 cI (b + 45) (σ.1 2) ++ ([.inr (1, [.ref (κ.S0 + (b + 68)), .int (σ.2.2 1), .int (σ.2.2 2)])] ++ ([.inl (cS', 5, .inr (.inr (.inr (.inr (fun j => if j < 5 then some (κ.S0 + (b + 69 + 22 * j)) else none)))))] ++ (gl κ.S0 cI (b + 69) (σ.1 3) ++ (gl κ.S0 cI (b + 91) (σ.1 4)))))))) : List va_E)).length = 113 := by simp only [List.length_append, gl_len, List.length_cons, List.length_nil]
  rw [hn] at e
  exact e
theorem yC_G5 (Y : YC κ h b cI cC cS') (σ : CS) (t : SS) : κ.HP (cS σ 5 t) = ov (κ.HP σ) (b + 113) (gl κ.S0 cI (b + 113) t) := by
  rw [yC_f5 Y σ, yC_f5 Y (cS σ 5 t)]
  have e := ov_part (h := h) (b := b) ([.inr (5, [.ref (κ.S0 + (b + 1)), .ref (κ.S0 + (b + 23)), .ref (κ.S0 + (b + 45)), .int (σ.2.2 0), .ref (κ.S0 + (b + 67)), .ref (κ.S0 + (b + 179))])] ++ (gl κ.S0 cI (b + 1) (σ.1 0) ++ (gl κ.S0 cI (b + 23) (σ.1 1) ++ (gl κ.S0 cI (b + 45) (σ.1 2) ++ ([.inr (1, [.ref (κ.S0 + (b + 68)), .int (σ.2.2 1), .int (σ.2.2 2)])] ++ ([.inl (cS', 5, .inr (.inr (.inr (.inr (fun j => if j < 5 then some (κ.S0 + (b + 69 + 22 * j)) else none)))))] ++ (gl κ.S0 cI (b + 69) (σ.1 3) ++ (gl κ.S0 cI (b + 91) (σ.1 4)))))))) : List va_E) (gl κ.S0 cI (b + 113) (σ.1 5)) (gl κ.S0 cI (b + 135) (σ.1 6) ++ (gl κ.S0 cI (b + 157) (σ.1 7) ++ ([.inr (2, [.ref (κ.S0 + (b + 180)), .int (σ.2.2 3)])] ++ ([.inl (cC, 60, .inl (σ.2.1))]))) : List va_E) (gl κ.S0 cI (b + 113) t) rfl
  have hn : (([.inr (5, [.ref (κ.S0 + (b + 1)), .ref (κ.S0 + (b + 23)), .ref (κ.S0 + (b + 45)), .int (σ.2.2 0), .ref (κ.S0 + (b + 67)), .ref (κ.S0 + (b + 179))])] ++ (gl κ.S0 cI (b + 1) (σ.1 0) ++ (gl κ.S0 cI (b + 23) (σ.1 1) ++ (gl κ.S0 cI (b + 45) (σ.1 2) ++ ([.inr (1, [.ref (κ.S0 + (b + 68)), .int (σ.2.2 1), .int (σ.2.2 2)])] ++ ([.inl (cS', 5, .inr (.inr (.inr (.inr (fun j => if j < 5 then some (κ.S0 + (b + 69 + 22 * j)) else none)))))] ++ (gl κ.S0 cI (b + 69) (σ.1 3) ++ (gl κ.S0 cI (b + 91) (σ.1 4)))))))) : List va_E)).length = 113 := by simp only [List.length_append, gl_len, List.length_cons, List.length_nil]
  rw [hn] at e
  exact e.symm
theorem yC_b5 (Y : YC κ h b cI cC cS') (σ : CS) : b + 113 + 22 ≤ κ.HC σ := Nat.le_trans (by omega) (Y.2.1 σ)
theorem yC_l5 (Y : YC κ h b cI cC cS') {σ : CS} (m : Nat) (hm : m < 22) : b + 113 + m < κ.HC σ := by have := Y.2.1 σ; omega
theorem yC_g5_0 (Y : YC κ h b cI cC cS') {σ : CS} : κ.HP σ (b + 113 + 0) = .inr (3, [.ref (κ.S0 + (b + 113 + 1)), .ref (κ.S0 + (b + 113 + 12)), .ref (κ.S0 + (b + 113 + 19)), .ref (κ.S0 + (b + 113 + 20)), .ref (κ.S0 + (b + 113 + 21)), .int ((σ.1 5).2 8), .int ((σ.1 5).2 9), .int ((σ.1 5).2 10)]) := by
  rw [yC_g5 Y σ]
  exact ov_at 0 rfl
theorem yC_g5_1 (Y : YC κ h b cI cC cS') {σ : CS} : κ.HP σ (b + 113 + 1) = .inr (0, [.ref (κ.S0 + (b + 113 + 2)), .ref (κ.S0 + (b + 113 + 3)), .ref (κ.S0 + (b + 113 + 4)), .ref (κ.S0 + (b + 113 + 5)), .ref (κ.S0 + (b + 113 + 6)), .ref (κ.S0 + (b + 113 + 7)), .ref (κ.S0 + (b + 113 + 8)), .ref (κ.S0 + (b + 113 + 9)), .int ((σ.1 5).2 0), .ref (κ.S0 + (b + 113 + 10)), .int ((σ.1 5).2 1), .ref (κ.S0 + (b + 113 + 11)), .int ((σ.1 5).2 2)]) := by
  rw [yC_g5 Y σ]
  exact ov_at 1 rfl
theorem yC_g5_6 (Y : YC κ h b cI cC cS') {σ : CS} : κ.HP σ (b + 113 + 6) = .inl (cI, 201, .inl ((σ.1 5).1 6)) := by
  rw [yC_g5 Y σ]
  exact ov_at 6 rfl
theorem yC_g5_12 (Y : YC κ h b cI cC cS') {σ : CS} : κ.HP σ (b + 113 + 12) = .inr (4, [.ref (κ.S0 + (b + 113 + 13)), .ref (κ.S0 + (b + 113 + 14)), .ref (κ.S0 + (b + 113 + 15)), .ref (κ.S0 + (b + 113 + 16)), .ref (κ.S0 + (b + 113 + 17)), .ref (κ.S0 + (b + 113 + 18)), .int ((σ.1 5).2 3), .int ((σ.1 5).2 4), .int ((σ.1 5).2 5), .int ((σ.1 5).2 6), .int ((σ.1 5).2 7)]) := by
  rw [yC_g5 Y σ]
  exact ov_at 12 rfl
theorem yC_f6 (Y : YC κ h b cI cC cS') (σ : CS) : κ.HP σ = ov h b (([.inr (5, [.ref (κ.S0 + (b + 1)), .ref (κ.S0 + (b + 23)), .ref (κ.S0 + (b + 45)), .int (σ.2.2 0), .ref (κ.S0 + (b + 67)), .ref (κ.S0 + (b + 179))])] ++ (gl κ.S0 cI (b + 1) (σ.1 0) ++ (gl κ.S0 cI (b + 23) (σ.1 1) ++ (gl κ.S0 cI (b + 45) (σ.1 2) ++ ([.inr (1, [.ref (κ.S0 + (b + 68)), .int (σ.2.2 1), .int (σ.2.2 2)])] ++ ([.inl (cS', 5, .inr (.inr (.inr (.inr (fun j => if j < 5 then some (κ.S0 + (b + 69 + 22 * j)) else none)))))] ++ (gl κ.S0 cI (b + 69) (σ.1 3) ++ (gl κ.S0 cI (b + 91) (σ.1 4) ++ (gl κ.S0 cI (b + 113) (σ.1 5))))))))) : List va_E) ++ (gl κ.S0 cI (b + 135) (σ.1 6) ++ (gl κ.S0 cI (b + 157) (σ.1 7) ++ ([.inr (2, [.ref (κ.S0 + (b + 180)), .int (σ.2.2 3)])] ++ ([.inl (cC, 60, .inl (σ.2.1))])) : List va_E))) := by
  rw [Y.1 σ]
  simp only [cl, List.append_assoc, List.cons_append, List.nil_append, List.append_nil]
theorem yC_g6 (Y : YC κ h b cI cC cS') (σ : CS) : κ.HP σ = ov (κ.HP σ) (b + 135) (gl κ.S0 cI (b + 135) (σ.1 6)) := by
  rw [yC_f6 Y σ]
  have e := ov_self (h := h) (b := b) ([.inr (5, [.ref (κ.S0 + (b + 1)), .ref (κ.S0 + (b + 23)), .ref (κ.S0 + (b + 45)), .int (σ.2.2 0), .ref (κ.S0 + (b + 67)), .ref (κ.S0 + (b + 179))])] ++ (gl κ.S0 cI (b + 1) (σ.1 0) ++ (gl κ.S0 cI (b + 23) (σ.1 1) ++ (gl κ.S0 cI (b + 45) (σ.1 2) ++ ([.inr (1, [.ref (κ.S0 + (b + 68)), .int (σ.2.2 1), .int (σ.2.2 2)])] ++ ([.inl (cS', 5, .inr (.inr (.inr (.inr (fun j => if j < 5 then some (κ.S0 + (b + 69 + 22 * j)) else none)))))] ++ (gl κ.S0 cI (b + 69) (σ.1 3) ++ (gl κ.S0 cI (b + 91) (σ.1 4) ++ (gl κ.S0 cI (b + 113) (σ.1 5))))))))) : List va_E) (gl κ.S0 cI (b + 135) (σ.1 6)) (gl κ.S0 cI (b + 157) (σ.1 7) ++ ([.inr (2, [.ref (κ.S0 + (b + 180)), .int (σ.2.2 3)])] ++ ([.inl (cC, 60, .inl (σ.2.1))])) : List va_E)
  have hn : (([.inr (5, [.ref (κ.S0 + (b + 1)), .ref (κ.S0 + (b + 23)), .ref (κ.S0 + (b + 45)), .int (σ.2.2 0), .ref (κ.S0 + (b + 67)), .ref (κ.S0 + (b + 179))])] ++ (gl κ.S0 cI (b + 1) (σ.1 0) ++ (gl κ.S0 cI (b + 23) (σ.1 1) ++ (gl κ.S0 cI (b + 45) (σ.1 2) ++ ([.inr (1, [.ref (κ.S0 + (b + 68)), .int (σ.2.2 1), .int (σ.2.2 2)])] ++ ([.inl (cS', 5, .inr (.inr (.inr (.inr (fun j => if j < 5 then some (κ.S0 + (b + 69 + 22 * j)) else none)))))] ++ (gl κ.S0 cI (b + 69) (σ.1 3) ++ (gl κ.S0 cI (b + 91) (σ.1 4) ++ (gl κ.S0 cI (b + 113) (σ.1 5))))))))) : List va_E)).length = 135 := by simp only [List.length_append, gl_len, List.length_cons, List.length_nil]
  rw [hn] at e
  exact e
theorem yC_G6 (Y : YC κ h b cI cC cS') (σ : CS) (t : SS) : κ.HP (cS σ 6 t) = ov (κ.HP σ) (b + 135) (gl κ.S0 cI (b + 135) t) := by
  rw [yC_f6 Y σ, yC_f6 Y (cS σ 6 t)]
  have e := ov_part (h := h) (b := b) ([.inr (5, [.ref (κ.S0 + (b + 1)), .ref (κ.S0 + (b + 23)), .ref (κ.S0 + (b + 45)), .int (σ.2.2 0), .ref (κ.S0 + (b + 67)), .ref (κ.S0 + (b + 179))])] ++ (gl κ.S0 cI (b + 1) (σ.1 0) ++ (gl κ.S0 cI (b + 23) (σ.1 1) ++ (gl κ.S0 cI (b + 45) (σ.1 2) ++ ([.inr (1, [.ref (κ.S0 + (b + 68)), .int (σ.2.2 1), .int (σ.2.2 2)])] ++ ([.inl (cS', 5, .inr (.inr (.inr (.inr (fun j => if j < 5 then some (κ.S0 + (b + 69 + 22 * j)) else none)))))] ++ (gl κ.S0 cI (b + 69) (σ.1 3) ++ (gl κ.S0 cI (b + 91) (σ.1 4) ++ (gl κ.S0 cI (b + 113) (σ.1 5))))))))) : List va_E) (gl κ.S0 cI (b + 135) (σ.1 6)) (gl κ.S0 cI (b + 157) (σ.1 7) ++ ([.inr (2, [.ref (κ.S0 + (b + 180)), .int (σ.2.2 3)])] ++ ([.inl (cC, 60, .inl (σ.2.1))])) : List va_E) (gl κ.S0 cI (b + 135) t) rfl
  have hn : (([.inr (5, [.ref (κ.S0 + (b + 1)), .ref (κ.S0 + (b + 23)), .ref (κ.S0 + (b + 45)), .int (σ.2.2 0), .ref (κ.S0 + (b + 67)), .ref (κ.S0 + (b + 179))])] ++ (gl κ.S0 cI (b + 1) (σ.1 0) ++ (gl κ.S0 cI (b + 23) (σ.1 1) ++ (gl κ.S0 cI (b + 45) (σ.1 2) ++ ([.inr (1, [.ref (κ.S0 + (b + 68)), .int (σ.2.2 1), .int (σ.2.2 2)])] ++ ([.inl (cS', 5, .inr (.inr (.inr (.inr (fun j => if j < 5 then some (κ.S0 + (b + 69 + 22 * j)) else none)))))] ++ (gl κ.S0 cI (b + 69) (σ.1 3) ++ (gl κ.S0 cI (b + 91) (σ.1 4) ++ (gl κ.S0 cI (b + 113) (σ.1 5))))))))) : List va_E)).length = 135 := by simp only [List.length_append, gl_len, List.length_cons, List.length_nil]
  rw [hn] at e
  exact e.symm
theorem yC_b6 (Y : YC κ h b cI cC cS') (σ : CS) : b + 135 + 22 ≤ κ.HC σ := Nat.le_trans (by omega) (Y.2.1 σ)
theorem yC_l6 (Y : YC κ h b cI cC cS') {σ : CS} (m : Nat) (hm : m < 22) : b + 135 + m < κ.HC σ := by have := Y.2.1 σ; omega
theorem yC_g6_0 (Y : YC κ h b cI cC cS') {σ : CS} : κ.HP σ (b + 135 + 0) = .inr (3, [.ref (κ.S0 + (b + 135 + 1)), .ref (κ.S0 + (b + 135 + 12)), .ref (κ.S0 + (b + 135 + 19)), .ref (κ.S0 + (b + 135 + 20)), .ref (κ.S0 + (b + 135 + 21)), .int ((σ.1 6).2 8), .int ((σ.1 6).2 9), .int ((σ.1 6).2 10)]) := by
  rw [yC_g6 Y σ]
  exact ov_at 0 rfl
theorem yC_g6_1 (Y : YC κ h b cI cC cS') {σ : CS} : κ.HP σ (b + 135 + 1) = .inr (0, [.ref (κ.S0 + (b + 135 + 2)), .ref (κ.S0 + (b + 135 + 3)), .ref (κ.S0 + (b + 135 + 4)), .ref (κ.S0 + (b + 135 + 5)), .ref (κ.S0 + (b + 135 + 6)), .ref (κ.S0 + (b + 135 + 7)), .ref (κ.S0 + (b + 135 + 8)), .ref (κ.S0 + (b + 135 + 9)), .int ((σ.1 6).2 0), .ref (κ.S0 + (b + 135 + 10)), .int ((σ.1 6).2 1), .ref (κ.S0 + (b + 135 + 11)), .int ((σ.1 6).2 2)]) := by
  rw [yC_g6 Y σ]
  exact ov_at 1 rfl
theorem yC_g6_6 (Y : YC κ h b cI cC cS') {σ : CS} : κ.HP σ (b + 135 + 6) = .inl (cI, 201, .inl ((σ.1 6).1 6)) := by
  rw [yC_g6 Y σ]
  exact ov_at 6 rfl
theorem yC_g6_12 (Y : YC κ h b cI cC cS') {σ : CS} : κ.HP σ (b + 135 + 12) = .inr (4, [.ref (κ.S0 + (b + 135 + 13)), .ref (κ.S0 + (b + 135 + 14)), .ref (κ.S0 + (b + 135 + 15)), .ref (κ.S0 + (b + 135 + 16)), .ref (κ.S0 + (b + 135 + 17)), .ref (κ.S0 + (b + 135 + 18)), .int ((σ.1 6).2 3), .int ((σ.1 6).2 4), .int ((σ.1 6).2 5), .int ((σ.1 6).2 6), .int ((σ.1 6).2 7)]) := by
  rw [yC_g6 Y σ]
  exact ov_at 12 rfl
theorem yC_f7 (Y : YC κ h b cI cC cS') (σ : CS) : κ.HP σ = ov h b (([.inr (5, [.ref (κ.S0 + (b + 1)), .ref (κ.S0 + (b + 23)), .ref (κ.S0 + (b + 45)), .int (σ.2.2 0), .ref (κ.S0 + (b + 67)), .ref (κ.S0 + (b + 179))])] ++ (gl κ.S0 cI (b + 1) (σ.1 0) ++ (gl κ.S0 cI (b + 23) (σ.1 1) ++ (gl κ.S0 cI (b + 45) (σ.1 2) ++ ([.inr (1, [.ref (κ.S0 + (b + 68)), .int (σ.2.2 1), .int (σ.2.2 2)])] ++ ([.inl (cS', 5, .inr (.inr (.inr (.inr (fun j => if j < 5 then some (κ.S0 + (b + 69 + 22 * j)) else none)))))] ++ (gl κ.S0 cI (b + 69) (σ.1 3) ++ (gl κ.S0 cI (b + 91) (σ.1 4) ++ (gl κ.S0 cI (b + 113) (σ.1 5) ++ (gl κ.S0 cI (b + 135) (σ.1 6)))))))))) : List va_E) ++ (gl κ.S0 cI (b + 157) (σ.1 7) ++ ([.inr (2, [.ref (κ.S0 + (b + 180)), .int (σ.2.2 3)])] ++ ([.inl (cC, 60, .inl (σ.2.1))]) : List va_E))) := by
  rw [Y.1 σ]
  simp only [cl, List.append_assoc, List.cons_append, List.nil_append, List.append_nil]
theorem yC_g7 (Y : YC κ h b cI cC cS') (σ : CS) : κ.HP σ = ov (κ.HP σ) (b + 157) (gl κ.S0 cI (b + 157) (σ.1 7)) := by
  rw [yC_f7 Y σ]
  have e := ov_self (h := h) (b := b) ([.inr (5, [.ref (κ.S0 + (b + 1)), .ref (κ.S0 + (b + 23)), .ref (κ.S0 + (b + 45)), .int (σ.2.2 0), .ref (κ.S0 + (b + 67)), .ref (κ.S0 + (b + 179))])] ++ (gl κ.S0 cI (b + 1) (σ.1 0) ++ (gl κ.S0 cI (b + 23) (σ.1 1) ++ (gl κ.S0 cI (b + 45) (σ.1 2) ++ ([.inr (1, [.ref (κ.S0 + (b + 68)), .int (σ.2.2 1), .int (σ.2.2 2)])] ++ ([.inl (cS', 5, .inr (.inr (.inr (.inr (fun j => if j < 5 then some (κ.S0 + (b + 69 + 22 * j)) else none)))))] ++ (gl κ.S0 cI (b + 69) (σ.1 3) ++ (gl κ.S0 cI (b + 91) (σ.1 4) ++ (gl κ.S0 cI (b + 113) (σ.1 5) ++ (gl κ.S0 cI (b + 135) (σ.1 6)))))))))) : List va_E) (gl κ.S0 cI (b + 157) (σ.1 7)) ([.inr (2, [.ref (κ.S0 + (b + 180)), .int (σ.2.2 3)])] ++ ([.inl (cC, 60, .inl (σ.2.1))]) : List va_E)
  have hn : (([.inr (5, [.ref (κ.S0 + (b + 1)), .ref (κ.S0 + (b + 23)), .ref (κ.S0 + (b + 45)), .int (σ.2.2 0), .ref (κ.S0 + (b + 67)), .ref (κ.S0 + (b + 179))])] ++ (gl κ.S0 cI (b + 1) (σ.1 0) ++ (gl κ.S0 cI (b + 23) (σ.1 1) ++ (gl κ.S0 cI (b + 45) (σ.1 2) ++ ([.inr (1, [.ref (κ.S0 + (b + 68)), .int (σ.2.2 1), .int (σ.2.2 2)])] ++ ([.inl (cS', 5, .inr (.inr (.inr (.inr (fun j => if j < 5 then some (κ.S0 + (b + 69 + 22 * j)) else none)))))] ++ (gl κ.S0 cI (b + 69) (σ.1 3) ++ (gl κ.S0 cI (b + 91) (σ.1 4) ++ (gl κ.S0 cI (b + 113) (σ.1 5) ++ (gl κ.S0 cI (b + 135) (σ.1 6)))))))))) : List va_E)).length = 157 := by simp only [List.length_append, gl_len, List.length_cons, List.length_nil]
  rw [hn] at e
  exact e
theorem yC_G7 (Y : YC κ h b cI cC cS') (σ : CS) (t : SS) : κ.HP (cS σ 7 t) = ov (κ.HP σ) (b + 157) (gl κ.S0 cI (b + 157) t) := by
  rw [yC_f7 Y σ, yC_f7 Y (cS σ 7 t)]
  have e := ov_part (h := h) (b := b) ([.inr (5, [.ref (κ.S0 + (b + 1)), .ref (κ.S0 + (b + 23)), .ref (κ.S0 + (b + 45)), .int (σ.2.2 0), .ref (κ.S0 + (b + 67)), .ref (κ.S0 + (b + 179))])] ++ (gl κ.S0 cI (b + 1) (σ.1 0) ++ (gl κ.S0 cI (b + 23) (σ.1 1) ++ (gl κ.S0 cI (b + 45) (σ.1 2) ++ ([.inr (1, [.ref (κ.S0 + (b + 68)), .int (σ.2.2 1), .int (σ.2.2 2)])] ++ ([.inl (cS', 5, .inr (.inr (.inr (.inr (fun j => if j < 5 then some (κ.S0 + (b + 69 + 22 * j)) else none)))))] ++ (gl κ.S0 cI (b + 69) (σ.1 3) ++ (gl κ.S0 cI (b + 91) (σ.1 4) ++ (gl κ.S0 cI (b + 113) (σ.1 5) ++ (gl κ.S0 cI (b + 135) (σ.1 6)))))))))) : List va_E) (gl κ.S0 cI (b + 157) (σ.1 7)) ([.inr (2, [.ref (κ.S0 + (b + 180)), .int (σ.2.2 3)])] ++ ([.inl (cC, 60, .inl (σ.2.1))]) : List va_E) (gl κ.S0 cI (b + 157) t) rfl
  have hn : (([.inr (5, [.ref (κ.S0 + (b + 1)), .ref (κ.S0 + (b + 23)), .ref (κ.S0 + (b + 45)), .int (σ.2.2 0), .ref (κ.S0 + (b + 67)), .ref (κ.S0 + (b + 179))])] ++ (gl κ.S0 cI (b + 1) (σ.1 0) ++ (gl κ.S0 cI (b + 23) (σ.1 1) ++ (gl κ.S0 cI (b + 45) (σ.1 2) ++ ([.inr (1, [.ref (κ.S0 + (b + 68)), .int (σ.2.2 1), .int (σ.2.2 2)])] ++ ([.inl (cS', 5, .inr (.inr (.inr (.inr (fun j => if j < 5 then some (κ.S0 + (b + 69 + 22 * j)) else none)))))] ++ (gl κ.S0 cI (b + 69) (σ.1 3) ++ (gl κ.S0 cI (b + 91) (σ.1 4) ++ (gl κ.S0 cI (b + 113) (σ.1 5) ++ (gl κ.S0 cI (b + 135) (σ.1 6)))))))))) : List va_E)).length = 157 := by simp only [List.length_append, gl_len, List.length_cons, List.length_nil]
  rw [hn] at e
  exact e.symm
theorem yC_b7 (Y : YC κ h b cI cC cS') (σ : CS) : b + 157 + 22 ≤ κ.HC σ := Nat.le_trans (by omega) (Y.2.1 σ)
theorem yC_l7 (Y : YC κ h b cI cC cS') {σ : CS} (m : Nat) (hm : m < 22) : b + 157 + m < κ.HC σ := by have := Y.2.1 σ; omega
theorem yC_g7_0 (Y : YC κ h b cI cC cS') {σ : CS} : κ.HP σ (b + 157 + 0) = .inr (3, [.ref (κ.S0 + (b + 157 + 1)), .ref (κ.S0 + (b + 157 + 12)), .ref (κ.S0 + (b + 157 + 19)), .ref (κ.S0 + (b + 157 + 20)), .ref (κ.S0 + (b + 157 + 21)), .int ((σ.1 7).2 8), .int ((σ.1 7).2 9), .int ((σ.1 7).2 10)]) := by
  rw [yC_g7 Y σ]
  exact ov_at 0 rfl
theorem yC_g7_1 (Y : YC κ h b cI cC cS') {σ : CS} : κ.HP σ (b + 157 + 1) = .inr (0, [.ref (κ.S0 + (b + 157 + 2)), .ref (κ.S0 + (b + 157 + 3)), .ref (κ.S0 + (b + 157 + 4)), .ref (κ.S0 + (b + 157 + 5)), .ref (κ.S0 + (b + 157 + 6)), .ref (κ.S0 + (b + 157 + 7)), .ref (κ.S0 + (b + 157 + 8)), .ref (κ.S0 + (b + 157 + 9)), .int ((σ.1 7).2 0), .ref (κ.S0 + (b + 157 + 10)), .int ((σ.1 7).2 1), .ref (κ.S0 + (b + 157 + 11)), .int ((σ.1 7).2 2)]) := by
  rw [yC_g7 Y σ]
  exact ov_at 1 rfl
theorem yC_g7_6 (Y : YC κ h b cI cC cS') {σ : CS} : κ.HP σ (b + 157 + 6) = .inl (cI, 201, .inl ((σ.1 7).1 6)) := by
  rw [yC_g7 Y σ]
  exact ov_at 6 rfl
theorem yC_g7_12 (Y : YC κ h b cI cC cS') {σ : CS} : κ.HP σ (b + 157 + 12) = .inr (4, [.ref (κ.S0 + (b + 157 + 13)), .ref (κ.S0 + (b + 157 + 14)), .ref (κ.S0 + (b + 157 + 15)), .ref (κ.S0 + (b + 157 + 16)), .ref (κ.S0 + (b + 157 + 17)), .ref (κ.S0 + (b + 157 + 18)), .int ((σ.1 7).2 3), .int ((σ.1 7).2 4), .int ((σ.1 7).2 5), .int ((σ.1 7).2 6), .int ((σ.1 7).2 7)]) := by
  rw [yC_g7 Y σ]
  exact ov_at 12 rfl
end YC
end
section
/-! What the printed contracts lean on -/
/-- the rounds that a loop's word may go: more than any loop of these classes ever needs -/
def FU : Nat := 20000
theorem x_kont {κ' α : Type} {res : α} {r : κ'} {b : κ' → Option α} {G : Prop} (P : κ' → Prop) (hf : b r = some res) (h1 : P r) (h2 : ∀ k, P k → b k = some res → G) : G := h2 r h1 hf
theorem x_room {ST : Type} {κ : XCtx ST} (E : XE κ) (σ : ST) : κ.K σ + 0 ≤ κ.R.cells ∧ κ.N σ + 0 ≤ κ.R.slots := by
  rw [(E.2 σ).1, (E.2 σ).2]
  exact ⟨Nat.zero_le _, Nat.zero_le _⟩
theorem XMet.ofE {ST : Type} {HP : ST → Nat → va_E} {l : Launch} {G : va_G} {tys : List (ClassId × FieldType)} {S0 c nL F L : Nat} {y : MethodName} {bytes : ByteArray} {rt : Option FieldType} {av : List Value} {rv : Option Value} (σ0 σ1 : ST) (hy : plainName y.cls = true) (hlen : (lg_sl av).length ≤ nL)
    (body : ∀ κ : XCtx ST, κ.l = l → κ.G = G → κ.tys = tys → κ.S0 = S0 → κ.HP = HP → (∀ σ, κ.HC σ = c) → XE κ → XC κ bytes nL y.cls rt F L → XR κ (κ.HC σ0) rv (κ.HP σ1) 0 0 → XG κ σ0 0 (lv_args 0 av) []) :
    XMet l G tys S0 c y bytes nL rt F L av (HP σ0) c rv (HP σ1) 0 0 := by
  refine XMet.of (fun _ => c) HP (fun _ => 0) (fun _ => 0) σ0 hy ⟨rfl, rfl⟩ hlen ?_
  intro κ k1 k2 k3 k4 k5 k6 k7 k8 _ _ _ X hQ
  refine body κ k5 k6 k7 k8 k2 (fun σ => by rw [k1]) ⟨⟨fun _ _ => by rw [k1], fun _ _ => by rw [k3], fun _ _ => by rw [k4]⟩, fun σ => ⟨by rw [k3], by rw [k4]⟩⟩ X ?_
  rw [k1, k2]
  exact hQ
end
section
/-! What the tables say of fields and calls, by the places of the words -/
theorem gi_X0 : ∀ w ∈ u_ws RX0 TX0 13, w ∈ goodTbl := by
  intro w hw
  obtain ⟨k, hk, rfl⟩ := List.mem_map.mp hw
  have hk := List.mem_range.mp hk
  match k, hk with
  | 0, _ => exact mem_good 94 (by decide +kernel) (by decide +kernel)
  | 1, _ => exact mem_good 96 (by decide +kernel) (by decide +kernel)
  | 2, _ => exact mem_good 98 (by decide +kernel) (by decide +kernel)
  | 3, _ => exact mem_good 100 (by decide +kernel) (by decide +kernel)
  | 4, _ => exact mem_good 102 (by decide +kernel) (by decide +kernel)
  | 5, _ => exact mem_good 104 (by decide +kernel) (by decide +kernel)
  | 6, _ => exact mem_good 106 (by decide +kernel) (by decide +kernel)
  | 7, _ => exact mem_good 108 (by decide +kernel) (by decide +kernel)
  | 8, _ => exact mem_good 110 (by decide +kernel) (by decide +kernel)
  | 9, _ => exact mem_good 112 (by decide +kernel) (by decide +kernel)
  | 10, _ => exact mem_good 114 (by decide +kernel) (by decide +kernel)
  | 11, _ => exact mem_good 116 (by decide +kernel) (by decide +kernel)
  | 12, _ => exact mem_good 118 (by decide +kernel) (by decide +kernel)
  | k + 13, hk => exact absurd hk (by omega)
theorem gi_X1 : ∀ w ∈ u_ws RX1 TX1 3, w ∈ goodTbl := by
  intro w hw
  obtain ⟨k, hk, rfl⟩ := List.mem_map.mp hw
  have hk := List.mem_range.mp hk
  match k, hk with
  | 0, _ => exact mem_good 212 (by decide +kernel) (by decide +kernel)
  | 1, _ => exact mem_good 214 (by decide +kernel) (by decide +kernel)
  | 2, _ => exact mem_good 216 (by decide +kernel) (by decide +kernel)
  | k + 3, hk => exact absurd hk (by omega)
theorem gi_X2 : ∀ w ∈ u_ws RX2 TX2 2, w ∈ goodTbl := by
  intro w hw
  obtain ⟨k, hk, rfl⟩ := List.mem_map.mp hw
  have hk := List.mem_range.mp hk
  match k, hk with
  | 0, _ => exact mem_good 228 (by decide +kernel) (by decide +kernel)
  | 1, _ => exact mem_good 230 (by decide +kernel) (by decide +kernel)
  | k + 2, hk => exact absurd hk (by omega)
theorem gi_X3 : ∀ w ∈ u_ws RX3 TX3 8, w ∈ goodTbl := by
  intro w hw
  obtain ⟨k, hk, rfl⟩ := List.mem_map.mp hw
  have hk := List.mem_range.mp hk
  match k, hk with
  | 0, _ => exact mem_good 182 (by decide +kernel) (by decide +kernel)
  | 1, _ => exact mem_good 184 (by decide +kernel) (by decide +kernel)
  | 2, _ => exact mem_good 186 (by decide +kernel) (by decide +kernel)
  | 3, _ => exact mem_good 188 (by decide +kernel) (by decide +kernel)
  | 4, _ => exact mem_good 190 (by decide +kernel) (by decide +kernel)
  | 5, _ => exact mem_good 192 (by decide +kernel) (by decide +kernel)
  | 6, _ => exact mem_good 194 (by decide +kernel) (by decide +kernel)
  | 7, _ => exact mem_good 196 (by decide +kernel) (by decide +kernel)
  | k + 8, hk => exact absurd hk (by omega)
theorem gi_X4 : ∀ w ∈ u_ws RX4 TX4 11, w ∈ goodTbl := by
  intro w hw
  obtain ⟨k, hk, rfl⟩ := List.mem_map.mp hw
  have hk := List.mem_range.mp hk
  match k, hk with
  | 0, _ => exact mem_good 149 (by decide +kernel) (by decide +kernel)
  | 1, _ => exact mem_good 151 (by decide +kernel) (by decide +kernel)
  | 2, _ => exact mem_good 153 (by decide +kernel) (by decide +kernel)
  | 3, _ => exact mem_good 155 (by decide +kernel) (by decide +kernel)
  | 4, _ => exact mem_good 157 (by decide +kernel) (by decide +kernel)
  | 5, _ => exact mem_good 159 (by decide +kernel) (by decide +kernel)
  | 6, _ => exact mem_good 161 (by decide +kernel) (by decide +kernel)
  | 7, _ => exact mem_good 163 (by decide +kernel) (by decide +kernel)
  | 8, _ => exact mem_good 165 (by decide +kernel) (by decide +kernel)
  | 9, _ => exact mem_good 167 (by decide +kernel) (by decide +kernel)
  | 10, _ => exact mem_good 169 (by decide +kernel) (by decide +kernel)
  | k + 11, hk => exact absurd hk (by omega)
theorem gi_X5 : ∀ w ∈ u_ws RX5 TX5 6, w ∈ goodTbl := by
  intro w hw
  obtain ⟨k, hk, rfl⟩ := List.mem_map.mp hw
  have hk := List.mem_range.mp hk
  match k, hk with
  | 0, _ => exact mem_good 240 (by decide +kernel) (by decide +kernel)
  | 1, _ => exact mem_good 242 (by decide +kernel) (by decide +kernel)
  | 2, _ => exact mem_good 244 (by decide +kernel) (by decide +kernel)
  | 3, _ => exact mem_good 246 (by decide +kernel) (by decide +kernel)
  | 4, _ => exact mem_good 248 (by decide +kernel) (by decide +kernel)
  | 5, _ => exact mem_good 250 (by decide +kernel) (by decide +kernel)
  | k + 6, hk => exact absurd hk (by omega)
theorem gi_X6 : ∀ w ∈ u_ws RX6 TX6 15, w ∈ goodTbl := by
  intro w hw
  obtain ⟨k, hk, rfl⟩ := List.mem_map.mp hw
  have hk := List.mem_range.mp hk
  match k, hk with
  | 0, _ => exact mem_good 650 (by decide +kernel) (by decide +kernel)
  | 1, _ => exact mem_good 652 (by decide +kernel) (by decide +kernel)
  | 2, _ => exact mem_good 654 (by decide +kernel) (by decide +kernel)
  | 3, _ => exact mem_good 656 (by decide +kernel) (by decide +kernel)
  | 4, _ => exact mem_good 658 (by decide +kernel) (by decide +kernel)
  | 5, _ => exact mem_good 660 (by decide +kernel) (by decide +kernel)
  | 6, _ => exact mem_good 662 (by decide +kernel) (by decide +kernel)
  | 7, _ => exact mem_good 664 (by decide +kernel) (by decide +kernel)
  | 8, _ => exact mem_good 666 (by decide +kernel) (by decide +kernel)
  | 9, _ => exact mem_good 668 (by decide +kernel) (by decide +kernel)
  | 10, _ => exact mem_good 670 (by decide +kernel) (by decide +kernel)
  | 11, _ => exact mem_good 672 (by decide +kernel) (by decide +kernel)
  | 12, _ => exact mem_good 674 (by decide +kernel) (by decide +kernel)
  | 13, _ => exact mem_good 676 (by decide +kernel) (by decide +kernel)
  | 14, _ => exact mem_good 678 (by decide +kernel) (by decide +kernel)
  | k + 15, hk => exact absurd hk (by omega)
theorem fl_X0_9 : FL RX0 9 0 0 := ⟨RX0, TX0, 13, rfl, gi_X0, by decide, mem_good 71 (by decide +kernel) (by decide +kernel)⟩
theorem fl_X0_15 : FL RX0 15 0 1 := ⟨RX0, TX0, 13, rfl, gi_X0, by decide, mem_good 73 (by decide +kernel) (by decide +kernel)⟩
theorem fl_X0_18 : FL RX0 18 0 2 := ⟨RX0, TX0, 13, rfl, gi_X0, by decide, mem_good 75 (by decide +kernel) (by decide +kernel)⟩
theorem fl_X0_21 : FL RX0 21 0 3 := ⟨RX0, TX0, 13, rfl, gi_X0, by decide, mem_good 77 (by decide +kernel) (by decide +kernel)⟩
theorem fl_X0_24 : FL RX0 24 0 4 := ⟨RX0, TX0, 13, rfl, gi_X0, by decide, mem_good 79 (by decide +kernel) (by decide +kernel)⟩
theorem fl_X0_27 : FL RX0 27 0 5 := ⟨RX0, TX0, 13, rfl, gi_X0, by decide, mem_good 81 (by decide +kernel) (by decide +kernel)⟩
theorem fl_X0_30 : FL RX0 30 0 6 := ⟨RX0, TX0, 13, rfl, gi_X0, by decide, mem_good 83 (by decide +kernel) (by decide +kernel)⟩
theorem fl_X0_33 : FL RX0 33 0 7 := ⟨RX0, TX0, 13, rfl, gi_X0, by decide, mem_good 84 (by decide +kernel) (by decide +kernel)⟩
theorem fl_X0_36 : FL RX0 36 0 8 := ⟨RX0, TX0, 13, rfl, gi_X0, by decide, mem_good 85 (by decide +kernel) (by decide +kernel)⟩
theorem fl_X0_40 : FL RX0 40 0 9 := ⟨RX0, TX0, 13, rfl, gi_X0, by decide, mem_good 87 (by decide +kernel) (by decide +kernel)⟩
theorem fl_X0_43 : FL RX0 43 0 10 := ⟨RX0, TX0, 13, rfl, gi_X0, by decide, mem_good 88 (by decide +kernel) (by decide +kernel)⟩
theorem fl_X0_46 : FL RX0 46 0 11 := ⟨RX0, TX0, 13, rfl, gi_X0, by decide, mem_good 90 (by decide +kernel) (by decide +kernel)⟩
theorem fl_X0_49 : FL RX0 49 0 12 := ⟨RX0, TX0, 13, rfl, gi_X0, by decide, mem_good 92 (by decide +kernel) (by decide +kernel)⟩
theorem fl_X1_13 : FL RX1 13 1 0 := ⟨RX1, TX1, 3, rfl, gi_X1, by decide, mem_good 208 (by decide +kernel) (by decide +kernel)⟩
theorem fl_X1_17 : FL RX1 17 1 1 := ⟨RX1, TX1, 3, rfl, gi_X1, by decide, mem_good 209 (by decide +kernel) (by decide +kernel)⟩
theorem fl_X1_21 : FL RX1 21 1 2 := ⟨RX1, TX1, 3, rfl, gi_X1, by decide, mem_good 210 (by decide +kernel) (by decide +kernel)⟩
theorem fl_X2_9 : FL RX2 9 2 0 := ⟨RX2, TX2, 2, rfl, gi_X2, by decide, mem_good 225 (by decide +kernel) (by decide +kernel)⟩
theorem fl_X2_15 : FL RX2 15 2 1 := ⟨RX2, TX2, 2, rfl, gi_X2, by decide, mem_good 226 (by decide +kernel) (by decide +kernel)⟩
theorem fl_X3_12 : FL RX3 12 3 0 := ⟨RX3, TX3, 8, rfl, gi_X3, by decide, mem_good 172 (by decide +kernel) (by decide +kernel)⟩
theorem fl_X3_21 : FL RX3 21 3 1 := ⟨RX3, TX3, 8, rfl, gi_X3, by decide, mem_good 174 (by decide +kernel) (by decide +kernel)⟩
theorem fl_X3_25 : FL RX3 25 3 2 := ⟨RX3, TX3, 8, rfl, gi_X3, by decide, mem_good 175 (by decide +kernel) (by decide +kernel)⟩
theorem fl_X3_29 : FL RX3 29 3 3 := ⟨RX3, TX3, 8, rfl, gi_X3, by decide, mem_good 176 (by decide +kernel) (by decide +kernel)⟩
theorem fl_X3_32 : FL RX3 32 3 4 := ⟨RX3, TX3, 8, rfl, gi_X3, by decide, mem_good 177 (by decide +kernel) (by decide +kernel)⟩
theorem fl_X3_35 : FL RX3 35 3 5 := ⟨RX3, TX3, 8, rfl, gi_X3, by decide, mem_good 178 (by decide +kernel) (by decide +kernel)⟩
theorem fl_X3_39 : FL RX3 39 3 6 := ⟨RX3, TX3, 8, rfl, gi_X3, by decide, mem_good 179 (by decide +kernel) (by decide +kernel)⟩
theorem fl_X3_42 : FL RX3 42 3 7 := ⟨RX3, TX3, 8, rfl, gi_X3, by decide, mem_good 180 (by decide +kernel) (by decide +kernel)⟩
theorem fl_X3_69 : FL RX3 69 4 7 := ⟨RX4, TX4, 11, rfl, gi_X4, by decide, mem_good 142 (by decide +kernel) (by decide +kernel)⟩
theorem fl_X3_79 : FL RX3 79 4 8 := ⟨RX4, TX4, 11, rfl, gi_X4, by decide, mem_good 144 (by decide +kernel) (by decide +kernel)⟩
theorem fl_X3_90 : FL RX3 90 4 2 := ⟨RX4, TX4, 11, rfl, gi_X4, by decide, mem_good 133 (by decide +kernel) (by decide +kernel)⟩
theorem fl_X3_93 : FL RX3 93 4 0 := ⟨RX4, TX4, 11, rfl, gi_X4, by decide, mem_good 129 (by decide +kernel) (by decide +kernel)⟩
theorem fl_X3_96 : FL RX3 96 4 1 := ⟨RX4, TX4, 11, rfl, gi_X4, by decide, mem_good 131 (by decide +kernel) (by decide +kernel)⟩
theorem fl_X3_106 : FL RX3 106 0 8 := ⟨RX0, TX0, 13, rfl, gi_X0, by decide, mem_good 86 (by decide +kernel) (by decide +kernel)⟩
theorem fl_X3_113 : FL RX3 113 4 4 := ⟨RX4, TX4, 11, rfl, gi_X4, by decide, mem_good 137 (by decide +kernel) (by decide +kernel)⟩
theorem fl_X3_129 : FL RX3 129 0 10 := ⟨RX0, TX0, 13, rfl, gi_X0, by decide, mem_good 89 (by decide +kernel) (by decide +kernel)⟩
theorem fl_X3_144 : FL RX3 144 0 1 := ⟨RX0, TX0, 13, rfl, gi_X0, by decide, mem_good 74 (by decide +kernel) (by decide +kernel)⟩
theorem fl_X3_147 : FL RX3 147 4 9 := ⟨RX4, TX4, 11, rfl, gi_X4, by decide, mem_good 146 (by decide +kernel) (by decide +kernel)⟩
theorem fl_X3_153 : FL RX3 153 0 12 := ⟨RX0, TX0, 13, rfl, gi_X0, by decide, mem_good 93 (by decide +kernel) (by decide +kernel)⟩
theorem fl_X3_156 : FL RX3 156 0 11 := ⟨RX0, TX0, 13, rfl, gi_X0, by decide, mem_good 91 (by decide +kernel) (by decide +kernel)⟩
theorem fl_X3_159 : FL RX3 159 0 3 := ⟨RX0, TX0, 13, rfl, gi_X0, by decide, mem_good 78 (by decide +kernel) (by decide +kernel)⟩
theorem fl_X3_160 : FL RX3 160 0 5 := ⟨RX0, TX0, 13, rfl, gi_X0, by decide, mem_good 82 (by decide +kernel) (by decide +kernel)⟩
theorem fl_X3_166 : FL RX3 166 0 0 := ⟨RX0, TX0, 13, rfl, gi_X0, by decide, mem_good 72 (by decide +kernel) (by decide +kernel)⟩
theorem fl_X3_192 : FL RX3 192 4 10 := ⟨RX4, TX4, 11, rfl, gi_X4, by decide, mem_good 148 (by decide +kernel) (by decide +kernel)⟩
theorem fl_X3_195 : FL RX3 195 4 5 := ⟨RX4, TX4, 11, rfl, gi_X4, by decide, mem_good 139 (by decide +kernel) (by decide +kernel)⟩
theorem fl_X3_201 : FL RX3 201 0 2 := ⟨RX0, TX0, 13, rfl, gi_X0, by decide, mem_good 76 (by decide +kernel) (by decide +kernel)⟩
theorem fl_X3_204 : FL RX3 204 4 3 := ⟨RX4, TX4, 11, rfl, gi_X4, by decide, mem_good 135 (by decide +kernel) (by decide +kernel)⟩
theorem fl_X4_9 : FL RX4 9 4 0 := ⟨RX4, TX4, 11, rfl, gi_X4, by decide, mem_good 128 (by decide +kernel) (by decide +kernel)⟩
theorem fl_X4_15 : FL RX4 15 4 1 := ⟨RX4, TX4, 11, rfl, gi_X4, by decide, mem_good 130 (by decide +kernel) (by decide +kernel)⟩
theorem fl_X4_18 : FL RX4 18 4 2 := ⟨RX4, TX4, 11, rfl, gi_X4, by decide, mem_good 132 (by decide +kernel) (by decide +kernel)⟩
theorem fl_X4_21 : FL RX4 21 4 3 := ⟨RX4, TX4, 11, rfl, gi_X4, by decide, mem_good 134 (by decide +kernel) (by decide +kernel)⟩
theorem fl_X4_24 : FL RX4 24 4 4 := ⟨RX4, TX4, 11, rfl, gi_X4, by decide, mem_good 136 (by decide +kernel) (by decide +kernel)⟩
theorem fl_X4_27 : FL RX4 27 4 5 := ⟨RX4, TX4, 11, rfl, gi_X4, by decide, mem_good 138 (by decide +kernel) (by decide +kernel)⟩
theorem fl_X4_30 : FL RX4 30 4 6 := ⟨RX4, TX4, 11, rfl, gi_X4, by decide, mem_good 140 (by decide +kernel) (by decide +kernel)⟩
theorem fl_X4_34 : FL RX4 34 4 7 := ⟨RX4, TX4, 11, rfl, gi_X4, by decide, mem_good 141 (by decide +kernel) (by decide +kernel)⟩
theorem fl_X4_37 : FL RX4 37 4 8 := ⟨RX4, TX4, 11, rfl, gi_X4, by decide, mem_good 143 (by decide +kernel) (by decide +kernel)⟩
theorem fl_X4_40 : FL RX4 40 4 9 := ⟨RX4, TX4, 11, rfl, gi_X4, by decide, mem_good 145 (by decide +kernel) (by decide +kernel)⟩
theorem fl_X4_43 : FL RX4 43 4 10 := ⟨RX4, TX4, 11, rfl, gi_X4, by decide, mem_good 147 (by decide +kernel) (by decide +kernel)⟩
theorem fl_X5_12 : FL RX5 12 5 0 := ⟨RX5, TX5, 6, rfl, gi_X5, by decide, mem_good 234 (by decide +kernel) (by decide +kernel)⟩
theorem fl_X5_16 : FL RX5 16 5 1 := ⟨RX5, TX5, 6, rfl, gi_X5, by decide, mem_good 235 (by decide +kernel) (by decide +kernel)⟩
theorem fl_X5_19 : FL RX5 19 5 2 := ⟨RX5, TX5, 6, rfl, gi_X5, by decide, mem_good 236 (by decide +kernel) (by decide +kernel)⟩
theorem fl_X5_22 : FL RX5 22 5 3 := ⟨RX5, TX5, 6, rfl, gi_X5, by decide, mem_good 237 (by decide +kernel) (by decide +kernel)⟩
theorem fl_X5_29 : FL RX5 29 5 4 := ⟨RX5, TX5, 6, rfl, gi_X5, by decide, mem_good 238 (by decide +kernel) (by decide +kernel)⟩
theorem fl_X5_36 : FL RX5 36 5 5 := ⟨RX5, TX5, 6, rfl, gi_X5, by decide, mem_good 239 (by decide +kernel) (by decide +kernel)⟩
theorem fl_X5_81 : FL RX5 81 2 1 := ⟨RX2, TX2, 2, rfl, gi_X2, by decide, mem_good 227 (by decide +kernel) (by decide +kernel)⟩
theorem fl_X5_108 : FL RX5 108 3 7 := ⟨RX3, TX3, 8, rfl, gi_X3, by decide, mem_good 181 (by decide +kernel) (by decide +kernel)⟩
theorem fl_X5_117 : FL RX5 117 3 0 := ⟨RX3, TX3, 8, rfl, gi_X3, by decide, mem_good 173 (by decide +kernel) (by decide +kernel)⟩
theorem fl_X5_147 : FL RX5 147 0 4 := ⟨RX0, TX0, 13, rfl, gi_X0, by decide, mem_good 80 (by decide +kernel) (by decide +kernel)⟩
theorem fl_X5_151 : FL RX5 151 1 2 := ⟨RX1, TX1, 3, rfl, gi_X1, by decide, mem_good 211 (by decide +kernel) (by decide +kernel)⟩
theorem fl_X6_7 : FL RX6 7 6 0 := ⟨RX6, TX6, 15, rfl, gi_X6, by decide, mem_good 635 (by decide +kernel) (by decide +kernel)⟩
theorem fl_X6_13 : FL RX6 13 6 1 := ⟨RX6, TX6, 15, rfl, gi_X6, by decide, mem_good 636 (by decide +kernel) (by decide +kernel)⟩
theorem fl_X6_16 : FL RX6 16 6 2 := ⟨RX6, TX6, 15, rfl, gi_X6, by decide, mem_good 637 (by decide +kernel) (by decide +kernel)⟩
theorem fl_X6_19 : FL RX6 19 6 4 := ⟨RX6, TX6, 15, rfl, gi_X6, by decide, mem_good 639 (by decide +kernel) (by decide +kernel)⟩
theorem fl_X6_22 : FL RX6 22 6 6 := ⟨RX6, TX6, 15, rfl, gi_X6, by decide, mem_good 641 (by decide +kernel) (by decide +kernel)⟩
theorem fl_X6_25 : FL RX6 25 6 8 := ⟨RX6, TX6, 15, rfl, gi_X6, by decide, mem_good 643 (by decide +kernel) (by decide +kernel)⟩
theorem fl_X6_29 : FL RX6 29 6 13 := ⟨RX6, TX6, 15, rfl, gi_X6, by decide, mem_good 648 (by decide +kernel) (by decide +kernel)⟩
theorem fl_X6_47 : FL RX6 47 6 3 := ⟨RX6, TX6, 15, rfl, gi_X6, by decide, mem_good 638 (by decide +kernel) (by decide +kernel)⟩
theorem fl_X6_114 : FL RX6 114 6 9 := ⟨RX6, TX6, 15, rfl, gi_X6, by decide, mem_good 644 (by decide +kernel) (by decide +kernel)⟩
theorem fl_X6_118 : FL RX6 118 6 10 := ⟨RX6, TX6, 15, rfl, gi_X6, by decide, mem_good 645 (by decide +kernel) (by decide +kernel)⟩
theorem fl_X6_133 : FL RX6 133 6 11 := ⟨RX6, TX6, 15, rfl, gi_X6, by decide, mem_good 646 (by decide +kernel) (by decide +kernel)⟩
theorem fl_X6_136 : FL RX6 136 6 7 := ⟨RX6, TX6, 15, rfl, gi_X6, by decide, mem_good 642 (by decide +kernel) (by decide +kernel)⟩
theorem fl_X6_139 : FL RX6 139 6 12 := ⟨RX6, TX6, 15, rfl, gi_X6, by decide, mem_good 647 (by decide +kernel) (by decide +kernel)⟩
theorem fl_X6_145 : FL RX6 145 6 14 := ⟨RX6, TX6, 15, rfl, gi_X6, by decide, mem_good 649 (by decide +kernel) (by decide +kernel)⟩
theorem fl_X6_163 : FL RX6 163 6 5 := ⟨RX6, TX6, 15, rfl, gi_X6, by decide, mem_good 640 (by decide +kernel) (by decide +kernel)⟩
theorem fp_X0_9 : FP RX0 9 0 0 (.array .int) true := ⟨RX0, TX0, 13, tyX0, rfl, gi_X0, tyX0_ok, nmX0, by decide, mem_good 71 (by decide +kernel) (by decide +kernel), rfl, rfl, by decide +kernel⟩
theorem fp_X0_15 : FP RX0 15 0 1 (.array .int) true := ⟨RX0, TX0, 13, tyX0, rfl, gi_X0, tyX0_ok, nmX0, by decide, mem_good 73 (by decide +kernel) (by decide +kernel), rfl, rfl, by decide +kernel⟩
theorem fp_X0_18 : FP RX0 18 0 2 (.array .int) true := ⟨RX0, TX0, 13, tyX0, rfl, gi_X0, tyX0_ok, nmX0, by decide, mem_good 75 (by decide +kernel) (by decide +kernel), rfl, rfl, by decide +kernel⟩
theorem fp_X0_21 : FP RX0 21 0 3 (.array .int) true := ⟨RX0, TX0, 13, tyX0, rfl, gi_X0, tyX0_ok, nmX0, by decide, mem_good 77 (by decide +kernel) (by decide +kernel), rfl, rfl, by decide +kernel⟩
theorem fp_X0_24 : FP RX0 24 0 4 (.array .int) true := ⟨RX0, TX0, 13, tyX0, rfl, gi_X0, tyX0_ok, nmX0, by decide, mem_good 79 (by decide +kernel) (by decide +kernel), rfl, rfl, by decide +kernel⟩
theorem fp_X0_27 : FP RX0 27 0 5 (.array .int) true := ⟨RX0, TX0, 13, tyX0, rfl, gi_X0, tyX0_ok, nmX0, by decide, mem_good 81 (by decide +kernel) (by decide +kernel), rfl, rfl, by decide +kernel⟩
theorem fp_X0_30 : FP RX0 30 0 6 (.array .int) true := ⟨RX0, TX0, 13, tyX0, rfl, gi_X0, tyX0_ok, nmX0, by decide, mem_good 83 (by decide +kernel) (by decide +kernel), rfl, rfl, by decide +kernel⟩
theorem fp_X0_33 : FP RX0 33 0 7 (.array .int) true := ⟨RX0, TX0, 13, tyX0, rfl, gi_X0, tyX0_ok, nmX0, by decide, mem_good 84 (by decide +kernel) (by decide +kernel), rfl, rfl, by decide +kernel⟩
theorem fp_X0_36 : FP RX0 36 0 8 .int false := ⟨RX0, TX0, 13, tyX0, rfl, gi_X0, tyX0_ok, nmX0, by decide, mem_good 85 (by decide +kernel) (by decide +kernel), rfl, rfl, by decide +kernel⟩
theorem fp_X0_40 : FP RX0 40 0 9 (.array .int) true := ⟨RX0, TX0, 13, tyX0, rfl, gi_X0, tyX0_ok, nmX0, by decide, mem_good 87 (by decide +kernel) (by decide +kernel), rfl, rfl, by decide +kernel⟩
theorem fp_X0_43 : FP RX0 43 0 10 .int false := ⟨RX0, TX0, 13, tyX0, rfl, gi_X0, tyX0_ok, nmX0, by decide, mem_good 88 (by decide +kernel) (by decide +kernel), rfl, rfl, by decide +kernel⟩
theorem fp_X0_46 : FP RX0 46 0 11 (.array .int) true := ⟨RX0, TX0, 13, tyX0, rfl, gi_X0, tyX0_ok, nmX0, by decide, mem_good 90 (by decide +kernel) (by decide +kernel), rfl, rfl, by decide +kernel⟩
theorem fp_X0_49 : FP RX0 49 0 12 .int false := ⟨RX0, TX0, 13, tyX0, rfl, gi_X0, tyX0_ok, nmX0, by decide, mem_good 92 (by decide +kernel) (by decide +kernel), rfl, rfl, by decide +kernel⟩
theorem fp_X1_13 : FP RX1 13 1 0 (.array (.object "AppendZones$State")) true := ⟨RX1, TX1, 3, tyX1, rfl, gi_X1, tyX1_ok, nmX1, by decide, mem_good 208 (by decide +kernel) (by decide +kernel), rfl, rfl, by decide +kernel⟩
theorem fp_X1_17 : FP RX1 17 1 1 .int false := ⟨RX1, TX1, 3, tyX1, rfl, gi_X1, tyX1_ok, nmX1, by decide, mem_good 209 (by decide +kernel) (by decide +kernel), rfl, rfl, by decide +kernel⟩
theorem fp_X1_21 : FP RX1 21 1 2 .int false := ⟨RX1, TX1, 3, tyX1, rfl, gi_X1, tyX1_ok, nmX1, by decide, mem_good 210 (by decide +kernel) (by decide +kernel), rfl, rfl, by decide +kernel⟩
theorem fp_X2_9 : FP RX2 9 2 0 (.array .char) true := ⟨RX2, TX2, 2, tyX2, rfl, gi_X2, tyX2_ok, nmX2, by decide, mem_good 225 (by decide +kernel) (by decide +kernel), rfl, rfl, by decide +kernel⟩
theorem fp_X2_15 : FP RX2 15 2 1 .int false := ⟨RX2, TX2, 2, tyX2, rfl, gi_X2, tyX2_ok, nmX2, by decide, mem_good 226 (by decide +kernel) (by decide +kernel), rfl, rfl, by decide +kernel⟩
theorem fp_X3_12 : FP RX3 12 3 0 (.object "AppendZones$Appends") true := ⟨RX3, TX3, 8, tyX3, rfl, gi_X3, tyX3_ok, nmX3, by decide, mem_good 172 (by decide +kernel) (by decide +kernel), rfl, rfl, by decide +kernel⟩
theorem fp_X3_21 : FP RX3 21 3 1 (.object "AppendZones$Zones") true := ⟨RX3, TX3, 8, tyX3, rfl, gi_X3, tyX3_ok, nmX3, by decide, mem_good 174 (by decide +kernel) (by decide +kernel), rfl, rfl, by decide +kernel⟩
theorem fp_X3_25 : FP RX3 25 3 2 (.array .int) true := ⟨RX3, TX3, 8, tyX3, rfl, gi_X3, tyX3_ok, nmX3, by decide, mem_good 175 (by decide +kernel) (by decide +kernel), rfl, rfl, by decide +kernel⟩
theorem fp_X3_29 : FP RX3 29 3 3 (.array .int) true := ⟨RX3, TX3, 8, tyX3, rfl, gi_X3, tyX3_ok, nmX3, by decide, mem_good 176 (by decide +kernel) (by decide +kernel), rfl, rfl, by decide +kernel⟩
theorem fp_X3_32 : FP RX3 32 3 4 (.array .int) true := ⟨RX3, TX3, 8, tyX3, rfl, gi_X3, tyX3_ok, nmX3, by decide, mem_good 177 (by decide +kernel) (by decide +kernel), rfl, rfl, by decide +kernel⟩
theorem fp_X3_35 : FP RX3 35 3 5 .int false := ⟨RX3, TX3, 8, tyX3, rfl, gi_X3, tyX3_ok, nmX3, by decide, mem_good 178 (by decide +kernel) (by decide +kernel), rfl, rfl, by decide +kernel⟩
theorem fp_X3_39 : FP RX3 39 3 6 .int false := ⟨RX3, TX3, 8, tyX3, rfl, gi_X3, tyX3_ok, nmX3, by decide, mem_good 179 (by decide +kernel) (by decide +kernel), rfl, rfl, by decide +kernel⟩
theorem fp_X3_42 : FP RX3 42 3 7 .int false := ⟨RX3, TX3, 8, tyX3, rfl, gi_X3, tyX3_ok, nmX3, by decide, mem_good 180 (by decide +kernel) (by decide +kernel), rfl, rfl, by decide +kernel⟩
theorem fp_X3_69 : FP RX3 69 4 7 .int false := ⟨RX4, TX4, 11, tyX4, rfl, gi_X4, tyX4_ok, nmX4, by decide, mem_good 142 (by decide +kernel) (by decide +kernel), rfl, rfl, by decide +kernel⟩
theorem fp_X3_79 : FP RX3 79 4 8 .int false := ⟨RX4, TX4, 11, tyX4, rfl, gi_X4, tyX4_ok, nmX4, by decide, mem_good 144 (by decide +kernel) (by decide +kernel), rfl, rfl, by decide +kernel⟩
theorem fp_X3_147 : FP RX3 147 4 9 .int false := ⟨RX4, TX4, 11, tyX4, rfl, gi_X4, tyX4_ok, nmX4, by decide, mem_good 146 (by decide +kernel) (by decide +kernel), rfl, rfl, by decide +kernel⟩
theorem fp_X3_192 : FP RX3 192 4 10 .int false := ⟨RX4, TX4, 11, tyX4, rfl, gi_X4, tyX4_ok, nmX4, by decide, mem_good 148 (by decide +kernel) (by decide +kernel), rfl, rfl, by decide +kernel⟩
theorem fp_X4_9 : FP RX4 9 4 0 (.array .int) true := ⟨RX4, TX4, 11, tyX4, rfl, gi_X4, tyX4_ok, nmX4, by decide, mem_good 128 (by decide +kernel) (by decide +kernel), rfl, rfl, by decide +kernel⟩
theorem fp_X4_15 : FP RX4 15 4 1 (.array .int) true := ⟨RX4, TX4, 11, tyX4, rfl, gi_X4, tyX4_ok, nmX4, by decide, mem_good 130 (by decide +kernel) (by decide +kernel), rfl, rfl, by decide +kernel⟩
theorem fp_X4_18 : FP RX4 18 4 2 (.array .int) true := ⟨RX4, TX4, 11, tyX4, rfl, gi_X4, tyX4_ok, nmX4, by decide, mem_good 132 (by decide +kernel) (by decide +kernel), rfl, rfl, by decide +kernel⟩
theorem fp_X4_21 : FP RX4 21 4 3 (.array .int) true := ⟨RX4, TX4, 11, tyX4, rfl, gi_X4, tyX4_ok, nmX4, by decide, mem_good 134 (by decide +kernel) (by decide +kernel), rfl, rfl, by decide +kernel⟩
theorem fp_X4_24 : FP RX4 24 4 4 (.array .int) true := ⟨RX4, TX4, 11, tyX4, rfl, gi_X4, tyX4_ok, nmX4, by decide, mem_good 136 (by decide +kernel) (by decide +kernel), rfl, rfl, by decide +kernel⟩
theorem fp_X4_27 : FP RX4 27 4 5 (.array .int) true := ⟨RX4, TX4, 11, tyX4, rfl, gi_X4, tyX4_ok, nmX4, by decide, mem_good 138 (by decide +kernel) (by decide +kernel), rfl, rfl, by decide +kernel⟩
theorem fp_X4_30 : FP RX4 30 4 6 .int false := ⟨RX4, TX4, 11, tyX4, rfl, gi_X4, tyX4_ok, nmX4, by decide, mem_good 140 (by decide +kernel) (by decide +kernel), rfl, rfl, by decide +kernel⟩
theorem fp_X4_34 : FP RX4 34 4 7 .int false := ⟨RX4, TX4, 11, tyX4, rfl, gi_X4, tyX4_ok, nmX4, by decide, mem_good 141 (by decide +kernel) (by decide +kernel), rfl, rfl, by decide +kernel⟩
theorem fp_X4_37 : FP RX4 37 4 8 .int false := ⟨RX4, TX4, 11, tyX4, rfl, gi_X4, tyX4_ok, nmX4, by decide, mem_good 143 (by decide +kernel) (by decide +kernel), rfl, rfl, by decide +kernel⟩
theorem fp_X4_40 : FP RX4 40 4 9 .int false := ⟨RX4, TX4, 11, tyX4, rfl, gi_X4, tyX4_ok, nmX4, by decide, mem_good 145 (by decide +kernel) (by decide +kernel), rfl, rfl, by decide +kernel⟩
theorem fp_X4_43 : FP RX4 43 4 10 .int false := ⟨RX4, TX4, 11, tyX4, rfl, gi_X4, tyX4_ok, nmX4, by decide, mem_good 147 (by decide +kernel) (by decide +kernel), rfl, rfl, by decide +kernel⟩
theorem fp_X5_12 : FP RX5 12 5 0 (.object "AppendZones$State") true := ⟨RX5, TX5, 6, tyX5, rfl, gi_X5, tyX5_ok, nmX5, by decide, mem_good 234 (by decide +kernel) (by decide +kernel), rfl, rfl, by decide +kernel⟩
theorem fp_X5_16 : FP RX5 16 5 1 (.object "AppendZones$State") true := ⟨RX5, TX5, 6, tyX5, rfl, gi_X5, tyX5_ok, nmX5, by decide, mem_good 235 (by decide +kernel) (by decide +kernel), rfl, rfl, by decide +kernel⟩
theorem fp_X5_19 : FP RX5 19 5 2 (.object "AppendZones$State") true := ⟨RX5, TX5, 6, tyX5, rfl, gi_X5, tyX5_ok, nmX5, by decide, mem_good 236 (by decide +kernel) (by decide +kernel), rfl, rfl, by decide +kernel⟩
theorem fp_X5_22 : FP RX5 22 5 3 .boolean false := ⟨RX5, TX5, 6, tyX5, rfl, gi_X5, tyX5_ok, nmX5, by decide, mem_good 237 (by decide +kernel) (by decide +kernel), rfl, rfl, by decide +kernel⟩
theorem fp_X5_29 : FP RX5 29 5 4 (.object "AppendZones$History") true := ⟨RX5, TX5, 6, tyX5, rfl, gi_X5, tyX5_ok, nmX5, by decide, mem_good 238 (by decide +kernel) (by decide +kernel), rfl, rfl, by decide +kernel⟩
theorem fp_X5_36 : FP RX5 36 5 5 (.object "AppendZones$OrderText") true := ⟨RX5, TX5, 6, tyX5, rfl, gi_X5, tyX5_ok, nmX5, by decide, mem_good 239 (by decide +kernel) (by decide +kernel), rfl, rfl, by decide +kernel⟩
theorem fp_X6_7 : FP RX6 7 6 0 (.array .int) true := ⟨RX6, TX6, 15, tyX6, rfl, gi_X6, tyX6_ok, nmX6, by decide, mem_good 635 (by decide +kernel) (by decide +kernel), rfl, rfl, by decide +kernel⟩
theorem fp_X6_13 : FP RX6 13 6 1 (.array .int) true := ⟨RX6, TX6, 15, tyX6, rfl, gi_X6, tyX6_ok, nmX6, by decide, mem_good 636 (by decide +kernel) (by decide +kernel), rfl, rfl, by decide +kernel⟩
theorem fp_X6_16 : FP RX6 16 6 2 (.array .int) true := ⟨RX6, TX6, 15, tyX6, rfl, gi_X6, tyX6_ok, nmX6, by decide, mem_good 637 (by decide +kernel) (by decide +kernel), rfl, rfl, by decide +kernel⟩
theorem fp_X6_19 : FP RX6 19 6 4 (.array .int) true := ⟨RX6, TX6, 15, tyX6, rfl, gi_X6, tyX6_ok, nmX6, by decide, mem_good 639 (by decide +kernel) (by decide +kernel), rfl, rfl, by decide +kernel⟩
theorem fp_X6_22 : FP RX6 22 6 6 (.array .int) true := ⟨RX6, TX6, 15, tyX6, rfl, gi_X6, tyX6_ok, nmX6, by decide, mem_good 641 (by decide +kernel) (by decide +kernel), rfl, rfl, by decide +kernel⟩
theorem fp_X6_25 : FP RX6 25 6 8 (.array .boolean) true := ⟨RX6, TX6, 15, tyX6, rfl, gi_X6, tyX6_ok, nmX6, by decide, mem_good 643 (by decide +kernel) (by decide +kernel), rfl, rfl, by decide +kernel⟩
theorem fp_X6_29 : FP RX6 29 6 13 (.array .int) true := ⟨RX6, TX6, 15, tyX6, rfl, gi_X6, tyX6_ok, nmX6, by decide, mem_good 648 (by decide +kernel) (by decide +kernel), rfl, rfl, by decide +kernel⟩
theorem fp_X6_47 : FP RX6 47 6 3 .int false := ⟨RX6, TX6, 15, tyX6, rfl, gi_X6, tyX6_ok, nmX6, by decide, mem_good 638 (by decide +kernel) (by decide +kernel), rfl, rfl, by decide +kernel⟩
theorem fp_X6_114 : FP RX6 114 6 9 .boolean false := ⟨RX6, TX6, 15, tyX6, rfl, gi_X6, tyX6_ok, nmX6, by decide, mem_good 644 (by decide +kernel) (by decide +kernel), rfl, rfl, by decide +kernel⟩
theorem fp_X6_118 : FP RX6 118 6 10 .int false := ⟨RX6, TX6, 15, tyX6, rfl, gi_X6, tyX6_ok, nmX6, by decide, mem_good 645 (by decide +kernel) (by decide +kernel), rfl, rfl, by decide +kernel⟩
theorem fp_X6_133 : FP RX6 133 6 11 .int false := ⟨RX6, TX6, 15, tyX6, rfl, gi_X6, tyX6_ok, nmX6, by decide, mem_good 646 (by decide +kernel) (by decide +kernel), rfl, rfl, by decide +kernel⟩
theorem fp_X6_136 : FP RX6 136 6 7 .int false := ⟨RX6, TX6, 15, tyX6, rfl, gi_X6, tyX6_ok, nmX6, by decide, mem_good 642 (by decide +kernel) (by decide +kernel), rfl, rfl, by decide +kernel⟩
theorem fp_X6_139 : FP RX6 139 6 12 .boolean false := ⟨RX6, TX6, 15, tyX6, rfl, gi_X6, tyX6_ok, nmX6, by decide, mem_good 647 (by decide +kernel) (by decide +kernel), rfl, rfl, by decide +kernel⟩
theorem fp_X6_145 : FP RX6 145 6 14 .int false := ⟨RX6, TX6, 15, tyX6, rfl, gi_X6, tyX6_ok, nmX6, by decide, mem_good 649 (by decide +kernel) (by decide +kernel), rfl, rfl, by decide +kernel⟩
theorem fp_X6_163 : FP RX6 163 6 5 .boolean false := ⟨RX6, TX6, 15, tyX6, rfl, gi_X6, tyX6_ok, nmX6, by decide, mem_good 640 (by decide +kernel) (by decide +kernel), rfl, rfl, by decide +kernel⟩
theorem cm_X0_add : CM yX0_add 3 cX0_add 5 (some .int) := ⟨mem_good 45 (by decide +kernel) (by decide +kernel), mem_good 361 (by decide +kernel) (by decide +kernel), ⟨by decide +kernel, by decide +kernel, by decide +kernel⟩⟩
theorem cm_X0_begin : CM yX0_begin 4 cX0_begin 5 none := ⟨mem_good 45 (by decide +kernel) (by decide +kernel), mem_good 466 (by decide +kernel) (by decide +kernel), ⟨by decide +kernel, by decide +kernel, by decide +kernel⟩⟩
theorem cm_X0_copyFrom : CM yX0_copyFrom 1 cX0_copyFrom 2 none := ⟨mem_good 45 (by decide +kernel) (by decide +kernel), mem_good 272 (by decide +kernel) (by decide +kernel), ⟨by decide +kernel, by decide +kernel, by decide +kernel⟩⟩
theorem cm_X0_dropEnded : CM yX0_dropEnded 0 cX0_dropEnded 3 none := ⟨mem_good 45 (by decide +kernel) (by decide +kernel), mem_good 385 (by decide +kernel) (by decide +kernel), ⟨by decide +kernel, by decide +kernel, by decide +kernel⟩⟩
theorem cm_X0_failInZone : CM yX0_failInZone 3 cX0_failInZone 7 (some .int) := ⟨mem_good 45 (by decide +kernel) (by decide +kernel), mem_good 377 (by decide +kernel) (by decide +kernel), ⟨by decide +kernel, by decide +kernel, by decide +kernel⟩⟩
theorem cm_X0_holderOf : CM yX0_holderOf 3 cX0_holderOf 5 (some .int) := ⟨mem_good 45 (by decide +kernel) (by decide +kernel), mem_good 553 (by decide +kernel) (by decide +kernel), ⟨by decide +kernel, by decide +kernel, by decide +kernel⟩⟩
theorem cm_X0_init : CM yX0_init 0 cX0_init 1 none := ⟨mem_good 45 (by decide +kernel) (by decide +kernel), mem_good 69 (by decide +kernel) (by decide +kernel), ⟨by decide +kernel, by decide +kernel, by decide +kernel⟩⟩
theorem cm_X0_isAhead : CM yX0_isAhead 1 cX0_isAhead 3 (some .boolean) := ⟨mem_good 45 (by decide +kernel) (by decide +kernel), mem_good 433 (by decide +kernel) (by decide +kernel), ⟨by decide +kernel, by decide +kernel, by decide +kernel⟩⟩
theorem cm_X0_isLive : CM yX0_isLive 1 cX0_isLive 2 (some .boolean) := ⟨mem_good 45 (by decide +kernel) (by decide +kernel), mem_good 389 (by decide +kernel) (by decide +kernel), ⟨by decide +kernel, by decide +kernel, by decide +kernel⟩⟩
theorem cm_X0_isNumber : CM yX0_isNumber 1 cX0_isNumber 2 (some .boolean) := ⟨mem_good 45 (by decide +kernel) (by decide +kernel), mem_good 578 (by decide +kernel) (by decide +kernel), ⟨by decide +kernel, by decide +kernel, by decide +kernel⟩⟩
theorem cm_X0_liveIn : CM yX0_liveIn 1 cX0_liveIn 4 (some .int) := ⟨mem_good 45 (by decide +kernel) (by decide +kernel), mem_good 450 (by decide +kernel) (by decide +kernel), ⟨by decide +kernel, by decide +kernel, by decide +kernel⟩⟩
theorem cm_X0_liveInZone : CM yX0_liveInZone 2 cX0_liveInZone 5 (some .int) := ⟨mem_good 45 (by decide +kernel) (by decide +kernel), mem_good 413 (by decide +kernel) (by decide +kernel), ⟨by decide +kernel, by decide +kernel, by decide +kernel⟩⟩
theorem cm_X0_markFailed : CM yX0_markFailed 2 cX0_markFailed 3 none := ⟨mem_good 45 (by decide +kernel) (by decide +kernel), mem_good 381 (by decide +kernel) (by decide +kernel), ⟨by decide +kernel, by decide +kernel, by decide +kernel⟩⟩
theorem cm_X0_markTold : CM yX0_markTold 1 cX0_markTold 2 none := ⟨mem_good 45 (by decide +kernel) (by decide +kernel), mem_good 437 (by decide +kernel) (by decide +kernel), ⟨by decide +kernel, by decide +kernel, by decide +kernel⟩⟩
theorem cm_X0_ofWriter : CM yX0_ofWriter 2 cX0_ofWriter 5 (some .int) := ⟨mem_good 45 (by decide +kernel) (by decide +kernel), mem_good 357 (by decide +kernel) (by decide +kernel), ⟨by decide +kernel, by decide +kernel, by decide +kernel⟩⟩
theorem cm_X0_tellAppend : CM yX0_tellAppend 2 cX0_tellAppend 4 (some .int) := ⟨mem_good 45 (by decide +kernel) (by decide +kernel), mem_good 574 (by decide +kernel) (by decide +kernel), ⟨by decide +kernel, by decide +kernel, by decide +kernel⟩⟩
theorem cm_X0_toldAt : CM yX0_toldAt 1 cX0_toldAt 2 (some .int) := ⟨mem_good 45 (by decide +kernel) (by decide +kernel), mem_good 594 (by decide +kernel) (by decide +kernel), ⟨by decide +kernel, by decide +kernel, by decide +kernel⟩⟩
theorem cm_X0_toldInGeneration : CM yX0_toldInGeneration 2 cX0_toldInGeneration 5 (some .int) := ⟨mem_good 45 (by decide +kernel) (by decide +kernel), mem_good 373 (by decide +kernel) (by decide +kernel), ⟨by decide +kernel, by decide +kernel, by decide +kernel⟩⟩
theorem cm_X1_draft : CM yX1_draft 1 cX1_draft 2 none := ⟨mem_good 47 (by decide +kernel) (by decide +kernel), mem_good 260 (by decide +kernel) (by decide +kernel), ⟨by decide +kernel, by decide +kernel, by decide +kernel⟩⟩
theorem cm_X1_init : CM yX1_init 0 cX1_init 2 none := ⟨mem_good 47 (by decide +kernel) (by decide +kernel), mem_good 203 (by decide +kernel) (by decide +kernel), ⟨by decide +kernel, by decide +kernel, by decide +kernel⟩⟩
theorem cm_X1_settle : CM yX1_settle 1 cX1_settle 2 (some .int) := ⟨mem_good 47 (by decide +kernel) (by decide +kernel), mem_good 319 (by decide +kernel) (by decide +kernel), ⟨by decide +kernel, by decide +kernel, by decide +kernel⟩⟩
theorem cm_X1_slotBehind : CM yX1_slotBehind 0 cX1_slotBehind 1 (some (.object "AppendZones$State")) := ⟨mem_good 47 (by decide +kernel) (by decide +kernel), mem_good 264 (by decide +kernel) (by decide +kernel), ⟨by decide +kernel, by decide +kernel, by decide +kernel⟩⟩
theorem cm_X1_stepBack : CM yX1_stepBack 1 cX1_stepBack 2 (some .int) := ⟨mem_good 47 (by decide +kernel) (by decide +kernel), mem_good 532 (by decide +kernel) (by decide +kernel), ⟨by decide +kernel, by decide +kernel, by decide +kernel⟩⟩
theorem cm_X1_takeDraftBack : CM yX1_takeDraftBack 1 cX1_takeDraftBack 2 none := ⟨mem_good 47 (by decide +kernel) (by decide +kernel), mem_good 504 (by decide +kernel) (by decide +kernel), ⟨by decide +kernel, by decide +kernel, by decide +kernel⟩⟩
theorem cm_X2_add : CM yX2_add 1 cX2_add 2 (some .int) := ⟨mem_good 48 (by decide +kernel) (by decide +kernel), mem_good 516 (by decide +kernel) (by decide +kernel), ⟨by decide +kernel, by decide +kernel, by decide +kernel⟩⟩
theorem cm_X2_behindOrder : CM yX2_behindOrder 1 cX2_behindOrder 3 (some .int) := ⟨mem_good 48 (by decide +kernel) (by decide +kernel), mem_good 508 (by decide +kernel) (by decide +kernel), ⟨by decide +kernel, by decide +kernel, by decide +kernel⟩⟩
theorem cm_X2_digit : CM yX2_digit 1 cX2_digit 2 (some .int) := ⟨mem_good 48 (by decide +kernel) (by decide +kernel), mem_good 494 (by decide +kernel) (by decide +kernel), ⟨by decide +kernel, by decide +kernel, by decide +kernel⟩⟩
theorem cm_X2_empty : CM yX2_empty 0 cX2_empty 2 (some .int) := ⟨mem_good 48 (by decide +kernel) (by decide +kernel), mem_good 524 (by decide +kernel) (by decide +kernel), ⟨by decide +kernel, by decide +kernel, by decide +kernel⟩⟩
theorem cm_X2_fault : CM yX2_fault 0 cX2_fault 3 (some .int) := ⟨mem_good 48 (by decide +kernel) (by decide +kernel), mem_good 475 (by decide +kernel) (by decide +kernel), ⟨by decide +kernel, by decide +kernel, by decide +kernel⟩⟩
theorem cm_X2_init : CM yX2_init 0 cX2_init 1 none := ⟨mem_good 48 (by decide +kernel) (by decide +kernel), mem_good 223 (by decide +kernel) (by decide +kernel), ⟨by decide +kernel, by decide +kernel, by decide +kernel⟩⟩
theorem cm_X2_placeBehind : CM yX2_placeBehind 2 cX2_placeBehind 2 (some .int) := ⟨mem_good 48 (by decide +kernel) (by decide +kernel), mem_good 478 (by decide +kernel) (by decide +kernel), ⟨by decide +kernel, by decide +kernel, by decide +kernel⟩⟩
theorem cm_X2_placeBehindFirst : CM yX2_placeBehindFirst 1 cX2_placeBehindFirst 1 (some .int) := ⟨mem_good 48 (by decide +kernel) (by decide +kernel), mem_good 481 (by decide +kernel) (by decide +kernel), ⟨by decide +kernel, by decide +kernel, by decide +kernel⟩⟩
theorem cm_X2_sign : CM yX2_sign 1 cX2_sign 2 (some .char) := ⟨mem_good 48 (by decide +kernel) (by decide +kernel), mem_good 490 (by decide +kernel) (by decide +kernel), ⟨by decide +kernel, by decide +kernel, by decide +kernel⟩⟩
theorem cm_X2_valueFrom : CM yX2_valueFrom 1 cX2_valueFrom 3 (some .int) := ⟨mem_good 48 (by decide +kernel) (by decide +kernel), mem_good 499 (by decide +kernel) (by decide +kernel), ⟨by decide +kernel, by decide +kernel, by decide +kernel⟩⟩
theorem cm_X3_blockAt : CM yX3_blockAt 2 cX3_blockAt 4 (some .int) := ⟨mem_good 44 (by decide +kernel) (by decide +kernel), mem_good 549 (by decide +kernel) (by decide +kernel), ⟨by decide +kernel, by decide +kernel, by decide +kernel⟩⟩
theorem cm_X3_changeCapacity : CM yX3_changeCapacity 2 cX3_changeCapacity 4 (some .int) := ⟨mem_good 44 (by decide +kernel) (by decide +kernel), mem_good 334 (by decide +kernel) (by decide +kernel), ⟨by decide +kernel, by decide +kernel, by decide +kernel⟩⟩
theorem cm_X3_changeChannels : CM yX3_changeChannels 1 cX3_changeChannels 3 (some .int) := ⟨mem_good 44 (by decide +kernel) (by decide +kernel), mem_good 311 (by decide +kernel) (by decide +kernel), ⟨by decide +kernel, by decide +kernel, by decide +kernel⟩⟩
theorem cm_X3_changeDelay : CM yX3_changeDelay 2 cX3_changeDelay 4 (some .int) := ⟨mem_good 44 (by decide +kernel) (by decide +kernel), mem_good 327 (by decide +kernel) (by decide +kernel), ⟨by decide +kernel, by decide +kernel, by decide +kernel⟩⟩
theorem cm_X3_changeManner : CM yX3_changeManner 1 cX3_changeManner 3 (some .int) := ⟨mem_good 44 (by decide +kernel) (by decide +kernel), mem_good 315 (by decide +kernel) (by decide +kernel), ⟨by decide +kernel, by decide +kernel, by decide +kernel⟩⟩
theorem cm_X3_changeNumber : CM yX3_changeNumber 2 cX3_changeNumber 3 (some .int) := ⟨mem_good 44 (by decide +kernel) (by decide +kernel), mem_good 288 (by decide +kernel) (by decide +kernel), ⟨by decide +kernel, by decide +kernel, by decide +kernel⟩⟩
theorem cm_X3_changeOpenLimit : CM yX3_changeOpenLimit 1 cX3_changeOpenLimit 3 (some .int) := ⟨mem_good 44 (by decide +kernel) (by decide +kernel), mem_good 292 (by decide +kernel) (by decide +kernel), ⟨by decide +kernel, by decide +kernel, by decide +kernel⟩⟩
theorem cm_X3_changeUseLimit : CM yX3_changeUseLimit 1 cX3_changeUseLimit 3 (some .int) := ⟨mem_good 44 (by decide +kernel) (by decide +kernel), mem_good 303 (by decide +kernel) (by decide +kernel), ⟨by decide +kernel, by decide +kernel, by decide +kernel⟩⟩
theorem cm_X3_changeWindow : CM yX3_changeWindow 2 cX3_changeWindow 4 (some .int) := ⟨mem_good 44 (by decide +kernel) (by decide +kernel), mem_good 342 (by decide +kernel) (by decide +kernel), ⟨by decide +kernel, by decide +kernel, by decide +kernel⟩⟩
theorem cm_X3_copyFrom : CM yX3_copyFrom 1 cX3_copyFrom 2 none := ⟨mem_good 44 (by decide +kernel) (by decide +kernel), mem_good 268 (by decide +kernel) (by decide +kernel), ⟨by decide +kernel, by decide +kernel, by decide +kernel⟩⟩
theorem cm_X3_couldOpen : CM yX3_couldOpen 1 cX3_couldOpen 3 (some .boolean) := ⟨mem_good 44 (by decide +kernel) (by decide +kernel), mem_good 454 (by decide +kernel) (by decide +kernel), ⟨by decide +kernel, by decide +kernel, by decide +kernel⟩⟩
theorem cm_X3_fill : CM yX3_fill 1 cX3_fill 2 (some .int) := ⟨mem_good 44 (by decide +kernel) (by decide +kernel), mem_good 401 (by decide +kernel) (by decide +kernel), ⟨by decide +kernel, by decide +kernel, by decide +kernel⟩⟩
theorem cm_X3_hasBegun : CM yX3_hasBegun 1 cX3_hasBegun 5 (some .boolean) := ⟨mem_good 44 (by decide +kernel) (by decide +kernel), mem_good 445 (by decide +kernel) (by decide +kernel), ⟨by decide +kernel, by decide +kernel, by decide +kernel⟩⟩
theorem cm_X3_init : CM yX3_init 0 cX3_init 2 none := ⟨mem_good 44 (by decide +kernel) (by decide +kernel), mem_good 63 (by decide +kernel) (by decide +kernel), ⟨by decide +kernel, by decide +kernel, by decide +kernel⟩⟩
theorem cm_X3_letOnePass : CM yX3_letOnePass 0 cX3_letOnePass 4 none := ⟨mem_good 44 (by decide +kernel) (by decide +kernel), mem_good 425 (by decide +kernel) (by decide +kernel), ⟨by decide +kernel, by decide +kernel, by decide +kernel⟩⟩
theorem cm_X3_letPass : CM yX3_letPass 1 cX3_letPass 4 (some .int) := ⟨mem_good 44 (by decide +kernel) (by decide +kernel), mem_good 421 (by decide +kernel) (by decide +kernel), ⟨by decide +kernel, by decide +kernel, by decide +kernel⟩⟩
theorem cm_X3_longestIdle : CM yX3_longestIdle 0 cX3_longestIdle 5 (some .int) := ⟨mem_good 44 (by decide +kernel) (by decide +kernel), mem_good 458 (by decide +kernel) (by decide +kernel), ⟨by decide +kernel, by decide +kernel, by decide +kernel⟩⟩
theorem cm_X3_putInOrder : CM yX3_putInOrder 0 cX3_putInOrder 8 (some .int) := ⟨mem_good 44 (by decide +kernel) (by decide +kernel), mem_good 441 (by decide +kernel) (by decide +kernel), ⟨by decide +kernel, by decide +kernel, by decide +kernel⟩⟩
theorem cm_X3_readableFromStart : CM yX3_readableFromStart 1 cX3_readableFromStart 3 (some .int) := ⟨mem_good 44 (by decide +kernel) (by decide +kernel), mem_good 565 (by decide +kernel) (by decide +kernel), ⟨by decide +kernel, by decide +kernel, by decide +kernel⟩⟩
theorem cm_X3_send : CM yX3_send 3 cX3_send 6 (some .int) := ⟨mem_good 44 (by decide +kernel) (by decide +kernel), mem_good 353 (by decide +kernel) (by decide +kernel), ⟨by decide +kernel, by decide +kernel, by decide +kernel⟩⟩
theorem cm_X3_shut : CM yX3_shut 1 cX3_shut 2 (some .int) := ⟨mem_good 44 (by decide +kernel) (by decide +kernel), mem_good 409 (by decide +kernel) (by decide +kernel), ⟨by decide +kernel, by decide +kernel, by decide +kernel⟩⟩
theorem cm_X3_tellDue : CM yX3_tellDue 0 cX3_tellDue 3 none := ⟨mem_good 44 (by decide +kernel) (by decide +kernel), mem_good 429 (by decide +kernel) (by decide +kernel), ⟨by decide +kernel, by decide +kernel, by decide +kernel⟩⟩
theorem cm_X3_tellNumber : CM yX3_tellNumber 1 cX3_tellNumber 2 (some .int) := ⟨mem_good 44 (by decide +kernel) (by decide +kernel), mem_good 618 (by decide +kernel) (by decide +kernel), ⟨by decide +kernel, by decide +kernel, by decide +kernel⟩⟩
theorem cm_X3_tellWriter : CM yX3_tellWriter 2 cX3_tellWriter 3 (some .int) := ⟨mem_good 44 (by decide +kernel) (by decide +kernel), mem_good 586 (by decide +kernel) (by decide +kernel), ⟨by decide +kernel, by decide +kernel, by decide +kernel⟩⟩
theorem cm_X3_tellZone : CM yX3_tellZone 2 cX3_tellZone 3 (some .int) := ⟨mem_good 44 (by decide +kernel) (by decide +kernel), mem_good 561 (by decide +kernel) (by decide +kernel), ⟨by decide +kernel, by decide +kernel, by decide +kernel⟩⟩
theorem cm_X3_ticksUntilTold : CM yX3_ticksUntilTold 1 cX3_ticksUntilTold 3 (some .int) := ⟨mem_good 44 (by decide +kernel) (by decide +kernel), mem_good 604 (by decide +kernel) (by decide +kernel), ⟨by decide +kernel, by decide +kernel, by decide +kernel⟩⟩
theorem cm_X3_wipe : CM yX3_wipe 1 cX3_wipe 3 (some .int) := ⟨mem_good 44 (by decide +kernel) (by decide +kernel), mem_good 369 (by decide +kernel) (by decide +kernel), ⟨by decide +kernel, by decide +kernel, by decide +kernel⟩⟩
theorem cm_X4_clear : CM yX4_clear 1 cX4_clear 2 none := ⟨mem_good 46 (by decide +kernel) (by decide +kernel), mem_good 393 (by decide +kernel) (by decide +kernel), ⟨by decide +kernel, by decide +kernel, by decide +kernel⟩⟩
theorem cm_X4_copyFrom : CM yX4_copyFrom 1 cX4_copyFrom 2 none := ⟨mem_good 46 (by decide +kernel) (by decide +kernel), mem_good 282 (by decide +kernel) (by decide +kernel), ⟨by decide +kernel, by decide +kernel, by decide +kernel⟩⟩
theorem cm_X4_inPhase : CM yX4_inPhase 1 cX4_inPhase 4 (some .int) := ⟨mem_good 46 (by decide +kernel) (by decide +kernel), mem_good 299 (by decide +kernel) (by decide +kernel), ⟨by decide +kernel, by decide +kernel, by decide +kernel⟩⟩
theorem cm_X4_inUse : CM yX4_inUse 0 cX4_inUse 3 (some .int) := ⟨mem_good 46 (by decide +kernel) (by decide +kernel), mem_good 307 (by decide +kernel) (by decide +kernel), ⟨by decide +kernel, by decide +kernel, by decide +kernel⟩⟩
theorem cm_X4_init : CM yX4_init 0 cX4_init 2 none := ⟨mem_good 46 (by decide +kernel) (by decide +kernel), mem_good 126 (by decide +kernel) (by decide +kernel), ⟨by decide +kernel, by decide +kernel, by decide +kernel⟩⟩
theorem cm_X4_takePlace : CM yX4_takePlace 1 cX4_takePlace 3 (some .int) := ⟨mem_good 46 (by decide +kernel) (by decide +kernel), mem_good 462 (by decide +kernel) (by decide +kernel), ⟨by decide +kernel, by decide +kernel, by decide +kernel⟩⟩
theorem cm_X5_append : CM yX5_append 3 cX5_append 4 (some .int) := ⟨mem_good 43 (by decide +kernel) (by decide +kernel), mem_good 349 (by decide +kernel) (by decide +kernel), ⟨by decide +kernel, by decide +kernel, by decide +kernel⟩⟩
theorem cm_X5_appended : CM yX5_appended 2 cX5_appended 3 (some .int) := ⟨mem_good 43 (by decide +kernel) (by decide +kernel), mem_good 570 (by decide +kernel) (by decide +kernel), ⟨by decide +kernel, by decide +kernel, by decide +kernel⟩⟩
theorem cm_X5_clearText : CM yX5_clearText 0 cX5_clearText 1 (some .int) := ⟨mem_good 43 (by decide +kernel) (by decide +kernel), mem_good 520 (by decide +kernel) (by decide +kernel), ⟨by decide +kernel, by decide +kernel, by decide +kernel⟩⟩
theorem cm_X5_close : CM yX5_close 1 cX5_close 2 (some .int) := ⟨mem_good 43 (by decide +kernel) (by decide +kernel), mem_good 405 (by decide +kernel) (by decide +kernel), ⟨by decide +kernel, by decide +kernel, by decide +kernel⟩⟩
theorem cm_X5_copy : CM yX5_copy 3 cX5_copy 3 none := ⟨mem_good 43 (by decide +kernel) (by decide +kernel), mem_good 275 (by decide +kernel) (by decide +kernel), ⟨by decide +kernel, by decide +kernel, by decide +kernel⟩⟩
theorem cm_X5_count : CM yX5_count 1 cX5_count 2 (some .int) := ⟨mem_good 43 (by decide +kernel) (by decide +kernel), mem_good 614 (by decide +kernel) (by decide +kernel), ⟨by decide +kernel, by decide +kernel, by decide +kernel⟩⟩
theorem cm_X5_doOrder : CM yX5_doOrder 1 cX5_doOrder 3 (some .int) := ⟨mem_good 43 (by decide +kernel) (by decide +kernel), mem_good 486 (by decide +kernel) (by decide +kernel), ⟨by decide +kernel, by decide +kernel, by decide +kernel⟩⟩
theorem cm_X5_finish : CM yX5_finish 1 cX5_finish 2 (some .int) := ⟨mem_good 43 (by decide +kernel) (by decide +kernel), mem_good 397 (by decide +kernel) (by decide +kernel), ⟨by decide +kernel, by decide +kernel, by decide +kernel⟩⟩
theorem cm_X5_follow : CM yX5_follow 0 cX5_follow 5 (some .int) := ⟨mem_good 43 (by decide +kernel) (by decide +kernel), mem_good 471 (by decide +kernel) (by decide +kernel), ⟨by decide +kernel, by decide +kernel, by decide +kernel⟩⟩
theorem cm_X5_init : CM yX5_init 0 cX5_init 1 none := ⟨mem_good 43 (by decide +kernel) (by decide +kernel), mem_good 55 (by decide +kernel) (by decide +kernel), ⟨by decide +kernel, by decide +kernel, by decide +kernel⟩⟩
theorem cm_X5_isFrom : CM yX5_isFrom 3 cX5_isFrom 3 (some .boolean) := ⟨mem_good 43 (by decide +kernel) (by decide +kernel), mem_good 295 (by decide +kernel) (by decide +kernel), ⟨by decide +kernel, by decide +kernel, by decide +kernel⟩⟩
theorem cm_X5_isWriter : CM yX5_isWriter 1 cX5_isWriter 1 (some .boolean) := ⟨mem_good 43 (by decide +kernel) (by decide +kernel), mem_good 345 (by decide +kernel) (by decide +kernel), ⟨by decide +kernel, by decide +kernel, by decide +kernel⟩⟩
theorem cm_X5_isZone : CM yX5_isZone 1 cX5_isZone 1 (some .boolean) := ⟨mem_good 43 (by decide +kernel) (by decide +kernel), mem_good 330 (by decide +kernel) (by decide +kernel), ⟨by decide +kernel, by decide +kernel, by decide +kernel⟩⟩
theorem cm_X5_keep : CM yX5_keep 0 cX5_keep 1 (some .int) := ⟨mem_good 43 (by decide +kernel) (by decide +kernel), mem_good 536 (by decide +kernel) (by decide +kernel), ⟨by decide +kernel, by decide +kernel, by decide +kernel⟩⟩
theorem cm_X5_pass : CM yX5_pass 1 cX5_pass 2 (some .int) := ⟨mem_good 43 (by decide +kernel) (by decide +kernel), mem_good 417 (by decide +kernel) (by decide +kernel), ⟨by decide +kernel, by decide +kernel, by decide +kernel⟩⟩
theorem cm_X5_read : CM yX5_read 2 cX5_read 3 (some .int) := ⟨mem_good 43 (by decide +kernel) (by decide +kernel), mem_good 545 (by decide +kernel) (by decide +kernel), ⟨by decide +kernel, by decide +kernel, by decide +kernel⟩⟩
theorem cm_X5_reset : CM yX5_reset 1 cX5_reset 2 (some .int) := ⟨mem_good 43 (by decide +kernel) (by decide +kernel), mem_good 365 (by decide +kernel) (by decide +kernel), ⟨by decide +kernel, by decide +kernel, by decide +kernel⟩⟩
theorem cm_X5_restore : CM yX5_restore 0 cX5_restore 1 (some .int) := ⟨mem_good 43 (by decide +kernel) (by decide +kernel), mem_good 541 (by decide +kernel) (by decide +kernel), ⟨by decide +kernel, by decide +kernel, by decide +kernel⟩⟩
theorem cm_X5_set : CM yX5_set 2 cX5_set 3 (some .int) := ⟨mem_good 43 (by decide +kernel) (by decide +kernel), mem_good 256 (by decide +kernel) (by decide +kernel), ⟨by decide +kernel, by decide +kernel, by decide +kernel⟩⟩
theorem cm_X5_setWindow : CM yX5_setWindow 2 cX5_setWindow 3 (some .int) := ⟨mem_good 43 (by decide +kernel) (by decide +kernel), mem_good 338 (by decide +kernel) (by decide +kernel), ⟨by decide +kernel, by decide +kernel, by decide +kernel⟩⟩
theorem cm_X5_setZone : CM yX5_setZone 3 cX5_setZone 4 (some .int) := ⟨mem_good 43 (by decide +kernel) (by decide +kernel), mem_good 323 (by decide +kernel) (by decide +kernel), ⟨by decide +kernel, by decide +kernel, by decide +kernel⟩⟩
theorem cm_X5_told : CM yX5_told 1 cX5_told 2 (some .int) := ⟨mem_good 43 (by decide +kernel) (by decide +kernel), mem_good 590 (by decide +kernel) (by decide +kernel), ⟨by decide +kernel, by decide +kernel, by decide +kernel⟩⟩
theorem cm_X5_toldIn : CM yX5_toldIn 1 cX5_toldIn 2 (some .int) := ⟨mem_good 43 (by decide +kernel) (by decide +kernel), mem_good 598 (by decide +kernel) (by decide +kernel), ⟨by decide +kernel, by decide +kernel, by decide +kernel⟩⟩
theorem cm_X5_type : CM yX5_type 1 cX5_type 2 (some .int) := ⟨mem_good 43 (by decide +kernel) (by decide +kernel), mem_good 512 (by decide +kernel) (by decide +kernel), ⟨by decide +kernel, by decide +kernel, by decide +kernel⟩⟩
theorem cm_X5_undo : CM yX5_undo 0 cX5_undo 1 (some .int) := ⟨mem_good 43 (by decide +kernel) (by decide +kernel), mem_good 528 (by decide +kernel) (by decide +kernel), ⟨by decide +kernel, by decide +kernel, by decide +kernel⟩⟩
theorem cm_X5_would : CM yX5_would 2 cX5_would 5 (some .int) := ⟨mem_good 43 (by decide +kernel) (by decide +kernel), mem_good 608 (by decide +kernel) (by decide +kernel), ⟨by decide +kernel, by decide +kernel, by decide +kernel⟩⟩
theorem cm_X5_writer : CM yX5_writer 2 cX5_writer 3 (some .int) := ⟨mem_good 43 (by decide +kernel) (by decide +kernel), mem_good 582 (by decide +kernel) (by decide +kernel), ⟨by decide +kernel, by decide +kernel, by decide +kernel⟩⟩
theorem cm_X5_zone : CM yX5_zone 2 cX5_zone 3 (some .int) := ⟨mem_good 43 (by decide +kernel) (by decide +kernel), mem_good 557 (by decide +kernel) (by decide +kernel), ⟨by decide +kernel, by decide +kernel, by decide +kernel⟩⟩
theorem cm_X6_append : CM yX6_append 3 cX6_append 4 (some .int) := ⟨mem_good 49 (by decide +kernel) (by decide +kernel), mem_good 718 (by decide +kernel) (by decide +kernel), ⟨by decide +kernel, by decide +kernel, by decide +kernel⟩⟩
theorem cm_X6_appended : CM yX6_appended 2 cX6_appended 4 (some .int) := ⟨mem_good 49 (by decide +kernel) (by decide +kernel), mem_good 865 (by decide +kernel) (by decide +kernel), ⟨by decide +kernel, by decide +kernel, by decide +kernel⟩⟩
theorem cm_X6_appends : CM yX6_appends 2 cX6_appends 5 (some .int) := ⟨mem_good 49 (by decide +kernel) (by decide +kernel), mem_good 773 (by decide +kernel) (by decide +kernel), ⟨by decide +kernel, by decide +kernel, by decide +kernel⟩⟩
theorem cm_X6_appendsOf : CM yX6_appendsOf 2 cX6_appendsOf 5 (some .int) := ⟨mem_good 49 (by decide +kernel) (by decide +kernel), mem_good 726 (by decide +kernel) (by decide +kernel), ⟨by decide +kernel, by decide +kernel, by decide +kernel⟩⟩
theorem cm_X6_change : CM yX6_change 2 cX6_change 4 (some .int) := ⟨mem_good 49 (by decide +kernel) (by decide +kernel), mem_good 696 (by decide +kernel) (by decide +kernel), ⟨by decide +kernel, by decide +kernel, by decide +kernel⟩⟩
theorem cm_X6_clearText : CM yX6_clearText 0 cX6_clearText 2 (some .int) := ⟨mem_good 49 (by decide +kernel) (by decide +kernel), mem_good 841 (by decide +kernel) (by decide +kernel), ⟨by decide +kernel, by decide +kernel, by decide +kernel⟩⟩
theorem cm_X6_close : CM yX6_close 1 cX6_close 2 (some .int) := ⟨mem_good 49 (by decide +kernel) (by decide +kernel), mem_good 769 (by decide +kernel) (by decide +kernel), ⟨by decide +kernel, by decide +kernel, by decide +kernel⟩⟩
theorem cm_X6_count : CM yX6_count 1 cX6_count 2 (some .int) := ⟨mem_good 49 (by decide +kernel) (by decide +kernel), mem_good 893 (by decide +kernel) (by decide +kernel), ⟨by decide +kernel, by decide +kernel, by decide +kernel⟩⟩
theorem cm_X6_does : CM yX6_does 0 cX6_does 3 (some .int) := ⟨mem_good 49 (by decide +kernel) (by decide +kernel), mem_good 825 (by decide +kernel) (by decide +kernel), ⟨by decide +kernel, by decide +kernel, by decide +kernel⟩⟩
theorem cm_X6_fail : CM yX6_fail 2 cX6_fail 3 none := ⟨mem_good 49 (by decide +kernel) (by decide +kernel), mem_good 753 (by decide +kernel) (by decide +kernel), ⟨by decide +kernel, by decide +kernel, by decide +kernel⟩⟩
theorem cm_X6_failAll : CM yX6_failAll 3 cX6_failAll 6 (some .int) := ⟨mem_good 49 (by decide +kernel) (by decide +kernel), mem_good 749 (by decide +kernel) (by decide +kernel), ⟨by decide +kernel, by decide +kernel, by decide +kernel⟩⟩
theorem cm_X6_finish : CM yX6_finish 1 cX6_finish 3 (some .int) := ⟨mem_good 49 (by decide +kernel) (by decide +kernel), mem_good 757 (by decide +kernel) (by decide +kernel), ⟨by decide +kernel, by decide +kernel, by decide +kernel⟩⟩
theorem cm_X6_finishFault : CM yX6_finishFault 1 cX6_finishFault 2 (some .int) := ⟨mem_good 49 (by decide +kernel) (by decide +kernel), mem_good 761 (by decide +kernel) (by decide +kernel), ⟨by decide +kernel, by decide +kernel, by decide +kernel⟩⟩
theorem cm_X6_finishes : CM yX6_finishes 1 cX6_finishes 2 (some .int) := ⟨mem_good 49 (by decide +kernel) (by decide +kernel), mem_good 765 (by decide +kernel) (by decide +kernel), ⟨by decide +kernel, by decide +kernel, by decide +kernel⟩⟩
theorem cm_X6_follow : CM yX6_follow 0 cX6_follow 4 (some .int) := ⟨mem_good 49 (by decide +kernel) (by decide +kernel), mem_good 809 (by decide +kernel) (by decide +kernel), ⟨by decide +kernel, by decide +kernel, by decide +kernel⟩⟩
theorem cm_X6_go : CM yX6_go 1 cX6_go 6 (some .int) := ⟨mem_good 49 (by decide +kernel) (by decide +kernel), mem_good 813 (by decide +kernel) (by decide +kernel), ⟨by decide +kernel, by decide +kernel, by decide +kernel⟩⟩
theorem cm_X6_goBy : CM yX6_goBy 1 cX6_goBy 4 (some .int) := ⟨mem_good 49 (by decide +kernel) (by decide +kernel), mem_good 781 (by decide +kernel) (by decide +kernel), ⟨by decide +kernel, by decide +kernel, by decide +kernel⟩⟩
theorem cm_X6_idlest : CM yX6_idlest 0 cX6_idlest 4 (some .int) := ⟨mem_good 49 (by decide +kernel) (by decide +kernel), mem_good 805 (by decide +kernel) (by decide +kernel), ⟨by decide +kernel, by decide +kernel, by decide +kernel⟩⟩
theorem cm_X6_in : CM yX6_in 3 cX6_in 3 (some .boolean) := ⟨mem_good 49 (by decide +kernel) (by decide +kernel), mem_good 688 (by decide +kernel) (by decide +kernel), ⟨by decide +kernel, by decide +kernel, by decide +kernel⟩⟩
theorem cm_X6_init : CM yX6_init 0 cX6_init 2 none := ⟨mem_good 49 (by decide +kernel) (by decide +kernel), mem_good 623 (by decide +kernel) (by decide +kernel), ⟨by decide +kernel, by decide +kernel, by decide +kernel⟩⟩
theorem cm_X6_isAppend : CM yX6_isAppend 1 cX6_isAppend 2 (some .boolean) := ⟨mem_good 49 (by decide +kernel) (by decide +kernel), mem_good 869 (by decide +kernel) (by decide +kernel), ⟨by decide +kernel, by decide +kernel, by decide +kernel⟩⟩
theorem cm_X6_isRoom : CM yX6_isRoom 1 cX6_isRoom 2 (some .boolean) := ⟨mem_good 49 (by decide +kernel) (by decide +kernel), mem_good 722 (by decide +kernel) (by decide +kernel), ⟨by decide +kernel, by decide +kernel, by decide +kernel⟩⟩
theorem cm_X6_isWriter : CM yX6_isWriter 1 cX6_isWriter 1 (some .boolean) := ⟨mem_good 49 (by decide +kernel) (by decide +kernel), mem_good 714 (by decide +kernel) (by decide +kernel), ⟨by decide +kernel, by decide +kernel, by decide +kernel⟩⟩
theorem cm_X6_isZone : CM yX6_isZone 1 cX6_isZone 1 (some .boolean) := ⟨mem_good 49 (by decide +kernel) (by decide +kernel), mem_good 707 (by decide +kernel) (by decide +kernel), ⟨by decide +kernel, by decide +kernel, by decide +kernel⟩⟩
theorem cm_X6_keep : CM yX6_keep 0 cX6_keep 2 (some .int) := ⟨mem_good 49 (by decide +kernel) (by decide +kernel), mem_good 849 (by decide +kernel) (by decide +kernel), ⟨by decide +kernel, by decide +kernel, by decide +kernel⟩⟩
theorem cm_X6_know : CM yX6_know 0 cX6_know 2 none := ⟨mem_good 49 (by decide +kernel) (by decide +kernel), mem_good 700 (by decide +kernel) (by decide +kernel), ⟨by decide +kernel, by decide +kernel, by decide +kernel⟩⟩
theorem cm_X6_lookAt : CM yX6_lookAt 1 cX6_lookAt 4 (some .int) := ⟨mem_good 49 (by decide +kernel) (by decide +kernel), mem_good 797 (by decide +kernel) (by decide +kernel), ⟨by decide +kernel, by decide +kernel, by decide +kernel⟩⟩
theorem cm_X6_lookAtAll : CM yX6_lookAtAll 1 cX6_lookAtAll 4 none := ⟨mem_good 49 (by decide +kernel) (by decide +kernel), mem_good 793 (by decide +kernel) (by decide +kernel), ⟨by decide +kernel, by decide +kernel, by decide +kernel⟩⟩
theorem cm_X6_of : CM yX6_of 2 cX6_of 2 (some .int) := ⟨mem_good 49 (by decide +kernel) (by decide +kernel), mem_good 627 (by decide +kernel) (by decide +kernel), ⟨by decide +kernel, by decide +kernel, by decide +kernel⟩⟩
theorem cm_X6_ofAppend : CM yX6_ofAppend 2 cX6_ofAppend 2 (some .int) := ⟨mem_good 49 (by decide +kernel) (by decide +kernel), mem_good 729 (by decide +kernel) (by decide +kernel), ⟨by decide +kernel, by decide +kernel, by decide +kernel⟩⟩
theorem cm_X6_ofWriter : CM yX6_ofWriter 2 cX6_ofWriter 2 (some .int) := ⟨mem_good 49 (by decide +kernel) (by decide +kernel), mem_good 634 (by decide +kernel) (by decide +kernel), ⟨by decide +kernel, by decide +kernel, by decide +kernel⟩⟩
theorem cm_X6_opens : CM yX6_opens 1 cX6_opens 4 (some .boolean) := ⟨mem_good 49 (by decide +kernel) (by decide +kernel), mem_good 801 (by decide +kernel) (by decide +kernel), ⟨by decide +kernel, by decide +kernel, by decide +kernel⟩⟩
theorem cm_X6_order : CM yX6_order 0 cX6_order 5 none := ⟨mem_good 49 (by decide +kernel) (by decide +kernel), mem_good 817 (by decide +kernel) (by decide +kernel), ⟨by decide +kernel, by decide +kernel, by decide +kernel⟩⟩
theorem cm_X6_pass : CM yX6_pass 1 cX6_pass 2 (some .int) := ⟨mem_good 49 (by decide +kernel) (by decide +kernel), mem_good 777 (by decide +kernel) (by decide +kernel), ⟨by decide +kernel, by decide +kernel, by decide +kernel⟩⟩
theorem cm_X6_putAside : CM yX6_putAside 0 cX6_putAside 2 none := ⟨mem_good 49 (by decide +kernel) (by decide +kernel), mem_good 829 (by decide +kernel) (by decide +kernel), ⟨by decide +kernel, by decide +kernel, by decide +kernel⟩⟩
theorem cm_X6_putBack : CM yX6_putBack 0 cX6_putBack 2 none := ⟨mem_good 49 (by decide +kernel) (by decide +kernel), mem_good 833 (by decide +kernel) (by decide +kernel), ⟨by decide +kernel, by decide +kernel, by decide +kernel⟩⟩
theorem cm_X6_read : CM yX6_read 2 cX6_read 4 (some .int) := ⟨mem_good 49 (by decide +kernel) (by decide +kernel), mem_good 857 (by decide +kernel) (by decide +kernel), ⟨by decide +kernel, by decide +kernel, by decide +kernel⟩⟩
theorem cm_X6_readable : CM yX6_readable 1 cX6_readable 4 (some .int) := ⟨mem_good 49 (by decide +kernel) (by decide +kernel), mem_good 745 (by decide +kernel) (by decide +kernel), ⟨by decide +kernel, by decide +kernel, by decide +kernel⟩⟩
theorem cm_X6_reset : CM yX6_reset 1 cX6_reset 2 (some .int) := ⟨mem_good 49 (by decide +kernel) (by decide +kernel), mem_good 737 (by decide +kernel) (by decide +kernel), ⟨by decide +kernel, by decide +kernel, by decide +kernel⟩⟩
theorem cm_X6_resets : CM yX6_resets 1 cX6_resets 4 (some .int) := ⟨mem_good 49 (by decide +kernel) (by decide +kernel), mem_good 741 (by decide +kernel) (by decide +kernel), ⟨by decide +kernel, by decide +kernel, by decide +kernel⟩⟩
theorem cm_X6_restore : CM yX6_restore 0 cX6_restore 2 (some .int) := ⟨mem_good 49 (by decide +kernel) (by decide +kernel), mem_good 853 (by decide +kernel) (by decide +kernel), ⟨by decide +kernel, by decide +kernel, by decide +kernel⟩⟩
theorem cm_X6_send : CM yX6_send 3 cX6_send 5 (some .int) := ⟨mem_good 49 (by decide +kernel) (by decide +kernel), mem_good 733 (by decide +kernel) (by decide +kernel), ⟨by decide +kernel, by decide +kernel, by decide +kernel⟩⟩
theorem cm_X6_set : CM yX6_set 2 cX6_set 3 (some .int) := ⟨mem_good 49 (by decide +kernel) (by decide +kernel), mem_good 685 (by decide +kernel) (by decide +kernel), ⟨by decide +kernel, by decide +kernel, by decide +kernel⟩⟩
theorem cm_X6_setWindow : CM yX6_setWindow 2 cX6_setWindow 3 (some .int) := ⟨mem_good 49 (by decide +kernel) (by decide +kernel), mem_good 711 (by decide +kernel) (by decide +kernel), ⟨by decide +kernel, by decide +kernel, by decide +kernel⟩⟩
theorem cm_X6_setZone : CM yX6_setZone 3 cX6_setZone 4 (some .int) := ⟨mem_good 49 (by decide +kernel) (by decide +kernel), mem_good 704 (by decide +kernel) (by decide +kernel), ⟨by decide +kernel, by decide +kernel, by decide +kernel⟩⟩
theorem cm_X6_sign : CM yX6_sign 2 cX6_sign 4 (some .int) := ⟨mem_good 49 (by decide +kernel) (by decide +kernel), mem_good 821 (by decide +kernel) (by decide +kernel), ⟨by decide +kernel, by decide +kernel, by decide +kernel⟩⟩
theorem cm_X6_sweep : CM yX6_sweep 1 cX6_sweep 3 none := ⟨mem_good 49 (by decide +kernel) (by decide +kernel), mem_good 631 (by decide +kernel) (by decide +kernel), ⟨by decide +kernel, by decide +kernel, by decide +kernel⟩⟩
theorem cm_X6_tell : CM yX6_tell 1 cX6_tell 6 none := ⟨mem_good 49 (by decide +kernel) (by decide +kernel), mem_good 789 (by decide +kernel) (by decide +kernel), ⟨by decide +kernel, by decide +kernel, by decide +kernel⟩⟩
theorem cm_X6_tick : CM yX6_tick 0 cX6_tick 4 (some .int) := ⟨mem_good 49 (by decide +kernel) (by decide +kernel), mem_good 785 (by decide +kernel) (by decide +kernel), ⟨by decide +kernel, by decide +kernel, by decide +kernel⟩⟩
theorem cm_X6_ticksOf : CM yX6_ticksOf 1 cX6_ticksOf 5 (some .int) := ⟨mem_good 49 (by decide +kernel) (by decide +kernel), mem_good 885 (by decide +kernel) (by decide +kernel), ⟨by decide +kernel, by decide +kernel, by decide +kernel⟩⟩
theorem cm_X6_told : CM yX6_told 1 cX6_told 2 (some .int) := ⟨mem_good 49 (by decide +kernel) (by decide +kernel), mem_good 877 (by decide +kernel) (by decide +kernel), ⟨by decide +kernel, by decide +kernel, by decide +kernel⟩⟩
theorem cm_X6_toldIn : CM yX6_toldIn 1 cX6_toldIn 3 (some .int) := ⟨mem_good 49 (by decide +kernel) (by decide +kernel), mem_good 881 (by decide +kernel) (by decide +kernel), ⟨by decide +kernel, by decide +kernel, by decide +kernel⟩⟩
theorem cm_X6_type : CM yX6_type 1 cX6_type 2 (some .int) := ⟨mem_good 49 (by decide +kernel) (by decide +kernel), mem_good 837 (by decide +kernel) (by decide +kernel), ⟨by decide +kernel, by decide +kernel, by decide +kernel⟩⟩
theorem cm_X6_undo : CM yX6_undo 0 cX6_undo 2 (some .int) := ⟨mem_good 49 (by decide +kernel) (by decide +kernel), mem_good 845 (by decide +kernel) (by decide +kernel), ⟨by decide +kernel, by decide +kernel, by decide +kernel⟩⟩
theorem cm_X6_would : CM yX6_would 2 cX6_would 6 (some .int) := ⟨mem_good 49 (by decide +kernel) (by decide +kernel), mem_good 889 (by decide +kernel) (by decide +kernel), ⟨by decide +kernel, by decide +kernel, by decide +kernel⟩⟩
theorem cm_X6_writer : CM yX6_writer 2 cX6_writer 3 (some .int) := ⟨mem_good 49 (by decide +kernel) (by decide +kernel), mem_good 873 (by decide +kernel) (by decide +kernel), ⟨by decide +kernel, by decide +kernel, by decide +kernel⟩⟩
theorem cm_X6_zone : CM yX6_zone 2 cX6_zone 4 (some .int) := ⟨mem_good 49 (by decide +kernel) (by decide +kernel), mem_good 861 (by decide +kernel) (by decide +kernel), ⟨by decide +kernel, by decide +kernel, by decide +kernel⟩⟩
theorem cm_X6_zones : CM yX6_zones 1 cX6_zones 4 (some .int) := ⟨mem_good 49 (by decide +kernel) (by decide +kernel), mem_good 692 (by decide +kernel) (by decide +kernel), ⟨by decide +kernel, by decide +kernel, by decide +kernel⟩⟩
theorem lkI_L_9 : Cond.methodLink RL 9 yX5_init ∈ goodTbl ∧ yX5_init.name = "<init>" ∧ Cond.instanceMethod yX5_init ∈ goodTbl := ⟨mem_good 53 (by decide +kernel) (by decide +kernel), rfl, mem_good 54 (by decide +kernel) (by decide +kernel)⟩
theorem lkI_L_12 : Cond.methodLink RL 12 yX6_init ∈ goodTbl ∧ yX6_init.name = "<init>" ∧ Cond.instanceMethod yX6_init ∈ goodTbl := ⟨mem_good 621 (by decide +kernel) (by decide +kernel), rfl, mem_good 622 (by decide +kernel) (by decide +kernel)⟩
theorem lkV_L_13 : Cond.methodLink RL 13 yX5_set ∈ goodTbl ∧ Cond.instanceMethod yX5_set ∈ goodTbl ∧ Cond.selects yX5_set.cls yX5_set yX5_set ∈ goodTbl := ⟨mem_good 253 (by decide +kernel) (by decide +kernel), mem_good 254 (by decide +kernel) (by decide +kernel), mem_good 255 (by decide +kernel) (by decide +kernel)⟩
theorem lkV_L_17 : Cond.methodLink RL 17 yX6_set ∈ goodTbl ∧ Cond.instanceMethod yX6_set ∈ goodTbl ∧ Cond.selects yX6_set.cls yX6_set yX6_set ∈ goodTbl := ⟨mem_good 682 (by decide +kernel) (by decide +kernel), mem_good 683 (by decide +kernel) (by decide +kernel), mem_good 684 (by decide +kernel) (by decide +kernel)⟩
theorem lkV_L_18 : Cond.methodLink RL 18 yX5_setZone ∈ goodTbl ∧ Cond.instanceMethod yX5_setZone ∈ goodTbl ∧ Cond.selects yX5_setZone.cls yX5_setZone yX5_setZone ∈ goodTbl := ⟨mem_good 320 (by decide +kernel) (by decide +kernel), mem_good 321 (by decide +kernel) (by decide +kernel), mem_good 322 (by decide +kernel) (by decide +kernel)⟩
theorem lkV_L_22 : Cond.methodLink RL 22 yX6_setZone ∈ goodTbl ∧ Cond.instanceMethod yX6_setZone ∈ goodTbl ∧ Cond.selects yX6_setZone.cls yX6_setZone yX6_setZone ∈ goodTbl := ⟨mem_good 701 (by decide +kernel) (by decide +kernel), mem_good 702 (by decide +kernel) (by decide +kernel), mem_good 703 (by decide +kernel) (by decide +kernel)⟩
theorem lkV_L_23 : Cond.methodLink RL 23 yX5_setWindow ∈ goodTbl ∧ Cond.instanceMethod yX5_setWindow ∈ goodTbl ∧ Cond.selects yX5_setWindow.cls yX5_setWindow yX5_setWindow ∈ goodTbl := ⟨mem_good 335 (by decide +kernel) (by decide +kernel), mem_good 336 (by decide +kernel) (by decide +kernel), mem_good 337 (by decide +kernel) (by decide +kernel)⟩
theorem lkV_L_26 : Cond.methodLink RL 26 yX6_setWindow ∈ goodTbl ∧ Cond.instanceMethod yX6_setWindow ∈ goodTbl ∧ Cond.selects yX6_setWindow.cls yX6_setWindow yX6_setWindow ∈ goodTbl := ⟨mem_good 708 (by decide +kernel) (by decide +kernel), mem_good 709 (by decide +kernel) (by decide +kernel), mem_good 710 (by decide +kernel) (by decide +kernel)⟩
theorem lkV_L_27 : Cond.methodLink RL 27 yX5_append ∈ goodTbl ∧ Cond.instanceMethod yX5_append ∈ goodTbl ∧ Cond.selects yX5_append.cls yX5_append yX5_append ∈ goodTbl := ⟨mem_good 346 (by decide +kernel) (by decide +kernel), mem_good 347 (by decide +kernel) (by decide +kernel), mem_good 348 (by decide +kernel) (by decide +kernel)⟩
theorem lkV_L_31 : Cond.methodLink RL 31 yX6_append ∈ goodTbl ∧ Cond.instanceMethod yX6_append ∈ goodTbl ∧ Cond.selects yX6_append.cls yX6_append yX6_append ∈ goodTbl := ⟨mem_good 715 (by decide +kernel) (by decide +kernel), mem_good 716 (by decide +kernel) (by decide +kernel), mem_good 717 (by decide +kernel) (by decide +kernel)⟩
theorem lkV_L_32 : Cond.methodLink RL 32 yX5_reset ∈ goodTbl ∧ Cond.instanceMethod yX5_reset ∈ goodTbl ∧ Cond.selects yX5_reset.cls yX5_reset yX5_reset ∈ goodTbl := ⟨mem_good 362 (by decide +kernel) (by decide +kernel), mem_good 363 (by decide +kernel) (by decide +kernel), mem_good 364 (by decide +kernel) (by decide +kernel)⟩
theorem lkV_L_36 : Cond.methodLink RL 36 yX6_reset ∈ goodTbl ∧ Cond.instanceMethod yX6_reset ∈ goodTbl ∧ Cond.selects yX6_reset.cls yX6_reset yX6_reset ∈ goodTbl := ⟨mem_good 734 (by decide +kernel) (by decide +kernel), mem_good 735 (by decide +kernel) (by decide +kernel), mem_good 736 (by decide +kernel) (by decide +kernel)⟩
theorem lkV_L_37 : Cond.methodLink RL 37 yX5_finish ∈ goodTbl ∧ Cond.instanceMethod yX5_finish ∈ goodTbl ∧ Cond.selects yX5_finish.cls yX5_finish yX5_finish ∈ goodTbl := ⟨mem_good 394 (by decide +kernel) (by decide +kernel), mem_good 395 (by decide +kernel) (by decide +kernel), mem_good 396 (by decide +kernel) (by decide +kernel)⟩
theorem lkV_L_40 : Cond.methodLink RL 40 yX6_finish ∈ goodTbl ∧ Cond.instanceMethod yX6_finish ∈ goodTbl ∧ Cond.selects yX6_finish.cls yX6_finish yX6_finish ∈ goodTbl := ⟨mem_good 754 (by decide +kernel) (by decide +kernel), mem_good 755 (by decide +kernel) (by decide +kernel), mem_good 756 (by decide +kernel) (by decide +kernel)⟩
theorem lkV_L_41 : Cond.methodLink RL 41 yX5_close ∈ goodTbl ∧ Cond.instanceMethod yX5_close ∈ goodTbl ∧ Cond.selects yX5_close.cls yX5_close yX5_close ∈ goodTbl := ⟨mem_good 402 (by decide +kernel) (by decide +kernel), mem_good 403 (by decide +kernel) (by decide +kernel), mem_good 404 (by decide +kernel) (by decide +kernel)⟩
theorem lkV_L_44 : Cond.methodLink RL 44 yX6_close ∈ goodTbl ∧ Cond.instanceMethod yX6_close ∈ goodTbl ∧ Cond.selects yX6_close.cls yX6_close yX6_close ∈ goodTbl := ⟨mem_good 766 (by decide +kernel) (by decide +kernel), mem_good 767 (by decide +kernel) (by decide +kernel), mem_good 768 (by decide +kernel) (by decide +kernel)⟩
theorem lkV_L_45 : Cond.methodLink RL 45 yX5_pass ∈ goodTbl ∧ Cond.instanceMethod yX5_pass ∈ goodTbl ∧ Cond.selects yX5_pass.cls yX5_pass yX5_pass ∈ goodTbl := ⟨mem_good 414 (by decide +kernel) (by decide +kernel), mem_good 415 (by decide +kernel) (by decide +kernel), mem_good 416 (by decide +kernel) (by decide +kernel)⟩
theorem lkV_L_48 : Cond.methodLink RL 48 yX6_pass ∈ goodTbl ∧ Cond.instanceMethod yX6_pass ∈ goodTbl ∧ Cond.selects yX6_pass.cls yX6_pass yX6_pass ∈ goodTbl := ⟨mem_good 774 (by decide +kernel) (by decide +kernel), mem_good 775 (by decide +kernel) (by decide +kernel), mem_good 776 (by decide +kernel) (by decide +kernel)⟩
theorem lkV_L_49 : Cond.methodLink RL 49 yX5_follow ∈ goodTbl ∧ Cond.instanceMethod yX5_follow ∈ goodTbl ∧ Cond.selects yX5_follow.cls yX5_follow yX5_follow ∈ goodTbl := ⟨mem_good 468 (by decide +kernel) (by decide +kernel), mem_good 469 (by decide +kernel) (by decide +kernel), mem_good 470 (by decide +kernel) (by decide +kernel)⟩
theorem lkV_L_53 : Cond.methodLink RL 53 yX6_follow ∈ goodTbl ∧ Cond.instanceMethod yX6_follow ∈ goodTbl ∧ Cond.selects yX6_follow.cls yX6_follow yX6_follow ∈ goodTbl := ⟨mem_good 806 (by decide +kernel) (by decide +kernel), mem_good 807 (by decide +kernel) (by decide +kernel), mem_good 808 (by decide +kernel) (by decide +kernel)⟩
theorem lkV_L_54 : Cond.methodLink RL 54 yX5_type ∈ goodTbl ∧ Cond.instanceMethod yX5_type ∈ goodTbl ∧ Cond.selects yX5_type.cls yX5_type yX5_type ∈ goodTbl := ⟨mem_good 509 (by decide +kernel) (by decide +kernel), mem_good 510 (by decide +kernel) (by decide +kernel), mem_good 511 (by decide +kernel) (by decide +kernel)⟩
theorem lkV_L_58 : Cond.methodLink RL 58 yX6_type ∈ goodTbl ∧ Cond.instanceMethod yX6_type ∈ goodTbl ∧ Cond.selects yX6_type.cls yX6_type yX6_type ∈ goodTbl := ⟨mem_good 834 (by decide +kernel) (by decide +kernel), mem_good 835 (by decide +kernel) (by decide +kernel), mem_good 836 (by decide +kernel) (by decide +kernel)⟩
theorem lkV_L_59 : Cond.methodLink RL 59 yX5_clearText ∈ goodTbl ∧ Cond.instanceMethod yX5_clearText ∈ goodTbl ∧ Cond.selects yX5_clearText.cls yX5_clearText yX5_clearText ∈ goodTbl := ⟨mem_good 517 (by decide +kernel) (by decide +kernel), mem_good 518 (by decide +kernel) (by decide +kernel), mem_good 519 (by decide +kernel) (by decide +kernel)⟩
theorem lkV_L_62 : Cond.methodLink RL 62 yX6_clearText ∈ goodTbl ∧ Cond.instanceMethod yX6_clearText ∈ goodTbl ∧ Cond.selects yX6_clearText.cls yX6_clearText yX6_clearText ∈ goodTbl := ⟨mem_good 838 (by decide +kernel) (by decide +kernel), mem_good 839 (by decide +kernel) (by decide +kernel), mem_good 840 (by decide +kernel) (by decide +kernel)⟩
theorem lkV_L_63 : Cond.methodLink RL 63 yX5_undo ∈ goodTbl ∧ Cond.instanceMethod yX5_undo ∈ goodTbl ∧ Cond.selects yX5_undo.cls yX5_undo yX5_undo ∈ goodTbl := ⟨mem_good 525 (by decide +kernel) (by decide +kernel), mem_good 526 (by decide +kernel) (by decide +kernel), mem_good 527 (by decide +kernel) (by decide +kernel)⟩
theorem lkV_L_66 : Cond.methodLink RL 66 yX6_undo ∈ goodTbl ∧ Cond.instanceMethod yX6_undo ∈ goodTbl ∧ Cond.selects yX6_undo.cls yX6_undo yX6_undo ∈ goodTbl := ⟨mem_good 842 (by decide +kernel) (by decide +kernel), mem_good 843 (by decide +kernel) (by decide +kernel), mem_good 844 (by decide +kernel) (by decide +kernel)⟩
theorem lkV_L_67 : Cond.methodLink RL 67 yX5_keep ∈ goodTbl ∧ Cond.instanceMethod yX5_keep ∈ goodTbl ∧ Cond.selects yX5_keep.cls yX5_keep yX5_keep ∈ goodTbl := ⟨mem_good 533 (by decide +kernel) (by decide +kernel), mem_good 534 (by decide +kernel) (by decide +kernel), mem_good 535 (by decide +kernel) (by decide +kernel)⟩
theorem lkV_L_70 : Cond.methodLink RL 70 yX6_keep ∈ goodTbl ∧ Cond.instanceMethod yX6_keep ∈ goodTbl ∧ Cond.selects yX6_keep.cls yX6_keep yX6_keep ∈ goodTbl := ⟨mem_good 846 (by decide +kernel) (by decide +kernel), mem_good 847 (by decide +kernel) (by decide +kernel), mem_good 848 (by decide +kernel) (by decide +kernel)⟩
theorem lkV_L_71 : Cond.methodLink RL 71 yX5_restore ∈ goodTbl ∧ Cond.instanceMethod yX5_restore ∈ goodTbl ∧ Cond.selects yX5_restore.cls yX5_restore yX5_restore ∈ goodTbl := ⟨mem_good 538 (by decide +kernel) (by decide +kernel), mem_good 539 (by decide +kernel) (by decide +kernel), mem_good 540 (by decide +kernel) (by decide +kernel)⟩
theorem lkV_L_74 : Cond.methodLink RL 74 yX6_restore ∈ goodTbl ∧ Cond.instanceMethod yX6_restore ∈ goodTbl ∧ Cond.selects yX6_restore.cls yX6_restore yX6_restore ∈ goodTbl := ⟨mem_good 850 (by decide +kernel) (by decide +kernel), mem_good 851 (by decide +kernel) (by decide +kernel), mem_good 852 (by decide +kernel) (by decide +kernel)⟩
theorem lkV_L_75 : Cond.methodLink RL 75 yX5_read ∈ goodTbl ∧ Cond.instanceMethod yX5_read ∈ goodTbl ∧ Cond.selects yX5_read.cls yX5_read yX5_read ∈ goodTbl := ⟨mem_good 542 (by decide +kernel) (by decide +kernel), mem_good 543 (by decide +kernel) (by decide +kernel), mem_good 544 (by decide +kernel) (by decide +kernel)⟩
theorem lkV_L_78 : Cond.methodLink RL 78 yX6_read ∈ goodTbl ∧ Cond.instanceMethod yX6_read ∈ goodTbl ∧ Cond.selects yX6_read.cls yX6_read yX6_read ∈ goodTbl := ⟨mem_good 854 (by decide +kernel) (by decide +kernel), mem_good 855 (by decide +kernel) (by decide +kernel), mem_good 856 (by decide +kernel) (by decide +kernel)⟩
theorem lkV_L_79 : Cond.methodLink RL 79 yX5_zone ∈ goodTbl ∧ Cond.instanceMethod yX5_zone ∈ goodTbl ∧ Cond.selects yX5_zone.cls yX5_zone yX5_zone ∈ goodTbl := ⟨mem_good 554 (by decide +kernel) (by decide +kernel), mem_good 555 (by decide +kernel) (by decide +kernel), mem_good 556 (by decide +kernel) (by decide +kernel)⟩
theorem lkV_L_82 : Cond.methodLink RL 82 yX6_zone ∈ goodTbl ∧ Cond.instanceMethod yX6_zone ∈ goodTbl ∧ Cond.selects yX6_zone.cls yX6_zone yX6_zone ∈ goodTbl := ⟨mem_good 858 (by decide +kernel) (by decide +kernel), mem_good 859 (by decide +kernel) (by decide +kernel), mem_good 860 (by decide +kernel) (by decide +kernel)⟩
theorem lkV_L_83 : Cond.methodLink RL 83 yX5_appended ∈ goodTbl ∧ Cond.instanceMethod yX5_appended ∈ goodTbl ∧ Cond.selects yX5_appended.cls yX5_appended yX5_appended ∈ goodTbl := ⟨mem_good 567 (by decide +kernel) (by decide +kernel), mem_good 568 (by decide +kernel) (by decide +kernel), mem_good 569 (by decide +kernel) (by decide +kernel)⟩
theorem lkV_L_86 : Cond.methodLink RL 86 yX6_appended ∈ goodTbl ∧ Cond.instanceMethod yX6_appended ∈ goodTbl ∧ Cond.selects yX6_appended.cls yX6_appended yX6_appended ∈ goodTbl := ⟨mem_good 862 (by decide +kernel) (by decide +kernel), mem_good 863 (by decide +kernel) (by decide +kernel), mem_good 864 (by decide +kernel) (by decide +kernel)⟩
theorem lkV_L_87 : Cond.methodLink RL 87 yX5_writer ∈ goodTbl ∧ Cond.instanceMethod yX5_writer ∈ goodTbl ∧ Cond.selects yX5_writer.cls yX5_writer yX5_writer ∈ goodTbl := ⟨mem_good 579 (by decide +kernel) (by decide +kernel), mem_good 580 (by decide +kernel) (by decide +kernel), mem_good 581 (by decide +kernel) (by decide +kernel)⟩
theorem lkV_L_90 : Cond.methodLink RL 90 yX6_writer ∈ goodTbl ∧ Cond.instanceMethod yX6_writer ∈ goodTbl ∧ Cond.selects yX6_writer.cls yX6_writer yX6_writer ∈ goodTbl := ⟨mem_good 870 (by decide +kernel) (by decide +kernel), mem_good 871 (by decide +kernel) (by decide +kernel), mem_good 872 (by decide +kernel) (by decide +kernel)⟩
theorem lkV_L_91 : Cond.methodLink RL 91 yX5_told ∈ goodTbl ∧ Cond.instanceMethod yX5_told ∈ goodTbl ∧ Cond.selects yX5_told.cls yX5_told yX5_told ∈ goodTbl := ⟨mem_good 587 (by decide +kernel) (by decide +kernel), mem_good 588 (by decide +kernel) (by decide +kernel), mem_good 589 (by decide +kernel) (by decide +kernel)⟩
theorem lkV_L_94 : Cond.methodLink RL 94 yX6_told ∈ goodTbl ∧ Cond.instanceMethod yX6_told ∈ goodTbl ∧ Cond.selects yX6_told.cls yX6_told yX6_told ∈ goodTbl := ⟨mem_good 874 (by decide +kernel) (by decide +kernel), mem_good 875 (by decide +kernel) (by decide +kernel), mem_good 876 (by decide +kernel) (by decide +kernel)⟩
theorem lkV_L_95 : Cond.methodLink RL 95 yX5_toldIn ∈ goodTbl ∧ Cond.instanceMethod yX5_toldIn ∈ goodTbl ∧ Cond.selects yX5_toldIn.cls yX5_toldIn yX5_toldIn ∈ goodTbl := ⟨mem_good 595 (by decide +kernel) (by decide +kernel), mem_good 596 (by decide +kernel) (by decide +kernel), mem_good 597 (by decide +kernel) (by decide +kernel)⟩
theorem lkV_L_98 : Cond.methodLink RL 98 yX6_toldIn ∈ goodTbl ∧ Cond.instanceMethod yX6_toldIn ∈ goodTbl ∧ Cond.selects yX6_toldIn.cls yX6_toldIn yX6_toldIn ∈ goodTbl := ⟨mem_good 878 (by decide +kernel) (by decide +kernel), mem_good 879 (by decide +kernel) (by decide +kernel), mem_good 880 (by decide +kernel) (by decide +kernel)⟩
theorem lkV_L_99 : Cond.methodLink RL 99 yX5_would ∈ goodTbl ∧ Cond.instanceMethod yX5_would ∈ goodTbl ∧ Cond.selects yX5_would.cls yX5_would yX5_would ∈ goodTbl := ⟨mem_good 605 (by decide +kernel) (by decide +kernel), mem_good 606 (by decide +kernel) (by decide +kernel), mem_good 607 (by decide +kernel) (by decide +kernel)⟩
theorem lkV_L_102 : Cond.methodLink RL 102 yX6_would ∈ goodTbl ∧ Cond.instanceMethod yX6_would ∈ goodTbl ∧ Cond.selects yX6_would.cls yX6_would yX6_would ∈ goodTbl := ⟨mem_good 886 (by decide +kernel) (by decide +kernel), mem_good 887 (by decide +kernel) (by decide +kernel), mem_good 888 (by decide +kernel) (by decide +kernel)⟩
theorem lkV_L_103 : Cond.methodLink RL 103 yX5_count ∈ goodTbl ∧ Cond.instanceMethod yX5_count ∈ goodTbl ∧ Cond.selects yX5_count.cls yX5_count yX5_count ∈ goodTbl := ⟨mem_good 611 (by decide +kernel) (by decide +kernel), mem_good 612 (by decide +kernel) (by decide +kernel), mem_good 613 (by decide +kernel) (by decide +kernel)⟩
theorem lkV_L_106 : Cond.methodLink RL 106 yX6_count ∈ goodTbl ∧ Cond.instanceMethod yX6_count ∈ goodTbl ∧ Cond.selects yX6_count.cls yX6_count yX6_count ∈ goodTbl := ⟨mem_good 890 (by decide +kernel) (by decide +kernel), mem_good 891 (by decide +kernel) (by decide +kernel), mem_good 892 (by decide +kernel) (by decide +kernel)⟩
theorem lkN_X0_52 : ((RX0, 52, yX5_copy) : String × Nat × MethodName) ∈ nestL ∧ Cond.static yX5_copy ∈ goodTbl := ⟨List.mem_of_getElem? (i := 0) rfl, mem_good 274 (by decide +kernel) (by decide +kernel)⟩
theorem lkV_X0_56 : Cond.methodLink RX0 56 yX0_markFailed ∈ goodTbl ∧ Cond.instanceMethod yX0_markFailed ∈ goodTbl ∧ Cond.selects yX0_markFailed.cls yX0_markFailed yX0_markFailed ∈ goodTbl := ⟨mem_good 378 (by decide +kernel) (by decide +kernel), mem_good 379 (by decide +kernel) (by decide +kernel), mem_good 380 (by decide +kernel) (by decide +kernel)⟩
theorem lkV_X0_60 : Cond.methodLink RX0 60 yX0_dropEnded ∈ goodTbl ∧ Cond.instanceMethod yX0_dropEnded ∈ goodTbl ∧ Cond.selects yX0_dropEnded.cls yX0_dropEnded yX0_dropEnded ∈ goodTbl := ⟨mem_good 382 (by decide +kernel) (by decide +kernel), mem_good 383 (by decide +kernel) (by decide +kernel), mem_good 384 (by decide +kernel) (by decide +kernel)⟩
theorem lkV_X0_63 : Cond.methodLink RX0 63 yX0_isLive ∈ goodTbl ∧ Cond.instanceMethod yX0_isLive ∈ goodTbl ∧ Cond.selects yX0_isLive.cls yX0_isLive yX0_isLive ∈ goodTbl := ⟨mem_good 386 (by decide +kernel) (by decide +kernel), mem_good 387 (by decide +kernel) (by decide +kernel), mem_good 388 (by decide +kernel) (by decide +kernel)⟩
theorem lkV_X0_67 : Cond.methodLink RX0 67 yX0_isNumber ∈ goodTbl ∧ Cond.instanceMethod yX0_isNumber ∈ goodTbl ∧ Cond.selects yX0_isNumber.cls yX0_isNumber yX0_isNumber ∈ goodTbl := ⟨mem_good 575 (by decide +kernel) (by decide +kernel), mem_good 576 (by decide +kernel) (by decide +kernel), mem_good 577 (by decide +kernel) (by decide +kernel)⟩
theorem lkI_X1_24 : Cond.methodLink RX1 24 yX3_init ∈ goodTbl ∧ yX3_init.name = "<init>" ∧ Cond.instanceMethod yX3_init ∈ goodTbl := ⟨mem_good 207 (by decide +kernel) (by decide +kernel), rfl, mem_good 62 (by decide +kernel) (by decide +kernel)⟩
theorem lkV_X1_25 : Cond.methodLink RX1 25 yX1_slotBehind ∈ goodTbl ∧ Cond.instanceMethod yX1_slotBehind ∈ goodTbl ∧ Cond.selects yX1_slotBehind.cls yX1_slotBehind yX1_slotBehind ∈ goodTbl := ⟨mem_good 261 (by decide +kernel) (by decide +kernel), mem_good 263 (by decide +kernel) (by decide +kernel), mem_good 0 (by decide +kernel) (by decide +kernel)⟩
theorem lkV_X1_29 : Cond.methodLink RX1 29 yX3_copyFrom ∈ goodTbl ∧ Cond.instanceMethod yX3_copyFrom ∈ goodTbl ∧ Cond.selects yX3_copyFrom.cls yX3_copyFrom yX3_copyFrom ∈ goodTbl := ⟨mem_good 265 (by decide +kernel) (by decide +kernel), mem_good 266 (by decide +kernel) (by decide +kernel), mem_good 267 (by decide +kernel) (by decide +kernel)⟩
theorem lkS_X2_19 : Cond.methodLink RX2 19 yX2_placeBehind ∈ goodTbl ∧ Cond.static yX2_placeBehind ∈ goodTbl := ⟨mem_good 476 (by decide +kernel) (by decide +kernel), mem_good 477 (by decide +kernel) (by decide +kernel)⟩
theorem lkS_X2_23 : Cond.methodLink RX2 23 yX2_placeBehindFirst ∈ goodTbl ∧ Cond.static yX2_placeBehindFirst ∈ goodTbl := ⟨mem_good 479 (by decide +kernel) (by decide +kernel), mem_good 480 (by decide +kernel) (by decide +kernel)⟩
theorem lkN_X2_27 : ((RX2, 27, yX5_isFrom) : String × Nat × MethodName) ∈ nestL ∧ Cond.static yX5_isFrom ∈ goodTbl := ⟨List.mem_of_getElem? (i := 1) rfl, mem_good 294 (by decide +kernel) (by decide +kernel)⟩
theorem lkV_X2_31 : Cond.methodLink RX2 31 yX2_sign ∈ goodTbl ∧ Cond.instanceMethod yX2_sign ∈ goodTbl ∧ Cond.selects yX2_sign.cls yX2_sign yX2_sign ∈ goodTbl := ⟨mem_good 495 (by decide +kernel) (by decide +kernel), mem_good 488 (by decide +kernel) (by decide +kernel), mem_good 489 (by decide +kernel) (by decide +kernel)⟩
theorem lkV_X2_35 : Cond.methodLink RX2 35 yX2_digit ∈ goodTbl ∧ Cond.instanceMethod yX2_digit ∈ goodTbl ∧ Cond.selects yX2_digit.cls yX2_digit yX2_digit ∈ goodTbl := ⟨mem_good 500 (by decide +kernel) (by decide +kernel), mem_good 492 (by decide +kernel) (by decide +kernel), mem_good 493 (by decide +kernel) (by decide +kernel)⟩
theorem lkIN_X3_11 : ((RX3, 11, yX0_init) : String × Nat × MethodName) ∈ nestL ∧ yX0_init.name = "<init>" ∧ Cond.instanceMethod yX0_init ∈ goodTbl := ⟨List.mem_of_getElem? (i := 2) rfl, rfl, mem_good 68 (by decide +kernel) (by decide +kernel)⟩
theorem lkI_X3_20 : Cond.methodLink RX3 20 yX4_init ∈ goodTbl ∧ yX4_init.name = "<init>" ∧ Cond.instanceMethod yX4_init ∈ goodTbl := ⟨mem_good 124 (by decide +kernel) (by decide +kernel), rfl, mem_good 125 (by decide +kernel) (by decide +kernel)⟩
theorem lkV_X3_45 : Cond.methodLink RX3 45 yX0_copyFrom ∈ goodTbl ∧ Cond.instanceMethod yX0_copyFrom ∈ goodTbl ∧ Cond.selects yX0_copyFrom.cls yX0_copyFrom yX0_copyFrom ∈ goodTbl := ⟨mem_good 269 (by decide +kernel) (by decide +kernel), mem_good 270 (by decide +kernel) (by decide +kernel), mem_good 271 (by decide +kernel) (by decide +kernel)⟩
theorem lkV_X3_49 : Cond.methodLink RX3 49 yX4_copyFrom ∈ goodTbl ∧ Cond.instanceMethod yX4_copyFrom ∈ goodTbl ∧ Cond.selects yX4_copyFrom.cls yX4_copyFrom yX4_copyFrom ∈ goodTbl := ⟨mem_good 279 (by decide +kernel) (by decide +kernel), mem_good 280 (by decide +kernel) (by decide +kernel), mem_good 281 (by decide +kernel) (by decide +kernel)⟩
theorem lkN_X3_52 : ((RX3, 52, yX5_copy) : String × Nat × MethodName) ∈ nestL ∧ Cond.static yX5_copy ∈ goodTbl := ⟨List.mem_of_getElem? (i := 3) rfl, mem_good 274 (by decide +kernel) (by decide +kernel)⟩
theorem lkV_X3_56 : Cond.methodLink RX3 56 yX3_changeOpenLimit ∈ goodTbl ∧ Cond.instanceMethod yX3_changeOpenLimit ∈ goodTbl ∧ Cond.selects yX3_changeOpenLimit.cls yX3_changeOpenLimit yX3_changeOpenLimit ∈ goodTbl := ⟨mem_good 289 (by decide +kernel) (by decide +kernel), mem_good 291 (by decide +kernel) (by decide +kernel), mem_good 1 (by decide +kernel) (by decide +kernel)⟩
theorem lkV_X3_60 : Cond.methodLink RX3 60 yX3_changeUseLimit ∈ goodTbl ∧ Cond.instanceMethod yX3_changeUseLimit ∈ goodTbl ∧ Cond.selects yX3_changeUseLimit.cls yX3_changeUseLimit yX3_changeUseLimit ∈ goodTbl := ⟨mem_good 300 (by decide +kernel) (by decide +kernel), mem_good 302 (by decide +kernel) (by decide +kernel), mem_good 2 (by decide +kernel) (by decide +kernel)⟩
theorem lkV_X3_63 : Cond.methodLink RX3 63 yX3_changeChannels ∈ goodTbl ∧ Cond.instanceMethod yX3_changeChannels ∈ goodTbl ∧ Cond.selects yX3_changeChannels.cls yX3_changeChannels yX3_changeChannels ∈ goodTbl := ⟨mem_good 308 (by decide +kernel) (by decide +kernel), mem_good 310 (by decide +kernel) (by decide +kernel), mem_good 3 (by decide +kernel) (by decide +kernel)⟩
theorem lkV_X3_66 : Cond.methodLink RX3 66 yX3_changeManner ∈ goodTbl ∧ Cond.instanceMethod yX3_changeManner ∈ goodTbl ∧ Cond.selects yX3_changeManner.cls yX3_changeManner yX3_changeManner ∈ goodTbl := ⟨mem_good 312 (by decide +kernel) (by decide +kernel), mem_good 314 (by decide +kernel) (by decide +kernel), mem_good 4 (by decide +kernel) (by decide +kernel)⟩
theorem lkN_X3_72 : ((RX3, 72, yX5_isFrom) : String × Nat × MethodName) ∈ nestL ∧ Cond.static yX5_isFrom ∈ goodTbl := ⟨List.mem_of_getElem? (i := 4) rfl, mem_good 294 (by decide +kernel) (by decide +kernel)⟩
theorem lkV_X3_76 : Cond.methodLink RX3 76 yX4_inPhase ∈ goodTbl ∧ Cond.instanceMethod yX4_inPhase ∈ goodTbl ∧ Cond.selects yX4_inPhase.cls yX4_inPhase yX4_inPhase ∈ goodTbl := ⟨mem_good 296 (by decide +kernel) (by decide +kernel), mem_good 297 (by decide +kernel) (by decide +kernel), mem_good 298 (by decide +kernel) (by decide +kernel)⟩
theorem lkV_X3_82 : Cond.methodLink RX3 82 yX4_inUse ∈ goodTbl ∧ Cond.instanceMethod yX4_inUse ∈ goodTbl ∧ Cond.selects yX4_inUse.cls yX4_inUse yX4_inUse ∈ goodTbl := ⟨mem_good 304 (by decide +kernel) (by decide +kernel), mem_good 305 (by decide +kernel) (by decide +kernel), mem_good 306 (by decide +kernel) (by decide +kernel)⟩
theorem lkN_X3_86 : ((RX3, 86, yX5_isZone) : String × Nat × MethodName) ∈ nestL ∧ Cond.static yX5_isZone ∈ goodTbl := ⟨List.mem_of_getElem? (i := 5) rfl, mem_good 329 (by decide +kernel) (by decide +kernel)⟩
theorem lkN_X3_99 : ((RX3, 99, yX5_isWriter) : String × Nat × MethodName) ∈ nestL ∧ Cond.static yX5_isWriter ∈ goodTbl := ⟨List.mem_of_getElem? (i := 6) rfl, mem_good 344 (by decide +kernel) (by decide +kernel)⟩
theorem lkV_X3_102 : Cond.methodLink RX3 102 yX0_ofWriter ∈ goodTbl ∧ Cond.instanceMethod yX0_ofWriter ∈ goodTbl ∧ Cond.selects yX0_ofWriter.cls yX0_ofWriter yX0_ofWriter ∈ goodTbl := ⟨mem_good 354 (by decide +kernel) (by decide +kernel), mem_good 355 (by decide +kernel) (by decide +kernel), mem_good 356 (by decide +kernel) (by decide +kernel)⟩
theorem lkV_X3_109 : Cond.methodLink RX3 109 yX0_add ∈ goodTbl ∧ Cond.instanceMethod yX0_add ∈ goodTbl ∧ Cond.selects yX0_add.cls yX0_add yX0_add ∈ goodTbl := ⟨mem_good 358 (by decide +kernel) (by decide +kernel), mem_good 359 (by decide +kernel) (by decide +kernel), mem_good 360 (by decide +kernel) (by decide +kernel)⟩
theorem lkV_X3_116 : Cond.methodLink RX3 116 yX0_toldInGeneration ∈ goodTbl ∧ Cond.instanceMethod yX0_toldInGeneration ∈ goodTbl ∧ Cond.selects yX0_toldInGeneration.cls yX0_toldInGeneration yX0_toldInGeneration ∈ goodTbl := ⟨mem_good 370 (by decide +kernel) (by decide +kernel), mem_good 371 (by decide +kernel) (by decide +kernel), mem_good 372 (by decide +kernel) (by decide +kernel)⟩
theorem lkV_X3_119 : Cond.methodLink RX3 119 yX0_failInZone ∈ goodTbl ∧ Cond.instanceMethod yX0_failInZone ∈ goodTbl ∧ Cond.selects yX0_failInZone.cls yX0_failInZone yX0_failInZone ∈ goodTbl := ⟨mem_good 374 (by decide +kernel) (by decide +kernel), mem_good 375 (by decide +kernel) (by decide +kernel), mem_good 376 (by decide +kernel) (by decide +kernel)⟩
theorem lkV_X3_122 : Cond.methodLink RX3 122 yX4_clear ∈ goodTbl ∧ Cond.instanceMethod yX4_clear ∈ goodTbl ∧ Cond.selects yX4_clear.cls yX4_clear yX4_clear ∈ goodTbl := ⟨mem_good 390 (by decide +kernel) (by decide +kernel), mem_good 391 (by decide +kernel) (by decide +kernel), mem_good 392 (by decide +kernel) (by decide +kernel)⟩
theorem lkV_X3_126 : Cond.methodLink RX3 126 yX0_liveInZone ∈ goodTbl ∧ Cond.instanceMethod yX0_liveInZone ∈ goodTbl ∧ Cond.selects yX0_liveInZone.cls yX0_liveInZone yX0_liveInZone ∈ goodTbl := ⟨mem_good 410 (by decide +kernel) (by decide +kernel), mem_good 411 (by decide +kernel) (by decide +kernel), mem_good 412 (by decide +kernel) (by decide +kernel)⟩
theorem lkV_X3_132 : Cond.methodLink RX3 132 yX3_letOnePass ∈ goodTbl ∧ Cond.instanceMethod yX3_letOnePass ∈ goodTbl ∧ Cond.selects yX3_letOnePass.cls yX3_letOnePass yX3_letOnePass ∈ goodTbl := ⟨mem_good 422 (by decide +kernel) (by decide +kernel), mem_good 424 (by decide +kernel) (by decide +kernel), mem_good 5 (by decide +kernel) (by decide +kernel)⟩
theorem lkV_X3_135 : Cond.methodLink RX3 135 yX3_tellDue ∈ goodTbl ∧ Cond.instanceMethod yX3_tellDue ∈ goodTbl ∧ Cond.selects yX3_tellDue.cls yX3_tellDue yX3_tellDue ∈ goodTbl := ⟨mem_good 426 (by decide +kernel) (by decide +kernel), mem_good 428 (by decide +kernel) (by decide +kernel), mem_good 6 (by decide +kernel) (by decide +kernel)⟩
theorem lkV_X3_138 : Cond.methodLink RX3 138 yX3_putInOrder ∈ goodTbl ∧ Cond.instanceMethod yX3_putInOrder ∈ goodTbl ∧ Cond.selects yX3_putInOrder.cls yX3_putInOrder yX3_putInOrder ∈ goodTbl := ⟨mem_good 438 (by decide +kernel) (by decide +kernel), mem_good 440 (by decide +kernel) (by decide +kernel), mem_good 7 (by decide +kernel) (by decide +kernel)⟩
theorem lkV_X3_141 : Cond.methodLink RX3 141 yX3_hasBegun ∈ goodTbl ∧ Cond.instanceMethod yX3_hasBegun ∈ goodTbl ∧ Cond.selects yX3_hasBegun.cls yX3_hasBegun yX3_hasBegun ∈ goodTbl := ⟨mem_good 442 (by decide +kernel) (by decide +kernel), mem_good 444 (by decide +kernel) (by decide +kernel), mem_good 8 (by decide +kernel) (by decide +kernel)⟩
theorem lkV_X3_150 : Cond.methodLink RX3 150 yX0_dropEnded ∈ goodTbl ∧ Cond.instanceMethod yX0_dropEnded ∈ goodTbl ∧ Cond.selects yX0_dropEnded.cls yX0_dropEnded yX0_dropEnded ∈ goodTbl := ⟨mem_good 467 (by decide +kernel) (by decide +kernel), mem_good 383 (by decide +kernel) (by decide +kernel), mem_good 384 (by decide +kernel) (by decide +kernel)⟩
theorem lkV_X3_163 : Cond.methodLink RX3 163 yX0_isAhead ∈ goodTbl ∧ Cond.instanceMethod yX0_isAhead ∈ goodTbl ∧ Cond.selects yX0_isAhead.cls yX0_isAhead yX0_isAhead ∈ goodTbl := ⟨mem_good 430 (by decide +kernel) (by decide +kernel), mem_good 431 (by decide +kernel) (by decide +kernel), mem_good 432 (by decide +kernel) (by decide +kernel)⟩
theorem lkV_X3_169 : Cond.methodLink RX3 169 yX0_markTold ∈ goodTbl ∧ Cond.instanceMethod yX0_markTold ∈ goodTbl ∧ Cond.selects yX0_markTold.cls yX0_markTold yX0_markTold ∈ goodTbl := ⟨mem_good 434 (by decide +kernel) (by decide +kernel), mem_good 435 (by decide +kernel) (by decide +kernel), mem_good 436 (by decide +kernel) (by decide +kernel)⟩
theorem lkV_X3_172 : Cond.methodLink RX3 172 yX0_markFailed ∈ goodTbl ∧ Cond.instanceMethod yX0_markFailed ∈ goodTbl ∧ Cond.selects yX0_markFailed.cls yX0_markFailed yX0_markFailed ∈ goodTbl := ⟨mem_good 446 (by decide +kernel) (by decide +kernel), mem_good 379 (by decide +kernel) (by decide +kernel), mem_good 380 (by decide +kernel) (by decide +kernel)⟩
theorem lkV_X3_176 : Cond.methodLink RX3 176 yX0_liveIn ∈ goodTbl ∧ Cond.instanceMethod yX0_liveIn ∈ goodTbl ∧ Cond.selects yX0_liveIn.cls yX0_liveIn yX0_liveIn ∈ goodTbl := ⟨mem_good 447 (by decide +kernel) (by decide +kernel), mem_good 448 (by decide +kernel) (by decide +kernel), mem_good 449 (by decide +kernel) (by decide +kernel)⟩
theorem lkV_X3_179 : Cond.methodLink RX3 179 yX3_couldOpen ∈ goodTbl ∧ Cond.instanceMethod yX3_couldOpen ∈ goodTbl ∧ Cond.selects yX3_couldOpen.cls yX3_couldOpen yX3_couldOpen ∈ goodTbl := ⟨mem_good 451 (by decide +kernel) (by decide +kernel), mem_good 453 (by decide +kernel) (by decide +kernel), mem_good 9 (by decide +kernel) (by decide +kernel)⟩
theorem lkV_X3_182 : Cond.methodLink RX3 182 yX4_takePlace ∈ goodTbl ∧ Cond.instanceMethod yX4_takePlace ∈ goodTbl ∧ Cond.selects yX4_takePlace.cls yX4_takePlace yX4_takePlace ∈ goodTbl := ⟨mem_good 459 (by decide +kernel) (by decide +kernel), mem_good 460 (by decide +kernel) (by decide +kernel), mem_good 461 (by decide +kernel) (by decide +kernel)⟩
theorem lkV_X3_185 : Cond.methodLink RX3 185 yX0_begin ∈ goodTbl ∧ Cond.instanceMethod yX0_begin ∈ goodTbl ∧ Cond.selects yX0_begin.cls yX0_begin yX0_begin ∈ goodTbl := ⟨mem_good 463 (by decide +kernel) (by decide +kernel), mem_good 464 (by decide +kernel) (by decide +kernel), mem_good 465 (by decide +kernel) (by decide +kernel)⟩
theorem lkV_X3_189 : Cond.methodLink RX3 189 yX3_longestIdle ∈ goodTbl ∧ Cond.instanceMethod yX3_longestIdle ∈ goodTbl ∧ Cond.selects yX3_longestIdle.cls yX3_longestIdle yX3_longestIdle ∈ goodTbl := ⟨mem_good 455 (by decide +kernel) (by decide +kernel), mem_good 457 (by decide +kernel) (by decide +kernel), mem_good 10 (by decide +kernel) (by decide +kernel)⟩
theorem lkV_X3_198 : Cond.methodLink RX3 198 yX0_holderOf ∈ goodTbl ∧ Cond.instanceMethod yX0_holderOf ∈ goodTbl ∧ Cond.selects yX0_holderOf.cls yX0_holderOf yX0_holderOf ∈ goodTbl := ⟨mem_good 550 (by decide +kernel) (by decide +kernel), mem_good 551 (by decide +kernel) (by decide +kernel), mem_good 552 (by decide +kernel) (by decide +kernel)⟩
theorem lkV_X3_207 : Cond.methodLink RX3 207 yX3_readableFromStart ∈ goodTbl ∧ Cond.instanceMethod yX3_readableFromStart ∈ goodTbl ∧ Cond.selects yX3_readableFromStart.cls yX3_readableFromStart yX3_readableFromStart ∈ goodTbl := ⟨mem_good 562 (by decide +kernel) (by decide +kernel), mem_good 564 (by decide +kernel) (by decide +kernel), mem_good 12 (by decide +kernel) (by decide +kernel)⟩
theorem lkV_X3_210 : Cond.methodLink RX3 210 yX3_blockAt ∈ goodTbl ∧ Cond.instanceMethod yX3_blockAt ∈ goodTbl ∧ Cond.selects yX3_blockAt.cls yX3_blockAt yX3_blockAt ∈ goodTbl := ⟨mem_good 566 (by decide +kernel) (by decide +kernel), mem_good 547 (by decide +kernel) (by decide +kernel), mem_good 548 (by decide +kernel) (by decide +kernel)⟩
theorem lkN_X4_46 : ((RX4, 46, yX5_copy) : String × Nat × MethodName) ∈ nestL ∧ Cond.static yX5_copy ∈ goodTbl := ⟨List.mem_of_getElem? (i := 7) rfl, mem_good 274 (by decide +kernel) (by decide +kernel)⟩
theorem lkI_X5_11 : Cond.methodLink RX5 11 yX3_init ∈ goodTbl ∧ yX3_init.name = "<init>" ∧ Cond.instanceMethod yX3_init ∈ goodTbl := ⟨mem_good 61 (by decide +kernel) (by decide +kernel), rfl, mem_good 62 (by decide +kernel) (by decide +kernel)⟩
theorem lkI_X5_28 : Cond.methodLink RX5 28 yX1_init ∈ goodTbl ∧ yX1_init.name = "<init>" ∧ Cond.instanceMethod yX1_init ∈ goodTbl := ⟨mem_good 201 (by decide +kernel) (by decide +kernel), rfl, mem_good 202 (by decide +kernel) (by decide +kernel)⟩
theorem lkIN_X5_35 : ((RX5, 35, yX2_init) : String × Nat × MethodName) ∈ nestL ∧ yX2_init.name = "<init>" ∧ Cond.instanceMethod yX2_init ∈ goodTbl := ⟨List.mem_of_getElem? (i := 8) rfl, rfl, mem_good 222 (by decide +kernel) (by decide +kernel)⟩
theorem lkV_X5_40 : Cond.methodLink RX5 40 yX1_draft ∈ goodTbl ∧ Cond.instanceMethod yX1_draft ∈ goodTbl ∧ Cond.selects yX1_draft.cls yX1_draft yX1_draft ∈ goodTbl := ⟨mem_good 257 (by decide +kernel) (by decide +kernel), mem_good 258 (by decide +kernel) (by decide +kernel), mem_good 259 (by decide +kernel) (by decide +kernel)⟩
theorem lkV_X5_44 : Cond.methodLink RX5 44 yX3_changeNumber ∈ goodTbl ∧ Cond.instanceMethod yX3_changeNumber ∈ goodTbl ∧ Cond.selects yX3_changeNumber.cls yX3_changeNumber yX3_changeNumber ∈ goodTbl := ⟨mem_good 285 (by decide +kernel) (by decide +kernel), mem_good 286 (by decide +kernel) (by decide +kernel), mem_good 287 (by decide +kernel) (by decide +kernel)⟩
theorem lkV_X5_48 : Cond.methodLink RX5 48 yX1_settle ∈ goodTbl ∧ Cond.instanceMethod yX1_settle ∈ goodTbl ∧ Cond.selects yX1_settle.cls yX1_settle yX1_settle ∈ goodTbl := ⟨mem_good 316 (by decide +kernel) (by decide +kernel), mem_good 317 (by decide +kernel) (by decide +kernel), mem_good 318 (by decide +kernel) (by decide +kernel)⟩
theorem lkV_X5_52 : Cond.methodLink RX5 52 yX3_changeDelay ∈ goodTbl ∧ Cond.instanceMethod yX3_changeDelay ∈ goodTbl ∧ Cond.selects yX3_changeDelay.cls yX3_changeDelay yX3_changeDelay ∈ goodTbl := ⟨mem_good 324 (by decide +kernel) (by decide +kernel), mem_good 325 (by decide +kernel) (by decide +kernel), mem_good 326 (by decide +kernel) (by decide +kernel)⟩
theorem lkV_X5_55 : Cond.methodLink RX5 55 yX3_changeCapacity ∈ goodTbl ∧ Cond.instanceMethod yX3_changeCapacity ∈ goodTbl ∧ Cond.selects yX3_changeCapacity.cls yX3_changeCapacity yX3_changeCapacity ∈ goodTbl := ⟨mem_good 331 (by decide +kernel) (by decide +kernel), mem_good 332 (by decide +kernel) (by decide +kernel), mem_good 333 (by decide +kernel) (by decide +kernel)⟩
theorem lkV_X5_58 : Cond.methodLink RX5 58 yX3_changeWindow ∈ goodTbl ∧ Cond.instanceMethod yX3_changeWindow ∈ goodTbl ∧ Cond.selects yX3_changeWindow.cls yX3_changeWindow yX3_changeWindow ∈ goodTbl := ⟨mem_good 339 (by decide +kernel) (by decide +kernel), mem_good 340 (by decide +kernel) (by decide +kernel), mem_good 341 (by decide +kernel) (by decide +kernel)⟩
theorem lkV_X5_61 : Cond.methodLink RX5 61 yX3_send ∈ goodTbl ∧ Cond.instanceMethod yX3_send ∈ goodTbl ∧ Cond.selects yX3_send.cls yX3_send yX3_send ∈ goodTbl := ⟨mem_good 350 (by decide +kernel) (by decide +kernel), mem_good 351 (by decide +kernel) (by decide +kernel), mem_good 352 (by decide +kernel) (by decide +kernel)⟩
theorem lkV_X5_65 : Cond.methodLink RX5 65 yX3_wipe ∈ goodTbl ∧ Cond.instanceMethod yX3_wipe ∈ goodTbl ∧ Cond.selects yX3_wipe.cls yX3_wipe yX3_wipe ∈ goodTbl := ⟨mem_good 366 (by decide +kernel) (by decide +kernel), mem_good 367 (by decide +kernel) (by decide +kernel), mem_good 368 (by decide +kernel) (by decide +kernel)⟩
theorem lkV_X5_68 : Cond.methodLink RX5 68 yX3_fill ∈ goodTbl ∧ Cond.instanceMethod yX3_fill ∈ goodTbl ∧ Cond.selects yX3_fill.cls yX3_fill yX3_fill ∈ goodTbl := ⟨mem_good 398 (by decide +kernel) (by decide +kernel), mem_good 399 (by decide +kernel) (by decide +kernel), mem_good 400 (by decide +kernel) (by decide +kernel)⟩
theorem lkV_X5_71 : Cond.methodLink RX5 71 yX3_shut ∈ goodTbl ∧ Cond.instanceMethod yX3_shut ∈ goodTbl ∧ Cond.selects yX3_shut.cls yX3_shut yX3_shut ∈ goodTbl := ⟨mem_good 406 (by decide +kernel) (by decide +kernel), mem_good 407 (by decide +kernel) (by decide +kernel), mem_good 408 (by decide +kernel) (by decide +kernel)⟩
theorem lkV_X5_74 : Cond.methodLink RX5 74 yX3_letPass ∈ goodTbl ∧ Cond.instanceMethod yX3_letPass ∈ goodTbl ∧ Cond.selects yX3_letPass.cls yX3_letPass yX3_letPass ∈ goodTbl := ⟨mem_good 418 (by decide +kernel) (by decide +kernel), mem_good 419 (by decide +kernel) (by decide +kernel), mem_good 420 (by decide +kernel) (by decide +kernel)⟩
theorem lkV_X5_77 : Cond.methodLink RX5 77 yX2_fault ∈ goodTbl ∧ Cond.instanceMethod yX2_fault ∈ goodTbl ∧ Cond.selects yX2_fault.cls yX2_fault yX2_fault ∈ goodTbl := ⟨mem_good 472 (by decide +kernel) (by decide +kernel), mem_good 473 (by decide +kernel) (by decide +kernel), mem_good 474 (by decide +kernel) (by decide +kernel)⟩
theorem lkV_X5_85 : Cond.methodLink RX5 85 yX5_doOrder ∈ goodTbl ∧ Cond.instanceMethod yX5_doOrder ∈ goodTbl ∧ Cond.selects yX5_doOrder.cls yX5_doOrder yX5_doOrder ∈ goodTbl := ⟨mem_good 483 (by decide +kernel) (by decide +kernel), mem_good 485 (by decide +kernel) (by decide +kernel), mem_good 11 (by decide +kernel) (by decide +kernel)⟩
theorem lkV_X5_88 : Cond.methodLink RX5 88 yX1_takeDraftBack ∈ goodTbl ∧ Cond.instanceMethod yX1_takeDraftBack ∈ goodTbl ∧ Cond.selects yX1_takeDraftBack.cls yX1_takeDraftBack yX1_takeDraftBack ∈ goodTbl := ⟨mem_good 501 (by decide +kernel) (by decide +kernel), mem_good 502 (by decide +kernel) (by decide +kernel), mem_good 503 (by decide +kernel) (by decide +kernel)⟩
theorem lkV_X5_91 : Cond.methodLink RX5 91 yX2_behindOrder ∈ goodTbl ∧ Cond.instanceMethod yX2_behindOrder ∈ goodTbl ∧ Cond.selects yX2_behindOrder.cls yX2_behindOrder yX2_behindOrder ∈ goodTbl := ⟨mem_good 505 (by decide +kernel) (by decide +kernel), mem_good 506 (by decide +kernel) (by decide +kernel), mem_good 507 (by decide +kernel) (by decide +kernel)⟩
theorem lkV_X5_94 : Cond.methodLink RX5 94 yX2_add ∈ goodTbl ∧ Cond.instanceMethod yX2_add ∈ goodTbl ∧ Cond.selects yX2_add.cls yX2_add yX2_add ∈ goodTbl := ⟨mem_good 513 (by decide +kernel) (by decide +kernel), mem_good 514 (by decide +kernel) (by decide +kernel), mem_good 515 (by decide +kernel) (by decide +kernel)⟩
theorem lkV_X5_98 : Cond.methodLink RX5 98 yX2_empty ∈ goodTbl ∧ Cond.instanceMethod yX2_empty ∈ goodTbl ∧ Cond.selects yX2_empty.cls yX2_empty yX2_empty ∈ goodTbl := ⟨mem_good 521 (by decide +kernel) (by decide +kernel), mem_good 522 (by decide +kernel) (by decide +kernel), mem_good 523 (by decide +kernel) (by decide +kernel)⟩
theorem lkV_X5_101 : Cond.methodLink RX5 101 yX1_stepBack ∈ goodTbl ∧ Cond.instanceMethod yX1_stepBack ∈ goodTbl ∧ Cond.selects yX1_stepBack.cls yX1_stepBack yX1_stepBack ∈ goodTbl := ⟨mem_good 529 (by decide +kernel) (by decide +kernel), mem_good 530 (by decide +kernel) (by decide +kernel), mem_good 531 (by decide +kernel) (by decide +kernel)⟩
theorem lkV_X5_105 : Cond.methodLink RX5 105 yX3_copyFrom ∈ goodTbl ∧ Cond.instanceMethod yX3_copyFrom ∈ goodTbl ∧ Cond.selects yX3_copyFrom.cls yX3_copyFrom yX3_copyFrom ∈ goodTbl := ⟨mem_good 537 (by decide +kernel) (by decide +kernel), mem_good 266 (by decide +kernel) (by decide +kernel), mem_good 267 (by decide +kernel) (by decide +kernel)⟩
theorem lkV_X5_111 : Cond.methodLink RX5 111 yX3_blockAt ∈ goodTbl ∧ Cond.instanceMethod yX3_blockAt ∈ goodTbl ∧ Cond.selects yX3_blockAt.cls yX3_blockAt yX3_blockAt ∈ goodTbl := ⟨mem_good 546 (by decide +kernel) (by decide +kernel), mem_good 547 (by decide +kernel) (by decide +kernel), mem_good 548 (by decide +kernel) (by decide +kernel)⟩
theorem lkV_X5_114 : Cond.methodLink RX5 114 yX3_tellZone ∈ goodTbl ∧ Cond.instanceMethod yX3_tellZone ∈ goodTbl ∧ Cond.selects yX3_tellZone.cls yX3_tellZone yX3_tellZone ∈ goodTbl := ⟨mem_good 558 (by decide +kernel) (by decide +kernel), mem_good 559 (by decide +kernel) (by decide +kernel), mem_good 560 (by decide +kernel) (by decide +kernel)⟩
theorem lkV_X5_121 : Cond.methodLink RX5 121 yX0_tellAppend ∈ goodTbl ∧ Cond.instanceMethod yX0_tellAppend ∈ goodTbl ∧ Cond.selects yX0_tellAppend.cls yX0_tellAppend yX0_tellAppend ∈ goodTbl := ⟨mem_good 571 (by decide +kernel) (by decide +kernel), mem_good 572 (by decide +kernel) (by decide +kernel), mem_good 573 (by decide +kernel) (by decide +kernel)⟩
theorem lkV_X5_126 : Cond.methodLink RX5 126 yX3_tellWriter ∈ goodTbl ∧ Cond.instanceMethod yX3_tellWriter ∈ goodTbl ∧ Cond.selects yX3_tellWriter.cls yX3_tellWriter yX3_tellWriter ∈ goodTbl := ⟨mem_good 583 (by decide +kernel) (by decide +kernel), mem_good 584 (by decide +kernel) (by decide +kernel), mem_good 585 (by decide +kernel) (by decide +kernel)⟩
theorem lkV_X5_129 : Cond.methodLink RX5 129 yX0_toldAt ∈ goodTbl ∧ Cond.instanceMethod yX0_toldAt ∈ goodTbl ∧ Cond.selects yX0_toldAt.cls yX0_toldAt yX0_toldAt ∈ goodTbl := ⟨mem_good 591 (by decide +kernel) (by decide +kernel), mem_good 592 (by decide +kernel) (by decide +kernel), mem_good 593 (by decide +kernel) (by decide +kernel)⟩
theorem lkV_X5_132 : Cond.methodLink RX5 132 yX0_isNumber ∈ goodTbl ∧ Cond.instanceMethod yX0_isNumber ∈ goodTbl ∧ Cond.selects yX0_isNumber.cls yX0_isNumber yX0_isNumber ∈ goodTbl := ⟨mem_good 599 (by decide +kernel) (by decide +kernel), mem_good 576 (by decide +kernel) (by decide +kernel), mem_good 577 (by decide +kernel) (by decide +kernel)⟩
theorem lkV_X5_136 : Cond.methodLink RX5 136 yX0_isLive ∈ goodTbl ∧ Cond.instanceMethod yX0_isLive ∈ goodTbl ∧ Cond.selects yX0_isLive.cls yX0_isLive yX0_isLive ∈ goodTbl := ⟨mem_good 600 (by decide +kernel) (by decide +kernel), mem_good 387 (by decide +kernel) (by decide +kernel), mem_good 388 (by decide +kernel) (by decide +kernel)⟩
theorem lkV_X5_139 : Cond.methodLink RX5 139 yX3_ticksUntilTold ∈ goodTbl ∧ Cond.instanceMethod yX3_ticksUntilTold ∈ goodTbl ∧ Cond.selects yX3_ticksUntilTold.cls yX3_ticksUntilTold yX3_ticksUntilTold ∈ goodTbl := ⟨mem_good 601 (by decide +kernel) (by decide +kernel), mem_good 602 (by decide +kernel) (by decide +kernel), mem_good 603 (by decide +kernel) (by decide +kernel)⟩
theorem lkS_X5_142 : Cond.methodLink RX5 142 yX5_isZone ∈ goodTbl ∧ Cond.static yX5_isZone ∈ goodTbl := ⟨mem_good 609 (by decide +kernel) (by decide +kernel), mem_good 329 (by decide +kernel) (by decide +kernel)⟩
theorem lkV_X5_145 : Cond.methodLink RX5 145 yX0_add ∈ goodTbl ∧ Cond.instanceMethod yX0_add ∈ goodTbl ∧ Cond.selects yX0_add.cls yX0_add yX0_add ∈ goodTbl := ⟨mem_good 610 (by decide +kernel) (by decide +kernel), mem_good 359 (by decide +kernel) (by decide +kernel), mem_good 360 (by decide +kernel) (by decide +kernel)⟩
theorem lkV_X5_154 : Cond.methodLink RX5 154 yX3_tellNumber ∈ goodTbl ∧ Cond.instanceMethod yX3_tellNumber ∈ goodTbl ∧ Cond.selects yX3_tellNumber.cls yX3_tellNumber yX3_tellNumber ∈ goodTbl := ⟨mem_good 615 (by decide +kernel) (by decide +kernel), mem_good 616 (by decide +kernel) (by decide +kernel), mem_good 617 (by decide +kernel) (by decide +kernel)⟩
theorem lkV_X5_157 : Cond.methodLink RX5 157 yX2_sign ∈ goodTbl ∧ Cond.instanceMethod yX2_sign ∈ goodTbl ∧ Cond.selects yX2_sign.cls yX2_sign yX2_sign ∈ goodTbl := ⟨mem_good 487 (by decide +kernel) (by decide +kernel), mem_good 488 (by decide +kernel) (by decide +kernel), mem_good 489 (by decide +kernel) (by decide +kernel)⟩
theorem lkV_X5_161 : Cond.methodLink RX5 161 yX2_digit ∈ goodTbl ∧ Cond.instanceMethod yX2_digit ∈ goodTbl ∧ Cond.selects yX2_digit.cls yX2_digit yX2_digit ∈ goodTbl := ⟨mem_good 491 (by decide +kernel) (by decide +kernel), mem_good 492 (by decide +kernel) (by decide +kernel), mem_good 493 (by decide +kernel) (by decide +kernel)⟩
theorem lkV_X5_164 : Cond.methodLink RX5 164 yX2_valueFrom ∈ goodTbl ∧ Cond.instanceMethod yX2_valueFrom ∈ goodTbl ∧ Cond.selects yX2_valueFrom.cls yX2_valueFrom yX2_valueFrom ∈ goodTbl := ⟨mem_good 496 (by decide +kernel) (by decide +kernel), mem_good 497 (by decide +kernel) (by decide +kernel), mem_good 498 (by decide +kernel) (by decide +kernel)⟩
theorem lkS_X6_32 : Cond.methodLink RX6 32 yX6_of ∈ goodTbl ∧ Cond.static yX6_of ∈ goodTbl := ⟨mem_good 625 (by decide +kernel) (by decide +kernel), mem_good 626 (by decide +kernel) (by decide +kernel)⟩
theorem lkV_X6_36 : Cond.methodLink RX6 36 yX6_sweep ∈ goodTbl ∧ Cond.instanceMethod yX6_sweep ∈ goodTbl ∧ Cond.selects yX6_sweep.cls yX6_sweep yX6_sweep ∈ goodTbl := ⟨mem_good 628 (by decide +kernel) (by decide +kernel), mem_good 630 (by decide +kernel) (by decide +kernel), mem_good 13 (by decide +kernel) (by decide +kernel)⟩
theorem lkS_X6_40 : Cond.methodLink RX6 40 yX6_ofWriter ∈ goodTbl ∧ Cond.static yX6_ofWriter ∈ goodTbl := ⟨mem_good 632 (by decide +kernel) (by decide +kernel), mem_good 633 (by decide +kernel) (by decide +kernel)⟩
theorem lkS_X6_43 : Cond.methodLink RX6 43 yX6_in ∈ goodTbl ∧ Cond.static yX6_in ∈ goodTbl := ⟨mem_good 686 (by decide +kernel) (by decide +kernel), mem_good 687 (by decide +kernel) (by decide +kernel)⟩
theorem lkV_X6_51 : Cond.methodLink RX6 51 yX6_know ∈ goodTbl ∧ Cond.instanceMethod yX6_know ∈ goodTbl ∧ Cond.selects yX6_know.cls yX6_know yX6_know ∈ goodTbl := ⟨mem_good 697 (by decide +kernel) (by decide +kernel), mem_good 699 (by decide +kernel) (by decide +kernel), mem_good 16 (by decide +kernel) (by decide +kernel)⟩
theorem lkS_X6_54 : Cond.methodLink RX6 54 yX6_ofAppend ∈ goodTbl ∧ Cond.static yX6_ofAppend ∈ goodTbl := ⟨mem_good 727 (by decide +kernel) (by decide +kernel), mem_good 728 (by decide +kernel) (by decide +kernel)⟩
theorem lkV_X6_57 : Cond.methodLink RX6 57 yX6_zones ∈ goodTbl ∧ Cond.instanceMethod yX6_zones ∈ goodTbl ∧ Cond.selects yX6_zones.cls yX6_zones yX6_zones ∈ goodTbl := ⟨mem_good 689 (by decide +kernel) (by decide +kernel), mem_good 691 (by decide +kernel) (by decide +kernel), mem_good 14 (by decide +kernel) (by decide +kernel)⟩
theorem lkV_X6_61 : Cond.methodLink RX6 61 yX6_change ∈ goodTbl ∧ Cond.instanceMethod yX6_change ∈ goodTbl ∧ Cond.selects yX6_change.cls yX6_change yX6_change ∈ goodTbl := ⟨mem_good 693 (by decide +kernel) (by decide +kernel), mem_good 695 (by decide +kernel) (by decide +kernel), mem_good 15 (by decide +kernel) (by decide +kernel)⟩
theorem lkS_X6_64 : Cond.methodLink RX6 64 yX6_isZone ∈ goodTbl ∧ Cond.static yX6_isZone ∈ goodTbl := ⟨mem_good 705 (by decide +kernel) (by decide +kernel), mem_good 706 (by decide +kernel) (by decide +kernel)⟩
theorem lkS_X6_68 : Cond.methodLink RX6 68 yX6_isWriter ∈ goodTbl ∧ Cond.static yX6_isWriter ∈ goodTbl := ⟨mem_good 712 (by decide +kernel) (by decide +kernel), mem_good 713 (by decide +kernel) (by decide +kernel)⟩
theorem lkV_X6_71 : Cond.methodLink RX6 71 yX6_appendsOf ∈ goodTbl ∧ Cond.instanceMethod yX6_appendsOf ∈ goodTbl ∧ Cond.selects yX6_appendsOf.cls yX6_appendsOf yX6_appendsOf ∈ goodTbl := ⟨mem_good 723 (by decide +kernel) (by decide +kernel), mem_good 725 (by decide +kernel) (by decide +kernel), mem_good 18 (by decide +kernel) (by decide +kernel)⟩
theorem lkV_X6_74 : Cond.methodLink RX6 74 yX6_isRoom ∈ goodTbl ∧ Cond.instanceMethod yX6_isRoom ∈ goodTbl ∧ Cond.selects yX6_isRoom.cls yX6_isRoom yX6_isRoom ∈ goodTbl := ⟨mem_good 719 (by decide +kernel) (by decide +kernel), mem_good 721 (by decide +kernel) (by decide +kernel), mem_good 17 (by decide +kernel) (by decide +kernel)⟩
theorem lkV_X6_77 : Cond.methodLink RX6 77 yX6_send ∈ goodTbl ∧ Cond.instanceMethod yX6_send ∈ goodTbl ∧ Cond.selects yX6_send.cls yX6_send yX6_send ∈ goodTbl := ⟨mem_good 730 (by decide +kernel) (by decide +kernel), mem_good 732 (by decide +kernel) (by decide +kernel), mem_good 19 (by decide +kernel) (by decide +kernel)⟩
theorem lkV_X6_81 : Cond.methodLink RX6 81 yX6_fail ∈ goodTbl ∧ Cond.instanceMethod yX6_fail ∈ goodTbl ∧ Cond.selects yX6_fail.cls yX6_fail yX6_fail ∈ goodTbl := ⟨mem_good 750 (by decide +kernel) (by decide +kernel), mem_good 752 (by decide +kernel) (by decide +kernel), mem_good 23 (by decide +kernel) (by decide +kernel)⟩
theorem lkV_X6_85 : Cond.methodLink RX6 85 yX6_readable ∈ goodTbl ∧ Cond.instanceMethod yX6_readable ∈ goodTbl ∧ Cond.selects yX6_readable.cls yX6_readable yX6_readable ∈ goodTbl := ⟨mem_good 742 (by decide +kernel) (by decide +kernel), mem_good 744 (by decide +kernel) (by decide +kernel), mem_good 21 (by decide +kernel) (by decide +kernel)⟩
theorem lkV_X6_89 : Cond.methodLink RX6 89 yX6_failAll ∈ goodTbl ∧ Cond.instanceMethod yX6_failAll ∈ goodTbl ∧ Cond.selects yX6_failAll.cls yX6_failAll yX6_failAll ∈ goodTbl := ⟨mem_good 746 (by decide +kernel) (by decide +kernel), mem_good 748 (by decide +kernel) (by decide +kernel), mem_good 22 (by decide +kernel) (by decide +kernel)⟩
theorem lkV_X6_92 : Cond.methodLink RX6 92 yX6_resets ∈ goodTbl ∧ Cond.instanceMethod yX6_resets ∈ goodTbl ∧ Cond.selects yX6_resets.cls yX6_resets yX6_resets ∈ goodTbl := ⟨mem_good 738 (by decide +kernel) (by decide +kernel), mem_good 740 (by decide +kernel) (by decide +kernel), mem_good 20 (by decide +kernel) (by decide +kernel)⟩
theorem lkV_X6_95 : Cond.methodLink RX6 95 yX6_finishFault ∈ goodTbl ∧ Cond.instanceMethod yX6_finishFault ∈ goodTbl ∧ Cond.selects yX6_finishFault.cls yX6_finishFault yX6_finishFault ∈ goodTbl := ⟨mem_good 758 (by decide +kernel) (by decide +kernel), mem_good 760 (by decide +kernel) (by decide +kernel), mem_good 24 (by decide +kernel) (by decide +kernel)⟩
theorem lkV_X6_98 : Cond.methodLink RX6 98 yX6_finishes ∈ goodTbl ∧ Cond.instanceMethod yX6_finishes ∈ goodTbl ∧ Cond.selects yX6_finishes.cls yX6_finishes yX6_finishes ∈ goodTbl := ⟨mem_good 762 (by decide +kernel) (by decide +kernel), mem_good 764 (by decide +kernel) (by decide +kernel), mem_good 25 (by decide +kernel) (by decide +kernel)⟩
theorem lkV_X6_101 : Cond.methodLink RX6 101 yX6_appends ∈ goodTbl ∧ Cond.instanceMethod yX6_appends ∈ goodTbl ∧ Cond.selects yX6_appends.cls yX6_appends yX6_appends ∈ goodTbl := ⟨mem_good 770 (by decide +kernel) (by decide +kernel), mem_good 772 (by decide +kernel) (by decide +kernel), mem_good 26 (by decide +kernel) (by decide +kernel)⟩
theorem lkV_X6_104 : Cond.methodLink RX6 104 yX6_idlest ∈ goodTbl ∧ Cond.instanceMethod yX6_idlest ∈ goodTbl ∧ Cond.selects yX6_idlest.cls yX6_idlest yX6_idlest ∈ goodTbl := ⟨mem_good 802 (by decide +kernel) (by decide +kernel), mem_good 804 (by decide +kernel) (by decide +kernel), mem_good 33 (by decide +kernel) (by decide +kernel)⟩
theorem lkV_X6_108 : Cond.methodLink RX6 108 yX6_opens ∈ goodTbl ∧ Cond.instanceMethod yX6_opens ∈ goodTbl ∧ Cond.selects yX6_opens.cls yX6_opens yX6_opens ∈ goodTbl := ⟨mem_good 798 (by decide +kernel) (by decide +kernel), mem_good 800 (by decide +kernel) (by decide +kernel), mem_good 32 (by decide +kernel) (by decide +kernel)⟩
theorem lkV_X6_111 : Cond.methodLink RX6 111 yX6_lookAt ∈ goodTbl ∧ Cond.instanceMethod yX6_lookAt ∈ goodTbl ∧ Cond.selects yX6_lookAt.cls yX6_lookAt yX6_lookAt ∈ goodTbl := ⟨mem_good 794 (by decide +kernel) (by decide +kernel), mem_good 796 (by decide +kernel) (by decide +kernel), mem_good 31 (by decide +kernel) (by decide +kernel)⟩
theorem lkV_X6_121 : Cond.methodLink RX6 121 yX6_tell ∈ goodTbl ∧ Cond.instanceMethod yX6_tell ∈ goodTbl ∧ Cond.selects yX6_tell.cls yX6_tell yX6_tell ∈ goodTbl := ⟨mem_good 786 (by decide +kernel) (by decide +kernel), mem_good 788 (by decide +kernel) (by decide +kernel), mem_good 29 (by decide +kernel) (by decide +kernel)⟩
theorem lkV_X6_124 : Cond.methodLink RX6 124 yX6_lookAtAll ∈ goodTbl ∧ Cond.instanceMethod yX6_lookAtAll ∈ goodTbl ∧ Cond.selects yX6_lookAtAll.cls yX6_lookAtAll yX6_lookAtAll ∈ goodTbl := ⟨mem_good 790 (by decide +kernel) (by decide +kernel), mem_good 792 (by decide +kernel) (by decide +kernel), mem_good 30 (by decide +kernel) (by decide +kernel)⟩
theorem lkV_X6_127 : Cond.methodLink RX6 127 yX6_tick ∈ goodTbl ∧ Cond.instanceMethod yX6_tick ∈ goodTbl ∧ Cond.selects yX6_tick.cls yX6_tick yX6_tick ∈ goodTbl := ⟨mem_good 782 (by decide +kernel) (by decide +kernel), mem_good 784 (by decide +kernel) (by decide +kernel), mem_good 28 (by decide +kernel) (by decide +kernel)⟩
theorem lkV_X6_130 : Cond.methodLink RX6 130 yX6_goBy ∈ goodTbl ∧ Cond.instanceMethod yX6_goBy ∈ goodTbl ∧ Cond.selects yX6_goBy.cls yX6_goBy yX6_goBy ∈ goodTbl := ⟨mem_good 778 (by decide +kernel) (by decide +kernel), mem_good 780 (by decide +kernel) (by decide +kernel), mem_good 27 (by decide +kernel) (by decide +kernel)⟩
theorem lkV_X6_142 : Cond.methodLink RX6 142 yX6_sign ∈ goodTbl ∧ Cond.instanceMethod yX6_sign ∈ goodTbl ∧ Cond.selects yX6_sign.cls yX6_sign yX6_sign ∈ goodTbl := ⟨mem_good 818 (by decide +kernel) (by decide +kernel), mem_good 820 (by decide +kernel) (by decide +kernel), mem_good 36 (by decide +kernel) (by decide +kernel)⟩
theorem lkV_X6_148 : Cond.methodLink RX6 148 yX6_order ∈ goodTbl ∧ Cond.instanceMethod yX6_order ∈ goodTbl ∧ Cond.selects yX6_order.cls yX6_order yX6_order ∈ goodTbl := ⟨mem_good 814 (by decide +kernel) (by decide +kernel), mem_good 816 (by decide +kernel) (by decide +kernel), mem_good 35 (by decide +kernel) (by decide +kernel)⟩
theorem lkV_X6_151 : Cond.methodLink RX6 151 yX6_does ∈ goodTbl ∧ Cond.instanceMethod yX6_does ∈ goodTbl ∧ Cond.selects yX6_does.cls yX6_does yX6_does ∈ goodTbl := ⟨mem_good 822 (by decide +kernel) (by decide +kernel), mem_good 824 (by decide +kernel) (by decide +kernel), mem_good 37 (by decide +kernel) (by decide +kernel)⟩
theorem lkV_X6_154 : Cond.methodLink RX6 154 yX6_go ∈ goodTbl ∧ Cond.instanceMethod yX6_go ∈ goodTbl ∧ Cond.selects yX6_go.cls yX6_go yX6_go ∈ goodTbl := ⟨mem_good 810 (by decide +kernel) (by decide +kernel), mem_good 812 (by decide +kernel) (by decide +kernel), mem_good 34 (by decide +kernel) (by decide +kernel)⟩
theorem lkV_X6_157 : Cond.methodLink RX6 157 yX6_putAside ∈ goodTbl ∧ Cond.instanceMethod yX6_putAside ∈ goodTbl ∧ Cond.selects yX6_putAside.cls yX6_putAside yX6_putAside ∈ goodTbl := ⟨mem_good 826 (by decide +kernel) (by decide +kernel), mem_good 828 (by decide +kernel) (by decide +kernel), mem_good 38 (by decide +kernel) (by decide +kernel)⟩
theorem lkV_X6_160 : Cond.methodLink RX6 160 yX6_putBack ∈ goodTbl ∧ Cond.instanceMethod yX6_putBack ∈ goodTbl ∧ Cond.selects yX6_putBack.cls yX6_putBack yX6_putBack ∈ goodTbl := ⟨mem_good 830 (by decide +kernel) (by decide +kernel), mem_good 832 (by decide +kernel) (by decide +kernel), mem_good 39 (by decide +kernel) (by decide +kernel)⟩
theorem lkV_X6_166 : Cond.methodLink RX6 166 yX6_isAppend ∈ goodTbl ∧ Cond.instanceMethod yX6_isAppend ∈ goodTbl ∧ Cond.selects yX6_isAppend.cls yX6_isAppend yX6_isAppend ∈ goodTbl := ⟨mem_good 866 (by decide +kernel) (by decide +kernel), mem_good 868 (by decide +kernel) (by decide +kernel), mem_good 40 (by decide +kernel) (by decide +kernel)⟩
theorem lkV_X6_169 : Cond.methodLink RX6 169 yX6_ticksOf ∈ goodTbl ∧ Cond.instanceMethod yX6_ticksOf ∈ goodTbl ∧ Cond.selects yX6_ticksOf.cls yX6_ticksOf yX6_ticksOf ∈ goodTbl := ⟨mem_good 882 (by decide +kernel) (by decide +kernel), mem_good 884 (by decide +kernel) (by decide +kernel), mem_good 41 (by decide +kernel) (by decide +kernel)⟩
end
